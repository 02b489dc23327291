/-! THE REFERENCE: what callers call, the last -/
set_option maxHeartbeats 4000000 in
set_option maxRecDepth 100000 in
theorem mX5_holes (l : Launch) {D : va_G} {k : Nat → ClassId} {b : Nat} {ad : Tg → Nat} {g : XS} {M : MF} {o : OF} (hR : RI M) : Met l yX5_holes (WS yX5_holes cX5_holes 5 (some .int)) ({ frames := 2, cells := 0, slots := 0, locals := 45 }) (P0 D k b (Wo D k b ad g M o) [.ref (ad (7, 0, 0))]) (Qw b (some (.int (rhlI (rT M) 100))) (Wo D k b ad g (rT M) o)) 0 0 (Fb b) := by
  refine Met0 (by decide +kernel) (Nat.le_of_ble_eq_true rfl) (fun p e s m below meth c ls hx hb hr hts hown hml hlocks hnm hC hH hl => ?_)
  have hS : va_S (Fb b) s.heap s.heap [] := va_S.rf
  have hl : lv_has ls 5 [(0, .ref (ad (7, 0, 0)))] := hl
  have h8 := hR.1
  have h12 := hR.2.2.1
  refine lv_aload_n hx hb dX5_holes_0 rfl (lv_at hl 0 rfl) ?_
  refine lv_iconst (v := 0) hx hb dX5_holes_1 (by decide) ?_
  refine p5 hx hb hts hown hC hH hS 26 (by decide) (by decide) rfl wf_X5_77 rfl rfl dX5_holes_2 (fun H locs (hH : Wo D k b ad g (up M 26 0 0) o H) hS => ?_)
  refine lv_iconst (v := 0) hx hb dX5_holes_5 (by decide) ?_
  refine lv_istore_n (lv' := [(1, .int 0), (0, .ref (ad (7, 0, 0)))]) hx hb dX5_holes_6 rfl hl (by decide) rfl (fun ls hl => ?_)
  refine lv_iconst (v := nI 0) hx hb dX5_holes_7 (by decide) ?_
  refine lv_istore_n (lv' := [(2, .int (nI 0)), (1, .int 0), (0, .ref (ad (7, 0, 0)))]) hx hb dX5_holes_8 rfl hl (by decide) rfl (fun ls hl => ?_)
  refine loop_r 100 (fun i ls => lv_has ls 5 [(0, .ref (ad (7, 0, 0))), (1, .int (rhlI (rT M) i)), (2, .int (nI i))]) (fun i hi ls hJ0 ih => ?_) (fun ls hJ0 => ?_) (lv_sub hl [2, 1, 0] rfl)
  · skip
    have hl := hJ0
    refine lv_iload_n hx hb dX5_holes_9 rfl (lv_at hl 2 rfl) ?_
    refine lv_bipush (v := 100) hx hb dX5_holes_10 (by decide) ?_
    refine lv_icmp_ge (tgt := 82) hx hb dX5_holes_12 (by decide) (fun c12 => absurd c12 (nI_ge hi (by decide))) (fun c12 => ?_)
    refine lv_iconst (v := 0) hx hb dX5_holes_15 (by decide) ?_
    refine lv_istore_n (lv' := [(3, .int 0), (0, .ref (ad (7, 0, 0))), (1, .int (rhlI (rT M) i)), (2, .int (nI i))]) hx hb dX5_holes_16 rfl hl (by decide) rfl (fun ls hl => ?_)
    refine lv_iconst (v := nI 0) hx hb dX5_holes_17 (by decide) ?_
    refine lv_istore (lv' := [(4, .int (nI 0)), (3, .int 0), (0, .ref (ad (7, 0, 0))), (1, .int (rhlI (rT M) i)), (2, .int (nI i))]) hx hb dX5_holes_18 hl (by decide) rfl (fun ls hl => ?_)
    refine loop_r (mN M) (fun j ls => lv_has ls 5 [(0, .ref (ad (7, 0, 0))), (1, .int (rhlI (rT M) i)), (2, .int (nI i)), (3, .int (b2 (rcvA (rT M) (nI i) j))), (4, .int (nI j))]) (fun j hj ls hJ0 ihj => ?_) (fun ls hJ0 => ?_) (lv_sub hl [2, 3, 4, 1, 0] rfl)
    · skip
      have hl := hJ0
      refine lv_iload hx hb dX5_holes_20 (lv_at hl 4 rfl) ?_
      refine lv_aload_n hx hb dX5_holes_22 rfl (lv_at hl 0 rfl) ?_
      refine g5 hx hb hts hown hC hH 2 (by decide) wf_X5_81 (v := .int ((rT M) 2 0)) rfl dX5_holes_23 ?_
      refine W.eq (g2 := F0 m 26 ls [.int (nI (mN M)), .int (nI j)]) (by rw [show (rT M) 2 0 = _ from hR.2.1]) ?_
      refine lv_icmp_ge (tgt := 64) hx hb dX5_holes_26 (by decide) (fun c26 => absurd c26 (nI_ge hj (by omega))) (fun c26 => ?_)
      refine lv_iload_n hx hb dX5_holes_29 rfl (lv_at hl 3 rfl) ?_
      refine lv_if_ne (tgt := 52) hx hb dX5_holes_30 (by decide) (fun c30 => ?_) (fun c30 => ?_)
      · skip
        have c30 := b2_n0.mp c30
        refine lv_iconst (v := 1) hx hb dX5_holes_52 (by decide) ?_
        refine lv_goto (tgt := 57) hx hb dX5_holes_53 (by decide) ?_
        refine lv_istore_n (lv' := [(3, .int 1), (0, .ref (ad (7, 0, 0))), (1, .int (rhlI (rT M) i)), (2, .int (nI i)), (4, .int (nI j))]) hx hb dX5_holes_57 rfl hl (by decide) rfl (fun ls hl => ?_)
        refine lv_iinc (v := nI (j + 1)) (lv' := [(4, .int (nI (j + 1))), (3, .int 1), (0, .ref (ad (7, 0, 0))), (1, .int (rhlI (rT M) i)), (2, .int (nI i))]) hx hb dX5_holes_58 hl (k := 4) rfl (by rw [← nI_add]; rfl) (by decide) rfl (fun ls hl => ?_)
        refine lv_goto (tgt := 20) hx hb dX5_holes_61 (by decide) ?_
        refine ihj ls ?_
        have h9 : b2 (rcvA (rT M) (nI i) (j + 1)) = 1 := by simp [rcvA, b2, c30]
        rw [h9]
        exact lv_sub hl [2, 3, 4, 1, 0] rfl
      · skip
        have c30 := b2_0.mp c30
        refine lv_aload_n hx hb dX5_holes_33 rfl (lv_at hl 0 rfl) ?_
        refine lv_iload hx hb dX5_holes_34 (lv_at hl 4 rfl) ?_
        refine k_r (va_runV (As := [.int (nI j)]) (rest := []) ⟨hx, hb, hml, hown, hts⟩ (mX5_isOn l (M := (rT M)) j (show j < 8 by omega)) ⟨cb_of hts wk_X5_isOn wi_X5 wm_X5_111 sd_X5_isOn rfl rfl ⟨Nat.le_of_ble_eq_true rfl, Nat.le_of_ble_eq_true rfl⟩, hts _ wv_X5_isOn, hts _ wl_X5_isOn⟩ (P0.preV hC hS hH (Hp.recv hC.1 hH (7, 0, 0) ⟨rfl, rfl⟩ rfl rfl)) rfl rfl hl.1 rfl (lv_room (Nat.le_of_ble_eq_true rfl)) dX5_holes_36 ⟨Nat.le_of_ble_eq_true rfl, Nat.le_of_ble_eq_true rfl⟩) ?_
        refine W.eq (g2 := F0 m 39 ls [.int (b2 (roB (rT M) j))]) rfl ?_
        refine lv_if_eq (tgt := 56) hx hb dX5_holes_39 (by decide) (fun c39 => ?_) (fun c39 => ?_)
        · skip
          have c39 := b2_0.mp c39
          refine lv_iconst (v := 0) hx hb dX5_holes_56 (by decide) ?_
          refine lv_istore_n (lv' := [(3, .int 0), (0, .ref (ad (7, 0, 0))), (1, .int (rhlI (rT M) i)), (2, .int (nI i)), (4, .int (nI j))]) hx hb dX5_holes_57 rfl hl (by decide) rfl (fun ls hl => ?_)
          refine lv_iinc (v := nI (j + 1)) (lv' := [(4, .int (nI (j + 1))), (3, .int 0), (0, .ref (ad (7, 0, 0))), (1, .int (rhlI (rT M) i)), (2, .int (nI i))]) hx hb dX5_holes_58 hl (k := 4) rfl (by rw [← nI_add]; rfl) (by decide) rfl (fun ls hl => ?_)
          refine lv_goto (tgt := 20) hx hb dX5_holes_61 (by decide) ?_
          refine ihj ls ?_
          have h9 : b2 (rcvA (rT M) (nI i) (j + 1)) = 0 := by simp [rcvA, b2, c30, c39]
          rw [h9]
          exact lv_sub hl [2, 3, 4, 1, 0] rfl
        · skip
          have c39 := b2_n0.mp c39
          refine lv_aload_n hx hb dX5_holes_42 rfl (lv_at hl 0 rfl) ?_
          refine lv_iload hx hb dX5_holes_43 (lv_at hl 4 rfl) ?_
          refine lv_iload_n hx hb dX5_holes_45 rfl (lv_at hl 2 rfl) ?_
          refine k_r (va_runV (As := [.int (nI j), .int (nI i)]) (rest := []) ⟨hx, hb, hml, hown, hts⟩ (mX5_covers l (M := (rT M)) j (show j < 8 by omega) (nI i)) ⟨cb_of hts wk_X5_covers wi_X5 wm_X5_114 sd_X5_covers rfl rfl ⟨Nat.le_of_ble_eq_true rfl, Nat.le_of_ble_eq_true rfl⟩, hts _ wv_X5_covers, hts _ wl_X5_covers⟩ (P0.preV hC hS hH (Hp.recv hC.1 hH (7, 0, 0) ⟨rfl, rfl⟩ rfl rfl)) rfl rfl hl.1 rfl (lv_room (Nat.le_of_ble_eq_true rfl)) dX5_holes_46 ⟨Nat.le_of_ble_eq_true rfl, Nat.le_of_ble_eq_true rfl⟩) ?_
          refine W.eq (g2 := F0 m 49 ls [.int (b2 (rcB (rT M) j (nI i)))]) rfl ?_
          refine lv_if_eq (tgt := 56) hx hb dX5_holes_49 (by decide) (fun c49 => ?_) (fun c49 => ?_)
          · skip
            have c49 := b2_0.mp c49
            refine lv_iconst (v := 0) hx hb dX5_holes_56 (by decide) ?_
            refine lv_istore_n (lv' := [(3, .int 0), (0, .ref (ad (7, 0, 0))), (1, .int (rhlI (rT M) i)), (2, .int (nI i)), (4, .int (nI j))]) hx hb dX5_holes_57 rfl hl (by decide) rfl (fun ls hl => ?_)
            refine lv_iinc (v := nI (j + 1)) (lv' := [(4, .int (nI (j + 1))), (3, .int 0), (0, .ref (ad (7, 0, 0))), (1, .int (rhlI (rT M) i)), (2, .int (nI i))]) hx hb dX5_holes_58 hl (k := 4) rfl (by rw [← nI_add]; rfl) (by decide) rfl (fun ls hl => ?_)
            refine lv_goto (tgt := 20) hx hb dX5_holes_61 (by decide) ?_
            refine ihj ls ?_
            have h9 : b2 (rcvA (rT M) (nI i) (j + 1)) = 0 := by simp [rcvA, b2, c30, c39, c49]
            rw [h9]
            exact lv_sub hl [2, 3, 4, 1, 0] rfl
          · skip
            have c49 := b2_n0.mp c49
            refine lv_iconst (v := 1) hx hb dX5_holes_52 (by decide) ?_
            refine lv_goto (tgt := 57) hx hb dX5_holes_53 (by decide) ?_
            refine lv_istore_n (lv' := [(3, .int 1), (0, .ref (ad (7, 0, 0))), (1, .int (rhlI (rT M) i)), (2, .int (nI i)), (4, .int (nI j))]) hx hb dX5_holes_57 rfl hl (by decide) rfl (fun ls hl => ?_)
            refine lv_iinc (v := nI (j + 1)) (lv' := [(4, .int (nI (j + 1))), (3, .int 1), (0, .ref (ad (7, 0, 0))), (1, .int (rhlI (rT M) i)), (2, .int (nI i))]) hx hb dX5_holes_58 hl (k := 4) rfl (by rw [← nI_add]; rfl) (by decide) rfl (fun ls hl => ?_)
            refine lv_goto (tgt := 20) hx hb dX5_holes_61 (by decide) ?_
            refine ihj ls ?_
            have h9 : b2 (rcvA (rT M) (nI i) (j + 1)) = 1 := by simp [rcvA, b2, c30, c39, c49]
            rw [h9]
            exact lv_sub hl [2, 3, 4, 1, 0] rfl
    · skip
      have hl := hJ0
      refine lv_iload hx hb dX5_holes_20 (lv_at hl 4 rfl) ?_
      refine lv_aload_n hx hb dX5_holes_22 rfl (lv_at hl 0 rfl) ?_
      refine g5 hx hb hts hown hC hH 2 (by decide) wf_X5_81 (v := .int ((rT M) 2 0)) rfl dX5_holes_23 ?_
      refine W.eq (g2 := F0 m 26 ls [.int (nI (mN M)), .int (nI (mN M))]) (by rw [show (rT M) 2 0 = _ from hR.2.1]) ?_
      refine lv_icmp_ge (tgt := 64) hx hb dX5_holes_26 (by decide) (fun c26 => ?_) (fun c26 => absurd (nI_le (Nat.le_refl _) (by omega)) c26)
      refine lv_iload_n hx hb dX5_holes_64 rfl (lv_at hl 1 rfl) ?_
      refine lv_iload_n hx hb dX5_holes_65 rfl (lv_at hl 3 rfl) ?_
      refine lv_if_eq (tgt := 73) hx hb dX5_holes_66 (by decide) (fun c66 => ?_) (fun c66 => ?_)
      · skip
        have c66 := b2_0.mp c66
        refine lv_iconst (v := 1) hx hb dX5_holes_73 (by decide) ?_
        refine lv_iadd hx hb dX5_holes_74 ?_
        refine lv_istore_n (lv' := [(1, .int ((rhlI (rT M) i) + 1)), (0, .ref (ad (7, 0, 0))), (2, .int (nI i)), (3, .int (b2 (rcvA (rT M) (nI i) (mN M)))), (4, .int (nI (mN M)))]) hx hb dX5_holes_75 rfl hl (by decide) rfl (fun ls hl => ?_)
        refine lv_iinc (v := nI (i + 1)) (lv' := [(2, .int (nI (i + 1))), (1, .int ((rhlI (rT M) i) + 1)), (0, .ref (ad (7, 0, 0))), (3, .int (b2 (rcvA (rT M) (nI i) (mN M)))), (4, .int (nI (mN M)))]) hx hb dX5_holes_76 hl (k := 2) rfl (by rw [← nI_add]; rfl) (by decide) rfl (fun ls hl => ?_)
        refine lv_goto (tgt := 9) hx hb dX5_holes_79 (by decide) ?_
        refine ih ls ?_
        have h9 : rhlI (rT M) (i + 1) = (rhlI (rT M) i) + 1 := by simp [rhlI, show mN (rT M) = mN M from rfl, c66]
        rw [h9]
        exact lv_sub hl [2, 1, 0] rfl
      · skip
        have c66 := b2_n0.mp c66
        refine lv_iconst (v := 0) hx hb dX5_holes_69 (by decide) ?_
        refine lv_goto (tgt := 74) hx hb dX5_holes_70 (by decide) ?_
        refine lv_iadd hx hb dX5_holes_74 ?_
        refine lv_istore_n (lv' := [(1, .int ((rhlI (rT M) i) + 0)), (0, .ref (ad (7, 0, 0))), (2, .int (nI i)), (3, .int (b2 (rcvA (rT M) (nI i) (mN M)))), (4, .int (nI (mN M)))]) hx hb dX5_holes_75 rfl hl (by decide) rfl (fun ls hl => ?_)
        refine lv_iinc (v := nI (i + 1)) (lv' := [(2, .int (nI (i + 1))), (1, .int ((rhlI (rT M) i) + 0)), (0, .ref (ad (7, 0, 0))), (3, .int (b2 (rcvA (rT M) (nI i) (mN M)))), (4, .int (nI (mN M)))]) hx hb dX5_holes_76 hl (k := 2) rfl (by rw [← nI_add]; rfl) (by decide) rfl (fun ls hl => ?_)
        refine lv_goto (tgt := 9) hx hb dX5_holes_79 (by decide) ?_
        refine ih ls ?_
        have h9 : rhlI (rT M) (i + 1) = (rhlI (rT M) i) + 0 := by simp [rhlI, show mN (rT M) = mN M from rfl, c66]
        rw [h9]
        exact lv_sub hl [2, 1, 0] rfl
  · skip
    have hl := hJ0
    refine lv_iload_n hx hb dX5_holes_9 rfl (lv_at hl 2 rfl) ?_
    refine lv_bipush (v := 100) hx hb dX5_holes_10 (by decide) ?_
    refine lv_icmp_ge (tgt := 82) hx hb dX5_holes_12 (by decide) (fun c12 => ?_) (fun c12 => absurd (nI_le (Nat.le_refl _) (by decide)) c12)
    refine lv_iload_n hx hb dX5_holes_82 rfl (lv_at hl 1 rfl) ?_
    exact e_wi hx hb hr hlocks rfl hS hH (Nat.le_refl _) (Nat.le_refl _) dX5_holes_83

set_option maxHeartbeats 4000000 in
set_option maxRecDepth 100000 in
theorem mX5_mast (l : Launch) {D : va_G} {k : Nat → ClassId} {b : Nat} {ad : Tg → Nat} {g : XS} {M : MF} {o : OF} (hR : RI M) (a0 a1 a2 a3 a4 a5 : Int32) (hz : a5 = 0 ∨ a5 = 1) : Met l yX5_mast (WS yX5_mast cX5_mast 9 (some .int)) ({ frames := 1, cells := 0, slots := 0, locals := 22 }) (P0 D k b (Wo D k b ad g M o) [.ref (ad (7, 0, 0)), .int a0, .int a1, .int a2, .int a3, .int a4, .int a5]) (Qw b (some (.int (vO (rmC M a0 a1 a2 a3 a4) (nI (mN M))))) (Wo D k b ad g (rO M (rmC M a0 a1 a2 a3 a4) (rmG (rT M) a0 a1 a2 a3 a4 a5)) o)) 0 0 (Fb b) := by
  refine Met0 (by decide +kernel) (Nat.le_of_ble_eq_true rfl) (fun p e s m below meth c ls hx hb hr hts hown hml hlocks hnm hC hH hl => ?_)
  have hS : va_S (Fb b) s.heap s.heap [] := va_S.rf
  have hl : lv_has ls 9 [(0, .ref (ad (7, 0, 0))), (1, .int a0), (2, .int a1), (3, .int a2), (4, .int a3), (5, .int a4), (6, .int a5)] := hl
  have h8 := hR.1
  have h12 := hR.2.2.1
  refine lv_iload_n hx hb dX5_mast_0 rfl (lv_at hl 1 rfl) ?_
  refine lv_iconst (v := 0) hx hb dX5_mast_1 (by decide) ?_
  refine lv_bipush (v := 99) hx hb dX5_mast_2 (by decide) ?_
  refine k_r (va_runS (As := [.int a0, .int 0, .int 99]) (rest := []) ⟨hx, hb, hml, hown, hts⟩ (mX5_in l a0 0 99) ⟨cb_of hts wk_X5_in wi_X5 wm_X5_84 sd_X5_in rfl rfl ⟨Nat.le_of_ble_eq_true rfl, Nat.le_of_ble_eq_true rfl⟩, hts _ wz_X5_in⟩ (P0.pre hC hS hH) rfl rfl hl.1 rfl (lv_room (Nat.le_of_ble_eq_true rfl)) dX5_mast_4 ⟨Nat.le_of_ble_eq_true rfl, Nat.le_of_ble_eq_true rfl⟩) ?_
  refine W.eq (g2 := F0 m 7 ls [.int (b2 (inB a0 0 99))]) rfl ?_
  refine lv_if_eq (tgt := 56) hx hb dX5_mast_7 (by decide) (fun c7 => ?_) (fun c7 => ?_)
  · skip
    have c7 := b2_0.mp c7
    refine lv_iconst (v := 0) hx hb dX5_mast_56 (by decide) ?_
    refine lv_istore (lv' := [(7, .int 0), (0, .ref (ad (7, 0, 0))), (1, .int a0), (2, .int a1), (3, .int a2), (4, .int a3), (5, .int a4), (6, .int a5)]) hx hb dX5_mast_57 hl (by decide) rfl (fun ls hl => ?_)
    refine lv_aload_n hx hb dX5_mast_59 rfl (lv_at hl 1 rfl) ?_
    refine lv_iload hx hb dX5_mast_60 (lv_at hl 0 rfl) ?_
    refine lv_if_ne (tgt := 69) hx hb dX5_mast_62 (by decide) (fun c => absurd c (by decide)) (fun _ => ?_)
    refine lv_iconst (v := 1) hx hb dX5_mast_65 (by decide) ?_
    refine lv_goto (tgt := 83) hx hb dX5_mast_66 (by decide) ?_
    refine p5 hx hb hts hown hC hH hS 26 (by decide) (by decide) rfl wf_X5_77 rfl rfl dX5_mast_83 (fun H locs (hH : Wo D k b ad g (up M 26 0 1) o H) hS => ?_)
    refine lv_aload_n hx hb dX5_mast_86 rfl (lv_at hl 1 rfl) ?_
    refine g5 hx hb hts hown hC hH 26 (by decide) wf_X5_77 (v := .int 1) rfl dX5_mast_87 ?_
    refine W.eq (g2 := F0 m 90 ls [.int 1]) rfl ?_
    refine lv_if_le (tgt := 95) hx hb dX5_mast_90 (by decide) (fun c => absurd c (by decide)) (fun _ => ?_)
    refine lv_iconst (v := 0) hx hb dX5_mast_93 (by decide) ?_
    have h8 : rmC M a0 a1 a2 a3 a4 = 1 := by simp [rmC, c7]
    have h9 : rO M (rmC M a0 a1 a2 a3 a4) (rmG (rT M) a0 a1 a2 a3 a4 a5) = up M 26 0 1 := by rw [rO_n (by rw [h8]; decide), h8]; rfl
    exact e_wi hx hb hr hlocks (by unfold vO; rw [if_neg (by rw [h8]; decide)]; first | done | rfl) hS (by rw [h9]; exact hH) (Nat.le_refl _) (Nat.le_refl _) dX5_mast_94
  · skip
    have c7 := b2_n0.mp c7
    refine lv_iload_n hx hb dX5_mast_10 rfl (lv_at hl 2 rfl) ?_
    refine lv_iconst (v := 1) hx hb dX5_mast_11 (by decide) ?_
    refine lv_bipush (v := 40) hx hb dX5_mast_12 (by decide) ?_
    refine k_r (va_runS (As := [.int a1, .int 1, .int 40]) (rest := []) ⟨hx, hb, hml, hown, hts⟩ (mX5_in l a1 1 40) ⟨cb_of hts wk_X5_in wi_X5 wm_X5_84 sd_X5_in rfl rfl ⟨Nat.le_of_ble_eq_true rfl, Nat.le_of_ble_eq_true rfl⟩, hts _ wz_X5_in⟩ (P0.pre hC hS hH) rfl rfl hl.1 rfl (lv_room (Nat.le_of_ble_eq_true rfl)) dX5_mast_14 ⟨Nat.le_of_ble_eq_true rfl, Nat.le_of_ble_eq_true rfl⟩) ?_
    refine W.eq (g2 := F0 m 17 ls [.int (b2 (inB a1 1 40))]) rfl ?_
    refine lv_if_eq (tgt := 56) hx hb dX5_mast_17 (by decide) (fun c17 => ?_) (fun c17 => ?_)
    · skip
      have c17 := b2_0.mp c17
      refine lv_iconst (v := 0) hx hb dX5_mast_56 (by decide) ?_
      refine lv_istore (lv' := [(7, .int 0), (0, .ref (ad (7, 0, 0))), (1, .int a0), (2, .int a1), (3, .int a2), (4, .int a3), (5, .int a4), (6, .int a5)]) hx hb dX5_mast_57 hl (by decide) rfl (fun ls hl => ?_)
      refine lv_aload_n hx hb dX5_mast_59 rfl (lv_at hl 1 rfl) ?_
      refine lv_iload hx hb dX5_mast_60 (lv_at hl 0 rfl) ?_
      refine lv_if_ne (tgt := 69) hx hb dX5_mast_62 (by decide) (fun c => absurd c (by decide)) (fun _ => ?_)
      refine lv_iconst (v := 1) hx hb dX5_mast_65 (by decide) ?_
      refine lv_goto (tgt := 83) hx hb dX5_mast_66 (by decide) ?_
      refine p5 hx hb hts hown hC hH hS 26 (by decide) (by decide) rfl wf_X5_77 rfl rfl dX5_mast_83 (fun H locs (hH : Wo D k b ad g (up M 26 0 1) o H) hS => ?_)
      refine lv_aload_n hx hb dX5_mast_86 rfl (lv_at hl 1 rfl) ?_
      refine g5 hx hb hts hown hC hH 26 (by decide) wf_X5_77 (v := .int 1) rfl dX5_mast_87 ?_
      refine W.eq (g2 := F0 m 90 ls [.int 1]) rfl ?_
      refine lv_if_le (tgt := 95) hx hb dX5_mast_90 (by decide) (fun c => absurd c (by decide)) (fun _ => ?_)
      refine lv_iconst (v := 0) hx hb dX5_mast_93 (by decide) ?_
      have h8 : rmC M a0 a1 a2 a3 a4 = 1 := by simp [rmC, c7, c17]
      have h9 : rO M (rmC M a0 a1 a2 a3 a4) (rmG (rT M) a0 a1 a2 a3 a4 a5) = up M 26 0 1 := by rw [rO_n (by rw [h8]; decide), h8]; rfl
      exact e_wi hx hb hr hlocks (by unfold vO; rw [if_neg (by rw [h8]; decide)]; first | done | rfl) hS (by rw [h9]; exact hH) (Nat.le_refl _) (Nat.le_refl _) dX5_mast_94
    · skip
      have c17 := b2_n0.mp c17
      refine lv_iload_n hx hb dX5_mast_20 rfl (lv_at hl 3 rfl) ?_
      refine lv_iconst (v := 1) hx hb dX5_mast_21 (by decide) ?_
      refine lv_bipush (v := 10) hx hb dX5_mast_22 (by decide) ?_
      refine k_r (va_runS (As := [.int a2, .int 1, .int 10]) (rest := []) ⟨hx, hb, hml, hown, hts⟩ (mX5_in l a2 1 10) ⟨cb_of hts wk_X5_in wi_X5 wm_X5_84 sd_X5_in rfl rfl ⟨Nat.le_of_ble_eq_true rfl, Nat.le_of_ble_eq_true rfl⟩, hts _ wz_X5_in⟩ (P0.pre hC hS hH) rfl rfl hl.1 rfl (lv_room (Nat.le_of_ble_eq_true rfl)) dX5_mast_24 ⟨Nat.le_of_ble_eq_true rfl, Nat.le_of_ble_eq_true rfl⟩) ?_
      refine W.eq (g2 := F0 m 27 ls [.int (b2 (inB a2 1 10))]) rfl ?_
      refine lv_if_eq (tgt := 56) hx hb dX5_mast_27 (by decide) (fun c27 => ?_) (fun c27 => ?_)
      · skip
        have c27 := b2_0.mp c27
        refine lv_iconst (v := 0) hx hb dX5_mast_56 (by decide) ?_
        refine lv_istore (lv' := [(7, .int 0), (0, .ref (ad (7, 0, 0))), (1, .int a0), (2, .int a1), (3, .int a2), (4, .int a3), (5, .int a4), (6, .int a5)]) hx hb dX5_mast_57 hl (by decide) rfl (fun ls hl => ?_)
        refine lv_aload_n hx hb dX5_mast_59 rfl (lv_at hl 1 rfl) ?_
        refine lv_iload hx hb dX5_mast_60 (lv_at hl 0 rfl) ?_
        refine lv_if_ne (tgt := 69) hx hb dX5_mast_62 (by decide) (fun c => absurd c (by decide)) (fun _ => ?_)
        refine lv_iconst (v := 1) hx hb dX5_mast_65 (by decide) ?_
        refine lv_goto (tgt := 83) hx hb dX5_mast_66 (by decide) ?_
        refine p5 hx hb hts hown hC hH hS 26 (by decide) (by decide) rfl wf_X5_77 rfl rfl dX5_mast_83 (fun H locs (hH : Wo D k b ad g (up M 26 0 1) o H) hS => ?_)
        refine lv_aload_n hx hb dX5_mast_86 rfl (lv_at hl 1 rfl) ?_
        refine g5 hx hb hts hown hC hH 26 (by decide) wf_X5_77 (v := .int 1) rfl dX5_mast_87 ?_
        refine W.eq (g2 := F0 m 90 ls [.int 1]) rfl ?_
        refine lv_if_le (tgt := 95) hx hb dX5_mast_90 (by decide) (fun c => absurd c (by decide)) (fun _ => ?_)
        refine lv_iconst (v := 0) hx hb dX5_mast_93 (by decide) ?_
        have h8 : rmC M a0 a1 a2 a3 a4 = 1 := by simp [rmC, c7, c17, c27]
        have h9 : rO M (rmC M a0 a1 a2 a3 a4) (rmG (rT M) a0 a1 a2 a3 a4 a5) = up M 26 0 1 := by rw [rO_n (by rw [h8]; decide), h8]; rfl
        exact e_wi hx hb hr hlocks (by unfold vO; rw [if_neg (by rw [h8]; decide)]; first | done | rfl) hS (by rw [h9]; exact hH) (Nat.le_refl _) (Nat.le_refl _) dX5_mast_94
      · skip
        have c27 := b2_n0.mp c27
        refine lv_iload hx hb dX5_mast_30 (lv_at hl 4 rfl) ?_
        refine lv_iconst (v := 0) hx hb dX5_mast_32 (by decide) ?_
        refine lv_bipush (v := 10) hx hb dX5_mast_33 (by decide) ?_
        refine k_r (va_runS (As := [.int a3, .int 0, .int 10]) (rest := []) ⟨hx, hb, hml, hown, hts⟩ (mX5_in l a3 0 10) ⟨cb_of hts wk_X5_in wi_X5 wm_X5_84 sd_X5_in rfl rfl ⟨Nat.le_of_ble_eq_true rfl, Nat.le_of_ble_eq_true rfl⟩, hts _ wz_X5_in⟩ (P0.pre hC hS hH) rfl rfl hl.1 rfl (lv_room (Nat.le_of_ble_eq_true rfl)) dX5_mast_35 ⟨Nat.le_of_ble_eq_true rfl, Nat.le_of_ble_eq_true rfl⟩) ?_
        refine W.eq (g2 := F0 m 38 ls [.int (b2 (inB a3 0 10))]) rfl ?_
        refine lv_if_eq (tgt := 56) hx hb dX5_mast_38 (by decide) (fun c38 => ?_) (fun c38 => ?_)
        · skip
          have c38 := b2_0.mp c38
          refine lv_iconst (v := 0) hx hb dX5_mast_56 (by decide) ?_
          refine lv_istore (lv' := [(7, .int 0), (0, .ref (ad (7, 0, 0))), (1, .int a0), (2, .int a1), (3, .int a2), (4, .int a3), (5, .int a4), (6, .int a5)]) hx hb dX5_mast_57 hl (by decide) rfl (fun ls hl => ?_)
          refine lv_aload_n hx hb dX5_mast_59 rfl (lv_at hl 1 rfl) ?_
          refine lv_iload hx hb dX5_mast_60 (lv_at hl 0 rfl) ?_
          refine lv_if_ne (tgt := 69) hx hb dX5_mast_62 (by decide) (fun c => absurd c (by decide)) (fun _ => ?_)
          refine lv_iconst (v := 1) hx hb dX5_mast_65 (by decide) ?_
          refine lv_goto (tgt := 83) hx hb dX5_mast_66 (by decide) ?_
          refine p5 hx hb hts hown hC hH hS 26 (by decide) (by decide) rfl wf_X5_77 rfl rfl dX5_mast_83 (fun H locs (hH : Wo D k b ad g (up M 26 0 1) o H) hS => ?_)
          refine lv_aload_n hx hb dX5_mast_86 rfl (lv_at hl 1 rfl) ?_
          refine g5 hx hb hts hown hC hH 26 (by decide) wf_X5_77 (v := .int 1) rfl dX5_mast_87 ?_
          refine W.eq (g2 := F0 m 90 ls [.int 1]) rfl ?_
          refine lv_if_le (tgt := 95) hx hb dX5_mast_90 (by decide) (fun c => absurd c (by decide)) (fun _ => ?_)
          refine lv_iconst (v := 0) hx hb dX5_mast_93 (by decide) ?_
          have h8 : rmC M a0 a1 a2 a3 a4 = 1 := by simp [rmC, c7, c17, c27, c38]
          have h9 : rO M (rmC M a0 a1 a2 a3 a4) (rmG (rT M) a0 a1 a2 a3 a4 a5) = up M 26 0 1 := by rw [rO_n (by rw [h8]; decide), h8]; rfl
          exact e_wi hx hb hr hlocks (by unfold vO; rw [if_neg (by rw [h8]; decide)]; first | done | rfl) hS (by rw [h9]; exact hH) (Nat.le_refl _) (Nat.le_refl _) dX5_mast_94
        · skip
          have c38 := b2_n0.mp c38
          refine lv_iload hx hb dX5_mast_41 (lv_at hl 5 rfl) ?_
          refine lv_iconst (v := 0) hx hb dX5_mast_43 (by decide) ?_
          refine lv_bipush (v := 100) hx hb dX5_mast_44 (by decide) ?_
          refine k_r (va_runS (As := [.int a4, .int 0, .int 100]) (rest := []) ⟨hx, hb, hml, hown, hts⟩ (mX5_in l a4 0 100) ⟨cb_of hts wk_X5_in wi_X5 wm_X5_84 sd_X5_in rfl rfl ⟨Nat.le_of_ble_eq_true rfl, Nat.le_of_ble_eq_true rfl⟩, hts _ wz_X5_in⟩ (P0.pre hC hS hH) rfl rfl hl.1 rfl (lv_room (Nat.le_of_ble_eq_true rfl)) dX5_mast_46 ⟨Nat.le_of_ble_eq_true rfl, Nat.le_of_ble_eq_true rfl⟩) ?_
          refine W.eq (g2 := F0 m 49 ls [.int (b2 (inB a4 0 100))]) rfl ?_
          refine lv_if_eq (tgt := 56) hx hb dX5_mast_49 (by decide) (fun c49 => ?_) (fun c49 => ?_)
          · skip
            have c49 := b2_0.mp c49
            refine lv_iconst (v := 0) hx hb dX5_mast_56 (by decide) ?_
            refine lv_istore (lv' := [(7, .int 0), (0, .ref (ad (7, 0, 0))), (1, .int a0), (2, .int a1), (3, .int a2), (4, .int a3), (5, .int a4), (6, .int a5)]) hx hb dX5_mast_57 hl (by decide) rfl (fun ls hl => ?_)
            refine lv_aload_n hx hb dX5_mast_59 rfl (lv_at hl 1 rfl) ?_
            refine lv_iload hx hb dX5_mast_60 (lv_at hl 0 rfl) ?_
            refine lv_if_ne (tgt := 69) hx hb dX5_mast_62 (by decide) (fun c => absurd c (by decide)) (fun _ => ?_)
            refine lv_iconst (v := 1) hx hb dX5_mast_65 (by decide) ?_
            refine lv_goto (tgt := 83) hx hb dX5_mast_66 (by decide) ?_
            refine p5 hx hb hts hown hC hH hS 26 (by decide) (by decide) rfl wf_X5_77 rfl rfl dX5_mast_83 (fun H locs (hH : Wo D k b ad g (up M 26 0 1) o H) hS => ?_)
            refine lv_aload_n hx hb dX5_mast_86 rfl (lv_at hl 1 rfl) ?_
            refine g5 hx hb hts hown hC hH 26 (by decide) wf_X5_77 (v := .int 1) rfl dX5_mast_87 ?_
            refine W.eq (g2 := F0 m 90 ls [.int 1]) rfl ?_
            refine lv_if_le (tgt := 95) hx hb dX5_mast_90 (by decide) (fun c => absurd c (by decide)) (fun _ => ?_)
            refine lv_iconst (v := 0) hx hb dX5_mast_93 (by decide) ?_
            have h8 : rmC M a0 a1 a2 a3 a4 = 1 := by simp [rmC, c7, c17, c27, c38, c49]
            have h9 : rO M (rmC M a0 a1 a2 a3 a4) (rmG (rT M) a0 a1 a2 a3 a4 a5) = up M 26 0 1 := by rw [rO_n (by rw [h8]; decide), h8]; rfl
            exact e_wi hx hb hr hlocks (by unfold vO; rw [if_neg (by rw [h8]; decide)]; first | done | rfl) hS (by rw [h9]; exact hH) (Nat.le_refl _) (Nat.le_refl _) dX5_mast_94
          · skip
            have c49 := b2_n0.mp c49
            refine lv_iconst (v := 1) hx hb dX5_mast_52 (by decide) ?_
            refine lv_goto (tgt := 57) hx hb dX5_mast_53 (by decide) ?_
            refine lv_istore (lv' := [(7, .int 1), (0, .ref (ad (7, 0, 0))), (1, .int a0), (2, .int a1), (3, .int a2), (4, .int a3), (5, .int a4), (6, .int a5)]) hx hb dX5_mast_57 hl (by decide) rfl (fun ls hl => ?_)
            refine lv_aload_n hx hb dX5_mast_59 rfl (lv_at hl 1 rfl) ?_
            refine lv_iload hx hb dX5_mast_60 (lv_at hl 0 rfl) ?_
            refine lv_if_ne (tgt := 69) hx hb dX5_mast_62 (by decide) (fun _ => ?_) (fun c => absurd c (by decide))
            refine lv_aload_n hx hb dX5_mast_69 rfl (lv_at hl 1 rfl) ?_
            refine g5 hx hb hts hown hC hH 2 (by decide) wf_X5_81 (v := .int (M 2 0)) rfl dX5_mast_70 ?_
            refine lv_bipush (v := 8) hx hb dX5_mast_73 (by decide) ?_
            refine lv_icmp_ne (tgt := 82) hx hb dX5_mast_75 (by decide) (fun c75 => ?_) (fun c75 => ?_)
            · skip
              refine lv_iconst (v := 0) hx hb dX5_mast_82 (by decide) ?_
              refine p5 hx hb hts hown hC hH hS 26 (by decide) (by decide) rfl wf_X5_77 rfl rfl dX5_mast_83 (fun H locs (hH : Wo D k b ad g (up M 26 0 0) o H) hS => ?_)
              refine lv_aload_n hx hb dX5_mast_86 rfl (lv_at hl 1 rfl) ?_
              refine g5 hx hb hts hown hC hH 26 (by decide) wf_X5_77 (v := .int 0) rfl dX5_mast_87 ?_
              refine W.eq (g2 := F0 m 90 ls [.int 0]) rfl ?_
              refine lv_if_le (tgt := 95) hx hb dX5_mast_90 (by decide) (fun _ => ?_) (fun c => absurd c (by decide))
              have h5 : mN M < 8 := by
                rcases Nat.lt_or_ge (mN M) 8 with h | h
                · exact h
                · exact absurd (hR.2.1.trans (by rw [show mN M = 8 by omega]; rfl)) c75
              refine lv_aload_n hx hb dX5_mast_95 rfl (lv_at hl 1 rfl) ?_
              refine g5 hx hb hts hown hC hH 2 (by decide) wf_X5_81 (v := .int (M 2 0)) rfl dX5_mast_96 ?_
              refine W.eq (g2 := F0 m 99 ls [.int (nI (mN M))]) (by rw [hR.2.1]) ?_
              refine lv_istore (lv' := [(8, .int (nI (mN M))), (7, .int 1), (0, .ref (ad (7, 0, 0))), (1, .int a0), (2, .int a1), (3, .int a2), (4, .int a3), (5, .int a4), (6, .int a5)]) hx hb dX5_mast_99 hl (by decide) rfl (fun ls hl => ?_)
              refine lv_aload_n hx hb dX5_mast_101 rfl (lv_at hl 2 rfl) ?_
              refine g5 hx hb hts hown hC hH 3 (by decide) wf_X5_7 (v := .ref (ad (8, 3, 0))) rfl dX5_mast_102 ?_
              refine lv_iload hx hb dX5_mast_105 (lv_at hl 0 rfl) ?_
              refine lv_iload_n hx hb dX5_mast_107 rfl (lv_at hl 3 rfl) ?_
              refine rStN hx hb hC hH hS 3 (by decide) (by decide) (i := (mN M)) (show (mN M) < 8 by omega) dX5_mast_108 (fun H locs (hH : Wo D k b ad g (up (up M 26 0 0) 3 (mN M) a0) o H) hS => ?_)
              refine lv_aload_n hx hb dX5_mast_109 rfl (lv_at hl 2 rfl) ?_
              refine g5 hx hb hts hown hC hH 4 (by decide) wf_X5_13 (v := .ref (ad (8, 4, 0))) rfl dX5_mast_110 ?_
              refine lv_iload hx hb dX5_mast_113 (lv_at hl 0 rfl) ?_
              refine lv_iload_n hx hb dX5_mast_115 rfl (lv_at hl 4 rfl) ?_
              refine rStN hx hb hC hH hS 4 (by decide) (by decide) (i := (mN M)) (show (mN M) < 8 by omega) dX5_mast_116 (fun H locs (hH : Wo D k b ad g (up (up (up M 26 0 0) 3 (mN M) a0) 4 (mN M) a1) o H) hS => ?_)
              refine lv_aload_n hx hb dX5_mast_117 rfl (lv_at hl 2 rfl) ?_
              refine g5 hx hb hts hown hC hH 5 (by decide) wf_X5_16 (v := .ref (ad (8, 5, 0))) rfl dX5_mast_118 ?_
              refine lv_iload hx hb dX5_mast_121 (lv_at hl 0 rfl) ?_
              refine lv_iload_n hx hb dX5_mast_123 rfl (lv_at hl 5 rfl) ?_
              refine rStN hx hb hC hH hS 5 (by decide) (by decide) (i := (mN M)) (show (mN M) < 8 by omega) dX5_mast_124 (fun H locs (hH : Wo D k b ad g (up (up (up (up M 26 0 0) 3 (mN M) a0) 4 (mN M) a1) 5 (mN M) a2) o H) hS => ?_)
              refine lv_aload_n hx hb dX5_mast_125 rfl (lv_at hl 2 rfl) ?_
              refine g5 hx hb hts hown hC hH 6 (by decide) wf_X5_19 (v := .ref (ad (8, 6, 0))) rfl dX5_mast_126 ?_
              refine lv_iload hx hb dX5_mast_129 (lv_at hl 0 rfl) ?_
              refine lv_iload hx hb dX5_mast_131 (lv_at hl 6 rfl) ?_
              refine rStN hx hb hC hH hS 6 (by decide) (by decide) (i := (mN M)) (show (mN M) < 8 by omega) dX5_mast_133 (fun H locs (hH : Wo D k b ad g (up (up (up (up (up M 26 0 0) 3 (mN M) a0) 4 (mN M) a1) 5 (mN M) a2) 6 (mN M) a3) o H) hS => ?_)
              refine lv_aload_n hx hb dX5_mast_134 rfl (lv_at hl 2 rfl) ?_
              refine g5 hx hb hts hown hC hH 7 (by decide) wf_X5_22 (v := .ref (ad (8, 7, 0))) rfl dX5_mast_135 ?_
              refine lv_iload hx hb dX5_mast_138 (lv_at hl 0 rfl) ?_
              refine lv_iload hx hb dX5_mast_140 (lv_at hl 7 rfl) ?_
              refine rStN hx hb hC hH hS 7 (by decide) (by decide) (i := (mN M)) (show (mN M) < 8 by omega) dX5_mast_142 (fun H locs (hH : Wo D k b ad g (up (up (up (up (up (up M 26 0 0) 3 (mN M) a0) 4 (mN M) a1) 5 (mN M) a2) 6 (mN M) a3) 7 (mN M) a4) o H) hS => ?_)
              refine lv_aload_n hx hb dX5_mast_143 rfl (lv_at hl 2 rfl) ?_
              refine g5 hx hb hts hown hC hH 8 (by decide) wf_X5_25 (v := .ref (ad (8, 8, 0))) rfl dX5_mast_144 ?_
              refine lv_iload hx hb dX5_mast_147 (lv_at hl 0 rfl) ?_
              refine lv_iload hx hb dX5_mast_149 (lv_at hl 8 rfl) ?_
              refine rSzN hx hb hC hH hS 8 (by decide) (by decide) (i := (mN M)) (show (mN M) < 8 by omega) (by rcases hz with rfl | rfl <;> rfl) dX5_mast_151 (fun H locs (hH : Wo D k b ad g (up (up (up (up (up (up (up M 26 0 0) 3 (mN M) a0) 4 (mN M) a1) 5 (mN M) a2) 6 (mN M) a3) 7 (mN M) a4) 8 (mN M) a5) o H) hS => ?_)
              refine lv_aload_n hx hb dX5_mast_152 rfl (lv_at hl 2 rfl) ?_
              refine g5 hx hb hts hown hC hH 11 (by decide) wf_X5_35 (v := .ref (ad (8, 11, 0))) rfl dX5_mast_153 ?_
              refine lv_iload hx hb dX5_mast_156 (lv_at hl 0 rfl) ?_
              refine lv_iconst (v := (-1)) hx hb dX5_mast_158 (by decide) ?_
              refine rStN hx hb hC hH hS 11 (by decide) (by decide) (i := (mN M)) (show (mN M) < 8 by omega) dX5_mast_159 (fun H locs (hH : Wo D k b ad g (up (up (up (up (up (up (up (up M 26 0 0) 3 (mN M) a0) 4 (mN M) a1) 5 (mN M) a2) 6 (mN M) a3) 7 (mN M) a4) 8 (mN M) a5) 11 (mN M) (-1)) o H) hS => ?_)
              refine lv_aload_n hx hb dX5_mast_160 rfl (lv_at hl 2 rfl) ?_
              refine lv_dup hx hb dX5_mast_161 rfl ?_
              refine g5 hx hb hts hown hC hH 2 (by decide) wf_X5_81 (v := .int (M 2 0)) rfl dX5_mast_162 ?_
              refine W.eq (g2 := F0 m 165 ls [.int (M 2 0), .ref (ad (7, 0, 0))]) rfl ?_
              refine lv_iconst (v := 1) hx hb dX5_mast_165 (by decide) ?_
              refine lv_iadd hx hb dX5_mast_166 ?_
              refine p5 hx hb hts hown hC hH hS 2 (by decide) (by decide) rfl wf_X5_81 rfl rfl dX5_mast_167 (fun H locs (hH : Wo D k b ad g (up (up (up (up (up (up (up (up (up M 26 0 0) 3 (mN M) a0) 4 (mN M) a1) 5 (mN M) a2) 6 (mN M) a3) 7 (mN M) a4) 8 (mN M) a5) 11 (mN M) (-1)) 2 0 ((M 2 0) + 1)) o H) hS => ?_)
              refine lv_iload hx hb dX5_mast_170 (lv_at hl 0 rfl) ?_
              have h8 : rmC M a0 a1 a2 a3 a4 = 0 := by simp [rmC, c7, c17, c27, c38, c49, c75]
              have h9 : rO M (rmC M a0 a1 a2 a3 a4) (rmG (rT M) a0 a1 a2 a3 a4 a5) = up (up (up (up (up (up (up (up (up M 26 0 0) 3 (mN M) a0) 4 (mN M) a1) 5 (mN M) a2) 6 (mN M) a3) 7 (mN M) a4) 8 (mN M) a5) 11 (mN M) (-1)) 2 0 ((M 2 0) + 1) := (rO_0 h8).trans (rfl)
              exact e_wi hx hb hr hlocks (by unfold vO; rw [if_pos h8]; first | done | rfl) hS (by rw [h9]; exact hH) (Nat.le_refl _) (Nat.le_refl _) dX5_mast_172
            · skip
              refine lv_iconst (v := 2) hx hb dX5_mast_78 (by decide) ?_
              refine lv_goto (tgt := 83) hx hb dX5_mast_79 (by decide) ?_
              refine p5 hx hb hts hown hC hH hS 26 (by decide) (by decide) rfl wf_X5_77 rfl rfl dX5_mast_83 (fun H locs (hH : Wo D k b ad g (up M 26 0 2) o H) hS => ?_)
              refine lv_aload_n hx hb dX5_mast_86 rfl (lv_at hl 1 rfl) ?_
              refine g5 hx hb hts hown hC hH 26 (by decide) wf_X5_77 (v := .int 2) rfl dX5_mast_87 ?_
              refine W.eq (g2 := F0 m 90 ls [.int 2]) rfl ?_
              refine lv_if_le (tgt := 95) hx hb dX5_mast_90 (by decide) (fun c => absurd c (by decide)) (fun _ => ?_)
              refine lv_iconst (v := 0) hx hb dX5_mast_93 (by decide) ?_
              have h8 : rmC M a0 a1 a2 a3 a4 = 2 := by simp [rmC, c7, c17, c27, c38, c49, c75]
              have h9 : rO M (rmC M a0 a1 a2 a3 a4) (rmG (rT M) a0 a1 a2 a3 a4 a5) = up M 26 0 2 := by rw [rO_n (by rw [h8]; decide), h8]; rfl
              exact e_wi hx hb hr hlocks (by unfold vO; rw [if_neg (by rw [h8]; decide)]; first | done | rfl) hS (by rw [h9]; exact hH) (Nat.le_refl _) (Nat.le_refl _) dX5_mast_94

set_option maxHeartbeats 4000000 in
set_option maxRecDepth 100000 in
theorem mX5_phone (l : Launch) {D : va_G} {k : Nat → ClassId} {b : Nat} {ad : Tg → Nat} {g : XS} {M : MF} {o : OF} (hR : RI M) (a0 : Int32) : Met l yX5_phone (WS yX5_phone cX5_phone 2 (some .int)) ({ frames := 1, cells := 0, slots := 0, locals := 22 }) (P0 D k b (Wo D k b ad g M o) [.ref (ad (7, 0, 0)), .int a0]) (Qw b (some (.int (vO (rphC M a0) (M 19 0 + 1 - 1)))) (Wo D k b ad g (rO M (rphC M a0) (rphG (rT M) a0)) o)) 0 0 (Fb b) := by
  refine Met0 (by decide +kernel) (Nat.le_of_ble_eq_true rfl) (fun p e s m below meth c ls hx hb hr hts hown hml hlocks hnm hC hH hl => ?_)
  have hS : va_S (Fb b) s.heap s.heap [] := va_S.rf
  have hl : lv_has ls 2 [(0, .ref (ad (7, 0, 0))), (1, .int a0)] := hl
  have h8 := hR.1
  have h12 := hR.2.2.1
  refine lv_aload_n hx hb dX5_phone_0 rfl (lv_at hl 0 rfl) ?_
  refine lv_iload_n hx hb dX5_phone_1 rfl (lv_at hl 1 rfl) ?_
  refine lv_iconst (v := 0) hx hb dX5_phone_2 (by decide) ?_
  refine lv_bipush (v := 99) hx hb dX5_phone_3 (by decide) ?_
  refine k_r (va_runS (As := [.int a0, .int 0, .int 99]) (rest := [.ref (ad (7, 0, 0))]) ⟨hx, hb, hml, hown, hts⟩ (mX5_in l a0 0 99) ⟨cb_of hts wk_X5_in wi_X5 wm_X5_84 sd_X5_in rfl rfl ⟨Nat.le_of_ble_eq_true rfl, Nat.le_of_ble_eq_true rfl⟩, hts _ wz_X5_in⟩ (P0.pre hC hS hH) rfl rfl hl.1 rfl (lv_room (Nat.le_of_ble_eq_true rfl)) dX5_phone_5 ⟨Nat.le_of_ble_eq_true rfl, Nat.le_of_ble_eq_true rfl⟩) ?_
  refine W.eq (g2 := F0 m 8 ls [.int (b2 (inB a0 0 99)), .ref (ad (7, 0, 0))]) rfl ?_
  refine lv_if_ne (tgt := 15) hx hb dX5_phone_8 (by decide) (fun c8 => ?_) (fun c8 => ?_)
  · skip
    have c8 := b2_n0.mp c8
    refine lv_aload_n hx hb dX5_phone_15 rfl (lv_at hl 0 rfl) ?_
    refine g5 hx hb hts hown hC hH 19 (by decide) wf_X5_88 (v := .int (M 19 0)) rfl dX5_phone_16 ?_
    refine lv_bipush (v := 12) hx hb dX5_phone_19 (by decide) ?_
    refine lv_icmp_ne (tgt := 28) hx hb dX5_phone_21 (by decide) (fun c21 => ?_) (fun c21 => ?_)
    · skip
      refine lv_iconst (v := 0) hx hb dX5_phone_28 (by decide) ?_
      refine p5 hx hb hts hown hC hH hS 26 (by decide) (by decide) rfl wf_X5_77 rfl rfl dX5_phone_29 (fun H locs (hH : Wo D k b ad g (up M 26 0 0) o H) hS => ?_)
      refine lv_aload_n hx hb dX5_phone_32 rfl (lv_at hl 0 rfl) ?_
      refine g5 hx hb hts hown hC hH 26 (by decide) wf_X5_77 (v := .int 0) rfl dX5_phone_33 ?_
      refine W.eq (g2 := F0 m 36 ls [.int 0]) rfl ?_
      refine lv_if_le (tgt := 41) hx hb dX5_phone_36 (by decide) (fun _ => ?_) (fun c => absurd c (by decide))
      have h5 : pN M < 12 := by
        rcases Nat.lt_or_ge (pN M) 12 with h | h
        · exact h
        · exact absurd (hR.2.2.2.1.trans (by rw [show pN M = 12 by omega]; rfl)) c21
      refine lv_aload_n hx hb dX5_phone_41 rfl (lv_at hl 0 rfl) ?_
      refine g5 hx hb hts hown hC hH 20 (by decide) wf_X5_59 (v := .ref (ad (8, 20, 0))) rfl dX5_phone_42 ?_
      refine lv_aload_n hx hb dX5_phone_45 rfl (lv_at hl 0 rfl) ?_
      refine g5 hx hb hts hown hC hH 19 (by decide) wf_X5_88 (v := .int (M 19 0)) rfl dX5_phone_46 ?_
      refine W.eq (g2 := F0 m 49 ls [.int (nI (pN M)), .ref (ad (8, 20, 0))]) (by rw [hR.2.2.2.1]) ?_
      refine lv_iload_n hx hb dX5_phone_49 rfl (lv_at hl 1 rfl) ?_
      refine rStN hx hb hC hH hS 20 (by decide) (by decide) (i := (pN M)) (show (pN M) < 12 by omega) dX5_phone_50 (fun H locs (hH : Wo D k b ad g (up (up M 26 0 0) 20 (pN M) a0) o H) hS => ?_)
      refine lv_aload_n hx hb dX5_phone_51 rfl (lv_at hl 0 rfl) ?_
      refine g5 hx hb hts hown hC hH 21 (by decide) wf_X5_62 (v := .ref (ad (8, 21, 0))) rfl dX5_phone_52 ?_
      refine lv_aload_n hx hb dX5_phone_55 rfl (lv_at hl 0 rfl) ?_
      refine g5 hx hb hts hown hC hH 19 (by decide) wf_X5_88 (v := .int (M 19 0)) rfl dX5_phone_56 ?_
      refine W.eq (g2 := F0 m 59 ls [.int (nI (pN M)), .ref (ad (8, 21, 0))]) (by rw [hR.2.2.2.1]) ?_
      refine lv_iconst (v := (-1)) hx hb dX5_phone_59 (by decide) ?_
      refine rStN hx hb hC hH hS 21 (by decide) (by decide) (i := (pN M)) (show (pN M) < 12 by omega) dX5_phone_60 (fun H locs (hH : Wo D k b ad g (up (up (up M 26 0 0) 20 (pN M) a0) 21 (pN M) (-1)) o H) hS => ?_)
      refine lv_aload_n hx hb dX5_phone_61 rfl (lv_at hl 0 rfl) ?_
      refine lv_dup hx hb dX5_phone_62 rfl ?_
      refine g5 hx hb hts hown hC hH 19 (by decide) wf_X5_88 (v := .int (M 19 0)) rfl dX5_phone_63 ?_
      refine W.eq (g2 := F0 m 66 ls [.int (M 19 0), .ref (ad (7, 0, 0))]) rfl ?_
      refine lv_iconst (v := 1) hx hb dX5_phone_66 (by decide) ?_
      refine lv_iadd hx hb dX5_phone_67 ?_
      refine p5 hx hb hts hown hC hH hS 19 (by decide) (by decide) rfl wf_X5_88 rfl rfl dX5_phone_68 (fun H locs (hH : Wo D k b ad g (up (up (up (up M 26 0 0) 20 (pN M) a0) 21 (pN M) (-1)) 19 0 ((M 19 0) + 1)) o H) hS => ?_)
      refine lv_aload_n hx hb dX5_phone_71 rfl (lv_at hl 0 rfl) ?_
      refine g5 hx hb hts hown hC hH 19 (by decide) wf_X5_88 (v := .int ((M 19 0) + 1)) rfl dX5_phone_72 ?_
      refine W.eq (g2 := F0 m 75 ls [.int ((M 19 0) + 1)]) rfl ?_
      refine lv_iconst (v := 1) hx hb dX5_phone_75 (by decide) ?_
      refine lv_isub hx hb dX5_phone_76 ?_
      have h8 : rphC M a0 = 0 := by simp [rphC, c8, c21]
      have h9 : rO M (rphC M a0) (rphG (rT M) a0) = up (up (up (up M 26 0 0) 20 (pN M) a0) 21 (pN M) (-1)) 19 0 ((M 19 0) + 1) := (rO_0 h8).trans (rfl)
      exact e_wi hx hb hr hlocks (by unfold vO; rw [if_pos h8]; first | done | rfl) hS (by rw [h9]; exact hH) (Nat.le_refl _) (Nat.le_refl _) dX5_phone_77
    · skip
      refine lv_iconst (v := 2) hx hb dX5_phone_24 (by decide) ?_
      refine lv_goto (tgt := 29) hx hb dX5_phone_25 (by decide) ?_
      refine p5 hx hb hts hown hC hH hS 26 (by decide) (by decide) rfl wf_X5_77 rfl rfl dX5_phone_29 (fun H locs (hH : Wo D k b ad g (up M 26 0 2) o H) hS => ?_)
      refine lv_aload_n hx hb dX5_phone_32 rfl (lv_at hl 0 rfl) ?_
      refine g5 hx hb hts hown hC hH 26 (by decide) wf_X5_77 (v := .int 2) rfl dX5_phone_33 ?_
      refine W.eq (g2 := F0 m 36 ls [.int 2]) rfl ?_
      refine lv_if_le (tgt := 41) hx hb dX5_phone_36 (by decide) (fun c => absurd c (by decide)) (fun _ => ?_)
      refine lv_iconst (v := 0) hx hb dX5_phone_39 (by decide) ?_
      have h8 : rphC M a0 = 2 := by simp [rphC, c8, c21]
      have h9 : rO M (rphC M a0) (rphG (rT M) a0) = up M 26 0 2 := by rw [rO_n (by rw [h8]; decide), h8]; rfl
      exact e_wi hx hb hr hlocks (by unfold vO; rw [if_neg (by rw [h8]; decide)]; first | done | rfl) hS (by rw [h9]; exact hH) (Nat.le_refl _) (Nat.le_refl _) dX5_phone_40
  · skip
    have c8 := b2_0.mp c8
    refine lv_iconst (v := 1) hx hb dX5_phone_11 (by decide) ?_
    refine lv_goto (tgt := 29) hx hb dX5_phone_12 (by decide) ?_
    refine p5 hx hb hts hown hC hH hS 26 (by decide) (by decide) rfl wf_X5_77 rfl rfl dX5_phone_29 (fun H locs (hH : Wo D k b ad g (up M 26 0 1) o H) hS => ?_)
    refine lv_aload_n hx hb dX5_phone_32 rfl (lv_at hl 0 rfl) ?_
    refine g5 hx hb hts hown hC hH 26 (by decide) wf_X5_77 (v := .int 1) rfl dX5_phone_33 ?_
    refine W.eq (g2 := F0 m 36 ls [.int 1]) rfl ?_
    refine lv_if_le (tgt := 41) hx hb dX5_phone_36 (by decide) (fun c => absurd c (by decide)) (fun _ => ?_)
    refine lv_iconst (v := 0) hx hb dX5_phone_39 (by decide) ?_
    have h8 : rphC M a0 = 1 := by simp [rphC, c8]
    have h9 : rO M (rphC M a0) (rphG (rT M) a0) = up M 26 0 1 := by rw [rO_n (by rw [h8]; decide), h8]; rfl
    exact e_wi hx hb hr hlocks (by unfold vO; rw [if_neg (by rw [h8]; decide)]; first | done | rfl) hS (by rw [h9]; exact hH) (Nat.le_refl _) (Nat.le_refl _) dX5_phone_40

set_option maxHeartbeats 4000000 in
set_option maxRecDepth 100000 in
theorem mX5_lease (l : Launch) {D : va_G} {k : Nat → ClassId} {b : Nat} {ad : Tg → Nat} {g : XS} {M : MF} {o : OF} (hR : RI M) (a0 a1 a2 a3 a4 a5 a6 : Int32) (i : Nat) (hq : isMB M a0 = true → i < mN M ∧ a0 = nI i) : Met l yX5_lease (WS yX5_lease cX5_lease 10 none) ({ frames := 2, cells := 0, slots := 0, locals := 43 }) (P0 D k b (Wo D k b ad g M o) [.ref (ad (7, 0, 0)), .int a0, .int a1, .int a2, .int a3, .int a4, .int a5, .int a6]) (Qw b none (Wo D k b ad g (rO M (rlC M a0 a1 a2 a3 a4 a5 a6) (rlG (rT M) i a1 a2 a3 a4 a5 a6)) o)) 0 0 (Fb b) := by
  refine Met0 (by decide +kernel) (Nat.le_of_ble_eq_true rfl) (fun p e s m below meth c ls hx hb hr hts hown hml hlocks hnm hC hH hl => ?_)
  have hS : va_S (Fb b) s.heap s.heap [] := va_S.rf
  have hl : lv_has ls 10 [(0, .ref (ad (7, 0, 0))), (1, .int a0), (2, .int a1), (3, .int a2), (4, .int a3), (5, .int a4), (6, .int a5), (7, .int a6)] := hl
  have h8 := hR.1
  have h12 := hR.2.2.1
  refine lv_aload_n hx hb dX5_lease_0 rfl (lv_at hl 0 rfl) ?_
  refine lv_iload_n hx hb dX5_lease_1 rfl (lv_at hl 1 rfl) ?_
  refine k_r (va_runV (As := [.int a0]) (rest := []) ⟨hx, hb, hml, hown, hts⟩ (mX5_isMast l (M := M) a0) ⟨cb_of hts wk_X5_isMast wi_X5 wm_X5_99 sd_X5_isMast rfl rfl ⟨Nat.le_of_ble_eq_true rfl, Nat.le_of_ble_eq_true rfl⟩, hts _ wv_X5_isMast, hts _ wl_X5_isMast⟩ (P0.preV hC hS hH (Hp.recv hC.1 hH (7, 0, 0) ⟨rfl, rfl⟩ rfl rfl)) rfl rfl hl.1 rfl (lv_room (Nat.le_of_ble_eq_true rfl)) dX5_lease_2 ⟨Nat.le_of_ble_eq_true rfl, Nat.le_of_ble_eq_true rfl⟩) ?_
  refine W.eq (g2 := F0 m 5 ls [.int (b2 (isMB M a0))]) rfl ?_
  refine lv_if_eq (tgt := 31) hx hb dX5_lease_5 (by decide) (fun c5 => ?_) (fun c5 => ?_)
  · skip
    have c5 := b2_0.mp c5
    refine lv_iconst (v := 0) hx hb dX5_lease_31 (by decide) ?_
    refine lv_istore (lv' := [(8, .int 0), (0, .ref (ad (7, 0, 0))), (1, .int a0), (2, .int a1), (3, .int a2), (4, .int a3), (5, .int a4), (6, .int a5), (7, .int a6)]) hx hb dX5_lease_32 hl (by decide) rfl (fun ls hl => ?_)
    refine lv_iload_n hx hb dX5_lease_34 rfl (lv_at hl 3 rfl) ?_
    refine lv_iload_n hx hb dX5_lease_35 rfl (lv_at hl 4 rfl) ?_
    refine lv_icmp_eq (tgt := 104) hx hb dX5_lease_36 (by decide) (fun c36 => ?_) (fun c36 => ?_)
    · skip
      refine lv_iconst (v := 0) hx hb dX5_lease_104 (by decide) ?_
      refine lv_istore (lv' := [(9, .int 0), (8, .int 0), (0, .ref (ad (7, 0, 0))), (1, .int a0), (2, .int a1), (3, .int a2), (4, .int a3), (5, .int a4), (6, .int a5), (7, .int a6)]) hx hb dX5_lease_105 hl (by decide) rfl (fun ls hl => ?_)
      refine lv_aload_n hx hb dX5_lease_107 rfl (lv_at hl 2 rfl) ?_
      refine lv_iload hx hb dX5_lease_108 (lv_at hl 1 rfl) ?_
      refine lv_if_ne (tgt := 117) hx hb dX5_lease_110 (by decide) (fun c => absurd c (by decide)) (fun _ => ?_)
      refine lv_iconst (v := 1) hx hb dX5_lease_113 (by decide) ?_
      refine lv_goto (tgt := 139) hx hb dX5_lease_114 (by decide) ?_
      refine p5 hx hb hts hown hC hH hS 26 (by decide) (by decide) rfl wf_X5_77 rfl rfl dX5_lease_139 (fun H locs (hH : Wo D k b ad g (up M 26 0 1) o H) hS => ?_)
      refine lv_aload_n hx hb dX5_lease_142 rfl (lv_at hl 2 rfl) ?_
      refine g5 hx hb hts hown hC hH 26 (by decide) wf_X5_77 (v := .int 1) rfl dX5_lease_143 ?_
      refine W.eq (g2 := F0 m 146 ls [.int 1]) rfl ?_
      refine lv_if_ne (tgt := 195) hx hb dX5_lease_146 (by decide) (fun _ => ?_) (fun c => absurd c (by decide))
      have h8 : rlC M a0 a1 a2 a3 a4 a5 a6 = 1 := by first | (simp [rlC, c5, c36]; done) | (subst c36; simp [rlC, c5]; done) | (unfold rlC; rw [if_neg (by simp [c5]), if_pos (by simp [c36])])
      have h9 : rO M (rlC M a0 a1 a2 a3 a4 a5 a6) (rlG (rT M) i a1 a2 a3 a4 a5 a6) = up M 26 0 1 := by rw [rO_n (by rw [h8]; decide), h8]; rfl
      exact e_wv hx hb hr hlocks hS (by rw [h9]; exact hH) (Nat.le_refl _) (Nat.le_refl _) dX5_lease_195
    · skip
      refine lv_iload hx hb dX5_lease_39 (lv_at hl 5 rfl) ?_
      refine lv_iload_n hx hb dX5_lease_41 rfl (lv_at hl 4 rfl) ?_
      refine lv_iconst (v := (-1)) hx hb dX5_lease_42 (by decide) ?_
      refine lv_icmp_ne (tgt := 51) hx hb dX5_lease_43 (by decide) (fun c43 => ?_) (fun c43 => ?_)
      · skip
        refine lv_iconst (v := 0) hx hb dX5_lease_51 (by decide) ?_
        refine lv_bipush (v := 10) hx hb dX5_lease_52 (by decide) ?_
        refine k_r (va_runS (As := [.int a3, .int 0, .int 10]) (rest := []) ⟨hx, hb, hml, hown, hts⟩ (mX5_in l a3 0 10) ⟨cb_of hts wk_X5_in wi_X5 wm_X5_84 sd_X5_in rfl rfl ⟨Nat.le_of_ble_eq_true rfl, Nat.le_of_ble_eq_true rfl⟩, hts _ wz_X5_in⟩ (P0.pre hC hS hH) rfl rfl hl.1 rfl (lv_room (Nat.le_of_ble_eq_true rfl)) dX5_lease_54 ⟨Nat.le_of_ble_eq_true rfl, Nat.le_of_ble_eq_true rfl⟩) ?_
        refine W.eq (g2 := F0 m 57 ls [.int (b2 (inB a3 0 10))]) rfl ?_
        refine lv_if_eq (tgt := 104) hx hb dX5_lease_57 (by decide) (fun c57 => ?_) (fun c57 => ?_)
        · skip
          have c57 := b2_0.mp c57
          refine lv_iconst (v := 0) hx hb dX5_lease_104 (by decide) ?_
          refine lv_istore (lv' := [(9, .int 0), (8, .int 0), (0, .ref (ad (7, 0, 0))), (1, .int a0), (2, .int a1), (3, .int a2), (4, .int a3), (5, .int a4), (6, .int a5), (7, .int a6)]) hx hb dX5_lease_105 hl (by decide) rfl (fun ls hl => ?_)
          refine lv_aload_n hx hb dX5_lease_107 rfl (lv_at hl 2 rfl) ?_
          refine lv_iload hx hb dX5_lease_108 (lv_at hl 1 rfl) ?_
          refine lv_if_ne (tgt := 117) hx hb dX5_lease_110 (by decide) (fun c => absurd c (by decide)) (fun _ => ?_)
          refine lv_iconst (v := 1) hx hb dX5_lease_113 (by decide) ?_
          refine lv_goto (tgt := 139) hx hb dX5_lease_114 (by decide) ?_
          refine p5 hx hb hts hown hC hH hS 26 (by decide) (by decide) rfl wf_X5_77 rfl rfl dX5_lease_139 (fun H locs (hH : Wo D k b ad g (up M 26 0 1) o H) hS => ?_)
          refine lv_aload_n hx hb dX5_lease_142 rfl (lv_at hl 2 rfl) ?_
          refine g5 hx hb hts hown hC hH 26 (by decide) wf_X5_77 (v := .int 1) rfl dX5_lease_143 ?_
          refine W.eq (g2 := F0 m 146 ls [.int 1]) rfl ?_
          refine lv_if_ne (tgt := 195) hx hb dX5_lease_146 (by decide) (fun _ => ?_) (fun c => absurd c (by decide))
          have h8 : rlC M a0 a1 a2 a3 a4 a5 a6 = 1 := by first | (simp [rlC, c5, c36, c43, c57]; done) | (subst c43; simp [rlC, c5, c36, c57]; done) | (subst c36; simp [rlC, c5, c43, c57]; done) | (unfold rlC; rw [if_neg (by simp [c5, c43, c57]), if_pos (by simp [c36])])
          have h9 : rO M (rlC M a0 a1 a2 a3 a4 a5 a6) (rlG (rT M) i a1 a2 a3 a4 a5 a6) = up M 26 0 1 := by rw [rO_n (by rw [h8]; decide), h8]; rfl
          exact e_wv hx hb hr hlocks hS (by rw [h9]; exact hH) (Nat.le_refl _) (Nat.le_refl _) dX5_lease_195
        · skip
          have c57 := b2_n0.mp c57
          refine lv_iload hx hb dX5_lease_60 (lv_at hl 6 rfl) ?_
          refine lv_aload_n hx hb dX5_lease_62 rfl (lv_at hl 1 rfl) ?_
          refine g5 hx hb hts hown hC hH 0 (by decide) wf_X5_105 (v := .int (M 0 0)) rfl dX5_lease_63 ?_
          refine lv_iconst (v := 1) hx hb dX5_lease_66 (by decide) ?_
          refine lv_iadd hx hb dX5_lease_67 ?_
          refine lv_sipush (v := 10000) hx hb dX5_lease_68 (by decide) ?_
          refine k_r (va_runS (As := [.int a4, .int ((M 0 0) + 1), .int 10000]) (rest := []) ⟨hx, hb, hml, hown, hts⟩ (mX5_in l a4 ((M 0 0) + 1) 10000) ⟨cb_of hts wk_X5_in wi_X5 wm_X5_84 sd_X5_in rfl rfl ⟨Nat.le_of_ble_eq_true rfl, Nat.le_of_ble_eq_true rfl⟩, hts _ wz_X5_in⟩ (P0.pre hC hS hH) rfl rfl hl.1 rfl (lv_room (Nat.le_of_ble_eq_true rfl)) dX5_lease_71 ⟨Nat.le_of_ble_eq_true rfl, Nat.le_of_ble_eq_true rfl⟩) ?_
          refine W.eq (g2 := F0 m 74 ls [.int (b2 (inB a4 ((M 0 0) + 1) 10000))]) rfl ?_
          refine lv_if_eq (tgt := 104) hx hb dX5_lease_74 (by decide) (fun c74 => ?_) (fun c74 => ?_)
          · skip
            have c74 := b2_0.mp c74
            refine lv_iconst (v := 0) hx hb dX5_lease_104 (by decide) ?_
            refine lv_istore (lv' := [(9, .int 0), (8, .int 0), (0, .ref (ad (7, 0, 0))), (1, .int a0), (2, .int a1), (3, .int a2), (4, .int a3), (5, .int a4), (6, .int a5), (7, .int a6)]) hx hb dX5_lease_105 hl (by decide) rfl (fun ls hl => ?_)
            refine lv_aload_n hx hb dX5_lease_107 rfl (lv_at hl 2 rfl) ?_
            refine lv_iload hx hb dX5_lease_108 (lv_at hl 1 rfl) ?_
            refine lv_if_ne (tgt := 117) hx hb dX5_lease_110 (by decide) (fun c => absurd c (by decide)) (fun _ => ?_)
            refine lv_iconst (v := 1) hx hb dX5_lease_113 (by decide) ?_
            refine lv_goto (tgt := 139) hx hb dX5_lease_114 (by decide) ?_
            refine p5 hx hb hts hown hC hH hS 26 (by decide) (by decide) rfl wf_X5_77 rfl rfl dX5_lease_139 (fun H locs (hH : Wo D k b ad g (up M 26 0 1) o H) hS => ?_)
            refine lv_aload_n hx hb dX5_lease_142 rfl (lv_at hl 2 rfl) ?_
            refine g5 hx hb hts hown hC hH 26 (by decide) wf_X5_77 (v := .int 1) rfl dX5_lease_143 ?_
            refine W.eq (g2 := F0 m 146 ls [.int 1]) rfl ?_
            refine lv_if_ne (tgt := 195) hx hb dX5_lease_146 (by decide) (fun _ => ?_) (fun c => absurd c (by decide))
            have h8 : rlC M a0 a1 a2 a3 a4 a5 a6 = 1 := by first | (simp [rlC, c5, c36, c43, c57, c74]; done) | (subst c43; simp [rlC, c5, c36, c57, c74]; done) | (subst c36; simp [rlC, c5, c43, c57, c74]; done) | (unfold rlC; rw [if_neg (by simp [c5, c43, c57, c74]), if_pos (by simp [c36])])
            have h9 : rO M (rlC M a0 a1 a2 a3 a4 a5 a6) (rlG (rT M) i a1 a2 a3 a4 a5 a6) = up M 26 0 1 := by rw [rO_n (by rw [h8]; decide), h8]; rfl
            exact e_wv hx hb hr hlocks hS (by rw [h9]; exact hH) (Nat.le_refl _) (Nat.le_refl _) dX5_lease_195
          · skip
            have c74 := b2_n0.mp c74
            refine lv_iload hx hb dX5_lease_77 (lv_at hl 7 rfl) ?_
            refine lv_iconst (v := 0) hx hb dX5_lease_79 (by decide) ?_
            refine lv_sipush (v := 1000) hx hb dX5_lease_80 (by decide) ?_
            refine k_r (va_runS (As := [.int a5, .int 0, .int 1000]) (rest := []) ⟨hx, hb, hml, hown, hts⟩ (mX5_in l a5 0 1000) ⟨cb_of hts wk_X5_in wi_X5 wm_X5_84 sd_X5_in rfl rfl ⟨Nat.le_of_ble_eq_true rfl, Nat.le_of_ble_eq_true rfl⟩, hts _ wz_X5_in⟩ (P0.pre hC hS hH) rfl rfl hl.1 rfl (lv_room (Nat.le_of_ble_eq_true rfl)) dX5_lease_83 ⟨Nat.le_of_ble_eq_true rfl, Nat.le_of_ble_eq_true rfl⟩) ?_
            refine W.eq (g2 := F0 m 86 ls [.int (b2 (inB a5 0 1000))]) rfl ?_
            refine lv_if_eq (tgt := 104) hx hb dX5_lease_86 (by decide) (fun c86 => ?_) (fun c86 => ?_)
            · skip
              have c86 := b2_0.mp c86
              refine lv_iconst (v := 0) hx hb dX5_lease_104 (by decide) ?_
              refine lv_istore (lv' := [(9, .int 0), (8, .int 0), (0, .ref (ad (7, 0, 0))), (1, .int a0), (2, .int a1), (3, .int a2), (4, .int a3), (5, .int a4), (6, .int a5), (7, .int a6)]) hx hb dX5_lease_105 hl (by decide) rfl (fun ls hl => ?_)
              refine lv_aload_n hx hb dX5_lease_107 rfl (lv_at hl 2 rfl) ?_
              refine lv_iload hx hb dX5_lease_108 (lv_at hl 1 rfl) ?_
              refine lv_if_ne (tgt := 117) hx hb dX5_lease_110 (by decide) (fun c => absurd c (by decide)) (fun _ => ?_)
              refine lv_iconst (v := 1) hx hb dX5_lease_113 (by decide) ?_
              refine lv_goto (tgt := 139) hx hb dX5_lease_114 (by decide) ?_
              refine p5 hx hb hts hown hC hH hS 26 (by decide) (by decide) rfl wf_X5_77 rfl rfl dX5_lease_139 (fun H locs (hH : Wo D k b ad g (up M 26 0 1) o H) hS => ?_)
              refine lv_aload_n hx hb dX5_lease_142 rfl (lv_at hl 2 rfl) ?_
              refine g5 hx hb hts hown hC hH 26 (by decide) wf_X5_77 (v := .int 1) rfl dX5_lease_143 ?_
              refine W.eq (g2 := F0 m 146 ls [.int 1]) rfl ?_
              refine lv_if_ne (tgt := 195) hx hb dX5_lease_146 (by decide) (fun _ => ?_) (fun c => absurd c (by decide))
              have h8 : rlC M a0 a1 a2 a3 a4 a5 a6 = 1 := by first | (simp [rlC, c5, c36, c43, c57, c74, c86]; done) | (subst c43; simp [rlC, c5, c36, c57, c74, c86]; done) | (subst c36; simp [rlC, c5, c43, c57, c74, c86]; done) | (unfold rlC; rw [if_neg (by simp [c5, c43, c57, c74, c86]), if_pos (by simp [c36])])
              have h9 : rO M (rlC M a0 a1 a2 a3 a4 a5 a6) (rlG (rT M) i a1 a2 a3 a4 a5 a6) = up M 26 0 1 := by rw [rO_n (by rw [h8]; decide), h8]; rfl
              exact e_wv hx hb hr hlocks hS (by rw [h9]; exact hH) (Nat.le_refl _) (Nat.le_refl _) dX5_lease_195
            · skip
              have c86 := b2_n0.mp c86
              refine lv_iload hx hb dX5_lease_89 (lv_at hl 8 rfl) ?_
              refine lv_iconst (v := 0) hx hb dX5_lease_91 (by decide) ?_
              refine lv_bipush (v := 100) hx hb dX5_lease_92 (by decide) ?_
              refine k_r (va_runS (As := [.int a6, .int 0, .int 100]) (rest := []) ⟨hx, hb, hml, hown, hts⟩ (mX5_in l a6 0 100) ⟨cb_of hts wk_X5_in wi_X5 wm_X5_84 sd_X5_in rfl rfl ⟨Nat.le_of_ble_eq_true rfl, Nat.le_of_ble_eq_true rfl⟩, hts _ wz_X5_in⟩ (P0.pre hC hS hH) rfl rfl hl.1 rfl (lv_room (Nat.le_of_ble_eq_true rfl)) dX5_lease_94 ⟨Nat.le_of_ble_eq_true rfl, Nat.le_of_ble_eq_true rfl⟩) ?_
              refine W.eq (g2 := F0 m 97 ls [.int (b2 (inB a6 0 100))]) rfl ?_
              refine lv_if_eq (tgt := 104) hx hb dX5_lease_97 (by decide) (fun c97 => ?_) (fun c97 => ?_)
              · skip
                have c97 := b2_0.mp c97
                refine lv_iconst (v := 0) hx hb dX5_lease_104 (by decide) ?_
                refine lv_istore (lv' := [(9, .int 0), (8, .int 0), (0, .ref (ad (7, 0, 0))), (1, .int a0), (2, .int a1), (3, .int a2), (4, .int a3), (5, .int a4), (6, .int a5), (7, .int a6)]) hx hb dX5_lease_105 hl (by decide) rfl (fun ls hl => ?_)
                refine lv_aload_n hx hb dX5_lease_107 rfl (lv_at hl 2 rfl) ?_
                refine lv_iload hx hb dX5_lease_108 (lv_at hl 1 rfl) ?_
                refine lv_if_ne (tgt := 117) hx hb dX5_lease_110 (by decide) (fun c => absurd c (by decide)) (fun _ => ?_)
                refine lv_iconst (v := 1) hx hb dX5_lease_113 (by decide) ?_
                refine lv_goto (tgt := 139) hx hb dX5_lease_114 (by decide) ?_
                refine p5 hx hb hts hown hC hH hS 26 (by decide) (by decide) rfl wf_X5_77 rfl rfl dX5_lease_139 (fun H locs (hH : Wo D k b ad g (up M 26 0 1) o H) hS => ?_)
                refine lv_aload_n hx hb dX5_lease_142 rfl (lv_at hl 2 rfl) ?_
                refine g5 hx hb hts hown hC hH 26 (by decide) wf_X5_77 (v := .int 1) rfl dX5_lease_143 ?_
                refine W.eq (g2 := F0 m 146 ls [.int 1]) rfl ?_
                refine lv_if_ne (tgt := 195) hx hb dX5_lease_146 (by decide) (fun _ => ?_) (fun c => absurd c (by decide))
                have h8 : rlC M a0 a1 a2 a3 a4 a5 a6 = 1 := by first | (simp [rlC, c5, c36, c43, c57, c74, c86, c97]; done) | (subst c43; simp [rlC, c5, c36, c57, c74, c86, c97]; done) | (subst c36; simp [rlC, c5, c43, c57, c74, c86, c97]; done) | (unfold rlC; rw [if_neg (by simp [c5, c43, c57, c74, c86, c97]), if_pos (by simp [c36])])
                have h9 : rO M (rlC M a0 a1 a2 a3 a4 a5 a6) (rlG (rT M) i a1 a2 a3 a4 a5 a6) = up M 26 0 1 := by rw [rO_n (by rw [h8]; decide), h8]; rfl
                exact e_wv hx hb hr hlocks hS (by rw [h9]; exact hH) (Nat.le_refl _) (Nat.le_refl _) dX5_lease_195
              · skip
                have c97 := b2_n0.mp c97
                refine lv_iconst (v := 1) hx hb dX5_lease_100 (by decide) ?_
                refine lv_goto (tgt := 105) hx hb dX5_lease_101 (by decide) ?_
                refine lv_istore (lv' := [(9, .int 1), (8, .int 0), (0, .ref (ad (7, 0, 0))), (1, .int a0), (2, .int a1), (3, .int a2), (4, .int a3), (5, .int a4), (6, .int a5), (7, .int a6)]) hx hb dX5_lease_105 hl (by decide) rfl (fun ls hl => ?_)
                refine lv_aload_n hx hb dX5_lease_107 rfl (lv_at hl 2 rfl) ?_
                refine lv_iload hx hb dX5_lease_108 (lv_at hl 1 rfl) ?_
                refine lv_if_ne (tgt := 117) hx hb dX5_lease_110 (by decide) (fun c => absurd c (by decide)) (fun _ => ?_)
                refine lv_iconst (v := 1) hx hb dX5_lease_113 (by decide) ?_
                refine lv_goto (tgt := 139) hx hb dX5_lease_114 (by decide) ?_
                refine p5 hx hb hts hown hC hH hS 26 (by decide) (by decide) rfl wf_X5_77 rfl rfl dX5_lease_139 (fun H locs (hH : Wo D k b ad g (up M 26 0 1) o H) hS => ?_)
                refine lv_aload_n hx hb dX5_lease_142 rfl (lv_at hl 2 rfl) ?_
                refine g5 hx hb hts hown hC hH 26 (by decide) wf_X5_77 (v := .int 1) rfl dX5_lease_143 ?_
                refine W.eq (g2 := F0 m 146 ls [.int 1]) rfl ?_
                refine lv_if_ne (tgt := 195) hx hb dX5_lease_146 (by decide) (fun _ => ?_) (fun c => absurd c (by decide))
                have h8 : rlC M a0 a1 a2 a3 a4 a5 a6 = 1 := by first | (simp [rlC, c5, c36, c43, c57, c74, c86, c97]; done) | (subst c43; simp [rlC, c5, c36, c57, c74, c86, c97]; done) | (subst c36; simp [rlC, c5, c43, c57, c74, c86, c97]; done) | (unfold rlC; rw [if_neg (by simp [c5, c43, c57, c74, c86, c97]), if_pos (by simp [c36])])
                have h9 : rO M (rlC M a0 a1 a2 a3 a4 a5 a6) (rlG (rT M) i a1 a2 a3 a4 a5 a6) = up M 26 0 1 := by rw [rO_n (by rw [h8]; decide), h8]; rfl
                exact e_wv hx hb hr hlocks hS (by rw [h9]; exact hH) (Nat.le_refl _) (Nat.le_refl _) dX5_lease_195
      · skip
        refine lv_bipush (v := 10) hx hb dX5_lease_46 (by decide) ?_
        refine lv_goto (tgt := 52) hx hb dX5_lease_48 (by decide) ?_
        refine lv_bipush (v := 10) hx hb dX5_lease_52 (by decide) ?_
        refine k_r (va_runS (As := [.int a3, .int 10, .int 10]) (rest := []) ⟨hx, hb, hml, hown, hts⟩ (mX5_in l a3 10 10) ⟨cb_of hts wk_X5_in wi_X5 wm_X5_84 sd_X5_in rfl rfl ⟨Nat.le_of_ble_eq_true rfl, Nat.le_of_ble_eq_true rfl⟩, hts _ wz_X5_in⟩ (P0.pre hC hS hH) rfl rfl hl.1 rfl (lv_room (Nat.le_of_ble_eq_true rfl)) dX5_lease_54 ⟨Nat.le_of_ble_eq_true rfl, Nat.le_of_ble_eq_true rfl⟩) ?_
        refine W.eq (g2 := F0 m 57 ls [.int (b2 (inB a3 10 10))]) rfl ?_
        refine lv_if_eq (tgt := 104) hx hb dX5_lease_57 (by decide) (fun c57 => ?_) (fun c57 => ?_)
        · skip
          have c57 := b2_0.mp c57
          refine lv_iconst (v := 0) hx hb dX5_lease_104 (by decide) ?_
          refine lv_istore (lv' := [(9, .int 0), (8, .int 0), (0, .ref (ad (7, 0, 0))), (1, .int a0), (2, .int a1), (3, .int a2), (4, .int a3), (5, .int a4), (6, .int a5), (7, .int a6)]) hx hb dX5_lease_105 hl (by decide) rfl (fun ls hl => ?_)
          refine lv_aload_n hx hb dX5_lease_107 rfl (lv_at hl 2 rfl) ?_
          refine lv_iload hx hb dX5_lease_108 (lv_at hl 1 rfl) ?_
          refine lv_if_ne (tgt := 117) hx hb dX5_lease_110 (by decide) (fun c => absurd c (by decide)) (fun _ => ?_)
          refine lv_iconst (v := 1) hx hb dX5_lease_113 (by decide) ?_
          refine lv_goto (tgt := 139) hx hb dX5_lease_114 (by decide) ?_
          refine p5 hx hb hts hown hC hH hS 26 (by decide) (by decide) rfl wf_X5_77 rfl rfl dX5_lease_139 (fun H locs (hH : Wo D k b ad g (up M 26 0 1) o H) hS => ?_)
          refine lv_aload_n hx hb dX5_lease_142 rfl (lv_at hl 2 rfl) ?_
          refine g5 hx hb hts hown hC hH 26 (by decide) wf_X5_77 (v := .int 1) rfl dX5_lease_143 ?_
          refine W.eq (g2 := F0 m 146 ls [.int 1]) rfl ?_
          refine lv_if_ne (tgt := 195) hx hb dX5_lease_146 (by decide) (fun _ => ?_) (fun c => absurd c (by decide))
          have h8 : rlC M a0 a1 a2 a3 a4 a5 a6 = 1 := by first | (simp [rlC, c5, c36, c43, c57]; done) | (subst c43; simp [rlC, c5, c36, c57]; done) | (subst c36; simp [rlC, c5, c43, c57]; done) | (unfold rlC; rw [if_neg (by simp [c5, c43, c57]), if_pos (by simp [c36])])
          have h9 : rO M (rlC M a0 a1 a2 a3 a4 a5 a6) (rlG (rT M) i a1 a2 a3 a4 a5 a6) = up M 26 0 1 := by rw [rO_n (by rw [h8]; decide), h8]; rfl
          exact e_wv hx hb hr hlocks hS (by rw [h9]; exact hH) (Nat.le_refl _) (Nat.le_refl _) dX5_lease_195
        · skip
          have c57 := b2_n0.mp c57
          refine lv_iload hx hb dX5_lease_60 (lv_at hl 6 rfl) ?_
          refine lv_aload_n hx hb dX5_lease_62 rfl (lv_at hl 1 rfl) ?_
          refine g5 hx hb hts hown hC hH 0 (by decide) wf_X5_105 (v := .int (M 0 0)) rfl dX5_lease_63 ?_
          refine lv_iconst (v := 1) hx hb dX5_lease_66 (by decide) ?_
          refine lv_iadd hx hb dX5_lease_67 ?_
          refine lv_sipush (v := 10000) hx hb dX5_lease_68 (by decide) ?_
          refine k_r (va_runS (As := [.int a4, .int ((M 0 0) + 1), .int 10000]) (rest := []) ⟨hx, hb, hml, hown, hts⟩ (mX5_in l a4 ((M 0 0) + 1) 10000) ⟨cb_of hts wk_X5_in wi_X5 wm_X5_84 sd_X5_in rfl rfl ⟨Nat.le_of_ble_eq_true rfl, Nat.le_of_ble_eq_true rfl⟩, hts _ wz_X5_in⟩ (P0.pre hC hS hH) rfl rfl hl.1 rfl (lv_room (Nat.le_of_ble_eq_true rfl)) dX5_lease_71 ⟨Nat.le_of_ble_eq_true rfl, Nat.le_of_ble_eq_true rfl⟩) ?_
          refine W.eq (g2 := F0 m 74 ls [.int (b2 (inB a4 ((M 0 0) + 1) 10000))]) rfl ?_
          refine lv_if_eq (tgt := 104) hx hb dX5_lease_74 (by decide) (fun c74 => ?_) (fun c74 => ?_)
          · skip
            have c74 := b2_0.mp c74
            refine lv_iconst (v := 0) hx hb dX5_lease_104 (by decide) ?_
            refine lv_istore (lv' := [(9, .int 0), (8, .int 0), (0, .ref (ad (7, 0, 0))), (1, .int a0), (2, .int a1), (3, .int a2), (4, .int a3), (5, .int a4), (6, .int a5), (7, .int a6)]) hx hb dX5_lease_105 hl (by decide) rfl (fun ls hl => ?_)
            refine lv_aload_n hx hb dX5_lease_107 rfl (lv_at hl 2 rfl) ?_
            refine lv_iload hx hb dX5_lease_108 (lv_at hl 1 rfl) ?_
            refine lv_if_ne (tgt := 117) hx hb dX5_lease_110 (by decide) (fun c => absurd c (by decide)) (fun _ => ?_)
            refine lv_iconst (v := 1) hx hb dX5_lease_113 (by decide) ?_
            refine lv_goto (tgt := 139) hx hb dX5_lease_114 (by decide) ?_
            refine p5 hx hb hts hown hC hH hS 26 (by decide) (by decide) rfl wf_X5_77 rfl rfl dX5_lease_139 (fun H locs (hH : Wo D k b ad g (up M 26 0 1) o H) hS => ?_)
            refine lv_aload_n hx hb dX5_lease_142 rfl (lv_at hl 2 rfl) ?_
            refine g5 hx hb hts hown hC hH 26 (by decide) wf_X5_77 (v := .int 1) rfl dX5_lease_143 ?_
            refine W.eq (g2 := F0 m 146 ls [.int 1]) rfl ?_
            refine lv_if_ne (tgt := 195) hx hb dX5_lease_146 (by decide) (fun _ => ?_) (fun c => absurd c (by decide))
            have h8 : rlC M a0 a1 a2 a3 a4 a5 a6 = 1 := by first | (simp [rlC, c5, c36, c43, c57, c74]; done) | (subst c43; simp [rlC, c5, c36, c57, c74]; done) | (subst c36; simp [rlC, c5, c43, c57, c74]; done) | (unfold rlC; rw [if_neg (by simp [c5, c43, c57, c74]), if_pos (by simp [c36])])
            have h9 : rO M (rlC M a0 a1 a2 a3 a4 a5 a6) (rlG (rT M) i a1 a2 a3 a4 a5 a6) = up M 26 0 1 := by rw [rO_n (by rw [h8]; decide), h8]; rfl
            exact e_wv hx hb hr hlocks hS (by rw [h9]; exact hH) (Nat.le_refl _) (Nat.le_refl _) dX5_lease_195
          · skip
            have c74 := b2_n0.mp c74
            refine lv_iload hx hb dX5_lease_77 (lv_at hl 7 rfl) ?_
            refine lv_iconst (v := 0) hx hb dX5_lease_79 (by decide) ?_
            refine lv_sipush (v := 1000) hx hb dX5_lease_80 (by decide) ?_
            refine k_r (va_runS (As := [.int a5, .int 0, .int 1000]) (rest := []) ⟨hx, hb, hml, hown, hts⟩ (mX5_in l a5 0 1000) ⟨cb_of hts wk_X5_in wi_X5 wm_X5_84 sd_X5_in rfl rfl ⟨Nat.le_of_ble_eq_true rfl, Nat.le_of_ble_eq_true rfl⟩, hts _ wz_X5_in⟩ (P0.pre hC hS hH) rfl rfl hl.1 rfl (lv_room (Nat.le_of_ble_eq_true rfl)) dX5_lease_83 ⟨Nat.le_of_ble_eq_true rfl, Nat.le_of_ble_eq_true rfl⟩) ?_
            refine W.eq (g2 := F0 m 86 ls [.int (b2 (inB a5 0 1000))]) rfl ?_
            refine lv_if_eq (tgt := 104) hx hb dX5_lease_86 (by decide) (fun c86 => ?_) (fun c86 => ?_)
            · skip
              have c86 := b2_0.mp c86
              refine lv_iconst (v := 0) hx hb dX5_lease_104 (by decide) ?_
              refine lv_istore (lv' := [(9, .int 0), (8, .int 0), (0, .ref (ad (7, 0, 0))), (1, .int a0), (2, .int a1), (3, .int a2), (4, .int a3), (5, .int a4), (6, .int a5), (7, .int a6)]) hx hb dX5_lease_105 hl (by decide) rfl (fun ls hl => ?_)
              refine lv_aload_n hx hb dX5_lease_107 rfl (lv_at hl 2 rfl) ?_
              refine lv_iload hx hb dX5_lease_108 (lv_at hl 1 rfl) ?_
              refine lv_if_ne (tgt := 117) hx hb dX5_lease_110 (by decide) (fun c => absurd c (by decide)) (fun _ => ?_)
              refine lv_iconst (v := 1) hx hb dX5_lease_113 (by decide) ?_
              refine lv_goto (tgt := 139) hx hb dX5_lease_114 (by decide) ?_
              refine p5 hx hb hts hown hC hH hS 26 (by decide) (by decide) rfl wf_X5_77 rfl rfl dX5_lease_139 (fun H locs (hH : Wo D k b ad g (up M 26 0 1) o H) hS => ?_)
              refine lv_aload_n hx hb dX5_lease_142 rfl (lv_at hl 2 rfl) ?_
              refine g5 hx hb hts hown hC hH 26 (by decide) wf_X5_77 (v := .int 1) rfl dX5_lease_143 ?_
              refine W.eq (g2 := F0 m 146 ls [.int 1]) rfl ?_
              refine lv_if_ne (tgt := 195) hx hb dX5_lease_146 (by decide) (fun _ => ?_) (fun c => absurd c (by decide))
              have h8 : rlC M a0 a1 a2 a3 a4 a5 a6 = 1 := by first | (simp [rlC, c5, c36, c43, c57, c74, c86]; done) | (subst c43; simp [rlC, c5, c36, c57, c74, c86]; done) | (subst c36; simp [rlC, c5, c43, c57, c74, c86]; done) | (unfold rlC; rw [if_neg (by simp [c5, c43, c57, c74, c86]), if_pos (by simp [c36])])
              have h9 : rO M (rlC M a0 a1 a2 a3 a4 a5 a6) (rlG (rT M) i a1 a2 a3 a4 a5 a6) = up M 26 0 1 := by rw [rO_n (by rw [h8]; decide), h8]; rfl
              exact e_wv hx hb hr hlocks hS (by rw [h9]; exact hH) (Nat.le_refl _) (Nat.le_refl _) dX5_lease_195
            · skip
              have c86 := b2_n0.mp c86
              refine lv_iload hx hb dX5_lease_89 (lv_at hl 8 rfl) ?_
              refine lv_iconst (v := 0) hx hb dX5_lease_91 (by decide) ?_
              refine lv_bipush (v := 100) hx hb dX5_lease_92 (by decide) ?_
              refine k_r (va_runS (As := [.int a6, .int 0, .int 100]) (rest := []) ⟨hx, hb, hml, hown, hts⟩ (mX5_in l a6 0 100) ⟨cb_of hts wk_X5_in wi_X5 wm_X5_84 sd_X5_in rfl rfl ⟨Nat.le_of_ble_eq_true rfl, Nat.le_of_ble_eq_true rfl⟩, hts _ wz_X5_in⟩ (P0.pre hC hS hH) rfl rfl hl.1 rfl (lv_room (Nat.le_of_ble_eq_true rfl)) dX5_lease_94 ⟨Nat.le_of_ble_eq_true rfl, Nat.le_of_ble_eq_true rfl⟩) ?_
              refine W.eq (g2 := F0 m 97 ls [.int (b2 (inB a6 0 100))]) rfl ?_
              refine lv_if_eq (tgt := 104) hx hb dX5_lease_97 (by decide) (fun c97 => ?_) (fun c97 => ?_)
              · skip
                have c97 := b2_0.mp c97
                refine lv_iconst (v := 0) hx hb dX5_lease_104 (by decide) ?_
                refine lv_istore (lv' := [(9, .int 0), (8, .int 0), (0, .ref (ad (7, 0, 0))), (1, .int a0), (2, .int a1), (3, .int a2), (4, .int a3), (5, .int a4), (6, .int a5), (7, .int a6)]) hx hb dX5_lease_105 hl (by decide) rfl (fun ls hl => ?_)
                refine lv_aload_n hx hb dX5_lease_107 rfl (lv_at hl 2 rfl) ?_
                refine lv_iload hx hb dX5_lease_108 (lv_at hl 1 rfl) ?_
                refine lv_if_ne (tgt := 117) hx hb dX5_lease_110 (by decide) (fun c => absurd c (by decide)) (fun _ => ?_)
                refine lv_iconst (v := 1) hx hb dX5_lease_113 (by decide) ?_
                refine lv_goto (tgt := 139) hx hb dX5_lease_114 (by decide) ?_
                refine p5 hx hb hts hown hC hH hS 26 (by decide) (by decide) rfl wf_X5_77 rfl rfl dX5_lease_139 (fun H locs (hH : Wo D k b ad g (up M 26 0 1) o H) hS => ?_)
                refine lv_aload_n hx hb dX5_lease_142 rfl (lv_at hl 2 rfl) ?_
                refine g5 hx hb hts hown hC hH 26 (by decide) wf_X5_77 (v := .int 1) rfl dX5_lease_143 ?_
                refine W.eq (g2 := F0 m 146 ls [.int 1]) rfl ?_
                refine lv_if_ne (tgt := 195) hx hb dX5_lease_146 (by decide) (fun _ => ?_) (fun c => absurd c (by decide))
                have h8 : rlC M a0 a1 a2 a3 a4 a5 a6 = 1 := by first | (simp [rlC, c5, c36, c43, c57, c74, c86, c97]; done) | (subst c43; simp [rlC, c5, c36, c57, c74, c86, c97]; done) | (subst c36; simp [rlC, c5, c43, c57, c74, c86, c97]; done) | (unfold rlC; rw [if_neg (by simp [c5, c43, c57, c74, c86, c97]), if_pos (by simp [c36])])
                have h9 : rO M (rlC M a0 a1 a2 a3 a4 a5 a6) (rlG (rT M) i a1 a2 a3 a4 a5 a6) = up M 26 0 1 := by rw [rO_n (by rw [h8]; decide), h8]; rfl
                exact e_wv hx hb hr hlocks hS (by rw [h9]; exact hH) (Nat.le_refl _) (Nat.le_refl _) dX5_lease_195
              · skip
                have c97 := b2_n0.mp c97
                refine lv_iconst (v := 1) hx hb dX5_lease_100 (by decide) ?_
                refine lv_goto (tgt := 105) hx hb dX5_lease_101 (by decide) ?_
                refine lv_istore (lv' := [(9, .int 1), (8, .int 0), (0, .ref (ad (7, 0, 0))), (1, .int a0), (2, .int a1), (3, .int a2), (4, .int a3), (5, .int a4), (6, .int a5), (7, .int a6)]) hx hb dX5_lease_105 hl (by decide) rfl (fun ls hl => ?_)
                refine lv_aload_n hx hb dX5_lease_107 rfl (lv_at hl 2 rfl) ?_
                refine lv_iload hx hb dX5_lease_108 (lv_at hl 1 rfl) ?_
                refine lv_if_ne (tgt := 117) hx hb dX5_lease_110 (by decide) (fun c => absurd c (by decide)) (fun _ => ?_)
                refine lv_iconst (v := 1) hx hb dX5_lease_113 (by decide) ?_
                refine lv_goto (tgt := 139) hx hb dX5_lease_114 (by decide) ?_
                refine p5 hx hb hts hown hC hH hS 26 (by decide) (by decide) rfl wf_X5_77 rfl rfl dX5_lease_139 (fun H locs (hH : Wo D k b ad g (up M 26 0 1) o H) hS => ?_)
                refine lv_aload_n hx hb dX5_lease_142 rfl (lv_at hl 2 rfl) ?_
                refine g5 hx hb hts hown hC hH 26 (by decide) wf_X5_77 (v := .int 1) rfl dX5_lease_143 ?_
                refine W.eq (g2 := F0 m 146 ls [.int 1]) rfl ?_
                refine lv_if_ne (tgt := 195) hx hb dX5_lease_146 (by decide) (fun _ => ?_) (fun c => absurd c (by decide))
                have h8 : rlC M a0 a1 a2 a3 a4 a5 a6 = 1 := by first | (simp [rlC, c5, c36, c43, c57, c74, c86, c97]; done) | (subst c43; simp [rlC, c5, c36, c57, c74, c86, c97]; done) | (subst c36; simp [rlC, c5, c43, c57, c74, c86, c97]; done) | (unfold rlC; rw [if_neg (by simp [c5, c43, c57, c74, c86, c97]), if_pos (by simp [c36])])
                have h9 : rO M (rlC M a0 a1 a2 a3 a4 a5 a6) (rlG (rT M) i a1 a2 a3 a4 a5 a6) = up M 26 0 1 := by rw [rO_n (by rw [h8]; decide), h8]; rfl
                exact e_wv hx hb hr hlocks hS (by rw [h9]; exact hH) (Nat.le_refl _) (Nat.le_refl _) dX5_lease_195
  · skip
    have c5 := b2_n0.mp c5
    obtain ⟨hj, h7⟩ := hq c5
    have hl : lv_has ls 10 [(0, .ref (ad (7, 0, 0))), (1, .int (nI i)), (2, .int a1), (3, .int a2), (4, .int a3), (5, .int a4), (6, .int a5), (7, .int a6)] := by rw [← h7]; exact hl
    have h6 : a0.toNatClampNeg = i := by rw [h7, nI_clamp (by omega)]
    refine lv_iload_n hx hb dX5_lease_8 rfl (lv_at hl 2 rfl) ?_
    refine k_r (va_runS (As := [.int a1]) (rest := []) ⟨hx, hb, hml, hown, hts⟩ (mX5_isFarmer l a1) ⟨cb_of hts wk_X5_isFarmer wi_X5 wm_X5_102 sd_X5_isFarmer rfl rfl ⟨Nat.le_of_ble_eq_true rfl, Nat.le_of_ble_eq_true rfl⟩, hts _ wz_X5_isFarmer⟩ (P0.pre hC hS hH) rfl rfl hl.1 rfl (lv_room (Nat.le_of_ble_eq_true rfl)) dX5_lease_9 ⟨Nat.le_of_ble_eq_true rfl, Nat.le_of_ble_eq_true rfl⟩) ?_
    refine W.eq (g2 := F0 m 12 ls [.int (b2 (inB a1 0 5))]) rfl ?_
    refine lv_if_eq (tgt := 31) hx hb dX5_lease_12 (by decide) (fun c12 => ?_) (fun c12 => ?_)
    · skip
      have c12 := b2_0.mp c12
      refine lv_iconst (v := 0) hx hb dX5_lease_31 (by decide) ?_
      refine lv_istore (lv' := [(8, .int 0), (0, .ref (ad (7, 0, 0))), (1, .int (nI i)), (2, .int a1), (3, .int a2), (4, .int a3), (5, .int a4), (6, .int a5), (7, .int a6)]) hx hb dX5_lease_32 hl (by decide) rfl (fun ls hl => ?_)
      refine lv_iload_n hx hb dX5_lease_34 rfl (lv_at hl 3 rfl) ?_
      refine lv_iload_n hx hb dX5_lease_35 rfl (lv_at hl 4 rfl) ?_
      refine lv_icmp_eq (tgt := 104) hx hb dX5_lease_36 (by decide) (fun c36 => ?_) (fun c36 => ?_)
      · skip
        refine lv_iconst (v := 0) hx hb dX5_lease_104 (by decide) ?_
        refine lv_istore (lv' := [(9, .int 0), (8, .int 0), (0, .ref (ad (7, 0, 0))), (1, .int (nI i)), (2, .int a1), (3, .int a2), (4, .int a3), (5, .int a4), (6, .int a5), (7, .int a6)]) hx hb dX5_lease_105 hl (by decide) rfl (fun ls hl => ?_)
        refine lv_aload_n hx hb dX5_lease_107 rfl (lv_at hl 2 rfl) ?_
        refine lv_iload hx hb dX5_lease_108 (lv_at hl 1 rfl) ?_
        refine lv_if_ne (tgt := 117) hx hb dX5_lease_110 (by decide) (fun c => absurd c (by decide)) (fun _ => ?_)
        refine lv_iconst (v := 1) hx hb dX5_lease_113 (by decide) ?_
        refine lv_goto (tgt := 139) hx hb dX5_lease_114 (by decide) ?_
        refine p5 hx hb hts hown hC hH hS 26 (by decide) (by decide) rfl wf_X5_77 rfl rfl dX5_lease_139 (fun H locs (hH : Wo D k b ad g (up M 26 0 1) o H) hS => ?_)
        refine lv_aload_n hx hb dX5_lease_142 rfl (lv_at hl 2 rfl) ?_
        refine g5 hx hb hts hown hC hH 26 (by decide) wf_X5_77 (v := .int 1) rfl dX5_lease_143 ?_
        refine W.eq (g2 := F0 m 146 ls [.int 1]) rfl ?_
        refine lv_if_ne (tgt := 195) hx hb dX5_lease_146 (by decide) (fun _ => ?_) (fun c => absurd c (by decide))
        have h8 : rlC M a0 a1 a2 a3 a4 a5 a6 = 1 := by first | (simp [rlC, c5, h6, c12, c36]; done) | (subst c36; simp [rlC, c5, h6, c12]; done) | (unfold rlC; rw [if_neg (by simp [c5, h6, c12]), if_pos (by simp [c36])])
        have h9 : rO M (rlC M a0 a1 a2 a3 a4 a5 a6) (rlG (rT M) i a1 a2 a3 a4 a5 a6) = up M 26 0 1 := by rw [rO_n (by rw [h8]; decide), h8]; rfl
        exact e_wv hx hb hr hlocks hS (by rw [h9]; exact hH) (Nat.le_refl _) (Nat.le_refl _) dX5_lease_195
      · skip
        refine lv_iload hx hb dX5_lease_39 (lv_at hl 5 rfl) ?_
        refine lv_iload_n hx hb dX5_lease_41 rfl (lv_at hl 4 rfl) ?_
        refine lv_iconst (v := (-1)) hx hb dX5_lease_42 (by decide) ?_
        refine lv_icmp_ne (tgt := 51) hx hb dX5_lease_43 (by decide) (fun c43 => ?_) (fun c43 => ?_)
        · skip
          refine lv_iconst (v := 0) hx hb dX5_lease_51 (by decide) ?_
          refine lv_bipush (v := 10) hx hb dX5_lease_52 (by decide) ?_
          refine k_r (va_runS (As := [.int a3, .int 0, .int 10]) (rest := []) ⟨hx, hb, hml, hown, hts⟩ (mX5_in l a3 0 10) ⟨cb_of hts wk_X5_in wi_X5 wm_X5_84 sd_X5_in rfl rfl ⟨Nat.le_of_ble_eq_true rfl, Nat.le_of_ble_eq_true rfl⟩, hts _ wz_X5_in⟩ (P0.pre hC hS hH) rfl rfl hl.1 rfl (lv_room (Nat.le_of_ble_eq_true rfl)) dX5_lease_54 ⟨Nat.le_of_ble_eq_true rfl, Nat.le_of_ble_eq_true rfl⟩) ?_
          refine W.eq (g2 := F0 m 57 ls [.int (b2 (inB a3 0 10))]) rfl ?_
          refine lv_if_eq (tgt := 104) hx hb dX5_lease_57 (by decide) (fun c57 => ?_) (fun c57 => ?_)
          · skip
            have c57 := b2_0.mp c57
            refine lv_iconst (v := 0) hx hb dX5_lease_104 (by decide) ?_
            refine lv_istore (lv' := [(9, .int 0), (8, .int 0), (0, .ref (ad (7, 0, 0))), (1, .int (nI i)), (2, .int a1), (3, .int a2), (4, .int a3), (5, .int a4), (6, .int a5), (7, .int a6)]) hx hb dX5_lease_105 hl (by decide) rfl (fun ls hl => ?_)
            refine lv_aload_n hx hb dX5_lease_107 rfl (lv_at hl 2 rfl) ?_
            refine lv_iload hx hb dX5_lease_108 (lv_at hl 1 rfl) ?_
            refine lv_if_ne (tgt := 117) hx hb dX5_lease_110 (by decide) (fun c => absurd c (by decide)) (fun _ => ?_)
            refine lv_iconst (v := 1) hx hb dX5_lease_113 (by decide) ?_
            refine lv_goto (tgt := 139) hx hb dX5_lease_114 (by decide) ?_
            refine p5 hx hb hts hown hC hH hS 26 (by decide) (by decide) rfl wf_X5_77 rfl rfl dX5_lease_139 (fun H locs (hH : Wo D k b ad g (up M 26 0 1) o H) hS => ?_)
            refine lv_aload_n hx hb dX5_lease_142 rfl (lv_at hl 2 rfl) ?_
            refine g5 hx hb hts hown hC hH 26 (by decide) wf_X5_77 (v := .int 1) rfl dX5_lease_143 ?_
            refine W.eq (g2 := F0 m 146 ls [.int 1]) rfl ?_
            refine lv_if_ne (tgt := 195) hx hb dX5_lease_146 (by decide) (fun _ => ?_) (fun c => absurd c (by decide))
            have h8 : rlC M a0 a1 a2 a3 a4 a5 a6 = 1 := by first | (simp [rlC, c5, h6, c12, c36, c43, c57]; done) | (subst c43; simp [rlC, c5, h6, c12, c36, c57]; done) | (subst c36; simp [rlC, c5, h6, c12, c43, c57]; done) | (unfold rlC; rw [if_neg (by simp [c5, h6, c12, c43, c57]), if_pos (by simp [c36])])
            have h9 : rO M (rlC M a0 a1 a2 a3 a4 a5 a6) (rlG (rT M) i a1 a2 a3 a4 a5 a6) = up M 26 0 1 := by rw [rO_n (by rw [h8]; decide), h8]; rfl
            exact e_wv hx hb hr hlocks hS (by rw [h9]; exact hH) (Nat.le_refl _) (Nat.le_refl _) dX5_lease_195
          · skip
            have c57 := b2_n0.mp c57
            refine lv_iload hx hb dX5_lease_60 (lv_at hl 6 rfl) ?_
            refine lv_aload_n hx hb dX5_lease_62 rfl (lv_at hl 1 rfl) ?_
            refine g5 hx hb hts hown hC hH 0 (by decide) wf_X5_105 (v := .int (M 0 0)) rfl dX5_lease_63 ?_
            refine lv_iconst (v := 1) hx hb dX5_lease_66 (by decide) ?_
            refine lv_iadd hx hb dX5_lease_67 ?_
            refine lv_sipush (v := 10000) hx hb dX5_lease_68 (by decide) ?_
            refine k_r (va_runS (As := [.int a4, .int ((M 0 0) + 1), .int 10000]) (rest := []) ⟨hx, hb, hml, hown, hts⟩ (mX5_in l a4 ((M 0 0) + 1) 10000) ⟨cb_of hts wk_X5_in wi_X5 wm_X5_84 sd_X5_in rfl rfl ⟨Nat.le_of_ble_eq_true rfl, Nat.le_of_ble_eq_true rfl⟩, hts _ wz_X5_in⟩ (P0.pre hC hS hH) rfl rfl hl.1 rfl (lv_room (Nat.le_of_ble_eq_true rfl)) dX5_lease_71 ⟨Nat.le_of_ble_eq_true rfl, Nat.le_of_ble_eq_true rfl⟩) ?_
            refine W.eq (g2 := F0 m 74 ls [.int (b2 (inB a4 ((M 0 0) + 1) 10000))]) rfl ?_
            refine lv_if_eq (tgt := 104) hx hb dX5_lease_74 (by decide) (fun c74 => ?_) (fun c74 => ?_)
            · skip
              have c74 := b2_0.mp c74
              refine lv_iconst (v := 0) hx hb dX5_lease_104 (by decide) ?_
              refine lv_istore (lv' := [(9, .int 0), (8, .int 0), (0, .ref (ad (7, 0, 0))), (1, .int (nI i)), (2, .int a1), (3, .int a2), (4, .int a3), (5, .int a4), (6, .int a5), (7, .int a6)]) hx hb dX5_lease_105 hl (by decide) rfl (fun ls hl => ?_)
              refine lv_aload_n hx hb dX5_lease_107 rfl (lv_at hl 2 rfl) ?_
              refine lv_iload hx hb dX5_lease_108 (lv_at hl 1 rfl) ?_
              refine lv_if_ne (tgt := 117) hx hb dX5_lease_110 (by decide) (fun c => absurd c (by decide)) (fun _ => ?_)
              refine lv_iconst (v := 1) hx hb dX5_lease_113 (by decide) ?_
              refine lv_goto (tgt := 139) hx hb dX5_lease_114 (by decide) ?_
              refine p5 hx hb hts hown hC hH hS 26 (by decide) (by decide) rfl wf_X5_77 rfl rfl dX5_lease_139 (fun H locs (hH : Wo D k b ad g (up M 26 0 1) o H) hS => ?_)
              refine lv_aload_n hx hb dX5_lease_142 rfl (lv_at hl 2 rfl) ?_
              refine g5 hx hb hts hown hC hH 26 (by decide) wf_X5_77 (v := .int 1) rfl dX5_lease_143 ?_
              refine W.eq (g2 := F0 m 146 ls [.int 1]) rfl ?_
              refine lv_if_ne (tgt := 195) hx hb dX5_lease_146 (by decide) (fun _ => ?_) (fun c => absurd c (by decide))
              have h8 : rlC M a0 a1 a2 a3 a4 a5 a6 = 1 := by first | (simp [rlC, c5, h6, c12, c36, c43, c57, c74]; done) | (subst c43; simp [rlC, c5, h6, c12, c36, c57, c74]; done) | (subst c36; simp [rlC, c5, h6, c12, c43, c57, c74]; done) | (unfold rlC; rw [if_neg (by simp [c5, h6, c12, c43, c57, c74]), if_pos (by simp [c36])])
              have h9 : rO M (rlC M a0 a1 a2 a3 a4 a5 a6) (rlG (rT M) i a1 a2 a3 a4 a5 a6) = up M 26 0 1 := by rw [rO_n (by rw [h8]; decide), h8]; rfl
              exact e_wv hx hb hr hlocks hS (by rw [h9]; exact hH) (Nat.le_refl _) (Nat.le_refl _) dX5_lease_195
            · skip
              have c74 := b2_n0.mp c74
              refine lv_iload hx hb dX5_lease_77 (lv_at hl 7 rfl) ?_
              refine lv_iconst (v := 0) hx hb dX5_lease_79 (by decide) ?_
              refine lv_sipush (v := 1000) hx hb dX5_lease_80 (by decide) ?_
              refine k_r (va_runS (As := [.int a5, .int 0, .int 1000]) (rest := []) ⟨hx, hb, hml, hown, hts⟩ (mX5_in l a5 0 1000) ⟨cb_of hts wk_X5_in wi_X5 wm_X5_84 sd_X5_in rfl rfl ⟨Nat.le_of_ble_eq_true rfl, Nat.le_of_ble_eq_true rfl⟩, hts _ wz_X5_in⟩ (P0.pre hC hS hH) rfl rfl hl.1 rfl (lv_room (Nat.le_of_ble_eq_true rfl)) dX5_lease_83 ⟨Nat.le_of_ble_eq_true rfl, Nat.le_of_ble_eq_true rfl⟩) ?_
              refine W.eq (g2 := F0 m 86 ls [.int (b2 (inB a5 0 1000))]) rfl ?_
              refine lv_if_eq (tgt := 104) hx hb dX5_lease_86 (by decide) (fun c86 => ?_) (fun c86 => ?_)
              · skip
                have c86 := b2_0.mp c86
                refine lv_iconst (v := 0) hx hb dX5_lease_104 (by decide) ?_
                refine lv_istore (lv' := [(9, .int 0), (8, .int 0), (0, .ref (ad (7, 0, 0))), (1, .int (nI i)), (2, .int a1), (3, .int a2), (4, .int a3), (5, .int a4), (6, .int a5), (7, .int a6)]) hx hb dX5_lease_105 hl (by decide) rfl (fun ls hl => ?_)
                refine lv_aload_n hx hb dX5_lease_107 rfl (lv_at hl 2 rfl) ?_
                refine lv_iload hx hb dX5_lease_108 (lv_at hl 1 rfl) ?_
                refine lv_if_ne (tgt := 117) hx hb dX5_lease_110 (by decide) (fun c => absurd c (by decide)) (fun _ => ?_)
                refine lv_iconst (v := 1) hx hb dX5_lease_113 (by decide) ?_
                refine lv_goto (tgt := 139) hx hb dX5_lease_114 (by decide) ?_
                refine p5 hx hb hts hown hC hH hS 26 (by decide) (by decide) rfl wf_X5_77 rfl rfl dX5_lease_139 (fun H locs (hH : Wo D k b ad g (up M 26 0 1) o H) hS => ?_)
                refine lv_aload_n hx hb dX5_lease_142 rfl (lv_at hl 2 rfl) ?_
                refine g5 hx hb hts hown hC hH 26 (by decide) wf_X5_77 (v := .int 1) rfl dX5_lease_143 ?_
                refine W.eq (g2 := F0 m 146 ls [.int 1]) rfl ?_
                refine lv_if_ne (tgt := 195) hx hb dX5_lease_146 (by decide) (fun _ => ?_) (fun c => absurd c (by decide))
                have h8 : rlC M a0 a1 a2 a3 a4 a5 a6 = 1 := by first | (simp [rlC, c5, h6, c12, c36, c43, c57, c74, c86]; done) | (subst c43; simp [rlC, c5, h6, c12, c36, c57, c74, c86]; done) | (subst c36; simp [rlC, c5, h6, c12, c43, c57, c74, c86]; done) | (unfold rlC; rw [if_neg (by simp [c5, h6, c12, c43, c57, c74, c86]), if_pos (by simp [c36])])
                have h9 : rO M (rlC M a0 a1 a2 a3 a4 a5 a6) (rlG (rT M) i a1 a2 a3 a4 a5 a6) = up M 26 0 1 := by rw [rO_n (by rw [h8]; decide), h8]; rfl
                exact e_wv hx hb hr hlocks hS (by rw [h9]; exact hH) (Nat.le_refl _) (Nat.le_refl _) dX5_lease_195
              · skip
                have c86 := b2_n0.mp c86
                refine lv_iload hx hb dX5_lease_89 (lv_at hl 8 rfl) ?_
                refine lv_iconst (v := 0) hx hb dX5_lease_91 (by decide) ?_
                refine lv_bipush (v := 100) hx hb dX5_lease_92 (by decide) ?_
                refine k_r (va_runS (As := [.int a6, .int 0, .int 100]) (rest := []) ⟨hx, hb, hml, hown, hts⟩ (mX5_in l a6 0 100) ⟨cb_of hts wk_X5_in wi_X5 wm_X5_84 sd_X5_in rfl rfl ⟨Nat.le_of_ble_eq_true rfl, Nat.le_of_ble_eq_true rfl⟩, hts _ wz_X5_in⟩ (P0.pre hC hS hH) rfl rfl hl.1 rfl (lv_room (Nat.le_of_ble_eq_true rfl)) dX5_lease_94 ⟨Nat.le_of_ble_eq_true rfl, Nat.le_of_ble_eq_true rfl⟩) ?_
                refine W.eq (g2 := F0 m 97 ls [.int (b2 (inB a6 0 100))]) rfl ?_
                refine lv_if_eq (tgt := 104) hx hb dX5_lease_97 (by decide) (fun c97 => ?_) (fun c97 => ?_)
                · skip
                  have c97 := b2_0.mp c97
                  refine lv_iconst (v := 0) hx hb dX5_lease_104 (by decide) ?_
                  refine lv_istore (lv' := [(9, .int 0), (8, .int 0), (0, .ref (ad (7, 0, 0))), (1, .int (nI i)), (2, .int a1), (3, .int a2), (4, .int a3), (5, .int a4), (6, .int a5), (7, .int a6)]) hx hb dX5_lease_105 hl (by decide) rfl (fun ls hl => ?_)
                  refine lv_aload_n hx hb dX5_lease_107 rfl (lv_at hl 2 rfl) ?_
                  refine lv_iload hx hb dX5_lease_108 (lv_at hl 1 rfl) ?_
                  refine lv_if_ne (tgt := 117) hx hb dX5_lease_110 (by decide) (fun c => absurd c (by decide)) (fun _ => ?_)
                  refine lv_iconst (v := 1) hx hb dX5_lease_113 (by decide) ?_
                  refine lv_goto (tgt := 139) hx hb dX5_lease_114 (by decide) ?_
                  refine p5 hx hb hts hown hC hH hS 26 (by decide) (by decide) rfl wf_X5_77 rfl rfl dX5_lease_139 (fun H locs (hH : Wo D k b ad g (up M 26 0 1) o H) hS => ?_)
                  refine lv_aload_n hx hb dX5_lease_142 rfl (lv_at hl 2 rfl) ?_
                  refine g5 hx hb hts hown hC hH 26 (by decide) wf_X5_77 (v := .int 1) rfl dX5_lease_143 ?_
                  refine W.eq (g2 := F0 m 146 ls [.int 1]) rfl ?_
                  refine lv_if_ne (tgt := 195) hx hb dX5_lease_146 (by decide) (fun _ => ?_) (fun c => absurd c (by decide))
                  have h8 : rlC M a0 a1 a2 a3 a4 a5 a6 = 1 := by first | (simp [rlC, c5, h6, c12, c36, c43, c57, c74, c86, c97]; done) | (subst c43; simp [rlC, c5, h6, c12, c36, c57, c74, c86, c97]; done) | (subst c36; simp [rlC, c5, h6, c12, c43, c57, c74, c86, c97]; done) | (unfold rlC; rw [if_neg (by simp [c5, h6, c12, c43, c57, c74, c86, c97]), if_pos (by simp [c36])])
                  have h9 : rO M (rlC M a0 a1 a2 a3 a4 a5 a6) (rlG (rT M) i a1 a2 a3 a4 a5 a6) = up M 26 0 1 := by rw [rO_n (by rw [h8]; decide), h8]; rfl
                  exact e_wv hx hb hr hlocks hS (by rw [h9]; exact hH) (Nat.le_refl _) (Nat.le_refl _) dX5_lease_195
                · skip
                  have c97 := b2_n0.mp c97
                  refine lv_iconst (v := 1) hx hb dX5_lease_100 (by decide) ?_
                  refine lv_goto (tgt := 105) hx hb dX5_lease_101 (by decide) ?_
                  refine lv_istore (lv' := [(9, .int 1), (8, .int 0), (0, .ref (ad (7, 0, 0))), (1, .int (nI i)), (2, .int a1), (3, .int a2), (4, .int a3), (5, .int a4), (6, .int a5), (7, .int a6)]) hx hb dX5_lease_105 hl (by decide) rfl (fun ls hl => ?_)
                  refine lv_aload_n hx hb dX5_lease_107 rfl (lv_at hl 2 rfl) ?_
                  refine lv_iload hx hb dX5_lease_108 (lv_at hl 1 rfl) ?_
                  refine lv_if_ne (tgt := 117) hx hb dX5_lease_110 (by decide) (fun c => absurd c (by decide)) (fun _ => ?_)
                  refine lv_iconst (v := 1) hx hb dX5_lease_113 (by decide) ?_
                  refine lv_goto (tgt := 139) hx hb dX5_lease_114 (by decide) ?_
                  refine p5 hx hb hts hown hC hH hS 26 (by decide) (by decide) rfl wf_X5_77 rfl rfl dX5_lease_139 (fun H locs (hH : Wo D k b ad g (up M 26 0 1) o H) hS => ?_)
                  refine lv_aload_n hx hb dX5_lease_142 rfl (lv_at hl 2 rfl) ?_
                  refine g5 hx hb hts hown hC hH 26 (by decide) wf_X5_77 (v := .int 1) rfl dX5_lease_143 ?_
                  refine W.eq (g2 := F0 m 146 ls [.int 1]) rfl ?_
                  refine lv_if_ne (tgt := 195) hx hb dX5_lease_146 (by decide) (fun _ => ?_) (fun c => absurd c (by decide))
                  have h8 : rlC M a0 a1 a2 a3 a4 a5 a6 = 1 := by first | (simp [rlC, c5, h6, c12, c36, c43, c57, c74, c86, c97]; done) | (subst c43; simp [rlC, c5, h6, c12, c36, c57, c74, c86, c97]; done) | (subst c36; simp [rlC, c5, h6, c12, c43, c57, c74, c86, c97]; done) | (unfold rlC; rw [if_neg (by simp [c5, h6, c12, c43, c57, c74, c86, c97]), if_pos (by simp [c36])])
                  have h9 : rO M (rlC M a0 a1 a2 a3 a4 a5 a6) (rlG (rT M) i a1 a2 a3 a4 a5 a6) = up M 26 0 1 := by rw [rO_n (by rw [h8]; decide), h8]; rfl
                  exact e_wv hx hb hr hlocks hS (by rw [h9]; exact hH) (Nat.le_refl _) (Nat.le_refl _) dX5_lease_195
        · skip
          refine lv_bipush (v := 10) hx hb dX5_lease_46 (by decide) ?_
          refine lv_goto (tgt := 52) hx hb dX5_lease_48 (by decide) ?_
          refine lv_bipush (v := 10) hx hb dX5_lease_52 (by decide) ?_
          refine k_r (va_runS (As := [.int a3, .int 10, .int 10]) (rest := []) ⟨hx, hb, hml, hown, hts⟩ (mX5_in l a3 10 10) ⟨cb_of hts wk_X5_in wi_X5 wm_X5_84 sd_X5_in rfl rfl ⟨Nat.le_of_ble_eq_true rfl, Nat.le_of_ble_eq_true rfl⟩, hts _ wz_X5_in⟩ (P0.pre hC hS hH) rfl rfl hl.1 rfl (lv_room (Nat.le_of_ble_eq_true rfl)) dX5_lease_54 ⟨Nat.le_of_ble_eq_true rfl, Nat.le_of_ble_eq_true rfl⟩) ?_
          refine W.eq (g2 := F0 m 57 ls [.int (b2 (inB a3 10 10))]) rfl ?_
          refine lv_if_eq (tgt := 104) hx hb dX5_lease_57 (by decide) (fun c57 => ?_) (fun c57 => ?_)
          · skip
            have c57 := b2_0.mp c57
            refine lv_iconst (v := 0) hx hb dX5_lease_104 (by decide) ?_
            refine lv_istore (lv' := [(9, .int 0), (8, .int 0), (0, .ref (ad (7, 0, 0))), (1, .int (nI i)), (2, .int a1), (3, .int a2), (4, .int a3), (5, .int a4), (6, .int a5), (7, .int a6)]) hx hb dX5_lease_105 hl (by decide) rfl (fun ls hl => ?_)
            refine lv_aload_n hx hb dX5_lease_107 rfl (lv_at hl 2 rfl) ?_
            refine lv_iload hx hb dX5_lease_108 (lv_at hl 1 rfl) ?_
            refine lv_if_ne (tgt := 117) hx hb dX5_lease_110 (by decide) (fun c => absurd c (by decide)) (fun _ => ?_)
            refine lv_iconst (v := 1) hx hb dX5_lease_113 (by decide) ?_
            refine lv_goto (tgt := 139) hx hb dX5_lease_114 (by decide) ?_
            refine p5 hx hb hts hown hC hH hS 26 (by decide) (by decide) rfl wf_X5_77 rfl rfl dX5_lease_139 (fun H locs (hH : Wo D k b ad g (up M 26 0 1) o H) hS => ?_)
            refine lv_aload_n hx hb dX5_lease_142 rfl (lv_at hl 2 rfl) ?_
            refine g5 hx hb hts hown hC hH 26 (by decide) wf_X5_77 (v := .int 1) rfl dX5_lease_143 ?_
            refine W.eq (g2 := F0 m 146 ls [.int 1]) rfl ?_
            refine lv_if_ne (tgt := 195) hx hb dX5_lease_146 (by decide) (fun _ => ?_) (fun c => absurd c (by decide))
            have h8 : rlC M a0 a1 a2 a3 a4 a5 a6 = 1 := by first | (simp [rlC, c5, h6, c12, c36, c43, c57]; done) | (subst c43; simp [rlC, c5, h6, c12, c36, c57]; done) | (subst c36; simp [rlC, c5, h6, c12, c43, c57]; done) | (unfold rlC; rw [if_neg (by simp [c5, h6, c12, c43, c57]), if_pos (by simp [c36])])
            have h9 : rO M (rlC M a0 a1 a2 a3 a4 a5 a6) (rlG (rT M) i a1 a2 a3 a4 a5 a6) = up M 26 0 1 := by rw [rO_n (by rw [h8]; decide), h8]; rfl
            exact e_wv hx hb hr hlocks hS (by rw [h9]; exact hH) (Nat.le_refl _) (Nat.le_refl _) dX5_lease_195
          · skip
            have c57 := b2_n0.mp c57
            refine lv_iload hx hb dX5_lease_60 (lv_at hl 6 rfl) ?_
            refine lv_aload_n hx hb dX5_lease_62 rfl (lv_at hl 1 rfl) ?_
            refine g5 hx hb hts hown hC hH 0 (by decide) wf_X5_105 (v := .int (M 0 0)) rfl dX5_lease_63 ?_
            refine lv_iconst (v := 1) hx hb dX5_lease_66 (by decide) ?_
            refine lv_iadd hx hb dX5_lease_67 ?_
            refine lv_sipush (v := 10000) hx hb dX5_lease_68 (by decide) ?_
            refine k_r (va_runS (As := [.int a4, .int ((M 0 0) + 1), .int 10000]) (rest := []) ⟨hx, hb, hml, hown, hts⟩ (mX5_in l a4 ((M 0 0) + 1) 10000) ⟨cb_of hts wk_X5_in wi_X5 wm_X5_84 sd_X5_in rfl rfl ⟨Nat.le_of_ble_eq_true rfl, Nat.le_of_ble_eq_true rfl⟩, hts _ wz_X5_in⟩ (P0.pre hC hS hH) rfl rfl hl.1 rfl (lv_room (Nat.le_of_ble_eq_true rfl)) dX5_lease_71 ⟨Nat.le_of_ble_eq_true rfl, Nat.le_of_ble_eq_true rfl⟩) ?_
            refine W.eq (g2 := F0 m 74 ls [.int (b2 (inB a4 ((M 0 0) + 1) 10000))]) rfl ?_
            refine lv_if_eq (tgt := 104) hx hb dX5_lease_74 (by decide) (fun c74 => ?_) (fun c74 => ?_)
            · skip
              have c74 := b2_0.mp c74
              refine lv_iconst (v := 0) hx hb dX5_lease_104 (by decide) ?_
              refine lv_istore (lv' := [(9, .int 0), (8, .int 0), (0, .ref (ad (7, 0, 0))), (1, .int (nI i)), (2, .int a1), (3, .int a2), (4, .int a3), (5, .int a4), (6, .int a5), (7, .int a6)]) hx hb dX5_lease_105 hl (by decide) rfl (fun ls hl => ?_)
              refine lv_aload_n hx hb dX5_lease_107 rfl (lv_at hl 2 rfl) ?_
              refine lv_iload hx hb dX5_lease_108 (lv_at hl 1 rfl) ?_
              refine lv_if_ne (tgt := 117) hx hb dX5_lease_110 (by decide) (fun c => absurd c (by decide)) (fun _ => ?_)
              refine lv_iconst (v := 1) hx hb dX5_lease_113 (by decide) ?_
              refine lv_goto (tgt := 139) hx hb dX5_lease_114 (by decide) ?_
              refine p5 hx hb hts hown hC hH hS 26 (by decide) (by decide) rfl wf_X5_77 rfl rfl dX5_lease_139 (fun H locs (hH : Wo D k b ad g (up M 26 0 1) o H) hS => ?_)
              refine lv_aload_n hx hb dX5_lease_142 rfl (lv_at hl 2 rfl) ?_
              refine g5 hx hb hts hown hC hH 26 (by decide) wf_X5_77 (v := .int 1) rfl dX5_lease_143 ?_
              refine W.eq (g2 := F0 m 146 ls [.int 1]) rfl ?_
              refine lv_if_ne (tgt := 195) hx hb dX5_lease_146 (by decide) (fun _ => ?_) (fun c => absurd c (by decide))
              have h8 : rlC M a0 a1 a2 a3 a4 a5 a6 = 1 := by first | (simp [rlC, c5, h6, c12, c36, c43, c57, c74]; done) | (subst c43; simp [rlC, c5, h6, c12, c36, c57, c74]; done) | (subst c36; simp [rlC, c5, h6, c12, c43, c57, c74]; done) | (unfold rlC; rw [if_neg (by simp [c5, h6, c12, c43, c57, c74]), if_pos (by simp [c36])])
              have h9 : rO M (rlC M a0 a1 a2 a3 a4 a5 a6) (rlG (rT M) i a1 a2 a3 a4 a5 a6) = up M 26 0 1 := by rw [rO_n (by rw [h8]; decide), h8]; rfl
              exact e_wv hx hb hr hlocks hS (by rw [h9]; exact hH) (Nat.le_refl _) (Nat.le_refl _) dX5_lease_195
            · skip
              have c74 := b2_n0.mp c74
              refine lv_iload hx hb dX5_lease_77 (lv_at hl 7 rfl) ?_
              refine lv_iconst (v := 0) hx hb dX5_lease_79 (by decide) ?_
              refine lv_sipush (v := 1000) hx hb dX5_lease_80 (by decide) ?_
              refine k_r (va_runS (As := [.int a5, .int 0, .int 1000]) (rest := []) ⟨hx, hb, hml, hown, hts⟩ (mX5_in l a5 0 1000) ⟨cb_of hts wk_X5_in wi_X5 wm_X5_84 sd_X5_in rfl rfl ⟨Nat.le_of_ble_eq_true rfl, Nat.le_of_ble_eq_true rfl⟩, hts _ wz_X5_in⟩ (P0.pre hC hS hH) rfl rfl hl.1 rfl (lv_room (Nat.le_of_ble_eq_true rfl)) dX5_lease_83 ⟨Nat.le_of_ble_eq_true rfl, Nat.le_of_ble_eq_true rfl⟩) ?_
              refine W.eq (g2 := F0 m 86 ls [.int (b2 (inB a5 0 1000))]) rfl ?_
              refine lv_if_eq (tgt := 104) hx hb dX5_lease_86 (by decide) (fun c86 => ?_) (fun c86 => ?_)
              · skip
                have c86 := b2_0.mp c86
                refine lv_iconst (v := 0) hx hb dX5_lease_104 (by decide) ?_
                refine lv_istore (lv' := [(9, .int 0), (8, .int 0), (0, .ref (ad (7, 0, 0))), (1, .int (nI i)), (2, .int a1), (3, .int a2), (4, .int a3), (5, .int a4), (6, .int a5), (7, .int a6)]) hx hb dX5_lease_105 hl (by decide) rfl (fun ls hl => ?_)
                refine lv_aload_n hx hb dX5_lease_107 rfl (lv_at hl 2 rfl) ?_
                refine lv_iload hx hb dX5_lease_108 (lv_at hl 1 rfl) ?_
                refine lv_if_ne (tgt := 117) hx hb dX5_lease_110 (by decide) (fun c => absurd c (by decide)) (fun _ => ?_)
                refine lv_iconst (v := 1) hx hb dX5_lease_113 (by decide) ?_
                refine lv_goto (tgt := 139) hx hb dX5_lease_114 (by decide) ?_
                refine p5 hx hb hts hown hC hH hS 26 (by decide) (by decide) rfl wf_X5_77 rfl rfl dX5_lease_139 (fun H locs (hH : Wo D k b ad g (up M 26 0 1) o H) hS => ?_)
                refine lv_aload_n hx hb dX5_lease_142 rfl (lv_at hl 2 rfl) ?_
                refine g5 hx hb hts hown hC hH 26 (by decide) wf_X5_77 (v := .int 1) rfl dX5_lease_143 ?_
                refine W.eq (g2 := F0 m 146 ls [.int 1]) rfl ?_
                refine lv_if_ne (tgt := 195) hx hb dX5_lease_146 (by decide) (fun _ => ?_) (fun c => absurd c (by decide))
                have h8 : rlC M a0 a1 a2 a3 a4 a5 a6 = 1 := by first | (simp [rlC, c5, h6, c12, c36, c43, c57, c74, c86]; done) | (subst c43; simp [rlC, c5, h6, c12, c36, c57, c74, c86]; done) | (subst c36; simp [rlC, c5, h6, c12, c43, c57, c74, c86]; done) | (unfold rlC; rw [if_neg (by simp [c5, h6, c12, c43, c57, c74, c86]), if_pos (by simp [c36])])
                have h9 : rO M (rlC M a0 a1 a2 a3 a4 a5 a6) (rlG (rT M) i a1 a2 a3 a4 a5 a6) = up M 26 0 1 := by rw [rO_n (by rw [h8]; decide), h8]; rfl
                exact e_wv hx hb hr hlocks hS (by rw [h9]; exact hH) (Nat.le_refl _) (Nat.le_refl _) dX5_lease_195
              · skip
                have c86 := b2_n0.mp c86
                refine lv_iload hx hb dX5_lease_89 (lv_at hl 8 rfl) ?_
                refine lv_iconst (v := 0) hx hb dX5_lease_91 (by decide) ?_
                refine lv_bipush (v := 100) hx hb dX5_lease_92 (by decide) ?_
                refine k_r (va_runS (As := [.int a6, .int 0, .int 100]) (rest := []) ⟨hx, hb, hml, hown, hts⟩ (mX5_in l a6 0 100) ⟨cb_of hts wk_X5_in wi_X5 wm_X5_84 sd_X5_in rfl rfl ⟨Nat.le_of_ble_eq_true rfl, Nat.le_of_ble_eq_true rfl⟩, hts _ wz_X5_in⟩ (P0.pre hC hS hH) rfl rfl hl.1 rfl (lv_room (Nat.le_of_ble_eq_true rfl)) dX5_lease_94 ⟨Nat.le_of_ble_eq_true rfl, Nat.le_of_ble_eq_true rfl⟩) ?_
                refine W.eq (g2 := F0 m 97 ls [.int (b2 (inB a6 0 100))]) rfl ?_
                refine lv_if_eq (tgt := 104) hx hb dX5_lease_97 (by decide) (fun c97 => ?_) (fun c97 => ?_)
                · skip
                  have c97 := b2_0.mp c97
                  refine lv_iconst (v := 0) hx hb dX5_lease_104 (by decide) ?_
                  refine lv_istore (lv' := [(9, .int 0), (8, .int 0), (0, .ref (ad (7, 0, 0))), (1, .int (nI i)), (2, .int a1), (3, .int a2), (4, .int a3), (5, .int a4), (6, .int a5), (7, .int a6)]) hx hb dX5_lease_105 hl (by decide) rfl (fun ls hl => ?_)
                  refine lv_aload_n hx hb dX5_lease_107 rfl (lv_at hl 2 rfl) ?_
                  refine lv_iload hx hb dX5_lease_108 (lv_at hl 1 rfl) ?_
                  refine lv_if_ne (tgt := 117) hx hb dX5_lease_110 (by decide) (fun c => absurd c (by decide)) (fun _ => ?_)
                  refine lv_iconst (v := 1) hx hb dX5_lease_113 (by decide) ?_
                  refine lv_goto (tgt := 139) hx hb dX5_lease_114 (by decide) ?_
                  refine p5 hx hb hts hown hC hH hS 26 (by decide) (by decide) rfl wf_X5_77 rfl rfl dX5_lease_139 (fun H locs (hH : Wo D k b ad g (up M 26 0 1) o H) hS => ?_)
                  refine lv_aload_n hx hb dX5_lease_142 rfl (lv_at hl 2 rfl) ?_
                  refine g5 hx hb hts hown hC hH 26 (by decide) wf_X5_77 (v := .int 1) rfl dX5_lease_143 ?_
                  refine W.eq (g2 := F0 m 146 ls [.int 1]) rfl ?_
                  refine lv_if_ne (tgt := 195) hx hb dX5_lease_146 (by decide) (fun _ => ?_) (fun c => absurd c (by decide))
                  have h8 : rlC M a0 a1 a2 a3 a4 a5 a6 = 1 := by first | (simp [rlC, c5, h6, c12, c36, c43, c57, c74, c86, c97]; done) | (subst c43; simp [rlC, c5, h6, c12, c36, c57, c74, c86, c97]; done) | (subst c36; simp [rlC, c5, h6, c12, c43, c57, c74, c86, c97]; done) | (unfold rlC; rw [if_neg (by simp [c5, h6, c12, c43, c57, c74, c86, c97]), if_pos (by simp [c36])])
                  have h9 : rO M (rlC M a0 a1 a2 a3 a4 a5 a6) (rlG (rT M) i a1 a2 a3 a4 a5 a6) = up M 26 0 1 := by rw [rO_n (by rw [h8]; decide), h8]; rfl
                  exact e_wv hx hb hr hlocks hS (by rw [h9]; exact hH) (Nat.le_refl _) (Nat.le_refl _) dX5_lease_195
                · skip
                  have c97 := b2_n0.mp c97
                  refine lv_iconst (v := 1) hx hb dX5_lease_100 (by decide) ?_
                  refine lv_goto (tgt := 105) hx hb dX5_lease_101 (by decide) ?_
                  refine lv_istore (lv' := [(9, .int 1), (8, .int 0), (0, .ref (ad (7, 0, 0))), (1, .int (nI i)), (2, .int a1), (3, .int a2), (4, .int a3), (5, .int a4), (6, .int a5), (7, .int a6)]) hx hb dX5_lease_105 hl (by decide) rfl (fun ls hl => ?_)
                  refine lv_aload_n hx hb dX5_lease_107 rfl (lv_at hl 2 rfl) ?_
                  refine lv_iload hx hb dX5_lease_108 (lv_at hl 1 rfl) ?_
                  refine lv_if_ne (tgt := 117) hx hb dX5_lease_110 (by decide) (fun c => absurd c (by decide)) (fun _ => ?_)
                  refine lv_iconst (v := 1) hx hb dX5_lease_113 (by decide) ?_
                  refine lv_goto (tgt := 139) hx hb dX5_lease_114 (by decide) ?_
                  refine p5 hx hb hts hown hC hH hS 26 (by decide) (by decide) rfl wf_X5_77 rfl rfl dX5_lease_139 (fun H locs (hH : Wo D k b ad g (up M 26 0 1) o H) hS => ?_)
                  refine lv_aload_n hx hb dX5_lease_142 rfl (lv_at hl 2 rfl) ?_
                  refine g5 hx hb hts hown hC hH 26 (by decide) wf_X5_77 (v := .int 1) rfl dX5_lease_143 ?_
                  refine W.eq (g2 := F0 m 146 ls [.int 1]) rfl ?_
                  refine lv_if_ne (tgt := 195) hx hb dX5_lease_146 (by decide) (fun _ => ?_) (fun c => absurd c (by decide))
                  have h8 : rlC M a0 a1 a2 a3 a4 a5 a6 = 1 := by first | (simp [rlC, c5, h6, c12, c36, c43, c57, c74, c86, c97]; done) | (subst c43; simp [rlC, c5, h6, c12, c36, c57, c74, c86, c97]; done) | (subst c36; simp [rlC, c5, h6, c12, c43, c57, c74, c86, c97]; done) | (unfold rlC; rw [if_neg (by simp [c5, h6, c12, c43, c57, c74, c86, c97]), if_pos (by simp [c36])])
                  have h9 : rO M (rlC M a0 a1 a2 a3 a4 a5 a6) (rlG (rT M) i a1 a2 a3 a4 a5 a6) = up M 26 0 1 := by rw [rO_n (by rw [h8]; decide), h8]; rfl
                  exact e_wv hx hb hr hlocks hS (by rw [h9]; exact hH) (Nat.le_refl _) (Nat.le_refl _) dX5_lease_195
    · skip
      have c12 := b2_n0.mp c12
      refine lv_iload_n hx hb dX5_lease_15 rfl (lv_at hl 3 rfl) ?_
      refine lv_iconst (v := (-1)) hx hb dX5_lease_16 (by decide) ?_
      refine lv_icmp_eq (tgt := 27) hx hb dX5_lease_17 (by decide) (fun c17 => ?_) (fun c17 => ?_)
      · skip
        refine lv_iconst (v := 1) hx hb dX5_lease_27 (by decide) ?_
        refine lv_goto (tgt := 32) hx hb dX5_lease_28 (by decide) ?_
        refine lv_istore (lv' := [(8, .int 1), (0, .ref (ad (7, 0, 0))), (1, .int (nI i)), (2, .int a1), (3, .int a2), (4, .int a3), (5, .int a4), (6, .int a5), (7, .int a6)]) hx hb dX5_lease_32 hl (by decide) rfl (fun ls hl => ?_)
        refine lv_iload_n hx hb dX5_lease_34 rfl (lv_at hl 3 rfl) ?_
        refine lv_iload_n hx hb dX5_lease_35 rfl (lv_at hl 4 rfl) ?_
        refine lv_icmp_eq (tgt := 104) hx hb dX5_lease_36 (by decide) (fun c36 => ?_) (fun c36 => ?_)
        · skip
          refine lv_iconst (v := 0) hx hb dX5_lease_104 (by decide) ?_
          refine lv_istore (lv' := [(9, .int 0), (8, .int 1), (0, .ref (ad (7, 0, 0))), (1, .int (nI i)), (2, .int a1), (3, .int a2), (4, .int a3), (5, .int a4), (6, .int a5), (7, .int a6)]) hx hb dX5_lease_105 hl (by decide) rfl (fun ls hl => ?_)
          refine lv_aload_n hx hb dX5_lease_107 rfl (lv_at hl 2 rfl) ?_
          refine lv_iload hx hb dX5_lease_108 (lv_at hl 1 rfl) ?_
          refine lv_if_ne (tgt := 117) hx hb dX5_lease_110 (by decide) (fun _ => ?_) (fun c => absurd c (by decide))
          refine lv_iload hx hb dX5_lease_117 (lv_at hl 0 rfl) ?_
          refine lv_if_ne (tgt := 126) hx hb dX5_lease_119 (by decide) (fun c => absurd c (by decide)) (fun _ => ?_)
          refine lv_iconst (v := 2) hx hb dX5_lease_122 (by decide) ?_
          refine lv_goto (tgt := 139) hx hb dX5_lease_123 (by decide) ?_
          refine p5 hx hb hts hown hC hH hS 26 (by decide) (by decide) rfl wf_X5_77 rfl rfl dX5_lease_139 (fun H locs (hH : Wo D k b ad g (up M 26 0 2) o H) hS => ?_)
          refine lv_aload_n hx hb dX5_lease_142 rfl (lv_at hl 2 rfl) ?_
          refine g5 hx hb hts hown hC hH 26 (by decide) wf_X5_77 (v := .int 2) rfl dX5_lease_143 ?_
          refine W.eq (g2 := F0 m 146 ls [.int 2]) rfl ?_
          refine lv_if_ne (tgt := 195) hx hb dX5_lease_146 (by decide) (fun _ => ?_) (fun c => absurd c (by decide))
          have h8 : rlC M a0 a1 a2 a3 a4 a5 a6 = 2 := by first | (simp [rlC, c5, h6, c12, c17, c36]; done) | (subst c17; simp [rlC, c5, h6, c12, c36]; done) | (subst c36; simp [rlC, c5, h6, c12, c17]; done) | (unfold rlC; rw [if_neg (by simp [c5, h6, c12, c17]), if_pos (by simp [c36])])
          have h9 : rO M (rlC M a0 a1 a2 a3 a4 a5 a6) (rlG (rT M) i a1 a2 a3 a4 a5 a6) = up M 26 0 2 := by rw [rO_n (by rw [h8]; decide), h8]; rfl
          exact e_wv hx hb hr hlocks hS (by rw [h9]; exact hH) (Nat.le_refl _) (Nat.le_refl _) dX5_lease_195
        · skip
          refine lv_iload hx hb dX5_lease_39 (lv_at hl 5 rfl) ?_
          refine lv_iload_n hx hb dX5_lease_41 rfl (lv_at hl 4 rfl) ?_
          refine lv_iconst (v := (-1)) hx hb dX5_lease_42 (by decide) ?_
          refine lv_icmp_ne (tgt := 51) hx hb dX5_lease_43 (by decide) (fun c43 => ?_) (fun c43 => ?_)
          · skip
            refine lv_iconst (v := 0) hx hb dX5_lease_51 (by decide) ?_
            refine lv_bipush (v := 10) hx hb dX5_lease_52 (by decide) ?_
            refine k_r (va_runS (As := [.int a3, .int 0, .int 10]) (rest := []) ⟨hx, hb, hml, hown, hts⟩ (mX5_in l a3 0 10) ⟨cb_of hts wk_X5_in wi_X5 wm_X5_84 sd_X5_in rfl rfl ⟨Nat.le_of_ble_eq_true rfl, Nat.le_of_ble_eq_true rfl⟩, hts _ wz_X5_in⟩ (P0.pre hC hS hH) rfl rfl hl.1 rfl (lv_room (Nat.le_of_ble_eq_true rfl)) dX5_lease_54 ⟨Nat.le_of_ble_eq_true rfl, Nat.le_of_ble_eq_true rfl⟩) ?_
            refine W.eq (g2 := F0 m 57 ls [.int (b2 (inB a3 0 10))]) rfl ?_
            refine lv_if_eq (tgt := 104) hx hb dX5_lease_57 (by decide) (fun c57 => ?_) (fun c57 => ?_)
            · skip
              have c57 := b2_0.mp c57
              refine lv_iconst (v := 0) hx hb dX5_lease_104 (by decide) ?_
              refine lv_istore (lv' := [(9, .int 0), (8, .int 1), (0, .ref (ad (7, 0, 0))), (1, .int (nI i)), (2, .int a1), (3, .int a2), (4, .int a3), (5, .int a4), (6, .int a5), (7, .int a6)]) hx hb dX5_lease_105 hl (by decide) rfl (fun ls hl => ?_)
              refine lv_aload_n hx hb dX5_lease_107 rfl (lv_at hl 2 rfl) ?_
              refine lv_iload hx hb dX5_lease_108 (lv_at hl 1 rfl) ?_
              refine lv_if_ne (tgt := 117) hx hb dX5_lease_110 (by decide) (fun _ => ?_) (fun c => absurd c (by decide))
              refine lv_iload hx hb dX5_lease_117 (lv_at hl 0 rfl) ?_
              refine lv_if_ne (tgt := 126) hx hb dX5_lease_119 (by decide) (fun c => absurd c (by decide)) (fun _ => ?_)
              refine lv_iconst (v := 2) hx hb dX5_lease_122 (by decide) ?_
              refine lv_goto (tgt := 139) hx hb dX5_lease_123 (by decide) ?_
              refine p5 hx hb hts hown hC hH hS 26 (by decide) (by decide) rfl wf_X5_77 rfl rfl dX5_lease_139 (fun H locs (hH : Wo D k b ad g (up M 26 0 2) o H) hS => ?_)
              refine lv_aload_n hx hb dX5_lease_142 rfl (lv_at hl 2 rfl) ?_
              refine g5 hx hb hts hown hC hH 26 (by decide) wf_X5_77 (v := .int 2) rfl dX5_lease_143 ?_
              refine W.eq (g2 := F0 m 146 ls [.int 2]) rfl ?_
              refine lv_if_ne (tgt := 195) hx hb dX5_lease_146 (by decide) (fun _ => ?_) (fun c => absurd c (by decide))
              have h8 : rlC M a0 a1 a2 a3 a4 a5 a6 = 2 := by first | (simp [rlC, c5, h6, c12, c17, c36, c43, c57]; done) | (subst c17; simp [rlC, c5, h6, c12, c36, c57]; done) | (subst c43; simp [rlC, c5, h6, c12, c36, c57]; done) | exact absurd c17 c43 | exact absurd c43 c17 | (subst c36; simp [rlC, c5, h6, c12, c17, c43, c57]; done) | (unfold rlC; rw [if_neg (by simp [c5, h6, c12, c17, c43, c57]), if_pos (by simp [c36])])
              have h9 : rO M (rlC M a0 a1 a2 a3 a4 a5 a6) (rlG (rT M) i a1 a2 a3 a4 a5 a6) = up M 26 0 2 := by rw [rO_n (by rw [h8]; decide), h8]; rfl
              exact e_wv hx hb hr hlocks hS (by rw [h9]; exact hH) (Nat.le_refl _) (Nat.le_refl _) dX5_lease_195
            · skip
              have c57 := b2_n0.mp c57
              refine lv_iload hx hb dX5_lease_60 (lv_at hl 6 rfl) ?_
              refine lv_aload_n hx hb dX5_lease_62 rfl (lv_at hl 1 rfl) ?_
              refine g5 hx hb hts hown hC hH 0 (by decide) wf_X5_105 (v := .int (M 0 0)) rfl dX5_lease_63 ?_
              refine lv_iconst (v := 1) hx hb dX5_lease_66 (by decide) ?_
              refine lv_iadd hx hb dX5_lease_67 ?_
              refine lv_sipush (v := 10000) hx hb dX5_lease_68 (by decide) ?_
              refine k_r (va_runS (As := [.int a4, .int ((M 0 0) + 1), .int 10000]) (rest := []) ⟨hx, hb, hml, hown, hts⟩ (mX5_in l a4 ((M 0 0) + 1) 10000) ⟨cb_of hts wk_X5_in wi_X5 wm_X5_84 sd_X5_in rfl rfl ⟨Nat.le_of_ble_eq_true rfl, Nat.le_of_ble_eq_true rfl⟩, hts _ wz_X5_in⟩ (P0.pre hC hS hH) rfl rfl hl.1 rfl (lv_room (Nat.le_of_ble_eq_true rfl)) dX5_lease_71 ⟨Nat.le_of_ble_eq_true rfl, Nat.le_of_ble_eq_true rfl⟩) ?_
              refine W.eq (g2 := F0 m 74 ls [.int (b2 (inB a4 ((M 0 0) + 1) 10000))]) rfl ?_
              refine lv_if_eq (tgt := 104) hx hb dX5_lease_74 (by decide) (fun c74 => ?_) (fun c74 => ?_)
              · skip
                have c74 := b2_0.mp c74
                refine lv_iconst (v := 0) hx hb dX5_lease_104 (by decide) ?_
                refine lv_istore (lv' := [(9, .int 0), (8, .int 1), (0, .ref (ad (7, 0, 0))), (1, .int (nI i)), (2, .int a1), (3, .int a2), (4, .int a3), (5, .int a4), (6, .int a5), (7, .int a6)]) hx hb dX5_lease_105 hl (by decide) rfl (fun ls hl => ?_)
                refine lv_aload_n hx hb dX5_lease_107 rfl (lv_at hl 2 rfl) ?_
                refine lv_iload hx hb dX5_lease_108 (lv_at hl 1 rfl) ?_
                refine lv_if_ne (tgt := 117) hx hb dX5_lease_110 (by decide) (fun _ => ?_) (fun c => absurd c (by decide))
                refine lv_iload hx hb dX5_lease_117 (lv_at hl 0 rfl) ?_
                refine lv_if_ne (tgt := 126) hx hb dX5_lease_119 (by decide) (fun c => absurd c (by decide)) (fun _ => ?_)
                refine lv_iconst (v := 2) hx hb dX5_lease_122 (by decide) ?_
                refine lv_goto (tgt := 139) hx hb dX5_lease_123 (by decide) ?_
                refine p5 hx hb hts hown hC hH hS 26 (by decide) (by decide) rfl wf_X5_77 rfl rfl dX5_lease_139 (fun H locs (hH : Wo D k b ad g (up M 26 0 2) o H) hS => ?_)
                refine lv_aload_n hx hb dX5_lease_142 rfl (lv_at hl 2 rfl) ?_
                refine g5 hx hb hts hown hC hH 26 (by decide) wf_X5_77 (v := .int 2) rfl dX5_lease_143 ?_
                refine W.eq (g2 := F0 m 146 ls [.int 2]) rfl ?_
                refine lv_if_ne (tgt := 195) hx hb dX5_lease_146 (by decide) (fun _ => ?_) (fun c => absurd c (by decide))
                have h8 : rlC M a0 a1 a2 a3 a4 a5 a6 = 2 := by first | (simp [rlC, c5, h6, c12, c17, c36, c43, c57, c74]; done) | (subst c17; simp [rlC, c5, h6, c12, c36, c57, c74]; done) | (subst c43; simp [rlC, c5, h6, c12, c36, c57, c74]; done) | exact absurd c17 c43 | exact absurd c43 c17 | (subst c36; simp [rlC, c5, h6, c12, c17, c43, c57, c74]; done) | (unfold rlC; rw [if_neg (by simp [c5, h6, c12, c17, c43, c57, c74]), if_pos (by simp [c36])])
                have h9 : rO M (rlC M a0 a1 a2 a3 a4 a5 a6) (rlG (rT M) i a1 a2 a3 a4 a5 a6) = up M 26 0 2 := by rw [rO_n (by rw [h8]; decide), h8]; rfl
                exact e_wv hx hb hr hlocks hS (by rw [h9]; exact hH) (Nat.le_refl _) (Nat.le_refl _) dX5_lease_195
              · skip
                have c74 := b2_n0.mp c74
                refine lv_iload hx hb dX5_lease_77 (lv_at hl 7 rfl) ?_
                refine lv_iconst (v := 0) hx hb dX5_lease_79 (by decide) ?_
                refine lv_sipush (v := 1000) hx hb dX5_lease_80 (by decide) ?_
                refine k_r (va_runS (As := [.int a5, .int 0, .int 1000]) (rest := []) ⟨hx, hb, hml, hown, hts⟩ (mX5_in l a5 0 1000) ⟨cb_of hts wk_X5_in wi_X5 wm_X5_84 sd_X5_in rfl rfl ⟨Nat.le_of_ble_eq_true rfl, Nat.le_of_ble_eq_true rfl⟩, hts _ wz_X5_in⟩ (P0.pre hC hS hH) rfl rfl hl.1 rfl (lv_room (Nat.le_of_ble_eq_true rfl)) dX5_lease_83 ⟨Nat.le_of_ble_eq_true rfl, Nat.le_of_ble_eq_true rfl⟩) ?_
                refine W.eq (g2 := F0 m 86 ls [.int (b2 (inB a5 0 1000))]) rfl ?_
                refine lv_if_eq (tgt := 104) hx hb dX5_lease_86 (by decide) (fun c86 => ?_) (fun c86 => ?_)
                · skip
                  have c86 := b2_0.mp c86
                  refine lv_iconst (v := 0) hx hb dX5_lease_104 (by decide) ?_
                  refine lv_istore (lv' := [(9, .int 0), (8, .int 1), (0, .ref (ad (7, 0, 0))), (1, .int (nI i)), (2, .int a1), (3, .int a2), (4, .int a3), (5, .int a4), (6, .int a5), (7, .int a6)]) hx hb dX5_lease_105 hl (by decide) rfl (fun ls hl => ?_)
                  refine lv_aload_n hx hb dX5_lease_107 rfl (lv_at hl 2 rfl) ?_
                  refine lv_iload hx hb dX5_lease_108 (lv_at hl 1 rfl) ?_
                  refine lv_if_ne (tgt := 117) hx hb dX5_lease_110 (by decide) (fun _ => ?_) (fun c => absurd c (by decide))
                  refine lv_iload hx hb dX5_lease_117 (lv_at hl 0 rfl) ?_
                  refine lv_if_ne (tgt := 126) hx hb dX5_lease_119 (by decide) (fun c => absurd c (by decide)) (fun _ => ?_)
                  refine lv_iconst (v := 2) hx hb dX5_lease_122 (by decide) ?_
                  refine lv_goto (tgt := 139) hx hb dX5_lease_123 (by decide) ?_
                  refine p5 hx hb hts hown hC hH hS 26 (by decide) (by decide) rfl wf_X5_77 rfl rfl dX5_lease_139 (fun H locs (hH : Wo D k b ad g (up M 26 0 2) o H) hS => ?_)
                  refine lv_aload_n hx hb dX5_lease_142 rfl (lv_at hl 2 rfl) ?_
                  refine g5 hx hb hts hown hC hH 26 (by decide) wf_X5_77 (v := .int 2) rfl dX5_lease_143 ?_
                  refine W.eq (g2 := F0 m 146 ls [.int 2]) rfl ?_
                  refine lv_if_ne (tgt := 195) hx hb dX5_lease_146 (by decide) (fun _ => ?_) (fun c => absurd c (by decide))
                  have h8 : rlC M a0 a1 a2 a3 a4 a5 a6 = 2 := by first | (simp [rlC, c5, h6, c12, c17, c36, c43, c57, c74, c86]; done) | (subst c17; simp [rlC, c5, h6, c12, c36, c57, c74, c86]; done) | (subst c43; simp [rlC, c5, h6, c12, c36, c57, c74, c86]; done) | exact absurd c17 c43 | exact absurd c43 c17 | (subst c36; simp [rlC, c5, h6, c12, c17, c43, c57, c74, c86]; done) | (unfold rlC; rw [if_neg (by simp [c5, h6, c12, c17, c43, c57, c74, c86]), if_pos (by simp [c36])])
                  have h9 : rO M (rlC M a0 a1 a2 a3 a4 a5 a6) (rlG (rT M) i a1 a2 a3 a4 a5 a6) = up M 26 0 2 := by rw [rO_n (by rw [h8]; decide), h8]; rfl
                  exact e_wv hx hb hr hlocks hS (by rw [h9]; exact hH) (Nat.le_refl _) (Nat.le_refl _) dX5_lease_195
                · skip
                  have c86 := b2_n0.mp c86
                  refine lv_iload hx hb dX5_lease_89 (lv_at hl 8 rfl) ?_
                  refine lv_iconst (v := 0) hx hb dX5_lease_91 (by decide) ?_
                  refine lv_bipush (v := 100) hx hb dX5_lease_92 (by decide) ?_
                  refine k_r (va_runS (As := [.int a6, .int 0, .int 100]) (rest := []) ⟨hx, hb, hml, hown, hts⟩ (mX5_in l a6 0 100) ⟨cb_of hts wk_X5_in wi_X5 wm_X5_84 sd_X5_in rfl rfl ⟨Nat.le_of_ble_eq_true rfl, Nat.le_of_ble_eq_true rfl⟩, hts _ wz_X5_in⟩ (P0.pre hC hS hH) rfl rfl hl.1 rfl (lv_room (Nat.le_of_ble_eq_true rfl)) dX5_lease_94 ⟨Nat.le_of_ble_eq_true rfl, Nat.le_of_ble_eq_true rfl⟩) ?_
                  refine W.eq (g2 := F0 m 97 ls [.int (b2 (inB a6 0 100))]) rfl ?_
                  refine lv_if_eq (tgt := 104) hx hb dX5_lease_97 (by decide) (fun c97 => ?_) (fun c97 => ?_)
                  · skip
                    have c97 := b2_0.mp c97
                    refine lv_iconst (v := 0) hx hb dX5_lease_104 (by decide) ?_
                    refine lv_istore (lv' := [(9, .int 0), (8, .int 1), (0, .ref (ad (7, 0, 0))), (1, .int (nI i)), (2, .int a1), (3, .int a2), (4, .int a3), (5, .int a4), (6, .int a5), (7, .int a6)]) hx hb dX5_lease_105 hl (by decide) rfl (fun ls hl => ?_)
                    refine lv_aload_n hx hb dX5_lease_107 rfl (lv_at hl 2 rfl) ?_
                    refine lv_iload hx hb dX5_lease_108 (lv_at hl 1 rfl) ?_
                    refine lv_if_ne (tgt := 117) hx hb dX5_lease_110 (by decide) (fun _ => ?_) (fun c => absurd c (by decide))
                    refine lv_iload hx hb dX5_lease_117 (lv_at hl 0 rfl) ?_
                    refine lv_if_ne (tgt := 126) hx hb dX5_lease_119 (by decide) (fun c => absurd c (by decide)) (fun _ => ?_)
                    refine lv_iconst (v := 2) hx hb dX5_lease_122 (by decide) ?_
                    refine lv_goto (tgt := 139) hx hb dX5_lease_123 (by decide) ?_
                    refine p5 hx hb hts hown hC hH hS 26 (by decide) (by decide) rfl wf_X5_77 rfl rfl dX5_lease_139 (fun H locs (hH : Wo D k b ad g (up M 26 0 2) o H) hS => ?_)
                    refine lv_aload_n hx hb dX5_lease_142 rfl (lv_at hl 2 rfl) ?_
                    refine g5 hx hb hts hown hC hH 26 (by decide) wf_X5_77 (v := .int 2) rfl dX5_lease_143 ?_
                    refine W.eq (g2 := F0 m 146 ls [.int 2]) rfl ?_
                    refine lv_if_ne (tgt := 195) hx hb dX5_lease_146 (by decide) (fun _ => ?_) (fun c => absurd c (by decide))
                    have h8 : rlC M a0 a1 a2 a3 a4 a5 a6 = 2 := by first | (simp [rlC, c5, h6, c12, c17, c36, c43, c57, c74, c86, c97]; done) | (subst c17; simp [rlC, c5, h6, c12, c36, c57, c74, c86, c97]; done) | (subst c43; simp [rlC, c5, h6, c12, c36, c57, c74, c86, c97]; done) | exact absurd c17 c43 | exact absurd c43 c17 | (subst c36; simp [rlC, c5, h6, c12, c17, c43, c57, c74, c86, c97]; done) | (unfold rlC; rw [if_neg (by simp [c5, h6, c12, c17, c43, c57, c74, c86, c97]), if_pos (by simp [c36])])
                    have h9 : rO M (rlC M a0 a1 a2 a3 a4 a5 a6) (rlG (rT M) i a1 a2 a3 a4 a5 a6) = up M 26 0 2 := by rw [rO_n (by rw [h8]; decide), h8]; rfl
                    exact e_wv hx hb hr hlocks hS (by rw [h9]; exact hH) (Nat.le_refl _) (Nat.le_refl _) dX5_lease_195
                  · skip
                    have c97 := b2_n0.mp c97
                    refine lv_iconst (v := 1) hx hb dX5_lease_100 (by decide) ?_
                    refine lv_goto (tgt := 105) hx hb dX5_lease_101 (by decide) ?_
                    refine lv_istore (lv' := [(9, .int 1), (8, .int 1), (0, .ref (ad (7, 0, 0))), (1, .int (nI i)), (2, .int a1), (3, .int a2), (4, .int a3), (5, .int a4), (6, .int a5), (7, .int a6)]) hx hb dX5_lease_105 hl (by decide) rfl (fun ls hl => ?_)
                    refine lv_aload_n hx hb dX5_lease_107 rfl (lv_at hl 2 rfl) ?_
                    refine lv_iload hx hb dX5_lease_108 (lv_at hl 1 rfl) ?_
                    refine lv_if_ne (tgt := 117) hx hb dX5_lease_110 (by decide) (fun _ => ?_) (fun c => absurd c (by decide))
                    refine lv_iload hx hb dX5_lease_117 (lv_at hl 0 rfl) ?_
                    refine lv_if_ne (tgt := 126) hx hb dX5_lease_119 (by decide) (fun _ => ?_) (fun c => absurd c (by decide))
                    refine lv_aload_n hx hb dX5_lease_126 rfl (lv_at hl 2 rfl) ?_
                    refine lv_iload_n hx hb dX5_lease_127 rfl (lv_at hl 3 rfl) ?_
                    refine k_r (va_runV (As := [.int (nI i)]) (rest := [.ref (ad (7, 0, 0))]) ⟨hx, hb, hml, hown, hts⟩ (mX5_isLeased l (M := M) i (by omega)) ⟨cb_of hts wk_X5_isLeased wi_X5 wm_X5_91 sd_X5_isLeased rfl rfl ⟨Nat.le_of_ble_eq_true rfl, Nat.le_of_ble_eq_true rfl⟩, hts _ wv_X5_isLeased, hts _ wl_X5_isLeased⟩ (P0.preV hC hS hH (Hp.recv hC.1 hH (7, 0, 0) ⟨rfl, rfl⟩ rfl rfl)) rfl rfl hl.1 rfl (lv_room (Nat.le_of_ble_eq_true rfl)) dX5_lease_128 ⟨Nat.le_of_ble_eq_true rfl, Nat.le_of_ble_eq_true rfl⟩) ?_
                    refine W.eq (g2 := F0 m 131 ls [.int (b2 (rlB M i)), .ref (ad (7, 0, 0))]) rfl ?_
                    refine lv_if_eq (tgt := 138) hx hb dX5_lease_131 (by decide) (fun c131 => ?_) (fun c131 => ?_)
                    · skip
                      have c131 := b2_0.mp c131
                      refine lv_iconst (v := 0) hx hb dX5_lease_138 (by decide) ?_
                      refine p5 hx hb hts hown hC hH hS 26 (by decide) (by decide) rfl wf_X5_77 rfl rfl dX5_lease_139 (fun H locs (hH : Wo D k b ad g (up M 26 0 0) o H) hS => ?_)
                      refine lv_aload_n hx hb dX5_lease_142 rfl (lv_at hl 2 rfl) ?_
                      refine g5 hx hb hts hown hC hH 26 (by decide) wf_X5_77 (v := .int 0) rfl dX5_lease_143 ?_
                      refine W.eq (g2 := F0 m 146 ls [.int 0]) rfl ?_
                      refine lv_if_ne (tgt := 195) hx hb dX5_lease_146 (by decide) (fun c => absurd c (by decide)) (fun _ => ?_)
                      refine lv_aload_n hx hb dX5_lease_149 rfl (lv_at hl 2 rfl) ?_
                      refine g5 hx hb hts hown hC hH 11 (by decide) wf_X5_35 (v := .ref (ad (8, 11, 0))) rfl dX5_lease_150 ?_
                      refine lv_iload_n hx hb dX5_lease_153 rfl (lv_at hl 3 rfl) ?_
                      refine lv_iload hx hb dX5_lease_154 (lv_at hl 7 rfl) ?_
                      refine rStN hx hb hC hH hS 11 (by decide) (by decide) (i := i) (show i < 8 by omega) dX5_lease_156 (fun H locs (hH : Wo D k b ad g (up (up M 26 0 0) 11 i a4) o H) hS => ?_)
                      refine lv_aload_n hx hb dX5_lease_157 rfl (lv_at hl 2 rfl) ?_
                      refine g5 hx hb hts hown hC hH 12 (by decide) wf_X5_38 (v := .ref (ad (8, 12, 0))) rfl dX5_lease_158 ?_
                      refine lv_iload_n hx hb dX5_lease_161 rfl (lv_at hl 3 rfl) ?_
                      refine lv_iload_n hx hb dX5_lease_162 rfl (lv_at hl 4 rfl) ?_
                      refine rStN hx hb hC hH hS 12 (by decide) (by decide) (i := i) (show i < 8 by omega) dX5_lease_163 (fun H locs (hH : Wo D k b ad g (up (up (up M 26 0 0) 11 i a4) 12 i a1) o H) hS => ?_)
                      refine lv_aload_n hx hb dX5_lease_164 rfl (lv_at hl 2 rfl) ?_
                      refine g5 hx hb hts hown hC hH 13 (by decide) wf_X5_41 (v := .ref (ad (8, 13, 0))) rfl dX5_lease_165 ?_
                      refine lv_iload_n hx hb dX5_lease_168 rfl (lv_at hl 3 rfl) ?_
                      refine lv_iload_n hx hb dX5_lease_169 rfl (lv_at hl 5 rfl) ?_
                      refine rStN hx hb hC hH hS 13 (by decide) (by decide) (i := i) (show i < 8 by omega) dX5_lease_170 (fun H locs (hH : Wo D k b ad g (up (up (up (up M 26 0 0) 11 i a4) 12 i a1) 13 i a2) o H) hS => ?_)
                      refine lv_aload_n hx hb dX5_lease_171 rfl (lv_at hl 2 rfl) ?_
                      refine g5 hx hb hts hown hC hH 14 (by decide) wf_X5_44 (v := .ref (ad (8, 14, 0))) rfl dX5_lease_172 ?_
                      refine lv_iload_n hx hb dX5_lease_175 rfl (lv_at hl 3 rfl) ?_
                      refine lv_iload hx hb dX5_lease_176 (lv_at hl 6 rfl) ?_
                      refine rStN hx hb hC hH hS 14 (by decide) (by decide) (i := i) (show i < 8 by omega) dX5_lease_178 (fun H locs (hH : Wo D k b ad g (up (up (up (up (up M 26 0 0) 11 i a4) 12 i a1) 13 i a2) 14 i a3) o H) hS => ?_)
                      refine lv_aload_n hx hb dX5_lease_179 rfl (lv_at hl 2 rfl) ?_
                      refine g5 hx hb hts hown hC hH 15 (by decide) wf_X5_47 (v := .ref (ad (8, 15, 0))) rfl dX5_lease_180 ?_
                      refine lv_iload_n hx hb dX5_lease_183 rfl (lv_at hl 3 rfl) ?_
                      refine lv_iload hx hb dX5_lease_184 (lv_at hl 8 rfl) ?_
                      refine rStN hx hb hC hH hS 15 (by decide) (by decide) (i := i) (show i < 8 by omega) dX5_lease_186 (fun H locs (hH : Wo D k b ad g (up (up (up (up (up (up M 26 0 0) 11 i a4) 12 i a1) 13 i a2) 14 i a3) 15 i a5) o H) hS => ?_)
                      refine lv_aload_n hx hb dX5_lease_187 rfl (lv_at hl 2 rfl) ?_
                      refine g5 hx hb hts hown hC hH 16 (by decide) wf_X5_50 (v := .ref (ad (8, 16, 0))) rfl dX5_lease_188 ?_
                      refine lv_iload_n hx hb dX5_lease_191 rfl (lv_at hl 3 rfl) ?_
                      refine lv_iload hx hb dX5_lease_192 (lv_at hl 9 rfl) ?_
                      refine rStN hx hb hC hH hS 16 (by decide) (by decide) (i := i) (show i < 8 by omega) dX5_lease_194 (fun H locs (hH : Wo D k b ad g (up (up (up (up (up (up (up M 26 0 0) 11 i a4) 12 i a1) 13 i a2) 14 i a3) 15 i a5) 16 i a6) o H) hS => ?_)
                      have h8 : rlC M a0 a1 a2 a3 a4 a5 a6 = 0 := by first | (simp [rlC, c5, h6, c12, c17, c36, c43, c57, c74, c86, c97, c131]; done) | (subst c17; simp [rlC, c5, h6, c12, c36, c57, c74, c86, c97, c131]; done) | (subst c43; simp [rlC, c5, h6, c12, c36, c57, c74, c86, c97, c131]; done) | exact absurd c17 c43 | exact absurd c43 c17 | (subst c36; simp [rlC, c5, h6, c12, c17, c43, c57, c74, c86, c97, c131]; done) | (unfold rlC; rw [if_neg (by simp [c5, h6, c12, c17, c43, c57, c74, c86, c97, c131]), if_pos (by simp [c36])])
                      have h9 : rO M (rlC M a0 a1 a2 a3 a4 a5 a6) (rlG (rT M) i a1 a2 a3 a4 a5 a6) = up (up (up (up (up (up (up M 26 0 0) 11 i a4) 12 i a1) 13 i a2) 14 i a3) 15 i a5) 16 i a6 := (rO_0 h8).trans (rfl)
                      exact e_wv hx hb hr hlocks hS (by rw [h9]; exact hH) (Nat.le_refl _) (Nat.le_refl _) dX5_lease_195
                    · skip
                      have c131 := b2_n0.mp c131
                      refine lv_iconst (v := 3) hx hb dX5_lease_134 (by decide) ?_
                      refine lv_goto (tgt := 139) hx hb dX5_lease_135 (by decide) ?_
                      refine p5 hx hb hts hown hC hH hS 26 (by decide) (by decide) rfl wf_X5_77 rfl rfl dX5_lease_139 (fun H locs (hH : Wo D k b ad g (up M 26 0 3) o H) hS => ?_)
                      refine lv_aload_n hx hb dX5_lease_142 rfl (lv_at hl 2 rfl) ?_
                      refine g5 hx hb hts hown hC hH 26 (by decide) wf_X5_77 (v := .int 3) rfl dX5_lease_143 ?_
                      refine W.eq (g2 := F0 m 146 ls [.int 3]) rfl ?_
                      refine lv_if_ne (tgt := 195) hx hb dX5_lease_146 (by decide) (fun _ => ?_) (fun c => absurd c (by decide))
                      have h8 : rlC M a0 a1 a2 a3 a4 a5 a6 = 3 := by first | (simp [rlC, c5, h6, c12, c17, c36, c43, c57, c74, c86, c97, c131]; done) | (subst c17; simp [rlC, c5, h6, c12, c36, c57, c74, c86, c97, c131]; done) | (subst c43; simp [rlC, c5, h6, c12, c36, c57, c74, c86, c97, c131]; done) | exact absurd c17 c43 | exact absurd c43 c17 | (subst c36; simp [rlC, c5, h6, c12, c17, c43, c57, c74, c86, c97, c131]; done) | (unfold rlC; rw [if_neg (by simp [c5, h6, c12, c17, c43, c57, c74, c86, c97, c131]), if_pos (by simp [c36])])
                      have h9 : rO M (rlC M a0 a1 a2 a3 a4 a5 a6) (rlG (rT M) i a1 a2 a3 a4 a5 a6) = up M 26 0 3 := by rw [rO_n (by rw [h8]; decide), h8]; rfl
                      exact e_wv hx hb hr hlocks hS (by rw [h9]; exact hH) (Nat.le_refl _) (Nat.le_refl _) dX5_lease_195
          · skip
            refine lv_bipush (v := 10) hx hb dX5_lease_46 (by decide) ?_
            refine lv_goto (tgt := 52) hx hb dX5_lease_48 (by decide) ?_
            refine lv_bipush (v := 10) hx hb dX5_lease_52 (by decide) ?_
            refine k_r (va_runS (As := [.int a3, .int 10, .int 10]) (rest := []) ⟨hx, hb, hml, hown, hts⟩ (mX5_in l a3 10 10) ⟨cb_of hts wk_X5_in wi_X5 wm_X5_84 sd_X5_in rfl rfl ⟨Nat.le_of_ble_eq_true rfl, Nat.le_of_ble_eq_true rfl⟩, hts _ wz_X5_in⟩ (P0.pre hC hS hH) rfl rfl hl.1 rfl (lv_room (Nat.le_of_ble_eq_true rfl)) dX5_lease_54 ⟨Nat.le_of_ble_eq_true rfl, Nat.le_of_ble_eq_true rfl⟩) ?_
            refine W.eq (g2 := F0 m 57 ls [.int (b2 (inB a3 10 10))]) rfl ?_
            refine lv_if_eq (tgt := 104) hx hb dX5_lease_57 (by decide) (fun c57 => ?_) (fun c57 => ?_)
            · skip
              have c57 := b2_0.mp c57
              refine lv_iconst (v := 0) hx hb dX5_lease_104 (by decide) ?_
              refine lv_istore (lv' := [(9, .int 0), (8, .int 1), (0, .ref (ad (7, 0, 0))), (1, .int (nI i)), (2, .int a1), (3, .int a2), (4, .int a3), (5, .int a4), (6, .int a5), (7, .int a6)]) hx hb dX5_lease_105 hl (by decide) rfl (fun ls hl => ?_)
              refine lv_aload_n hx hb dX5_lease_107 rfl (lv_at hl 2 rfl) ?_
              refine lv_iload hx hb dX5_lease_108 (lv_at hl 1 rfl) ?_
              refine lv_if_ne (tgt := 117) hx hb dX5_lease_110 (by decide) (fun _ => ?_) (fun c => absurd c (by decide))
              refine lv_iload hx hb dX5_lease_117 (lv_at hl 0 rfl) ?_
              refine lv_if_ne (tgt := 126) hx hb dX5_lease_119 (by decide) (fun c => absurd c (by decide)) (fun _ => ?_)
              refine lv_iconst (v := 2) hx hb dX5_lease_122 (by decide) ?_
              refine lv_goto (tgt := 139) hx hb dX5_lease_123 (by decide) ?_
              refine p5 hx hb hts hown hC hH hS 26 (by decide) (by decide) rfl wf_X5_77 rfl rfl dX5_lease_139 (fun H locs (hH : Wo D k b ad g (up M 26 0 2) o H) hS => ?_)
              refine lv_aload_n hx hb dX5_lease_142 rfl (lv_at hl 2 rfl) ?_
              refine g5 hx hb hts hown hC hH 26 (by decide) wf_X5_77 (v := .int 2) rfl dX5_lease_143 ?_
              refine W.eq (g2 := F0 m 146 ls [.int 2]) rfl ?_
              refine lv_if_ne (tgt := 195) hx hb dX5_lease_146 (by decide) (fun _ => ?_) (fun c => absurd c (by decide))
              have h8 : rlC M a0 a1 a2 a3 a4 a5 a6 = 2 := by first | (simp [rlC, c5, h6, c12, c17, c36, c43, c57]; done) | (subst c17; simp [rlC, c5, h6, c12, c36, c57]; done) | (subst c43; simp [rlC, c5, h6, c12, c36, c57]; done) | exact absurd c17 c43 | exact absurd c43 c17 | (subst c36; simp [rlC, c5, h6, c12, c17, c43, c57]; done) | (unfold rlC; rw [if_neg (by simp [c5, h6, c12, c17, c43, c57]), if_pos (by simp [c36])])
              have h9 : rO M (rlC M a0 a1 a2 a3 a4 a5 a6) (rlG (rT M) i a1 a2 a3 a4 a5 a6) = up M 26 0 2 := by rw [rO_n (by rw [h8]; decide), h8]; rfl
              exact e_wv hx hb hr hlocks hS (by rw [h9]; exact hH) (Nat.le_refl _) (Nat.le_refl _) dX5_lease_195
            · skip
              have c57 := b2_n0.mp c57
              refine lv_iload hx hb dX5_lease_60 (lv_at hl 6 rfl) ?_
              refine lv_aload_n hx hb dX5_lease_62 rfl (lv_at hl 1 rfl) ?_
              refine g5 hx hb hts hown hC hH 0 (by decide) wf_X5_105 (v := .int (M 0 0)) rfl dX5_lease_63 ?_
              refine lv_iconst (v := 1) hx hb dX5_lease_66 (by decide) ?_
              refine lv_iadd hx hb dX5_lease_67 ?_
              refine lv_sipush (v := 10000) hx hb dX5_lease_68 (by decide) ?_
              refine k_r (va_runS (As := [.int a4, .int ((M 0 0) + 1), .int 10000]) (rest := []) ⟨hx, hb, hml, hown, hts⟩ (mX5_in l a4 ((M 0 0) + 1) 10000) ⟨cb_of hts wk_X5_in wi_X5 wm_X5_84 sd_X5_in rfl rfl ⟨Nat.le_of_ble_eq_true rfl, Nat.le_of_ble_eq_true rfl⟩, hts _ wz_X5_in⟩ (P0.pre hC hS hH) rfl rfl hl.1 rfl (lv_room (Nat.le_of_ble_eq_true rfl)) dX5_lease_71 ⟨Nat.le_of_ble_eq_true rfl, Nat.le_of_ble_eq_true rfl⟩) ?_
              refine W.eq (g2 := F0 m 74 ls [.int (b2 (inB a4 ((M 0 0) + 1) 10000))]) rfl ?_
              refine lv_if_eq (tgt := 104) hx hb dX5_lease_74 (by decide) (fun c74 => ?_) (fun c74 => ?_)
              · skip
                have c74 := b2_0.mp c74
                refine lv_iconst (v := 0) hx hb dX5_lease_104 (by decide) ?_
                refine lv_istore (lv' := [(9, .int 0), (8, .int 1), (0, .ref (ad (7, 0, 0))), (1, .int (nI i)), (2, .int a1), (3, .int a2), (4, .int a3), (5, .int a4), (6, .int a5), (7, .int a6)]) hx hb dX5_lease_105 hl (by decide) rfl (fun ls hl => ?_)
                refine lv_aload_n hx hb dX5_lease_107 rfl (lv_at hl 2 rfl) ?_
                refine lv_iload hx hb dX5_lease_108 (lv_at hl 1 rfl) ?_
                refine lv_if_ne (tgt := 117) hx hb dX5_lease_110 (by decide) (fun _ => ?_) (fun c => absurd c (by decide))
                refine lv_iload hx hb dX5_lease_117 (lv_at hl 0 rfl) ?_
                refine lv_if_ne (tgt := 126) hx hb dX5_lease_119 (by decide) (fun c => absurd c (by decide)) (fun _ => ?_)
                refine lv_iconst (v := 2) hx hb dX5_lease_122 (by decide) ?_
                refine lv_goto (tgt := 139) hx hb dX5_lease_123 (by decide) ?_
                refine p5 hx hb hts hown hC hH hS 26 (by decide) (by decide) rfl wf_X5_77 rfl rfl dX5_lease_139 (fun H locs (hH : Wo D k b ad g (up M 26 0 2) o H) hS => ?_)
                refine lv_aload_n hx hb dX5_lease_142 rfl (lv_at hl 2 rfl) ?_
                refine g5 hx hb hts hown hC hH 26 (by decide) wf_X5_77 (v := .int 2) rfl dX5_lease_143 ?_
                refine W.eq (g2 := F0 m 146 ls [.int 2]) rfl ?_
                refine lv_if_ne (tgt := 195) hx hb dX5_lease_146 (by decide) (fun _ => ?_) (fun c => absurd c (by decide))
                have h8 : rlC M a0 a1 a2 a3 a4 a5 a6 = 2 := by first | (simp [rlC, c5, h6, c12, c17, c36, c43, c57, c74]; done) | (subst c17; simp [rlC, c5, h6, c12, c36, c57, c74]; done) | (subst c43; simp [rlC, c5, h6, c12, c36, c57, c74]; done) | exact absurd c17 c43 | exact absurd c43 c17 | (subst c36; simp [rlC, c5, h6, c12, c17, c43, c57, c74]; done) | (unfold rlC; rw [if_neg (by simp [c5, h6, c12, c17, c43, c57, c74]), if_pos (by simp [c36])])
                have h9 : rO M (rlC M a0 a1 a2 a3 a4 a5 a6) (rlG (rT M) i a1 a2 a3 a4 a5 a6) = up M 26 0 2 := by rw [rO_n (by rw [h8]; decide), h8]; rfl
                exact e_wv hx hb hr hlocks hS (by rw [h9]; exact hH) (Nat.le_refl _) (Nat.le_refl _) dX5_lease_195
              · skip
                have c74 := b2_n0.mp c74
                refine lv_iload hx hb dX5_lease_77 (lv_at hl 7 rfl) ?_
                refine lv_iconst (v := 0) hx hb dX5_lease_79 (by decide) ?_
                refine lv_sipush (v := 1000) hx hb dX5_lease_80 (by decide) ?_
                refine k_r (va_runS (As := [.int a5, .int 0, .int 1000]) (rest := []) ⟨hx, hb, hml, hown, hts⟩ (mX5_in l a5 0 1000) ⟨cb_of hts wk_X5_in wi_X5 wm_X5_84 sd_X5_in rfl rfl ⟨Nat.le_of_ble_eq_true rfl, Nat.le_of_ble_eq_true rfl⟩, hts _ wz_X5_in⟩ (P0.pre hC hS hH) rfl rfl hl.1 rfl (lv_room (Nat.le_of_ble_eq_true rfl)) dX5_lease_83 ⟨Nat.le_of_ble_eq_true rfl, Nat.le_of_ble_eq_true rfl⟩) ?_
                refine W.eq (g2 := F0 m 86 ls [.int (b2 (inB a5 0 1000))]) rfl ?_
                refine lv_if_eq (tgt := 104) hx hb dX5_lease_86 (by decide) (fun c86 => ?_) (fun c86 => ?_)
                · skip
                  have c86 := b2_0.mp c86
                  refine lv_iconst (v := 0) hx hb dX5_lease_104 (by decide) ?_
                  refine lv_istore (lv' := [(9, .int 0), (8, .int 1), (0, .ref (ad (7, 0, 0))), (1, .int (nI i)), (2, .int a1), (3, .int a2), (4, .int a3), (5, .int a4), (6, .int a5), (7, .int a6)]) hx hb dX5_lease_105 hl (by decide) rfl (fun ls hl => ?_)
                  refine lv_aload_n hx hb dX5_lease_107 rfl (lv_at hl 2 rfl) ?_
                  refine lv_iload hx hb dX5_lease_108 (lv_at hl 1 rfl) ?_
                  refine lv_if_ne (tgt := 117) hx hb dX5_lease_110 (by decide) (fun _ => ?_) (fun c => absurd c (by decide))
                  refine lv_iload hx hb dX5_lease_117 (lv_at hl 0 rfl) ?_
                  refine lv_if_ne (tgt := 126) hx hb dX5_lease_119 (by decide) (fun c => absurd c (by decide)) (fun _ => ?_)
                  refine lv_iconst (v := 2) hx hb dX5_lease_122 (by decide) ?_
                  refine lv_goto (tgt := 139) hx hb dX5_lease_123 (by decide) ?_
                  refine p5 hx hb hts hown hC hH hS 26 (by decide) (by decide) rfl wf_X5_77 rfl rfl dX5_lease_139 (fun H locs (hH : Wo D k b ad g (up M 26 0 2) o H) hS => ?_)
                  refine lv_aload_n hx hb dX5_lease_142 rfl (lv_at hl 2 rfl) ?_
                  refine g5 hx hb hts hown hC hH 26 (by decide) wf_X5_77 (v := .int 2) rfl dX5_lease_143 ?_
                  refine W.eq (g2 := F0 m 146 ls [.int 2]) rfl ?_
                  refine lv_if_ne (tgt := 195) hx hb dX5_lease_146 (by decide) (fun _ => ?_) (fun c => absurd c (by decide))
                  have h8 : rlC M a0 a1 a2 a3 a4 a5 a6 = 2 := by first | (simp [rlC, c5, h6, c12, c17, c36, c43, c57, c74, c86]; done) | (subst c17; simp [rlC, c5, h6, c12, c36, c57, c74, c86]; done) | (subst c43; simp [rlC, c5, h6, c12, c36, c57, c74, c86]; done) | exact absurd c17 c43 | exact absurd c43 c17 | (subst c36; simp [rlC, c5, h6, c12, c17, c43, c57, c74, c86]; done) | (unfold rlC; rw [if_neg (by simp [c5, h6, c12, c17, c43, c57, c74, c86]), if_pos (by simp [c36])])
                  have h9 : rO M (rlC M a0 a1 a2 a3 a4 a5 a6) (rlG (rT M) i a1 a2 a3 a4 a5 a6) = up M 26 0 2 := by rw [rO_n (by rw [h8]; decide), h8]; rfl
                  exact e_wv hx hb hr hlocks hS (by rw [h9]; exact hH) (Nat.le_refl _) (Nat.le_refl _) dX5_lease_195
                · skip
                  have c86 := b2_n0.mp c86
                  refine lv_iload hx hb dX5_lease_89 (lv_at hl 8 rfl) ?_
                  refine lv_iconst (v := 0) hx hb dX5_lease_91 (by decide) ?_
                  refine lv_bipush (v := 100) hx hb dX5_lease_92 (by decide) ?_
                  refine k_r (va_runS (As := [.int a6, .int 0, .int 100]) (rest := []) ⟨hx, hb, hml, hown, hts⟩ (mX5_in l a6 0 100) ⟨cb_of hts wk_X5_in wi_X5 wm_X5_84 sd_X5_in rfl rfl ⟨Nat.le_of_ble_eq_true rfl, Nat.le_of_ble_eq_true rfl⟩, hts _ wz_X5_in⟩ (P0.pre hC hS hH) rfl rfl hl.1 rfl (lv_room (Nat.le_of_ble_eq_true rfl)) dX5_lease_94 ⟨Nat.le_of_ble_eq_true rfl, Nat.le_of_ble_eq_true rfl⟩) ?_
                  refine W.eq (g2 := F0 m 97 ls [.int (b2 (inB a6 0 100))]) rfl ?_
                  refine lv_if_eq (tgt := 104) hx hb dX5_lease_97 (by decide) (fun c97 => ?_) (fun c97 => ?_)
                  · skip
                    have c97 := b2_0.mp c97
                    refine lv_iconst (v := 0) hx hb dX5_lease_104 (by decide) ?_
                    refine lv_istore (lv' := [(9, .int 0), (8, .int 1), (0, .ref (ad (7, 0, 0))), (1, .int (nI i)), (2, .int a1), (3, .int a2), (4, .int a3), (5, .int a4), (6, .int a5), (7, .int a6)]) hx hb dX5_lease_105 hl (by decide) rfl (fun ls hl => ?_)
                    refine lv_aload_n hx hb dX5_lease_107 rfl (lv_at hl 2 rfl) ?_
                    refine lv_iload hx hb dX5_lease_108 (lv_at hl 1 rfl) ?_
                    refine lv_if_ne (tgt := 117) hx hb dX5_lease_110 (by decide) (fun _ => ?_) (fun c => absurd c (by decide))
                    refine lv_iload hx hb dX5_lease_117 (lv_at hl 0 rfl) ?_
                    refine lv_if_ne (tgt := 126) hx hb dX5_lease_119 (by decide) (fun c => absurd c (by decide)) (fun _ => ?_)
                    refine lv_iconst (v := 2) hx hb dX5_lease_122 (by decide) ?_
                    refine lv_goto (tgt := 139) hx hb dX5_lease_123 (by decide) ?_
                    refine p5 hx hb hts hown hC hH hS 26 (by decide) (by decide) rfl wf_X5_77 rfl rfl dX5_lease_139 (fun H locs (hH : Wo D k b ad g (up M 26 0 2) o H) hS => ?_)
                    refine lv_aload_n hx hb dX5_lease_142 rfl (lv_at hl 2 rfl) ?_
                    refine g5 hx hb hts hown hC hH 26 (by decide) wf_X5_77 (v := .int 2) rfl dX5_lease_143 ?_
                    refine W.eq (g2 := F0 m 146 ls [.int 2]) rfl ?_
                    refine lv_if_ne (tgt := 195) hx hb dX5_lease_146 (by decide) (fun _ => ?_) (fun c => absurd c (by decide))
                    have h8 : rlC M a0 a1 a2 a3 a4 a5 a6 = 2 := by first | (simp [rlC, c5, h6, c12, c17, c36, c43, c57, c74, c86, c97]; done) | (subst c17; simp [rlC, c5, h6, c12, c36, c57, c74, c86, c97]; done) | (subst c43; simp [rlC, c5, h6, c12, c36, c57, c74, c86, c97]; done) | exact absurd c17 c43 | exact absurd c43 c17 | (subst c36; simp [rlC, c5, h6, c12, c17, c43, c57, c74, c86, c97]; done) | (unfold rlC; rw [if_neg (by simp [c5, h6, c12, c17, c43, c57, c74, c86, c97]), if_pos (by simp [c36])])
                    have h9 : rO M (rlC M a0 a1 a2 a3 a4 a5 a6) (rlG (rT M) i a1 a2 a3 a4 a5 a6) = up M 26 0 2 := by rw [rO_n (by rw [h8]; decide), h8]; rfl
                    exact e_wv hx hb hr hlocks hS (by rw [h9]; exact hH) (Nat.le_refl _) (Nat.le_refl _) dX5_lease_195
                  · skip
                    have c97 := b2_n0.mp c97
                    refine lv_iconst (v := 1) hx hb dX5_lease_100 (by decide) ?_
                    refine lv_goto (tgt := 105) hx hb dX5_lease_101 (by decide) ?_
                    refine lv_istore (lv' := [(9, .int 1), (8, .int 1), (0, .ref (ad (7, 0, 0))), (1, .int (nI i)), (2, .int a1), (3, .int a2), (4, .int a3), (5, .int a4), (6, .int a5), (7, .int a6)]) hx hb dX5_lease_105 hl (by decide) rfl (fun ls hl => ?_)
                    refine lv_aload_n hx hb dX5_lease_107 rfl (lv_at hl 2 rfl) ?_
                    refine lv_iload hx hb dX5_lease_108 (lv_at hl 1 rfl) ?_
                    refine lv_if_ne (tgt := 117) hx hb dX5_lease_110 (by decide) (fun _ => ?_) (fun c => absurd c (by decide))
                    refine lv_iload hx hb dX5_lease_117 (lv_at hl 0 rfl) ?_
                    refine lv_if_ne (tgt := 126) hx hb dX5_lease_119 (by decide) (fun _ => ?_) (fun c => absurd c (by decide))
                    refine lv_aload_n hx hb dX5_lease_126 rfl (lv_at hl 2 rfl) ?_
                    refine lv_iload_n hx hb dX5_lease_127 rfl (lv_at hl 3 rfl) ?_
                    refine k_r (va_runV (As := [.int (nI i)]) (rest := [.ref (ad (7, 0, 0))]) ⟨hx, hb, hml, hown, hts⟩ (mX5_isLeased l (M := M) i (by omega)) ⟨cb_of hts wk_X5_isLeased wi_X5 wm_X5_91 sd_X5_isLeased rfl rfl ⟨Nat.le_of_ble_eq_true rfl, Nat.le_of_ble_eq_true rfl⟩, hts _ wv_X5_isLeased, hts _ wl_X5_isLeased⟩ (P0.preV hC hS hH (Hp.recv hC.1 hH (7, 0, 0) ⟨rfl, rfl⟩ rfl rfl)) rfl rfl hl.1 rfl (lv_room (Nat.le_of_ble_eq_true rfl)) dX5_lease_128 ⟨Nat.le_of_ble_eq_true rfl, Nat.le_of_ble_eq_true rfl⟩) ?_
                    refine W.eq (g2 := F0 m 131 ls [.int (b2 (rlB M i)), .ref (ad (7, 0, 0))]) rfl ?_
                    refine lv_if_eq (tgt := 138) hx hb dX5_lease_131 (by decide) (fun c131 => ?_) (fun c131 => ?_)
                    · skip
                      have c131 := b2_0.mp c131
                      refine lv_iconst (v := 0) hx hb dX5_lease_138 (by decide) ?_
                      refine p5 hx hb hts hown hC hH hS 26 (by decide) (by decide) rfl wf_X5_77 rfl rfl dX5_lease_139 (fun H locs (hH : Wo D k b ad g (up M 26 0 0) o H) hS => ?_)
                      refine lv_aload_n hx hb dX5_lease_142 rfl (lv_at hl 2 rfl) ?_
                      refine g5 hx hb hts hown hC hH 26 (by decide) wf_X5_77 (v := .int 0) rfl dX5_lease_143 ?_
                      refine W.eq (g2 := F0 m 146 ls [.int 0]) rfl ?_
                      refine lv_if_ne (tgt := 195) hx hb dX5_lease_146 (by decide) (fun c => absurd c (by decide)) (fun _ => ?_)
                      refine lv_aload_n hx hb dX5_lease_149 rfl (lv_at hl 2 rfl) ?_
                      refine g5 hx hb hts hown hC hH 11 (by decide) wf_X5_35 (v := .ref (ad (8, 11, 0))) rfl dX5_lease_150 ?_
                      refine lv_iload_n hx hb dX5_lease_153 rfl (lv_at hl 3 rfl) ?_
                      refine lv_iload hx hb dX5_lease_154 (lv_at hl 7 rfl) ?_
                      refine rStN hx hb hC hH hS 11 (by decide) (by decide) (i := i) (show i < 8 by omega) dX5_lease_156 (fun H locs (hH : Wo D k b ad g (up (up M 26 0 0) 11 i a4) o H) hS => ?_)
                      refine lv_aload_n hx hb dX5_lease_157 rfl (lv_at hl 2 rfl) ?_
                      refine g5 hx hb hts hown hC hH 12 (by decide) wf_X5_38 (v := .ref (ad (8, 12, 0))) rfl dX5_lease_158 ?_
                      refine lv_iload_n hx hb dX5_lease_161 rfl (lv_at hl 3 rfl) ?_
                      refine lv_iload_n hx hb dX5_lease_162 rfl (lv_at hl 4 rfl) ?_
                      refine rStN hx hb hC hH hS 12 (by decide) (by decide) (i := i) (show i < 8 by omega) dX5_lease_163 (fun H locs (hH : Wo D k b ad g (up (up (up M 26 0 0) 11 i a4) 12 i a1) o H) hS => ?_)
                      refine lv_aload_n hx hb dX5_lease_164 rfl (lv_at hl 2 rfl) ?_
                      refine g5 hx hb hts hown hC hH 13 (by decide) wf_X5_41 (v := .ref (ad (8, 13, 0))) rfl dX5_lease_165 ?_
                      refine lv_iload_n hx hb dX5_lease_168 rfl (lv_at hl 3 rfl) ?_
                      refine lv_iload_n hx hb dX5_lease_169 rfl (lv_at hl 5 rfl) ?_
                      refine rStN hx hb hC hH hS 13 (by decide) (by decide) (i := i) (show i < 8 by omega) dX5_lease_170 (fun H locs (hH : Wo D k b ad g (up (up (up (up M 26 0 0) 11 i a4) 12 i a1) 13 i a2) o H) hS => ?_)
                      refine lv_aload_n hx hb dX5_lease_171 rfl (lv_at hl 2 rfl) ?_
                      refine g5 hx hb hts hown hC hH 14 (by decide) wf_X5_44 (v := .ref (ad (8, 14, 0))) rfl dX5_lease_172 ?_
                      refine lv_iload_n hx hb dX5_lease_175 rfl (lv_at hl 3 rfl) ?_
                      refine lv_iload hx hb dX5_lease_176 (lv_at hl 6 rfl) ?_
                      refine rStN hx hb hC hH hS 14 (by decide) (by decide) (i := i) (show i < 8 by omega) dX5_lease_178 (fun H locs (hH : Wo D k b ad g (up (up (up (up (up M 26 0 0) 11 i a4) 12 i a1) 13 i a2) 14 i a3) o H) hS => ?_)
                      refine lv_aload_n hx hb dX5_lease_179 rfl (lv_at hl 2 rfl) ?_
                      refine g5 hx hb hts hown hC hH 15 (by decide) wf_X5_47 (v := .ref (ad (8, 15, 0))) rfl dX5_lease_180 ?_
                      refine lv_iload_n hx hb dX5_lease_183 rfl (lv_at hl 3 rfl) ?_
                      refine lv_iload hx hb dX5_lease_184 (lv_at hl 8 rfl) ?_
                      refine rStN hx hb hC hH hS 15 (by decide) (by decide) (i := i) (show i < 8 by omega) dX5_lease_186 (fun H locs (hH : Wo D k b ad g (up (up (up (up (up (up M 26 0 0) 11 i a4) 12 i a1) 13 i a2) 14 i a3) 15 i a5) o H) hS => ?_)
                      refine lv_aload_n hx hb dX5_lease_187 rfl (lv_at hl 2 rfl) ?_
                      refine g5 hx hb hts hown hC hH 16 (by decide) wf_X5_50 (v := .ref (ad (8, 16, 0))) rfl dX5_lease_188 ?_
                      refine lv_iload_n hx hb dX5_lease_191 rfl (lv_at hl 3 rfl) ?_
                      refine lv_iload hx hb dX5_lease_192 (lv_at hl 9 rfl) ?_
                      refine rStN hx hb hC hH hS 16 (by decide) (by decide) (i := i) (show i < 8 by omega) dX5_lease_194 (fun H locs (hH : Wo D k b ad g (up (up (up (up (up (up (up M 26 0 0) 11 i a4) 12 i a1) 13 i a2) 14 i a3) 15 i a5) 16 i a6) o H) hS => ?_)
                      have h8 : rlC M a0 a1 a2 a3 a4 a5 a6 = 0 := by first | (simp [rlC, c5, h6, c12, c17, c36, c43, c57, c74, c86, c97, c131]; done) | (subst c17; simp [rlC, c5, h6, c12, c36, c57, c74, c86, c97, c131]; done) | (subst c43; simp [rlC, c5, h6, c12, c36, c57, c74, c86, c97, c131]; done) | exact absurd c17 c43 | exact absurd c43 c17 | (subst c36; simp [rlC, c5, h6, c12, c17, c43, c57, c74, c86, c97, c131]; done) | (unfold rlC; rw [if_neg (by simp [c5, h6, c12, c17, c43, c57, c74, c86, c97, c131]), if_pos (by simp [c36])])
                      have h9 : rO M (rlC M a0 a1 a2 a3 a4 a5 a6) (rlG (rT M) i a1 a2 a3 a4 a5 a6) = up (up (up (up (up (up (up M 26 0 0) 11 i a4) 12 i a1) 13 i a2) 14 i a3) 15 i a5) 16 i a6 := (rO_0 h8).trans (rfl)
                      exact e_wv hx hb hr hlocks hS (by rw [h9]; exact hH) (Nat.le_refl _) (Nat.le_refl _) dX5_lease_195
                    · skip
                      have c131 := b2_n0.mp c131
                      refine lv_iconst (v := 3) hx hb dX5_lease_134 (by decide) ?_
                      refine lv_goto (tgt := 139) hx hb dX5_lease_135 (by decide) ?_
                      refine p5 hx hb hts hown hC hH hS 26 (by decide) (by decide) rfl wf_X5_77 rfl rfl dX5_lease_139 (fun H locs (hH : Wo D k b ad g (up M 26 0 3) o H) hS => ?_)
                      refine lv_aload_n hx hb dX5_lease_142 rfl (lv_at hl 2 rfl) ?_
                      refine g5 hx hb hts hown hC hH 26 (by decide) wf_X5_77 (v := .int 3) rfl dX5_lease_143 ?_
                      refine W.eq (g2 := F0 m 146 ls [.int 3]) rfl ?_
                      refine lv_if_ne (tgt := 195) hx hb dX5_lease_146 (by decide) (fun _ => ?_) (fun c => absurd c (by decide))
                      have h8 : rlC M a0 a1 a2 a3 a4 a5 a6 = 3 := by first | (simp [rlC, c5, h6, c12, c17, c36, c43, c57, c74, c86, c97, c131]; done) | (subst c17; simp [rlC, c5, h6, c12, c36, c57, c74, c86, c97, c131]; done) | (subst c43; simp [rlC, c5, h6, c12, c36, c57, c74, c86, c97, c131]; done) | exact absurd c17 c43 | exact absurd c43 c17 | (subst c36; simp [rlC, c5, h6, c12, c17, c43, c57, c74, c86, c97, c131]; done) | (unfold rlC; rw [if_neg (by simp [c5, h6, c12, c17, c43, c57, c74, c86, c97, c131]), if_pos (by simp [c36])])
                      have h9 : rO M (rlC M a0 a1 a2 a3 a4 a5 a6) (rlG (rT M) i a1 a2 a3 a4 a5 a6) = up M 26 0 3 := by rw [rO_n (by rw [h8]; decide), h8]; rfl
                      exact e_wv hx hb hr hlocks hS (by rw [h9]; exact hH) (Nat.le_refl _) (Nat.le_refl _) dX5_lease_195
      · skip
        refine lv_iload_n hx hb dX5_lease_20 rfl (lv_at hl 3 rfl) ?_
        refine k_r (va_runS (As := [.int a2]) (rest := []) ⟨hx, hb, hml, hown, hts⟩ (mX5_isFarmer l a2) ⟨cb_of hts wk_X5_isFarmer wi_X5 wm_X5_102 sd_X5_isFarmer rfl rfl ⟨Nat.le_of_ble_eq_true rfl, Nat.le_of_ble_eq_true rfl⟩, hts _ wz_X5_isFarmer⟩ (P0.pre hC hS hH) rfl rfl hl.1 rfl (lv_room (Nat.le_of_ble_eq_true rfl)) dX5_lease_21 ⟨Nat.le_of_ble_eq_true rfl, Nat.le_of_ble_eq_true rfl⟩) ?_
        refine W.eq (g2 := F0 m 24 ls [.int (b2 (inB a2 0 5))]) rfl ?_
        refine lv_if_eq (tgt := 31) hx hb dX5_lease_24 (by decide) (fun c24 => ?_) (fun c24 => ?_)
        · skip
          have c24 := b2_0.mp c24
          refine lv_iconst (v := 0) hx hb dX5_lease_31 (by decide) ?_
          refine lv_istore (lv' := [(8, .int 0), (0, .ref (ad (7, 0, 0))), (1, .int (nI i)), (2, .int a1), (3, .int a2), (4, .int a3), (5, .int a4), (6, .int a5), (7, .int a6)]) hx hb dX5_lease_32 hl (by decide) rfl (fun ls hl => ?_)
          refine lv_iload_n hx hb dX5_lease_34 rfl (lv_at hl 3 rfl) ?_
          refine lv_iload_n hx hb dX5_lease_35 rfl (lv_at hl 4 rfl) ?_
          refine lv_icmp_eq (tgt := 104) hx hb dX5_lease_36 (by decide) (fun c36 => ?_) (fun c36 => ?_)
          · skip
            refine lv_iconst (v := 0) hx hb dX5_lease_104 (by decide) ?_
            refine lv_istore (lv' := [(9, .int 0), (8, .int 0), (0, .ref (ad (7, 0, 0))), (1, .int (nI i)), (2, .int a1), (3, .int a2), (4, .int a3), (5, .int a4), (6, .int a5), (7, .int a6)]) hx hb dX5_lease_105 hl (by decide) rfl (fun ls hl => ?_)
            refine lv_aload_n hx hb dX5_lease_107 rfl (lv_at hl 2 rfl) ?_
            refine lv_iload hx hb dX5_lease_108 (lv_at hl 1 rfl) ?_
            refine lv_if_ne (tgt := 117) hx hb dX5_lease_110 (by decide) (fun c => absurd c (by decide)) (fun _ => ?_)
            refine lv_iconst (v := 1) hx hb dX5_lease_113 (by decide) ?_
            refine lv_goto (tgt := 139) hx hb dX5_lease_114 (by decide) ?_
            refine p5 hx hb hts hown hC hH hS 26 (by decide) (by decide) rfl wf_X5_77 rfl rfl dX5_lease_139 (fun H locs (hH : Wo D k b ad g (up M 26 0 1) o H) hS => ?_)
            refine lv_aload_n hx hb dX5_lease_142 rfl (lv_at hl 2 rfl) ?_
            refine g5 hx hb hts hown hC hH 26 (by decide) wf_X5_77 (v := .int 1) rfl dX5_lease_143 ?_
            refine W.eq (g2 := F0 m 146 ls [.int 1]) rfl ?_
            refine lv_if_ne (tgt := 195) hx hb dX5_lease_146 (by decide) (fun _ => ?_) (fun c => absurd c (by decide))
            have h8 : rlC M a0 a1 a2 a3 a4 a5 a6 = 1 := by first | (simp [rlC, c5, h6, c12, c17, c24, c36]; done) | (subst c17; simp [rlC, c5, h6, c12, c24, c36]; done) | (subst c36; simp [rlC, c5, h6, c12, c17, c24]; done) | (unfold rlC; rw [if_neg (by simp [c5, h6, c12, c17, c24]), if_pos (by simp [c36])])
            have h9 : rO M (rlC M a0 a1 a2 a3 a4 a5 a6) (rlG (rT M) i a1 a2 a3 a4 a5 a6) = up M 26 0 1 := by rw [rO_n (by rw [h8]; decide), h8]; rfl
            exact e_wv hx hb hr hlocks hS (by rw [h9]; exact hH) (Nat.le_refl _) (Nat.le_refl _) dX5_lease_195
          · skip
            refine lv_iload hx hb dX5_lease_39 (lv_at hl 5 rfl) ?_
            refine lv_iload_n hx hb dX5_lease_41 rfl (lv_at hl 4 rfl) ?_
            refine lv_iconst (v := (-1)) hx hb dX5_lease_42 (by decide) ?_
            refine lv_icmp_ne (tgt := 51) hx hb dX5_lease_43 (by decide) (fun c43 => ?_) (fun c43 => ?_)
            · skip
              refine lv_iconst (v := 0) hx hb dX5_lease_51 (by decide) ?_
              refine lv_bipush (v := 10) hx hb dX5_lease_52 (by decide) ?_
              refine k_r (va_runS (As := [.int a3, .int 0, .int 10]) (rest := []) ⟨hx, hb, hml, hown, hts⟩ (mX5_in l a3 0 10) ⟨cb_of hts wk_X5_in wi_X5 wm_X5_84 sd_X5_in rfl rfl ⟨Nat.le_of_ble_eq_true rfl, Nat.le_of_ble_eq_true rfl⟩, hts _ wz_X5_in⟩ (P0.pre hC hS hH) rfl rfl hl.1 rfl (lv_room (Nat.le_of_ble_eq_true rfl)) dX5_lease_54 ⟨Nat.le_of_ble_eq_true rfl, Nat.le_of_ble_eq_true rfl⟩) ?_
              refine W.eq (g2 := F0 m 57 ls [.int (b2 (inB a3 0 10))]) rfl ?_
              refine lv_if_eq (tgt := 104) hx hb dX5_lease_57 (by decide) (fun c57 => ?_) (fun c57 => ?_)
              · skip
                have c57 := b2_0.mp c57
                refine lv_iconst (v := 0) hx hb dX5_lease_104 (by decide) ?_
                refine lv_istore (lv' := [(9, .int 0), (8, .int 0), (0, .ref (ad (7, 0, 0))), (1, .int (nI i)), (2, .int a1), (3, .int a2), (4, .int a3), (5, .int a4), (6, .int a5), (7, .int a6)]) hx hb dX5_lease_105 hl (by decide) rfl (fun ls hl => ?_)
                refine lv_aload_n hx hb dX5_lease_107 rfl (lv_at hl 2 rfl) ?_
                refine lv_iload hx hb dX5_lease_108 (lv_at hl 1 rfl) ?_
                refine lv_if_ne (tgt := 117) hx hb dX5_lease_110 (by decide) (fun c => absurd c (by decide)) (fun _ => ?_)
                refine lv_iconst (v := 1) hx hb dX5_lease_113 (by decide) ?_
                refine lv_goto (tgt := 139) hx hb dX5_lease_114 (by decide) ?_
                refine p5 hx hb hts hown hC hH hS 26 (by decide) (by decide) rfl wf_X5_77 rfl rfl dX5_lease_139 (fun H locs (hH : Wo D k b ad g (up M 26 0 1) o H) hS => ?_)
                refine lv_aload_n hx hb dX5_lease_142 rfl (lv_at hl 2 rfl) ?_
                refine g5 hx hb hts hown hC hH 26 (by decide) wf_X5_77 (v := .int 1) rfl dX5_lease_143 ?_
                refine W.eq (g2 := F0 m 146 ls [.int 1]) rfl ?_
                refine lv_if_ne (tgt := 195) hx hb dX5_lease_146 (by decide) (fun _ => ?_) (fun c => absurd c (by decide))
                have h8 : rlC M a0 a1 a2 a3 a4 a5 a6 = 1 := by first | (simp [rlC, c5, h6, c12, c17, c24, c36, c43, c57]; done) | (subst c17; simp [rlC, c5, h6, c12, c24, c36, c57]; done) | (subst c43; simp [rlC, c5, h6, c12, c24, c36, c57]; done) | exact absurd c17 c43 | exact absurd c43 c17 | (subst c36; simp [rlC, c5, h6, c12, c17, c24, c43, c57]; done) | (unfold rlC; rw [if_neg (by simp [c5, h6, c12, c17, c24, c43, c57]), if_pos (by simp [c36])])
                have h9 : rO M (rlC M a0 a1 a2 a3 a4 a5 a6) (rlG (rT M) i a1 a2 a3 a4 a5 a6) = up M 26 0 1 := by rw [rO_n (by rw [h8]; decide), h8]; rfl
                exact e_wv hx hb hr hlocks hS (by rw [h9]; exact hH) (Nat.le_refl _) (Nat.le_refl _) dX5_lease_195
              · skip
                have c57 := b2_n0.mp c57
                refine lv_iload hx hb dX5_lease_60 (lv_at hl 6 rfl) ?_
                refine lv_aload_n hx hb dX5_lease_62 rfl (lv_at hl 1 rfl) ?_
                refine g5 hx hb hts hown hC hH 0 (by decide) wf_X5_105 (v := .int (M 0 0)) rfl dX5_lease_63 ?_
                refine lv_iconst (v := 1) hx hb dX5_lease_66 (by decide) ?_
                refine lv_iadd hx hb dX5_lease_67 ?_
                refine lv_sipush (v := 10000) hx hb dX5_lease_68 (by decide) ?_
                refine k_r (va_runS (As := [.int a4, .int ((M 0 0) + 1), .int 10000]) (rest := []) ⟨hx, hb, hml, hown, hts⟩ (mX5_in l a4 ((M 0 0) + 1) 10000) ⟨cb_of hts wk_X5_in wi_X5 wm_X5_84 sd_X5_in rfl rfl ⟨Nat.le_of_ble_eq_true rfl, Nat.le_of_ble_eq_true rfl⟩, hts _ wz_X5_in⟩ (P0.pre hC hS hH) rfl rfl hl.1 rfl (lv_room (Nat.le_of_ble_eq_true rfl)) dX5_lease_71 ⟨Nat.le_of_ble_eq_true rfl, Nat.le_of_ble_eq_true rfl⟩) ?_
                refine W.eq (g2 := F0 m 74 ls [.int (b2 (inB a4 ((M 0 0) + 1) 10000))]) rfl ?_
                refine lv_if_eq (tgt := 104) hx hb dX5_lease_74 (by decide) (fun c74 => ?_) (fun c74 => ?_)
                · skip
                  have c74 := b2_0.mp c74
                  refine lv_iconst (v := 0) hx hb dX5_lease_104 (by decide) ?_
                  refine lv_istore (lv' := [(9, .int 0), (8, .int 0), (0, .ref (ad (7, 0, 0))), (1, .int (nI i)), (2, .int a1), (3, .int a2), (4, .int a3), (5, .int a4), (6, .int a5), (7, .int a6)]) hx hb dX5_lease_105 hl (by decide) rfl (fun ls hl => ?_)
                  refine lv_aload_n hx hb dX5_lease_107 rfl (lv_at hl 2 rfl) ?_
                  refine lv_iload hx hb dX5_lease_108 (lv_at hl 1 rfl) ?_
                  refine lv_if_ne (tgt := 117) hx hb dX5_lease_110 (by decide) (fun c => absurd c (by decide)) (fun _ => ?_)
                  refine lv_iconst (v := 1) hx hb dX5_lease_113 (by decide) ?_
                  refine lv_goto (tgt := 139) hx hb dX5_lease_114 (by decide) ?_
                  refine p5 hx hb hts hown hC hH hS 26 (by decide) (by decide) rfl wf_X5_77 rfl rfl dX5_lease_139 (fun H locs (hH : Wo D k b ad g (up M 26 0 1) o H) hS => ?_)
                  refine lv_aload_n hx hb dX5_lease_142 rfl (lv_at hl 2 rfl) ?_
                  refine g5 hx hb hts hown hC hH 26 (by decide) wf_X5_77 (v := .int 1) rfl dX5_lease_143 ?_
                  refine W.eq (g2 := F0 m 146 ls [.int 1]) rfl ?_
                  refine lv_if_ne (tgt := 195) hx hb dX5_lease_146 (by decide) (fun _ => ?_) (fun c => absurd c (by decide))
                  have h8 : rlC M a0 a1 a2 a3 a4 a5 a6 = 1 := by first | (simp [rlC, c5, h6, c12, c17, c24, c36, c43, c57, c74]; done) | (subst c17; simp [rlC, c5, h6, c12, c24, c36, c57, c74]; done) | (subst c43; simp [rlC, c5, h6, c12, c24, c36, c57, c74]; done) | exact absurd c17 c43 | exact absurd c43 c17 | (subst c36; simp [rlC, c5, h6, c12, c17, c24, c43, c57, c74]; done) | (unfold rlC; rw [if_neg (by simp [c5, h6, c12, c17, c24, c43, c57, c74]), if_pos (by simp [c36])])
                  have h9 : rO M (rlC M a0 a1 a2 a3 a4 a5 a6) (rlG (rT M) i a1 a2 a3 a4 a5 a6) = up M 26 0 1 := by rw [rO_n (by rw [h8]; decide), h8]; rfl
                  exact e_wv hx hb hr hlocks hS (by rw [h9]; exact hH) (Nat.le_refl _) (Nat.le_refl _) dX5_lease_195
                · skip
                  have c74 := b2_n0.mp c74
                  refine lv_iload hx hb dX5_lease_77 (lv_at hl 7 rfl) ?_
                  refine lv_iconst (v := 0) hx hb dX5_lease_79 (by decide) ?_
                  refine lv_sipush (v := 1000) hx hb dX5_lease_80 (by decide) ?_
                  refine k_r (va_runS (As := [.int a5, .int 0, .int 1000]) (rest := []) ⟨hx, hb, hml, hown, hts⟩ (mX5_in l a5 0 1000) ⟨cb_of hts wk_X5_in wi_X5 wm_X5_84 sd_X5_in rfl rfl ⟨Nat.le_of_ble_eq_true rfl, Nat.le_of_ble_eq_true rfl⟩, hts _ wz_X5_in⟩ (P0.pre hC hS hH) rfl rfl hl.1 rfl (lv_room (Nat.le_of_ble_eq_true rfl)) dX5_lease_83 ⟨Nat.le_of_ble_eq_true rfl, Nat.le_of_ble_eq_true rfl⟩) ?_
                  refine W.eq (g2 := F0 m 86 ls [.int (b2 (inB a5 0 1000))]) rfl ?_
                  refine lv_if_eq (tgt := 104) hx hb dX5_lease_86 (by decide) (fun c86 => ?_) (fun c86 => ?_)
                  · skip
                    have c86 := b2_0.mp c86
                    refine lv_iconst (v := 0) hx hb dX5_lease_104 (by decide) ?_
                    refine lv_istore (lv' := [(9, .int 0), (8, .int 0), (0, .ref (ad (7, 0, 0))), (1, .int (nI i)), (2, .int a1), (3, .int a2), (4, .int a3), (5, .int a4), (6, .int a5), (7, .int a6)]) hx hb dX5_lease_105 hl (by decide) rfl (fun ls hl => ?_)
                    refine lv_aload_n hx hb dX5_lease_107 rfl (lv_at hl 2 rfl) ?_
                    refine lv_iload hx hb dX5_lease_108 (lv_at hl 1 rfl) ?_
                    refine lv_if_ne (tgt := 117) hx hb dX5_lease_110 (by decide) (fun c => absurd c (by decide)) (fun _ => ?_)
                    refine lv_iconst (v := 1) hx hb dX5_lease_113 (by decide) ?_
                    refine lv_goto (tgt := 139) hx hb dX5_lease_114 (by decide) ?_
                    refine p5 hx hb hts hown hC hH hS 26 (by decide) (by decide) rfl wf_X5_77 rfl rfl dX5_lease_139 (fun H locs (hH : Wo D k b ad g (up M 26 0 1) o H) hS => ?_)
                    refine lv_aload_n hx hb dX5_lease_142 rfl (lv_at hl 2 rfl) ?_
                    refine g5 hx hb hts hown hC hH 26 (by decide) wf_X5_77 (v := .int 1) rfl dX5_lease_143 ?_
                    refine W.eq (g2 := F0 m 146 ls [.int 1]) rfl ?_
                    refine lv_if_ne (tgt := 195) hx hb dX5_lease_146 (by decide) (fun _ => ?_) (fun c => absurd c (by decide))
                    have h8 : rlC M a0 a1 a2 a3 a4 a5 a6 = 1 := by first | (simp [rlC, c5, h6, c12, c17, c24, c36, c43, c57, c74, c86]; done) | (subst c17; simp [rlC, c5, h6, c12, c24, c36, c57, c74, c86]; done) | (subst c43; simp [rlC, c5, h6, c12, c24, c36, c57, c74, c86]; done) | exact absurd c17 c43 | exact absurd c43 c17 | (subst c36; simp [rlC, c5, h6, c12, c17, c24, c43, c57, c74, c86]; done) | (unfold rlC; rw [if_neg (by simp [c5, h6, c12, c17, c24, c43, c57, c74, c86]), if_pos (by simp [c36])])
                    have h9 : rO M (rlC M a0 a1 a2 a3 a4 a5 a6) (rlG (rT M) i a1 a2 a3 a4 a5 a6) = up M 26 0 1 := by rw [rO_n (by rw [h8]; decide), h8]; rfl
                    exact e_wv hx hb hr hlocks hS (by rw [h9]; exact hH) (Nat.le_refl _) (Nat.le_refl _) dX5_lease_195
                  · skip
                    have c86 := b2_n0.mp c86
                    refine lv_iload hx hb dX5_lease_89 (lv_at hl 8 rfl) ?_
                    refine lv_iconst (v := 0) hx hb dX5_lease_91 (by decide) ?_
                    refine lv_bipush (v := 100) hx hb dX5_lease_92 (by decide) ?_
                    refine k_r (va_runS (As := [.int a6, .int 0, .int 100]) (rest := []) ⟨hx, hb, hml, hown, hts⟩ (mX5_in l a6 0 100) ⟨cb_of hts wk_X5_in wi_X5 wm_X5_84 sd_X5_in rfl rfl ⟨Nat.le_of_ble_eq_true rfl, Nat.le_of_ble_eq_true rfl⟩, hts _ wz_X5_in⟩ (P0.pre hC hS hH) rfl rfl hl.1 rfl (lv_room (Nat.le_of_ble_eq_true rfl)) dX5_lease_94 ⟨Nat.le_of_ble_eq_true rfl, Nat.le_of_ble_eq_true rfl⟩) ?_
                    refine W.eq (g2 := F0 m 97 ls [.int (b2 (inB a6 0 100))]) rfl ?_
                    refine lv_if_eq (tgt := 104) hx hb dX5_lease_97 (by decide) (fun c97 => ?_) (fun c97 => ?_)
                    · skip
                      have c97 := b2_0.mp c97
                      refine lv_iconst (v := 0) hx hb dX5_lease_104 (by decide) ?_
                      refine lv_istore (lv' := [(9, .int 0), (8, .int 0), (0, .ref (ad (7, 0, 0))), (1, .int (nI i)), (2, .int a1), (3, .int a2), (4, .int a3), (5, .int a4), (6, .int a5), (7, .int a6)]) hx hb dX5_lease_105 hl (by decide) rfl (fun ls hl => ?_)
                      refine lv_aload_n hx hb dX5_lease_107 rfl (lv_at hl 2 rfl) ?_
                      refine lv_iload hx hb dX5_lease_108 (lv_at hl 1 rfl) ?_
                      refine lv_if_ne (tgt := 117) hx hb dX5_lease_110 (by decide) (fun c => absurd c (by decide)) (fun _ => ?_)
                      refine lv_iconst (v := 1) hx hb dX5_lease_113 (by decide) ?_
                      refine lv_goto (tgt := 139) hx hb dX5_lease_114 (by decide) ?_
                      refine p5 hx hb hts hown hC hH hS 26 (by decide) (by decide) rfl wf_X5_77 rfl rfl dX5_lease_139 (fun H locs (hH : Wo D k b ad g (up M 26 0 1) o H) hS => ?_)
                      refine lv_aload_n hx hb dX5_lease_142 rfl (lv_at hl 2 rfl) ?_
                      refine g5 hx hb hts hown hC hH 26 (by decide) wf_X5_77 (v := .int 1) rfl dX5_lease_143 ?_
                      refine W.eq (g2 := F0 m 146 ls [.int 1]) rfl ?_
                      refine lv_if_ne (tgt := 195) hx hb dX5_lease_146 (by decide) (fun _ => ?_) (fun c => absurd c (by decide))
                      have h8 : rlC M a0 a1 a2 a3 a4 a5 a6 = 1 := by first | (simp [rlC, c5, h6, c12, c17, c24, c36, c43, c57, c74, c86, c97]; done) | (subst c17; simp [rlC, c5, h6, c12, c24, c36, c57, c74, c86, c97]; done) | (subst c43; simp [rlC, c5, h6, c12, c24, c36, c57, c74, c86, c97]; done) | exact absurd c17 c43 | exact absurd c43 c17 | (subst c36; simp [rlC, c5, h6, c12, c17, c24, c43, c57, c74, c86, c97]; done) | (unfold rlC; rw [if_neg (by simp [c5, h6, c12, c17, c24, c43, c57, c74, c86, c97]), if_pos (by simp [c36])])
                      have h9 : rO M (rlC M a0 a1 a2 a3 a4 a5 a6) (rlG (rT M) i a1 a2 a3 a4 a5 a6) = up M 26 0 1 := by rw [rO_n (by rw [h8]; decide), h8]; rfl
                      exact e_wv hx hb hr hlocks hS (by rw [h9]; exact hH) (Nat.le_refl _) (Nat.le_refl _) dX5_lease_195
                    · skip
                      have c97 := b2_n0.mp c97
                      refine lv_iconst (v := 1) hx hb dX5_lease_100 (by decide) ?_
                      refine lv_goto (tgt := 105) hx hb dX5_lease_101 (by decide) ?_
                      refine lv_istore (lv' := [(9, .int 1), (8, .int 0), (0, .ref (ad (7, 0, 0))), (1, .int (nI i)), (2, .int a1), (3, .int a2), (4, .int a3), (5, .int a4), (6, .int a5), (7, .int a6)]) hx hb dX5_lease_105 hl (by decide) rfl (fun ls hl => ?_)
                      refine lv_aload_n hx hb dX5_lease_107 rfl (lv_at hl 2 rfl) ?_
                      refine lv_iload hx hb dX5_lease_108 (lv_at hl 1 rfl) ?_
                      refine lv_if_ne (tgt := 117) hx hb dX5_lease_110 (by decide) (fun c => absurd c (by decide)) (fun _ => ?_)
                      refine lv_iconst (v := 1) hx hb dX5_lease_113 (by decide) ?_
                      refine lv_goto (tgt := 139) hx hb dX5_lease_114 (by decide) ?_
                      refine p5 hx hb hts hown hC hH hS 26 (by decide) (by decide) rfl wf_X5_77 rfl rfl dX5_lease_139 (fun H locs (hH : Wo D k b ad g (up M 26 0 1) o H) hS => ?_)
                      refine lv_aload_n hx hb dX5_lease_142 rfl (lv_at hl 2 rfl) ?_
                      refine g5 hx hb hts hown hC hH 26 (by decide) wf_X5_77 (v := .int 1) rfl dX5_lease_143 ?_
                      refine W.eq (g2 := F0 m 146 ls [.int 1]) rfl ?_
                      refine lv_if_ne (tgt := 195) hx hb dX5_lease_146 (by decide) (fun _ => ?_) (fun c => absurd c (by decide))
                      have h8 : rlC M a0 a1 a2 a3 a4 a5 a6 = 1 := by first | (simp [rlC, c5, h6, c12, c17, c24, c36, c43, c57, c74, c86, c97]; done) | (subst c17; simp [rlC, c5, h6, c12, c24, c36, c57, c74, c86, c97]; done) | (subst c43; simp [rlC, c5, h6, c12, c24, c36, c57, c74, c86, c97]; done) | exact absurd c17 c43 | exact absurd c43 c17 | (subst c36; simp [rlC, c5, h6, c12, c17, c24, c43, c57, c74, c86, c97]; done) | (unfold rlC; rw [if_neg (by simp [c5, h6, c12, c17, c24, c43, c57, c74, c86, c97]), if_pos (by simp [c36])])
                      have h9 : rO M (rlC M a0 a1 a2 a3 a4 a5 a6) (rlG (rT M) i a1 a2 a3 a4 a5 a6) = up M 26 0 1 := by rw [rO_n (by rw [h8]; decide), h8]; rfl
                      exact e_wv hx hb hr hlocks hS (by rw [h9]; exact hH) (Nat.le_refl _) (Nat.le_refl _) dX5_lease_195
            · skip
              refine lv_bipush (v := 10) hx hb dX5_lease_46 (by decide) ?_
              refine lv_goto (tgt := 52) hx hb dX5_lease_48 (by decide) ?_
              refine lv_bipush (v := 10) hx hb dX5_lease_52 (by decide) ?_
              refine k_r (va_runS (As := [.int a3, .int 10, .int 10]) (rest := []) ⟨hx, hb, hml, hown, hts⟩ (mX5_in l a3 10 10) ⟨cb_of hts wk_X5_in wi_X5 wm_X5_84 sd_X5_in rfl rfl ⟨Nat.le_of_ble_eq_true rfl, Nat.le_of_ble_eq_true rfl⟩, hts _ wz_X5_in⟩ (P0.pre hC hS hH) rfl rfl hl.1 rfl (lv_room (Nat.le_of_ble_eq_true rfl)) dX5_lease_54 ⟨Nat.le_of_ble_eq_true rfl, Nat.le_of_ble_eq_true rfl⟩) ?_
              refine W.eq (g2 := F0 m 57 ls [.int (b2 (inB a3 10 10))]) rfl ?_
              refine lv_if_eq (tgt := 104) hx hb dX5_lease_57 (by decide) (fun c57 => ?_) (fun c57 => ?_)
              · skip
                have c57 := b2_0.mp c57
                refine lv_iconst (v := 0) hx hb dX5_lease_104 (by decide) ?_
                refine lv_istore (lv' := [(9, .int 0), (8, .int 0), (0, .ref (ad (7, 0, 0))), (1, .int (nI i)), (2, .int a1), (3, .int a2), (4, .int a3), (5, .int a4), (6, .int a5), (7, .int a6)]) hx hb dX5_lease_105 hl (by decide) rfl (fun ls hl => ?_)
                refine lv_aload_n hx hb dX5_lease_107 rfl (lv_at hl 2 rfl) ?_
                refine lv_iload hx hb dX5_lease_108 (lv_at hl 1 rfl) ?_
                refine lv_if_ne (tgt := 117) hx hb dX5_lease_110 (by decide) (fun c => absurd c (by decide)) (fun _ => ?_)
                refine lv_iconst (v := 1) hx hb dX5_lease_113 (by decide) ?_
                refine lv_goto (tgt := 139) hx hb dX5_lease_114 (by decide) ?_
                refine p5 hx hb hts hown hC hH hS 26 (by decide) (by decide) rfl wf_X5_77 rfl rfl dX5_lease_139 (fun H locs (hH : Wo D k b ad g (up M 26 0 1) o H) hS => ?_)
                refine lv_aload_n hx hb dX5_lease_142 rfl (lv_at hl 2 rfl) ?_
                refine g5 hx hb hts hown hC hH 26 (by decide) wf_X5_77 (v := .int 1) rfl dX5_lease_143 ?_
                refine W.eq (g2 := F0 m 146 ls [.int 1]) rfl ?_
                refine lv_if_ne (tgt := 195) hx hb dX5_lease_146 (by decide) (fun _ => ?_) (fun c => absurd c (by decide))
                have h8 : rlC M a0 a1 a2 a3 a4 a5 a6 = 1 := by first | (simp [rlC, c5, h6, c12, c17, c24, c36, c43, c57]; done) | (subst c17; simp [rlC, c5, h6, c12, c24, c36, c57]; done) | (subst c43; simp [rlC, c5, h6, c12, c24, c36, c57]; done) | exact absurd c17 c43 | exact absurd c43 c17 | (subst c36; simp [rlC, c5, h6, c12, c17, c24, c43, c57]; done) | (unfold rlC; rw [if_neg (by simp [c5, h6, c12, c17, c24, c43, c57]), if_pos (by simp [c36])])
                have h9 : rO M (rlC M a0 a1 a2 a3 a4 a5 a6) (rlG (rT M) i a1 a2 a3 a4 a5 a6) = up M 26 0 1 := by rw [rO_n (by rw [h8]; decide), h8]; rfl
                exact e_wv hx hb hr hlocks hS (by rw [h9]; exact hH) (Nat.le_refl _) (Nat.le_refl _) dX5_lease_195
              · skip
                have c57 := b2_n0.mp c57
                refine lv_iload hx hb dX5_lease_60 (lv_at hl 6 rfl) ?_
                refine lv_aload_n hx hb dX5_lease_62 rfl (lv_at hl 1 rfl) ?_
                refine g5 hx hb hts hown hC hH 0 (by decide) wf_X5_105 (v := .int (M 0 0)) rfl dX5_lease_63 ?_
                refine lv_iconst (v := 1) hx hb dX5_lease_66 (by decide) ?_
                refine lv_iadd hx hb dX5_lease_67 ?_
                refine lv_sipush (v := 10000) hx hb dX5_lease_68 (by decide) ?_
                refine k_r (va_runS (As := [.int a4, .int ((M 0 0) + 1), .int 10000]) (rest := []) ⟨hx, hb, hml, hown, hts⟩ (mX5_in l a4 ((M 0 0) + 1) 10000) ⟨cb_of hts wk_X5_in wi_X5 wm_X5_84 sd_X5_in rfl rfl ⟨Nat.le_of_ble_eq_true rfl, Nat.le_of_ble_eq_true rfl⟩, hts _ wz_X5_in⟩ (P0.pre hC hS hH) rfl rfl hl.1 rfl (lv_room (Nat.le_of_ble_eq_true rfl)) dX5_lease_71 ⟨Nat.le_of_ble_eq_true rfl, Nat.le_of_ble_eq_true rfl⟩) ?_
                refine W.eq (g2 := F0 m 74 ls [.int (b2 (inB a4 ((M 0 0) + 1) 10000))]) rfl ?_
                refine lv_if_eq (tgt := 104) hx hb dX5_lease_74 (by decide) (fun c74 => ?_) (fun c74 => ?_)
                · skip
                  have c74 := b2_0.mp c74
                  refine lv_iconst (v := 0) hx hb dX5_lease_104 (by decide) ?_
                  refine lv_istore (lv' := [(9, .int 0), (8, .int 0), (0, .ref (ad (7, 0, 0))), (1, .int (nI i)), (2, .int a1), (3, .int a2), (4, .int a3), (5, .int a4), (6, .int a5), (7, .int a6)]) hx hb dX5_lease_105 hl (by decide) rfl (fun ls hl => ?_)
                  refine lv_aload_n hx hb dX5_lease_107 rfl (lv_at hl 2 rfl) ?_
                  refine lv_iload hx hb dX5_lease_108 (lv_at hl 1 rfl) ?_
                  refine lv_if_ne (tgt := 117) hx hb dX5_lease_110 (by decide) (fun c => absurd c (by decide)) (fun _ => ?_)
                  refine lv_iconst (v := 1) hx hb dX5_lease_113 (by decide) ?_
                  refine lv_goto (tgt := 139) hx hb dX5_lease_114 (by decide) ?_
                  refine p5 hx hb hts hown hC hH hS 26 (by decide) (by decide) rfl wf_X5_77 rfl rfl dX5_lease_139 (fun H locs (hH : Wo D k b ad g (up M 26 0 1) o H) hS => ?_)
                  refine lv_aload_n hx hb dX5_lease_142 rfl (lv_at hl 2 rfl) ?_
                  refine g5 hx hb hts hown hC hH 26 (by decide) wf_X5_77 (v := .int 1) rfl dX5_lease_143 ?_
                  refine W.eq (g2 := F0 m 146 ls [.int 1]) rfl ?_
                  refine lv_if_ne (tgt := 195) hx hb dX5_lease_146 (by decide) (fun _ => ?_) (fun c => absurd c (by decide))
                  have h8 : rlC M a0 a1 a2 a3 a4 a5 a6 = 1 := by first | (simp [rlC, c5, h6, c12, c17, c24, c36, c43, c57, c74]; done) | (subst c17; simp [rlC, c5, h6, c12, c24, c36, c57, c74]; done) | (subst c43; simp [rlC, c5, h6, c12, c24, c36, c57, c74]; done) | exact absurd c17 c43 | exact absurd c43 c17 | (subst c36; simp [rlC, c5, h6, c12, c17, c24, c43, c57, c74]; done) | (unfold rlC; rw [if_neg (by simp [c5, h6, c12, c17, c24, c43, c57, c74]), if_pos (by simp [c36])])
                  have h9 : rO M (rlC M a0 a1 a2 a3 a4 a5 a6) (rlG (rT M) i a1 a2 a3 a4 a5 a6) = up M 26 0 1 := by rw [rO_n (by rw [h8]; decide), h8]; rfl
                  exact e_wv hx hb hr hlocks hS (by rw [h9]; exact hH) (Nat.le_refl _) (Nat.le_refl _) dX5_lease_195
                · skip
                  have c74 := b2_n0.mp c74
                  refine lv_iload hx hb dX5_lease_77 (lv_at hl 7 rfl) ?_
                  refine lv_iconst (v := 0) hx hb dX5_lease_79 (by decide) ?_
                  refine lv_sipush (v := 1000) hx hb dX5_lease_80 (by decide) ?_
                  refine k_r (va_runS (As := [.int a5, .int 0, .int 1000]) (rest := []) ⟨hx, hb, hml, hown, hts⟩ (mX5_in l a5 0 1000) ⟨cb_of hts wk_X5_in wi_X5 wm_X5_84 sd_X5_in rfl rfl ⟨Nat.le_of_ble_eq_true rfl, Nat.le_of_ble_eq_true rfl⟩, hts _ wz_X5_in⟩ (P0.pre hC hS hH) rfl rfl hl.1 rfl (lv_room (Nat.le_of_ble_eq_true rfl)) dX5_lease_83 ⟨Nat.le_of_ble_eq_true rfl, Nat.le_of_ble_eq_true rfl⟩) ?_
                  refine W.eq (g2 := F0 m 86 ls [.int (b2 (inB a5 0 1000))]) rfl ?_
                  refine lv_if_eq (tgt := 104) hx hb dX5_lease_86 (by decide) (fun c86 => ?_) (fun c86 => ?_)
                  · skip
                    have c86 := b2_0.mp c86
                    refine lv_iconst (v := 0) hx hb dX5_lease_104 (by decide) ?_
                    refine lv_istore (lv' := [(9, .int 0), (8, .int 0), (0, .ref (ad (7, 0, 0))), (1, .int (nI i)), (2, .int a1), (3, .int a2), (4, .int a3), (5, .int a4), (6, .int a5), (7, .int a6)]) hx hb dX5_lease_105 hl (by decide) rfl (fun ls hl => ?_)
                    refine lv_aload_n hx hb dX5_lease_107 rfl (lv_at hl 2 rfl) ?_
                    refine lv_iload hx hb dX5_lease_108 (lv_at hl 1 rfl) ?_
                    refine lv_if_ne (tgt := 117) hx hb dX5_lease_110 (by decide) (fun c => absurd c (by decide)) (fun _ => ?_)
                    refine lv_iconst (v := 1) hx hb dX5_lease_113 (by decide) ?_
                    refine lv_goto (tgt := 139) hx hb dX5_lease_114 (by decide) ?_
                    refine p5 hx hb hts hown hC hH hS 26 (by decide) (by decide) rfl wf_X5_77 rfl rfl dX5_lease_139 (fun H locs (hH : Wo D k b ad g (up M 26 0 1) o H) hS => ?_)
                    refine lv_aload_n hx hb dX5_lease_142 rfl (lv_at hl 2 rfl) ?_
                    refine g5 hx hb hts hown hC hH 26 (by decide) wf_X5_77 (v := .int 1) rfl dX5_lease_143 ?_
                    refine W.eq (g2 := F0 m 146 ls [.int 1]) rfl ?_
                    refine lv_if_ne (tgt := 195) hx hb dX5_lease_146 (by decide) (fun _ => ?_) (fun c => absurd c (by decide))
                    have h8 : rlC M a0 a1 a2 a3 a4 a5 a6 = 1 := by first | (simp [rlC, c5, h6, c12, c17, c24, c36, c43, c57, c74, c86]; done) | (subst c17; simp [rlC, c5, h6, c12, c24, c36, c57, c74, c86]; done) | (subst c43; simp [rlC, c5, h6, c12, c24, c36, c57, c74, c86]; done) | exact absurd c17 c43 | exact absurd c43 c17 | (subst c36; simp [rlC, c5, h6, c12, c17, c24, c43, c57, c74, c86]; done) | (unfold rlC; rw [if_neg (by simp [c5, h6, c12, c17, c24, c43, c57, c74, c86]), if_pos (by simp [c36])])
                    have h9 : rO M (rlC M a0 a1 a2 a3 a4 a5 a6) (rlG (rT M) i a1 a2 a3 a4 a5 a6) = up M 26 0 1 := by rw [rO_n (by rw [h8]; decide), h8]; rfl
                    exact e_wv hx hb hr hlocks hS (by rw [h9]; exact hH) (Nat.le_refl _) (Nat.le_refl _) dX5_lease_195
                  · skip
                    have c86 := b2_n0.mp c86
                    refine lv_iload hx hb dX5_lease_89 (lv_at hl 8 rfl) ?_
                    refine lv_iconst (v := 0) hx hb dX5_lease_91 (by decide) ?_
                    refine lv_bipush (v := 100) hx hb dX5_lease_92 (by decide) ?_
                    refine k_r (va_runS (As := [.int a6, .int 0, .int 100]) (rest := []) ⟨hx, hb, hml, hown, hts⟩ (mX5_in l a6 0 100) ⟨cb_of hts wk_X5_in wi_X5 wm_X5_84 sd_X5_in rfl rfl ⟨Nat.le_of_ble_eq_true rfl, Nat.le_of_ble_eq_true rfl⟩, hts _ wz_X5_in⟩ (P0.pre hC hS hH) rfl rfl hl.1 rfl (lv_room (Nat.le_of_ble_eq_true rfl)) dX5_lease_94 ⟨Nat.le_of_ble_eq_true rfl, Nat.le_of_ble_eq_true rfl⟩) ?_
                    refine W.eq (g2 := F0 m 97 ls [.int (b2 (inB a6 0 100))]) rfl ?_
                    refine lv_if_eq (tgt := 104) hx hb dX5_lease_97 (by decide) (fun c97 => ?_) (fun c97 => ?_)
                    · skip
                      have c97 := b2_0.mp c97
                      refine lv_iconst (v := 0) hx hb dX5_lease_104 (by decide) ?_
                      refine lv_istore (lv' := [(9, .int 0), (8, .int 0), (0, .ref (ad (7, 0, 0))), (1, .int (nI i)), (2, .int a1), (3, .int a2), (4, .int a3), (5, .int a4), (6, .int a5), (7, .int a6)]) hx hb dX5_lease_105 hl (by decide) rfl (fun ls hl => ?_)
                      refine lv_aload_n hx hb dX5_lease_107 rfl (lv_at hl 2 rfl) ?_
                      refine lv_iload hx hb dX5_lease_108 (lv_at hl 1 rfl) ?_
                      refine lv_if_ne (tgt := 117) hx hb dX5_lease_110 (by decide) (fun c => absurd c (by decide)) (fun _ => ?_)
                      refine lv_iconst (v := 1) hx hb dX5_lease_113 (by decide) ?_
                      refine lv_goto (tgt := 139) hx hb dX5_lease_114 (by decide) ?_
                      refine p5 hx hb hts hown hC hH hS 26 (by decide) (by decide) rfl wf_X5_77 rfl rfl dX5_lease_139 (fun H locs (hH : Wo D k b ad g (up M 26 0 1) o H) hS => ?_)
                      refine lv_aload_n hx hb dX5_lease_142 rfl (lv_at hl 2 rfl) ?_
                      refine g5 hx hb hts hown hC hH 26 (by decide) wf_X5_77 (v := .int 1) rfl dX5_lease_143 ?_
                      refine W.eq (g2 := F0 m 146 ls [.int 1]) rfl ?_
                      refine lv_if_ne (tgt := 195) hx hb dX5_lease_146 (by decide) (fun _ => ?_) (fun c => absurd c (by decide))
                      have h8 : rlC M a0 a1 a2 a3 a4 a5 a6 = 1 := by first | (simp [rlC, c5, h6, c12, c17, c24, c36, c43, c57, c74, c86, c97]; done) | (subst c17; simp [rlC, c5, h6, c12, c24, c36, c57, c74, c86, c97]; done) | (subst c43; simp [rlC, c5, h6, c12, c24, c36, c57, c74, c86, c97]; done) | exact absurd c17 c43 | exact absurd c43 c17 | (subst c36; simp [rlC, c5, h6, c12, c17, c24, c43, c57, c74, c86, c97]; done) | (unfold rlC; rw [if_neg (by simp [c5, h6, c12, c17, c24, c43, c57, c74, c86, c97]), if_pos (by simp [c36])])
                      have h9 : rO M (rlC M a0 a1 a2 a3 a4 a5 a6) (rlG (rT M) i a1 a2 a3 a4 a5 a6) = up M 26 0 1 := by rw [rO_n (by rw [h8]; decide), h8]; rfl
                      exact e_wv hx hb hr hlocks hS (by rw [h9]; exact hH) (Nat.le_refl _) (Nat.le_refl _) dX5_lease_195
                    · skip
                      have c97 := b2_n0.mp c97
                      refine lv_iconst (v := 1) hx hb dX5_lease_100 (by decide) ?_
                      refine lv_goto (tgt := 105) hx hb dX5_lease_101 (by decide) ?_
                      refine lv_istore (lv' := [(9, .int 1), (8, .int 0), (0, .ref (ad (7, 0, 0))), (1, .int (nI i)), (2, .int a1), (3, .int a2), (4, .int a3), (5, .int a4), (6, .int a5), (7, .int a6)]) hx hb dX5_lease_105 hl (by decide) rfl (fun ls hl => ?_)
                      refine lv_aload_n hx hb dX5_lease_107 rfl (lv_at hl 2 rfl) ?_
                      refine lv_iload hx hb dX5_lease_108 (lv_at hl 1 rfl) ?_
                      refine lv_if_ne (tgt := 117) hx hb dX5_lease_110 (by decide) (fun c => absurd c (by decide)) (fun _ => ?_)
                      refine lv_iconst (v := 1) hx hb dX5_lease_113 (by decide) ?_
                      refine lv_goto (tgt := 139) hx hb dX5_lease_114 (by decide) ?_
                      refine p5 hx hb hts hown hC hH hS 26 (by decide) (by decide) rfl wf_X5_77 rfl rfl dX5_lease_139 (fun H locs (hH : Wo D k b ad g (up M 26 0 1) o H) hS => ?_)
                      refine lv_aload_n hx hb dX5_lease_142 rfl (lv_at hl 2 rfl) ?_
                      refine g5 hx hb hts hown hC hH 26 (by decide) wf_X5_77 (v := .int 1) rfl dX5_lease_143 ?_
                      refine W.eq (g2 := F0 m 146 ls [.int 1]) rfl ?_
                      refine lv_if_ne (tgt := 195) hx hb dX5_lease_146 (by decide) (fun _ => ?_) (fun c => absurd c (by decide))
                      have h8 : rlC M a0 a1 a2 a3 a4 a5 a6 = 1 := by first | (simp [rlC, c5, h6, c12, c17, c24, c36, c43, c57, c74, c86, c97]; done) | (subst c17; simp [rlC, c5, h6, c12, c24, c36, c57, c74, c86, c97]; done) | (subst c43; simp [rlC, c5, h6, c12, c24, c36, c57, c74, c86, c97]; done) | exact absurd c17 c43 | exact absurd c43 c17 | (subst c36; simp [rlC, c5, h6, c12, c17, c24, c43, c57, c74, c86, c97]; done) | (unfold rlC; rw [if_neg (by simp [c5, h6, c12, c17, c24, c43, c57, c74, c86, c97]), if_pos (by simp [c36])])
                      have h9 : rO M (rlC M a0 a1 a2 a3 a4 a5 a6) (rlG (rT M) i a1 a2 a3 a4 a5 a6) = up M 26 0 1 := by rw [rO_n (by rw [h8]; decide), h8]; rfl
                      exact e_wv hx hb hr hlocks hS (by rw [h9]; exact hH) (Nat.le_refl _) (Nat.le_refl _) dX5_lease_195
        · skip
          have c24 := b2_n0.mp c24
          refine lv_iconst (v := 1) hx hb dX5_lease_27 (by decide) ?_
          refine lv_goto (tgt := 32) hx hb dX5_lease_28 (by decide) ?_
          refine lv_istore (lv' := [(8, .int 1), (0, .ref (ad (7, 0, 0))), (1, .int (nI i)), (2, .int a1), (3, .int a2), (4, .int a3), (5, .int a4), (6, .int a5), (7, .int a6)]) hx hb dX5_lease_32 hl (by decide) rfl (fun ls hl => ?_)
          refine lv_iload_n hx hb dX5_lease_34 rfl (lv_at hl 3 rfl) ?_
          refine lv_iload_n hx hb dX5_lease_35 rfl (lv_at hl 4 rfl) ?_
          refine lv_icmp_eq (tgt := 104) hx hb dX5_lease_36 (by decide) (fun c36 => ?_) (fun c36 => ?_)
          · skip
            refine lv_iconst (v := 0) hx hb dX5_lease_104 (by decide) ?_
            refine lv_istore (lv' := [(9, .int 0), (8, .int 1), (0, .ref (ad (7, 0, 0))), (1, .int (nI i)), (2, .int a1), (3, .int a2), (4, .int a3), (5, .int a4), (6, .int a5), (7, .int a6)]) hx hb dX5_lease_105 hl (by decide) rfl (fun ls hl => ?_)
            refine lv_aload_n hx hb dX5_lease_107 rfl (lv_at hl 2 rfl) ?_
            refine lv_iload hx hb dX5_lease_108 (lv_at hl 1 rfl) ?_
            refine lv_if_ne (tgt := 117) hx hb dX5_lease_110 (by decide) (fun _ => ?_) (fun c => absurd c (by decide))
            refine lv_iload hx hb dX5_lease_117 (lv_at hl 0 rfl) ?_
            refine lv_if_ne (tgt := 126) hx hb dX5_lease_119 (by decide) (fun c => absurd c (by decide)) (fun _ => ?_)
            refine lv_iconst (v := 2) hx hb dX5_lease_122 (by decide) ?_
            refine lv_goto (tgt := 139) hx hb dX5_lease_123 (by decide) ?_
            refine p5 hx hb hts hown hC hH hS 26 (by decide) (by decide) rfl wf_X5_77 rfl rfl dX5_lease_139 (fun H locs (hH : Wo D k b ad g (up M 26 0 2) o H) hS => ?_)
            refine lv_aload_n hx hb dX5_lease_142 rfl (lv_at hl 2 rfl) ?_
            refine g5 hx hb hts hown hC hH 26 (by decide) wf_X5_77 (v := .int 2) rfl dX5_lease_143 ?_
            refine W.eq (g2 := F0 m 146 ls [.int 2]) rfl ?_
            refine lv_if_ne (tgt := 195) hx hb dX5_lease_146 (by decide) (fun _ => ?_) (fun c => absurd c (by decide))
            have h8 : rlC M a0 a1 a2 a3 a4 a5 a6 = 2 := by first | (simp [rlC, c5, h6, c12, c17, c24, c36]; done) | (subst c17; simp [rlC, c5, h6, c12, c24, c36]; done) | (subst c36; simp [rlC, c5, h6, c12, c17, c24]; done) | (unfold rlC; rw [if_neg (by simp [c5, h6, c12, c17, c24]), if_pos (by simp [c36])])
            have h9 : rO M (rlC M a0 a1 a2 a3 a4 a5 a6) (rlG (rT M) i a1 a2 a3 a4 a5 a6) = up M 26 0 2 := by rw [rO_n (by rw [h8]; decide), h8]; rfl
            exact e_wv hx hb hr hlocks hS (by rw [h9]; exact hH) (Nat.le_refl _) (Nat.le_refl _) dX5_lease_195
          · skip
            refine lv_iload hx hb dX5_lease_39 (lv_at hl 5 rfl) ?_
            refine lv_iload_n hx hb dX5_lease_41 rfl (lv_at hl 4 rfl) ?_
            refine lv_iconst (v := (-1)) hx hb dX5_lease_42 (by decide) ?_
            refine lv_icmp_ne (tgt := 51) hx hb dX5_lease_43 (by decide) (fun c43 => ?_) (fun c43 => ?_)
            · skip
              refine lv_iconst (v := 0) hx hb dX5_lease_51 (by decide) ?_
              refine lv_bipush (v := 10) hx hb dX5_lease_52 (by decide) ?_
              refine k_r (va_runS (As := [.int a3, .int 0, .int 10]) (rest := []) ⟨hx, hb, hml, hown, hts⟩ (mX5_in l a3 0 10) ⟨cb_of hts wk_X5_in wi_X5 wm_X5_84 sd_X5_in rfl rfl ⟨Nat.le_of_ble_eq_true rfl, Nat.le_of_ble_eq_true rfl⟩, hts _ wz_X5_in⟩ (P0.pre hC hS hH) rfl rfl hl.1 rfl (lv_room (Nat.le_of_ble_eq_true rfl)) dX5_lease_54 ⟨Nat.le_of_ble_eq_true rfl, Nat.le_of_ble_eq_true rfl⟩) ?_
              refine W.eq (g2 := F0 m 57 ls [.int (b2 (inB a3 0 10))]) rfl ?_
              refine lv_if_eq (tgt := 104) hx hb dX5_lease_57 (by decide) (fun c57 => ?_) (fun c57 => ?_)
              · skip
                have c57 := b2_0.mp c57
                refine lv_iconst (v := 0) hx hb dX5_lease_104 (by decide) ?_
                refine lv_istore (lv' := [(9, .int 0), (8, .int 1), (0, .ref (ad (7, 0, 0))), (1, .int (nI i)), (2, .int a1), (3, .int a2), (4, .int a3), (5, .int a4), (6, .int a5), (7, .int a6)]) hx hb dX5_lease_105 hl (by decide) rfl (fun ls hl => ?_)
                refine lv_aload_n hx hb dX5_lease_107 rfl (lv_at hl 2 rfl) ?_
                refine lv_iload hx hb dX5_lease_108 (lv_at hl 1 rfl) ?_
                refine lv_if_ne (tgt := 117) hx hb dX5_lease_110 (by decide) (fun _ => ?_) (fun c => absurd c (by decide))
                refine lv_iload hx hb dX5_lease_117 (lv_at hl 0 rfl) ?_
                refine lv_if_ne (tgt := 126) hx hb dX5_lease_119 (by decide) (fun c => absurd c (by decide)) (fun _ => ?_)
                refine lv_iconst (v := 2) hx hb dX5_lease_122 (by decide) ?_
                refine lv_goto (tgt := 139) hx hb dX5_lease_123 (by decide) ?_
                refine p5 hx hb hts hown hC hH hS 26 (by decide) (by decide) rfl wf_X5_77 rfl rfl dX5_lease_139 (fun H locs (hH : Wo D k b ad g (up M 26 0 2) o H) hS => ?_)
                refine lv_aload_n hx hb dX5_lease_142 rfl (lv_at hl 2 rfl) ?_
                refine g5 hx hb hts hown hC hH 26 (by decide) wf_X5_77 (v := .int 2) rfl dX5_lease_143 ?_
                refine W.eq (g2 := F0 m 146 ls [.int 2]) rfl ?_
                refine lv_if_ne (tgt := 195) hx hb dX5_lease_146 (by decide) (fun _ => ?_) (fun c => absurd c (by decide))
                have h8 : rlC M a0 a1 a2 a3 a4 a5 a6 = 2 := by first | (simp [rlC, c5, h6, c12, c17, c24, c36, c43, c57]; done) | (subst c17; simp [rlC, c5, h6, c12, c24, c36, c57]; done) | (subst c43; simp [rlC, c5, h6, c12, c24, c36, c57]; done) | exact absurd c17 c43 | exact absurd c43 c17 | (subst c36; simp [rlC, c5, h6, c12, c17, c24, c43, c57]; done) | (unfold rlC; rw [if_neg (by simp [c5, h6, c12, c17, c24, c43, c57]), if_pos (by simp [c36])])
                have h9 : rO M (rlC M a0 a1 a2 a3 a4 a5 a6) (rlG (rT M) i a1 a2 a3 a4 a5 a6) = up M 26 0 2 := by rw [rO_n (by rw [h8]; decide), h8]; rfl
                exact e_wv hx hb hr hlocks hS (by rw [h9]; exact hH) (Nat.le_refl _) (Nat.le_refl _) dX5_lease_195
              · skip
                have c57 := b2_n0.mp c57
                refine lv_iload hx hb dX5_lease_60 (lv_at hl 6 rfl) ?_
                refine lv_aload_n hx hb dX5_lease_62 rfl (lv_at hl 1 rfl) ?_
                refine g5 hx hb hts hown hC hH 0 (by decide) wf_X5_105 (v := .int (M 0 0)) rfl dX5_lease_63 ?_
                refine lv_iconst (v := 1) hx hb dX5_lease_66 (by decide) ?_
                refine lv_iadd hx hb dX5_lease_67 ?_
                refine lv_sipush (v := 10000) hx hb dX5_lease_68 (by decide) ?_
                refine k_r (va_runS (As := [.int a4, .int ((M 0 0) + 1), .int 10000]) (rest := []) ⟨hx, hb, hml, hown, hts⟩ (mX5_in l a4 ((M 0 0) + 1) 10000) ⟨cb_of hts wk_X5_in wi_X5 wm_X5_84 sd_X5_in rfl rfl ⟨Nat.le_of_ble_eq_true rfl, Nat.le_of_ble_eq_true rfl⟩, hts _ wz_X5_in⟩ (P0.pre hC hS hH) rfl rfl hl.1 rfl (lv_room (Nat.le_of_ble_eq_true rfl)) dX5_lease_71 ⟨Nat.le_of_ble_eq_true rfl, Nat.le_of_ble_eq_true rfl⟩) ?_
                refine W.eq (g2 := F0 m 74 ls [.int (b2 (inB a4 ((M 0 0) + 1) 10000))]) rfl ?_
                refine lv_if_eq (tgt := 104) hx hb dX5_lease_74 (by decide) (fun c74 => ?_) (fun c74 => ?_)
                · skip
                  have c74 := b2_0.mp c74
                  refine lv_iconst (v := 0) hx hb dX5_lease_104 (by decide) ?_
                  refine lv_istore (lv' := [(9, .int 0), (8, .int 1), (0, .ref (ad (7, 0, 0))), (1, .int (nI i)), (2, .int a1), (3, .int a2), (4, .int a3), (5, .int a4), (6, .int a5), (7, .int a6)]) hx hb dX5_lease_105 hl (by decide) rfl (fun ls hl => ?_)
                  refine lv_aload_n hx hb dX5_lease_107 rfl (lv_at hl 2 rfl) ?_
                  refine lv_iload hx hb dX5_lease_108 (lv_at hl 1 rfl) ?_
                  refine lv_if_ne (tgt := 117) hx hb dX5_lease_110 (by decide) (fun _ => ?_) (fun c => absurd c (by decide))
                  refine lv_iload hx hb dX5_lease_117 (lv_at hl 0 rfl) ?_
                  refine lv_if_ne (tgt := 126) hx hb dX5_lease_119 (by decide) (fun c => absurd c (by decide)) (fun _ => ?_)
                  refine lv_iconst (v := 2) hx hb dX5_lease_122 (by decide) ?_
                  refine lv_goto (tgt := 139) hx hb dX5_lease_123 (by decide) ?_
                  refine p5 hx hb hts hown hC hH hS 26 (by decide) (by decide) rfl wf_X5_77 rfl rfl dX5_lease_139 (fun H locs (hH : Wo D k b ad g (up M 26 0 2) o H) hS => ?_)
                  refine lv_aload_n hx hb dX5_lease_142 rfl (lv_at hl 2 rfl) ?_
                  refine g5 hx hb hts hown hC hH 26 (by decide) wf_X5_77 (v := .int 2) rfl dX5_lease_143 ?_
                  refine W.eq (g2 := F0 m 146 ls [.int 2]) rfl ?_
                  refine lv_if_ne (tgt := 195) hx hb dX5_lease_146 (by decide) (fun _ => ?_) (fun c => absurd c (by decide))
                  have h8 : rlC M a0 a1 a2 a3 a4 a5 a6 = 2 := by first | (simp [rlC, c5, h6, c12, c17, c24, c36, c43, c57, c74]; done) | (subst c17; simp [rlC, c5, h6, c12, c24, c36, c57, c74]; done) | (subst c43; simp [rlC, c5, h6, c12, c24, c36, c57, c74]; done) | exact absurd c17 c43 | exact absurd c43 c17 | (subst c36; simp [rlC, c5, h6, c12, c17, c24, c43, c57, c74]; done) | (unfold rlC; rw [if_neg (by simp [c5, h6, c12, c17, c24, c43, c57, c74]), if_pos (by simp [c36])])
                  have h9 : rO M (rlC M a0 a1 a2 a3 a4 a5 a6) (rlG (rT M) i a1 a2 a3 a4 a5 a6) = up M 26 0 2 := by rw [rO_n (by rw [h8]; decide), h8]; rfl
                  exact e_wv hx hb hr hlocks hS (by rw [h9]; exact hH) (Nat.le_refl _) (Nat.le_refl _) dX5_lease_195
                · skip
                  have c74 := b2_n0.mp c74
                  refine lv_iload hx hb dX5_lease_77 (lv_at hl 7 rfl) ?_
                  refine lv_iconst (v := 0) hx hb dX5_lease_79 (by decide) ?_
                  refine lv_sipush (v := 1000) hx hb dX5_lease_80 (by decide) ?_
                  refine k_r (va_runS (As := [.int a5, .int 0, .int 1000]) (rest := []) ⟨hx, hb, hml, hown, hts⟩ (mX5_in l a5 0 1000) ⟨cb_of hts wk_X5_in wi_X5 wm_X5_84 sd_X5_in rfl rfl ⟨Nat.le_of_ble_eq_true rfl, Nat.le_of_ble_eq_true rfl⟩, hts _ wz_X5_in⟩ (P0.pre hC hS hH) rfl rfl hl.1 rfl (lv_room (Nat.le_of_ble_eq_true rfl)) dX5_lease_83 ⟨Nat.le_of_ble_eq_true rfl, Nat.le_of_ble_eq_true rfl⟩) ?_
                  refine W.eq (g2 := F0 m 86 ls [.int (b2 (inB a5 0 1000))]) rfl ?_
                  refine lv_if_eq (tgt := 104) hx hb dX5_lease_86 (by decide) (fun c86 => ?_) (fun c86 => ?_)
                  · skip
                    have c86 := b2_0.mp c86
                    refine lv_iconst (v := 0) hx hb dX5_lease_104 (by decide) ?_
                    refine lv_istore (lv' := [(9, .int 0), (8, .int 1), (0, .ref (ad (7, 0, 0))), (1, .int (nI i)), (2, .int a1), (3, .int a2), (4, .int a3), (5, .int a4), (6, .int a5), (7, .int a6)]) hx hb dX5_lease_105 hl (by decide) rfl (fun ls hl => ?_)
                    refine lv_aload_n hx hb dX5_lease_107 rfl (lv_at hl 2 rfl) ?_
                    refine lv_iload hx hb dX5_lease_108 (lv_at hl 1 rfl) ?_
                    refine lv_if_ne (tgt := 117) hx hb dX5_lease_110 (by decide) (fun _ => ?_) (fun c => absurd c (by decide))
                    refine lv_iload hx hb dX5_lease_117 (lv_at hl 0 rfl) ?_
                    refine lv_if_ne (tgt := 126) hx hb dX5_lease_119 (by decide) (fun c => absurd c (by decide)) (fun _ => ?_)
                    refine lv_iconst (v := 2) hx hb dX5_lease_122 (by decide) ?_
                    refine lv_goto (tgt := 139) hx hb dX5_lease_123 (by decide) ?_
                    refine p5 hx hb hts hown hC hH hS 26 (by decide) (by decide) rfl wf_X5_77 rfl rfl dX5_lease_139 (fun H locs (hH : Wo D k b ad g (up M 26 0 2) o H) hS => ?_)
                    refine lv_aload_n hx hb dX5_lease_142 rfl (lv_at hl 2 rfl) ?_
                    refine g5 hx hb hts hown hC hH 26 (by decide) wf_X5_77 (v := .int 2) rfl dX5_lease_143 ?_
                    refine W.eq (g2 := F0 m 146 ls [.int 2]) rfl ?_
                    refine lv_if_ne (tgt := 195) hx hb dX5_lease_146 (by decide) (fun _ => ?_) (fun c => absurd c (by decide))
                    have h8 : rlC M a0 a1 a2 a3 a4 a5 a6 = 2 := by first | (simp [rlC, c5, h6, c12, c17, c24, c36, c43, c57, c74, c86]; done) | (subst c17; simp [rlC, c5, h6, c12, c24, c36, c57, c74, c86]; done) | (subst c43; simp [rlC, c5, h6, c12, c24, c36, c57, c74, c86]; done) | exact absurd c17 c43 | exact absurd c43 c17 | (subst c36; simp [rlC, c5, h6, c12, c17, c24, c43, c57, c74, c86]; done) | (unfold rlC; rw [if_neg (by simp [c5, h6, c12, c17, c24, c43, c57, c74, c86]), if_pos (by simp [c36])])
                    have h9 : rO M (rlC M a0 a1 a2 a3 a4 a5 a6) (rlG (rT M) i a1 a2 a3 a4 a5 a6) = up M 26 0 2 := by rw [rO_n (by rw [h8]; decide), h8]; rfl
                    exact e_wv hx hb hr hlocks hS (by rw [h9]; exact hH) (Nat.le_refl _) (Nat.le_refl _) dX5_lease_195
                  · skip
                    have c86 := b2_n0.mp c86
                    refine lv_iload hx hb dX5_lease_89 (lv_at hl 8 rfl) ?_
                    refine lv_iconst (v := 0) hx hb dX5_lease_91 (by decide) ?_
                    refine lv_bipush (v := 100) hx hb dX5_lease_92 (by decide) ?_
                    refine k_r (va_runS (As := [.int a6, .int 0, .int 100]) (rest := []) ⟨hx, hb, hml, hown, hts⟩ (mX5_in l a6 0 100) ⟨cb_of hts wk_X5_in wi_X5 wm_X5_84 sd_X5_in rfl rfl ⟨Nat.le_of_ble_eq_true rfl, Nat.le_of_ble_eq_true rfl⟩, hts _ wz_X5_in⟩ (P0.pre hC hS hH) rfl rfl hl.1 rfl (lv_room (Nat.le_of_ble_eq_true rfl)) dX5_lease_94 ⟨Nat.le_of_ble_eq_true rfl, Nat.le_of_ble_eq_true rfl⟩) ?_
                    refine W.eq (g2 := F0 m 97 ls [.int (b2 (inB a6 0 100))]) rfl ?_
                    refine lv_if_eq (tgt := 104) hx hb dX5_lease_97 (by decide) (fun c97 => ?_) (fun c97 => ?_)
                    · skip
                      have c97 := b2_0.mp c97
                      refine lv_iconst (v := 0) hx hb dX5_lease_104 (by decide) ?_
                      refine lv_istore (lv' := [(9, .int 0), (8, .int 1), (0, .ref (ad (7, 0, 0))), (1, .int (nI i)), (2, .int a1), (3, .int a2), (4, .int a3), (5, .int a4), (6, .int a5), (7, .int a6)]) hx hb dX5_lease_105 hl (by decide) rfl (fun ls hl => ?_)
                      refine lv_aload_n hx hb dX5_lease_107 rfl (lv_at hl 2 rfl) ?_
                      refine lv_iload hx hb dX5_lease_108 (lv_at hl 1 rfl) ?_
                      refine lv_if_ne (tgt := 117) hx hb dX5_lease_110 (by decide) (fun _ => ?_) (fun c => absurd c (by decide))
                      refine lv_iload hx hb dX5_lease_117 (lv_at hl 0 rfl) ?_
                      refine lv_if_ne (tgt := 126) hx hb dX5_lease_119 (by decide) (fun c => absurd c (by decide)) (fun _ => ?_)
                      refine lv_iconst (v := 2) hx hb dX5_lease_122 (by decide) ?_
                      refine lv_goto (tgt := 139) hx hb dX5_lease_123 (by decide) ?_
                      refine p5 hx hb hts hown hC hH hS 26 (by decide) (by decide) rfl wf_X5_77 rfl rfl dX5_lease_139 (fun H locs (hH : Wo D k b ad g (up M 26 0 2) o H) hS => ?_)
                      refine lv_aload_n hx hb dX5_lease_142 rfl (lv_at hl 2 rfl) ?_
                      refine g5 hx hb hts hown hC hH 26 (by decide) wf_X5_77 (v := .int 2) rfl dX5_lease_143 ?_
                      refine W.eq (g2 := F0 m 146 ls [.int 2]) rfl ?_
                      refine lv_if_ne (tgt := 195) hx hb dX5_lease_146 (by decide) (fun _ => ?_) (fun c => absurd c (by decide))
                      have h8 : rlC M a0 a1 a2 a3 a4 a5 a6 = 2 := by first | (simp [rlC, c5, h6, c12, c17, c24, c36, c43, c57, c74, c86, c97]; done) | (subst c17; simp [rlC, c5, h6, c12, c24, c36, c57, c74, c86, c97]; done) | (subst c43; simp [rlC, c5, h6, c12, c24, c36, c57, c74, c86, c97]; done) | exact absurd c17 c43 | exact absurd c43 c17 | (subst c36; simp [rlC, c5, h6, c12, c17, c24, c43, c57, c74, c86, c97]; done) | (unfold rlC; rw [if_neg (by simp [c5, h6, c12, c17, c24, c43, c57, c74, c86, c97]), if_pos (by simp [c36])])
                      have h9 : rO M (rlC M a0 a1 a2 a3 a4 a5 a6) (rlG (rT M) i a1 a2 a3 a4 a5 a6) = up M 26 0 2 := by rw [rO_n (by rw [h8]; decide), h8]; rfl
                      exact e_wv hx hb hr hlocks hS (by rw [h9]; exact hH) (Nat.le_refl _) (Nat.le_refl _) dX5_lease_195
                    · skip
                      have c97 := b2_n0.mp c97
                      refine lv_iconst (v := 1) hx hb dX5_lease_100 (by decide) ?_
                      refine lv_goto (tgt := 105) hx hb dX5_lease_101 (by decide) ?_
                      refine lv_istore (lv' := [(9, .int 1), (8, .int 1), (0, .ref (ad (7, 0, 0))), (1, .int (nI i)), (2, .int a1), (3, .int a2), (4, .int a3), (5, .int a4), (6, .int a5), (7, .int a6)]) hx hb dX5_lease_105 hl (by decide) rfl (fun ls hl => ?_)
                      refine lv_aload_n hx hb dX5_lease_107 rfl (lv_at hl 2 rfl) ?_
                      refine lv_iload hx hb dX5_lease_108 (lv_at hl 1 rfl) ?_
                      refine lv_if_ne (tgt := 117) hx hb dX5_lease_110 (by decide) (fun _ => ?_) (fun c => absurd c (by decide))
                      refine lv_iload hx hb dX5_lease_117 (lv_at hl 0 rfl) ?_
                      refine lv_if_ne (tgt := 126) hx hb dX5_lease_119 (by decide) (fun _ => ?_) (fun c => absurd c (by decide))
                      refine lv_aload_n hx hb dX5_lease_126 rfl (lv_at hl 2 rfl) ?_
                      refine lv_iload_n hx hb dX5_lease_127 rfl (lv_at hl 3 rfl) ?_
                      refine k_r (va_runV (As := [.int (nI i)]) (rest := [.ref (ad (7, 0, 0))]) ⟨hx, hb, hml, hown, hts⟩ (mX5_isLeased l (M := M) i (by omega)) ⟨cb_of hts wk_X5_isLeased wi_X5 wm_X5_91 sd_X5_isLeased rfl rfl ⟨Nat.le_of_ble_eq_true rfl, Nat.le_of_ble_eq_true rfl⟩, hts _ wv_X5_isLeased, hts _ wl_X5_isLeased⟩ (P0.preV hC hS hH (Hp.recv hC.1 hH (7, 0, 0) ⟨rfl, rfl⟩ rfl rfl)) rfl rfl hl.1 rfl (lv_room (Nat.le_of_ble_eq_true rfl)) dX5_lease_128 ⟨Nat.le_of_ble_eq_true rfl, Nat.le_of_ble_eq_true rfl⟩) ?_
                      refine W.eq (g2 := F0 m 131 ls [.int (b2 (rlB M i)), .ref (ad (7, 0, 0))]) rfl ?_
                      refine lv_if_eq (tgt := 138) hx hb dX5_lease_131 (by decide) (fun c131 => ?_) (fun c131 => ?_)
                      · skip
                        have c131 := b2_0.mp c131
                        refine lv_iconst (v := 0) hx hb dX5_lease_138 (by decide) ?_
                        refine p5 hx hb hts hown hC hH hS 26 (by decide) (by decide) rfl wf_X5_77 rfl rfl dX5_lease_139 (fun H locs (hH : Wo D k b ad g (up M 26 0 0) o H) hS => ?_)
                        refine lv_aload_n hx hb dX5_lease_142 rfl (lv_at hl 2 rfl) ?_
                        refine g5 hx hb hts hown hC hH 26 (by decide) wf_X5_77 (v := .int 0) rfl dX5_lease_143 ?_
                        refine W.eq (g2 := F0 m 146 ls [.int 0]) rfl ?_
                        refine lv_if_ne (tgt := 195) hx hb dX5_lease_146 (by decide) (fun c => absurd c (by decide)) (fun _ => ?_)
                        refine lv_aload_n hx hb dX5_lease_149 rfl (lv_at hl 2 rfl) ?_
                        refine g5 hx hb hts hown hC hH 11 (by decide) wf_X5_35 (v := .ref (ad (8, 11, 0))) rfl dX5_lease_150 ?_
                        refine lv_iload_n hx hb dX5_lease_153 rfl (lv_at hl 3 rfl) ?_
                        refine lv_iload hx hb dX5_lease_154 (lv_at hl 7 rfl) ?_
                        refine rStN hx hb hC hH hS 11 (by decide) (by decide) (i := i) (show i < 8 by omega) dX5_lease_156 (fun H locs (hH : Wo D k b ad g (up (up M 26 0 0) 11 i a4) o H) hS => ?_)
                        refine lv_aload_n hx hb dX5_lease_157 rfl (lv_at hl 2 rfl) ?_
                        refine g5 hx hb hts hown hC hH 12 (by decide) wf_X5_38 (v := .ref (ad (8, 12, 0))) rfl dX5_lease_158 ?_
                        refine lv_iload_n hx hb dX5_lease_161 rfl (lv_at hl 3 rfl) ?_
                        refine lv_iload_n hx hb dX5_lease_162 rfl (lv_at hl 4 rfl) ?_
                        refine rStN hx hb hC hH hS 12 (by decide) (by decide) (i := i) (show i < 8 by omega) dX5_lease_163 (fun H locs (hH : Wo D k b ad g (up (up (up M 26 0 0) 11 i a4) 12 i a1) o H) hS => ?_)
                        refine lv_aload_n hx hb dX5_lease_164 rfl (lv_at hl 2 rfl) ?_
                        refine g5 hx hb hts hown hC hH 13 (by decide) wf_X5_41 (v := .ref (ad (8, 13, 0))) rfl dX5_lease_165 ?_
                        refine lv_iload_n hx hb dX5_lease_168 rfl (lv_at hl 3 rfl) ?_
                        refine lv_iload_n hx hb dX5_lease_169 rfl (lv_at hl 5 rfl) ?_
                        refine rStN hx hb hC hH hS 13 (by decide) (by decide) (i := i) (show i < 8 by omega) dX5_lease_170 (fun H locs (hH : Wo D k b ad g (up (up (up (up M 26 0 0) 11 i a4) 12 i a1) 13 i a2) o H) hS => ?_)
                        refine lv_aload_n hx hb dX5_lease_171 rfl (lv_at hl 2 rfl) ?_
                        refine g5 hx hb hts hown hC hH 14 (by decide) wf_X5_44 (v := .ref (ad (8, 14, 0))) rfl dX5_lease_172 ?_
                        refine lv_iload_n hx hb dX5_lease_175 rfl (lv_at hl 3 rfl) ?_
                        refine lv_iload hx hb dX5_lease_176 (lv_at hl 6 rfl) ?_
                        refine rStN hx hb hC hH hS 14 (by decide) (by decide) (i := i) (show i < 8 by omega) dX5_lease_178 (fun H locs (hH : Wo D k b ad g (up (up (up (up (up M 26 0 0) 11 i a4) 12 i a1) 13 i a2) 14 i a3) o H) hS => ?_)
                        refine lv_aload_n hx hb dX5_lease_179 rfl (lv_at hl 2 rfl) ?_
                        refine g5 hx hb hts hown hC hH 15 (by decide) wf_X5_47 (v := .ref (ad (8, 15, 0))) rfl dX5_lease_180 ?_
                        refine lv_iload_n hx hb dX5_lease_183 rfl (lv_at hl 3 rfl) ?_
                        refine lv_iload hx hb dX5_lease_184 (lv_at hl 8 rfl) ?_
                        refine rStN hx hb hC hH hS 15 (by decide) (by decide) (i := i) (show i < 8 by omega) dX5_lease_186 (fun H locs (hH : Wo D k b ad g (up (up (up (up (up (up M 26 0 0) 11 i a4) 12 i a1) 13 i a2) 14 i a3) 15 i a5) o H) hS => ?_)
                        refine lv_aload_n hx hb dX5_lease_187 rfl (lv_at hl 2 rfl) ?_
                        refine g5 hx hb hts hown hC hH 16 (by decide) wf_X5_50 (v := .ref (ad (8, 16, 0))) rfl dX5_lease_188 ?_
                        refine lv_iload_n hx hb dX5_lease_191 rfl (lv_at hl 3 rfl) ?_
                        refine lv_iload hx hb dX5_lease_192 (lv_at hl 9 rfl) ?_
                        refine rStN hx hb hC hH hS 16 (by decide) (by decide) (i := i) (show i < 8 by omega) dX5_lease_194 (fun H locs (hH : Wo D k b ad g (up (up (up (up (up (up (up M 26 0 0) 11 i a4) 12 i a1) 13 i a2) 14 i a3) 15 i a5) 16 i a6) o H) hS => ?_)
                        have h8 : rlC M a0 a1 a2 a3 a4 a5 a6 = 0 := by first | (simp [rlC, c5, h6, c12, c17, c24, c36, c43, c57, c74, c86, c97, c131]; done) | (subst c17; simp [rlC, c5, h6, c12, c24, c36, c57, c74, c86, c97, c131]; done) | (subst c43; simp [rlC, c5, h6, c12, c24, c36, c57, c74, c86, c97, c131]; done) | exact absurd c17 c43 | exact absurd c43 c17 | (subst c36; simp [rlC, c5, h6, c12, c17, c24, c43, c57, c74, c86, c97, c131]; done) | (unfold rlC; rw [if_neg (by simp [c5, h6, c12, c17, c24, c43, c57, c74, c86, c97, c131]), if_pos (by simp [c36])])
                        have h9 : rO M (rlC M a0 a1 a2 a3 a4 a5 a6) (rlG (rT M) i a1 a2 a3 a4 a5 a6) = up (up (up (up (up (up (up M 26 0 0) 11 i a4) 12 i a1) 13 i a2) 14 i a3) 15 i a5) 16 i a6 := (rO_0 h8).trans (rfl)
                        exact e_wv hx hb hr hlocks hS (by rw [h9]; exact hH) (Nat.le_refl _) (Nat.le_refl _) dX5_lease_195
                      · skip
                        have c131 := b2_n0.mp c131
                        refine lv_iconst (v := 3) hx hb dX5_lease_134 (by decide) ?_
                        refine lv_goto (tgt := 139) hx hb dX5_lease_135 (by decide) ?_
                        refine p5 hx hb hts hown hC hH hS 26 (by decide) (by decide) rfl wf_X5_77 rfl rfl dX5_lease_139 (fun H locs (hH : Wo D k b ad g (up M 26 0 3) o H) hS => ?_)
                        refine lv_aload_n hx hb dX5_lease_142 rfl (lv_at hl 2 rfl) ?_
                        refine g5 hx hb hts hown hC hH 26 (by decide) wf_X5_77 (v := .int 3) rfl dX5_lease_143 ?_
                        refine W.eq (g2 := F0 m 146 ls [.int 3]) rfl ?_
                        refine lv_if_ne (tgt := 195) hx hb dX5_lease_146 (by decide) (fun _ => ?_) (fun c => absurd c (by decide))
                        have h8 : rlC M a0 a1 a2 a3 a4 a5 a6 = 3 := by first | (simp [rlC, c5, h6, c12, c17, c24, c36, c43, c57, c74, c86, c97, c131]; done) | (subst c17; simp [rlC, c5, h6, c12, c24, c36, c57, c74, c86, c97, c131]; done) | (subst c43; simp [rlC, c5, h6, c12, c24, c36, c57, c74, c86, c97, c131]; done) | exact absurd c17 c43 | exact absurd c43 c17 | (subst c36; simp [rlC, c5, h6, c12, c17, c24, c43, c57, c74, c86, c97, c131]; done) | (unfold rlC; rw [if_neg (by simp [c5, h6, c12, c17, c24, c43, c57, c74, c86, c97, c131]), if_pos (by simp [c36])])
                        have h9 : rO M (rlC M a0 a1 a2 a3 a4 a5 a6) (rlG (rT M) i a1 a2 a3 a4 a5 a6) = up M 26 0 3 := by rw [rO_n (by rw [h8]; decide), h8]; rfl
                        exact e_wv hx hb hr hlocks hS (by rw [h9]; exact hH) (Nat.le_refl _) (Nat.le_refl _) dX5_lease_195
            · skip
              refine lv_bipush (v := 10) hx hb dX5_lease_46 (by decide) ?_
              refine lv_goto (tgt := 52) hx hb dX5_lease_48 (by decide) ?_
              refine lv_bipush (v := 10) hx hb dX5_lease_52 (by decide) ?_
              refine k_r (va_runS (As := [.int a3, .int 10, .int 10]) (rest := []) ⟨hx, hb, hml, hown, hts⟩ (mX5_in l a3 10 10) ⟨cb_of hts wk_X5_in wi_X5 wm_X5_84 sd_X5_in rfl rfl ⟨Nat.le_of_ble_eq_true rfl, Nat.le_of_ble_eq_true rfl⟩, hts _ wz_X5_in⟩ (P0.pre hC hS hH) rfl rfl hl.1 rfl (lv_room (Nat.le_of_ble_eq_true rfl)) dX5_lease_54 ⟨Nat.le_of_ble_eq_true rfl, Nat.le_of_ble_eq_true rfl⟩) ?_
              refine W.eq (g2 := F0 m 57 ls [.int (b2 (inB a3 10 10))]) rfl ?_
              refine lv_if_eq (tgt := 104) hx hb dX5_lease_57 (by decide) (fun c57 => ?_) (fun c57 => ?_)
              · skip
                have c57 := b2_0.mp c57
                refine lv_iconst (v := 0) hx hb dX5_lease_104 (by decide) ?_
                refine lv_istore (lv' := [(9, .int 0), (8, .int 1), (0, .ref (ad (7, 0, 0))), (1, .int (nI i)), (2, .int a1), (3, .int a2), (4, .int a3), (5, .int a4), (6, .int a5), (7, .int a6)]) hx hb dX5_lease_105 hl (by decide) rfl (fun ls hl => ?_)
                refine lv_aload_n hx hb dX5_lease_107 rfl (lv_at hl 2 rfl) ?_
                refine lv_iload hx hb dX5_lease_108 (lv_at hl 1 rfl) ?_
                refine lv_if_ne (tgt := 117) hx hb dX5_lease_110 (by decide) (fun _ => ?_) (fun c => absurd c (by decide))
                refine lv_iload hx hb dX5_lease_117 (lv_at hl 0 rfl) ?_
                refine lv_if_ne (tgt := 126) hx hb dX5_lease_119 (by decide) (fun c => absurd c (by decide)) (fun _ => ?_)
                refine lv_iconst (v := 2) hx hb dX5_lease_122 (by decide) ?_
                refine lv_goto (tgt := 139) hx hb dX5_lease_123 (by decide) ?_
                refine p5 hx hb hts hown hC hH hS 26 (by decide) (by decide) rfl wf_X5_77 rfl rfl dX5_lease_139 (fun H locs (hH : Wo D k b ad g (up M 26 0 2) o H) hS => ?_)
                refine lv_aload_n hx hb dX5_lease_142 rfl (lv_at hl 2 rfl) ?_
                refine g5 hx hb hts hown hC hH 26 (by decide) wf_X5_77 (v := .int 2) rfl dX5_lease_143 ?_
                refine W.eq (g2 := F0 m 146 ls [.int 2]) rfl ?_
                refine lv_if_ne (tgt := 195) hx hb dX5_lease_146 (by decide) (fun _ => ?_) (fun c => absurd c (by decide))
                have h8 : rlC M a0 a1 a2 a3 a4 a5 a6 = 2 := by first | (simp [rlC, c5, h6, c12, c17, c24, c36, c43, c57]; done) | (subst c17; simp [rlC, c5, h6, c12, c24, c36, c57]; done) | (subst c43; simp [rlC, c5, h6, c12, c24, c36, c57]; done) | exact absurd c17 c43 | exact absurd c43 c17 | (subst c36; simp [rlC, c5, h6, c12, c17, c24, c43, c57]; done) | (unfold rlC; rw [if_neg (by simp [c5, h6, c12, c17, c24, c43, c57]), if_pos (by simp [c36])])
                have h9 : rO M (rlC M a0 a1 a2 a3 a4 a5 a6) (rlG (rT M) i a1 a2 a3 a4 a5 a6) = up M 26 0 2 := by rw [rO_n (by rw [h8]; decide), h8]; rfl
                exact e_wv hx hb hr hlocks hS (by rw [h9]; exact hH) (Nat.le_refl _) (Nat.le_refl _) dX5_lease_195
              · skip
                have c57 := b2_n0.mp c57
                refine lv_iload hx hb dX5_lease_60 (lv_at hl 6 rfl) ?_
                refine lv_aload_n hx hb dX5_lease_62 rfl (lv_at hl 1 rfl) ?_
                refine g5 hx hb hts hown hC hH 0 (by decide) wf_X5_105 (v := .int (M 0 0)) rfl dX5_lease_63 ?_
                refine lv_iconst (v := 1) hx hb dX5_lease_66 (by decide) ?_
                refine lv_iadd hx hb dX5_lease_67 ?_
                refine lv_sipush (v := 10000) hx hb dX5_lease_68 (by decide) ?_
                refine k_r (va_runS (As := [.int a4, .int ((M 0 0) + 1), .int 10000]) (rest := []) ⟨hx, hb, hml, hown, hts⟩ (mX5_in l a4 ((M 0 0) + 1) 10000) ⟨cb_of hts wk_X5_in wi_X5 wm_X5_84 sd_X5_in rfl rfl ⟨Nat.le_of_ble_eq_true rfl, Nat.le_of_ble_eq_true rfl⟩, hts _ wz_X5_in⟩ (P0.pre hC hS hH) rfl rfl hl.1 rfl (lv_room (Nat.le_of_ble_eq_true rfl)) dX5_lease_71 ⟨Nat.le_of_ble_eq_true rfl, Nat.le_of_ble_eq_true rfl⟩) ?_
                refine W.eq (g2 := F0 m 74 ls [.int (b2 (inB a4 ((M 0 0) + 1) 10000))]) rfl ?_
                refine lv_if_eq (tgt := 104) hx hb dX5_lease_74 (by decide) (fun c74 => ?_) (fun c74 => ?_)
                · skip
                  have c74 := b2_0.mp c74
                  refine lv_iconst (v := 0) hx hb dX5_lease_104 (by decide) ?_
                  refine lv_istore (lv' := [(9, .int 0), (8, .int 1), (0, .ref (ad (7, 0, 0))), (1, .int (nI i)), (2, .int a1), (3, .int a2), (4, .int a3), (5, .int a4), (6, .int a5), (7, .int a6)]) hx hb dX5_lease_105 hl (by decide) rfl (fun ls hl => ?_)
                  refine lv_aload_n hx hb dX5_lease_107 rfl (lv_at hl 2 rfl) ?_
                  refine lv_iload hx hb dX5_lease_108 (lv_at hl 1 rfl) ?_
                  refine lv_if_ne (tgt := 117) hx hb dX5_lease_110 (by decide) (fun _ => ?_) (fun c => absurd c (by decide))
                  refine lv_iload hx hb dX5_lease_117 (lv_at hl 0 rfl) ?_
                  refine lv_if_ne (tgt := 126) hx hb dX5_lease_119 (by decide) (fun c => absurd c (by decide)) (fun _ => ?_)
                  refine lv_iconst (v := 2) hx hb dX5_lease_122 (by decide) ?_
                  refine lv_goto (tgt := 139) hx hb dX5_lease_123 (by decide) ?_
                  refine p5 hx hb hts hown hC hH hS 26 (by decide) (by decide) rfl wf_X5_77 rfl rfl dX5_lease_139 (fun H locs (hH : Wo D k b ad g (up M 26 0 2) o H) hS => ?_)
                  refine lv_aload_n hx hb dX5_lease_142 rfl (lv_at hl 2 rfl) ?_
                  refine g5 hx hb hts hown hC hH 26 (by decide) wf_X5_77 (v := .int 2) rfl dX5_lease_143 ?_
                  refine W.eq (g2 := F0 m 146 ls [.int 2]) rfl ?_
                  refine lv_if_ne (tgt := 195) hx hb dX5_lease_146 (by decide) (fun _ => ?_) (fun c => absurd c (by decide))
                  have h8 : rlC M a0 a1 a2 a3 a4 a5 a6 = 2 := by first | (simp [rlC, c5, h6, c12, c17, c24, c36, c43, c57, c74]; done) | (subst c17; simp [rlC, c5, h6, c12, c24, c36, c57, c74]; done) | (subst c43; simp [rlC, c5, h6, c12, c24, c36, c57, c74]; done) | exact absurd c17 c43 | exact absurd c43 c17 | (subst c36; simp [rlC, c5, h6, c12, c17, c24, c43, c57, c74]; done) | (unfold rlC; rw [if_neg (by simp [c5, h6, c12, c17, c24, c43, c57, c74]), if_pos (by simp [c36])])
                  have h9 : rO M (rlC M a0 a1 a2 a3 a4 a5 a6) (rlG (rT M) i a1 a2 a3 a4 a5 a6) = up M 26 0 2 := by rw [rO_n (by rw [h8]; decide), h8]; rfl
                  exact e_wv hx hb hr hlocks hS (by rw [h9]; exact hH) (Nat.le_refl _) (Nat.le_refl _) dX5_lease_195
                · skip
                  have c74 := b2_n0.mp c74
                  refine lv_iload hx hb dX5_lease_77 (lv_at hl 7 rfl) ?_
                  refine lv_iconst (v := 0) hx hb dX5_lease_79 (by decide) ?_
                  refine lv_sipush (v := 1000) hx hb dX5_lease_80 (by decide) ?_
                  refine k_r (va_runS (As := [.int a5, .int 0, .int 1000]) (rest := []) ⟨hx, hb, hml, hown, hts⟩ (mX5_in l a5 0 1000) ⟨cb_of hts wk_X5_in wi_X5 wm_X5_84 sd_X5_in rfl rfl ⟨Nat.le_of_ble_eq_true rfl, Nat.le_of_ble_eq_true rfl⟩, hts _ wz_X5_in⟩ (P0.pre hC hS hH) rfl rfl hl.1 rfl (lv_room (Nat.le_of_ble_eq_true rfl)) dX5_lease_83 ⟨Nat.le_of_ble_eq_true rfl, Nat.le_of_ble_eq_true rfl⟩) ?_
                  refine W.eq (g2 := F0 m 86 ls [.int (b2 (inB a5 0 1000))]) rfl ?_
                  refine lv_if_eq (tgt := 104) hx hb dX5_lease_86 (by decide) (fun c86 => ?_) (fun c86 => ?_)
                  · skip
                    have c86 := b2_0.mp c86
                    refine lv_iconst (v := 0) hx hb dX5_lease_104 (by decide) ?_
                    refine lv_istore (lv' := [(9, .int 0), (8, .int 1), (0, .ref (ad (7, 0, 0))), (1, .int (nI i)), (2, .int a1), (3, .int a2), (4, .int a3), (5, .int a4), (6, .int a5), (7, .int a6)]) hx hb dX5_lease_105 hl (by decide) rfl (fun ls hl => ?_)
                    refine lv_aload_n hx hb dX5_lease_107 rfl (lv_at hl 2 rfl) ?_
                    refine lv_iload hx hb dX5_lease_108 (lv_at hl 1 rfl) ?_
                    refine lv_if_ne (tgt := 117) hx hb dX5_lease_110 (by decide) (fun _ => ?_) (fun c => absurd c (by decide))
                    refine lv_iload hx hb dX5_lease_117 (lv_at hl 0 rfl) ?_
                    refine lv_if_ne (tgt := 126) hx hb dX5_lease_119 (by decide) (fun c => absurd c (by decide)) (fun _ => ?_)
                    refine lv_iconst (v := 2) hx hb dX5_lease_122 (by decide) ?_
                    refine lv_goto (tgt := 139) hx hb dX5_lease_123 (by decide) ?_
                    refine p5 hx hb hts hown hC hH hS 26 (by decide) (by decide) rfl wf_X5_77 rfl rfl dX5_lease_139 (fun H locs (hH : Wo D k b ad g (up M 26 0 2) o H) hS => ?_)
                    refine lv_aload_n hx hb dX5_lease_142 rfl (lv_at hl 2 rfl) ?_
                    refine g5 hx hb hts hown hC hH 26 (by decide) wf_X5_77 (v := .int 2) rfl dX5_lease_143 ?_
                    refine W.eq (g2 := F0 m 146 ls [.int 2]) rfl ?_
                    refine lv_if_ne (tgt := 195) hx hb dX5_lease_146 (by decide) (fun _ => ?_) (fun c => absurd c (by decide))
                    have h8 : rlC M a0 a1 a2 a3 a4 a5 a6 = 2 := by first | (simp [rlC, c5, h6, c12, c17, c24, c36, c43, c57, c74, c86]; done) | (subst c17; simp [rlC, c5, h6, c12, c24, c36, c57, c74, c86]; done) | (subst c43; simp [rlC, c5, h6, c12, c24, c36, c57, c74, c86]; done) | exact absurd c17 c43 | exact absurd c43 c17 | (subst c36; simp [rlC, c5, h6, c12, c17, c24, c43, c57, c74, c86]; done) | (unfold rlC; rw [if_neg (by simp [c5, h6, c12, c17, c24, c43, c57, c74, c86]), if_pos (by simp [c36])])
                    have h9 : rO M (rlC M a0 a1 a2 a3 a4 a5 a6) (rlG (rT M) i a1 a2 a3 a4 a5 a6) = up M 26 0 2 := by rw [rO_n (by rw [h8]; decide), h8]; rfl
                    exact e_wv hx hb hr hlocks hS (by rw [h9]; exact hH) (Nat.le_refl _) (Nat.le_refl _) dX5_lease_195
                  · skip
                    have c86 := b2_n0.mp c86
                    refine lv_iload hx hb dX5_lease_89 (lv_at hl 8 rfl) ?_
                    refine lv_iconst (v := 0) hx hb dX5_lease_91 (by decide) ?_
                    refine lv_bipush (v := 100) hx hb dX5_lease_92 (by decide) ?_
                    refine k_r (va_runS (As := [.int a6, .int 0, .int 100]) (rest := []) ⟨hx, hb, hml, hown, hts⟩ (mX5_in l a6 0 100) ⟨cb_of hts wk_X5_in wi_X5 wm_X5_84 sd_X5_in rfl rfl ⟨Nat.le_of_ble_eq_true rfl, Nat.le_of_ble_eq_true rfl⟩, hts _ wz_X5_in⟩ (P0.pre hC hS hH) rfl rfl hl.1 rfl (lv_room (Nat.le_of_ble_eq_true rfl)) dX5_lease_94 ⟨Nat.le_of_ble_eq_true rfl, Nat.le_of_ble_eq_true rfl⟩) ?_
                    refine W.eq (g2 := F0 m 97 ls [.int (b2 (inB a6 0 100))]) rfl ?_
                    refine lv_if_eq (tgt := 104) hx hb dX5_lease_97 (by decide) (fun c97 => ?_) (fun c97 => ?_)
                    · skip
                      have c97 := b2_0.mp c97
                      refine lv_iconst (v := 0) hx hb dX5_lease_104 (by decide) ?_
                      refine lv_istore (lv' := [(9, .int 0), (8, .int 1), (0, .ref (ad (7, 0, 0))), (1, .int (nI i)), (2, .int a1), (3, .int a2), (4, .int a3), (5, .int a4), (6, .int a5), (7, .int a6)]) hx hb dX5_lease_105 hl (by decide) rfl (fun ls hl => ?_)
                      refine lv_aload_n hx hb dX5_lease_107 rfl (lv_at hl 2 rfl) ?_
                      refine lv_iload hx hb dX5_lease_108 (lv_at hl 1 rfl) ?_
                      refine lv_if_ne (tgt := 117) hx hb dX5_lease_110 (by decide) (fun _ => ?_) (fun c => absurd c (by decide))
                      refine lv_iload hx hb dX5_lease_117 (lv_at hl 0 rfl) ?_
                      refine lv_if_ne (tgt := 126) hx hb dX5_lease_119 (by decide) (fun c => absurd c (by decide)) (fun _ => ?_)
                      refine lv_iconst (v := 2) hx hb dX5_lease_122 (by decide) ?_
                      refine lv_goto (tgt := 139) hx hb dX5_lease_123 (by decide) ?_
                      refine p5 hx hb hts hown hC hH hS 26 (by decide) (by decide) rfl wf_X5_77 rfl rfl dX5_lease_139 (fun H locs (hH : Wo D k b ad g (up M 26 0 2) o H) hS => ?_)
                      refine lv_aload_n hx hb dX5_lease_142 rfl (lv_at hl 2 rfl) ?_
                      refine g5 hx hb hts hown hC hH 26 (by decide) wf_X5_77 (v := .int 2) rfl dX5_lease_143 ?_
                      refine W.eq (g2 := F0 m 146 ls [.int 2]) rfl ?_
                      refine lv_if_ne (tgt := 195) hx hb dX5_lease_146 (by decide) (fun _ => ?_) (fun c => absurd c (by decide))
                      have h8 : rlC M a0 a1 a2 a3 a4 a5 a6 = 2 := by first | (simp [rlC, c5, h6, c12, c17, c24, c36, c43, c57, c74, c86, c97]; done) | (subst c17; simp [rlC, c5, h6, c12, c24, c36, c57, c74, c86, c97]; done) | (subst c43; simp [rlC, c5, h6, c12, c24, c36, c57, c74, c86, c97]; done) | exact absurd c17 c43 | exact absurd c43 c17 | (subst c36; simp [rlC, c5, h6, c12, c17, c24, c43, c57, c74, c86, c97]; done) | (unfold rlC; rw [if_neg (by simp [c5, h6, c12, c17, c24, c43, c57, c74, c86, c97]), if_pos (by simp [c36])])
                      have h9 : rO M (rlC M a0 a1 a2 a3 a4 a5 a6) (rlG (rT M) i a1 a2 a3 a4 a5 a6) = up M 26 0 2 := by rw [rO_n (by rw [h8]; decide), h8]; rfl
                      exact e_wv hx hb hr hlocks hS (by rw [h9]; exact hH) (Nat.le_refl _) (Nat.le_refl _) dX5_lease_195
                    · skip
                      have c97 := b2_n0.mp c97
                      refine lv_iconst (v := 1) hx hb dX5_lease_100 (by decide) ?_
                      refine lv_goto (tgt := 105) hx hb dX5_lease_101 (by decide) ?_
                      refine lv_istore (lv' := [(9, .int 1), (8, .int 1), (0, .ref (ad (7, 0, 0))), (1, .int (nI i)), (2, .int a1), (3, .int a2), (4, .int a3), (5, .int a4), (6, .int a5), (7, .int a6)]) hx hb dX5_lease_105 hl (by decide) rfl (fun ls hl => ?_)
                      refine lv_aload_n hx hb dX5_lease_107 rfl (lv_at hl 2 rfl) ?_
                      refine lv_iload hx hb dX5_lease_108 (lv_at hl 1 rfl) ?_
                      refine lv_if_ne (tgt := 117) hx hb dX5_lease_110 (by decide) (fun _ => ?_) (fun c => absurd c (by decide))
                      refine lv_iload hx hb dX5_lease_117 (lv_at hl 0 rfl) ?_
                      refine lv_if_ne (tgt := 126) hx hb dX5_lease_119 (by decide) (fun _ => ?_) (fun c => absurd c (by decide))
                      refine lv_aload_n hx hb dX5_lease_126 rfl (lv_at hl 2 rfl) ?_
                      refine lv_iload_n hx hb dX5_lease_127 rfl (lv_at hl 3 rfl) ?_
                      refine k_r (va_runV (As := [.int (nI i)]) (rest := [.ref (ad (7, 0, 0))]) ⟨hx, hb, hml, hown, hts⟩ (mX5_isLeased l (M := M) i (by omega)) ⟨cb_of hts wk_X5_isLeased wi_X5 wm_X5_91 sd_X5_isLeased rfl rfl ⟨Nat.le_of_ble_eq_true rfl, Nat.le_of_ble_eq_true rfl⟩, hts _ wv_X5_isLeased, hts _ wl_X5_isLeased⟩ (P0.preV hC hS hH (Hp.recv hC.1 hH (7, 0, 0) ⟨rfl, rfl⟩ rfl rfl)) rfl rfl hl.1 rfl (lv_room (Nat.le_of_ble_eq_true rfl)) dX5_lease_128 ⟨Nat.le_of_ble_eq_true rfl, Nat.le_of_ble_eq_true rfl⟩) ?_
                      refine W.eq (g2 := F0 m 131 ls [.int (b2 (rlB M i)), .ref (ad (7, 0, 0))]) rfl ?_
                      refine lv_if_eq (tgt := 138) hx hb dX5_lease_131 (by decide) (fun c131 => ?_) (fun c131 => ?_)
                      · skip
                        have c131 := b2_0.mp c131
                        refine lv_iconst (v := 0) hx hb dX5_lease_138 (by decide) ?_
                        refine p5 hx hb hts hown hC hH hS 26 (by decide) (by decide) rfl wf_X5_77 rfl rfl dX5_lease_139 (fun H locs (hH : Wo D k b ad g (up M 26 0 0) o H) hS => ?_)
                        refine lv_aload_n hx hb dX5_lease_142 rfl (lv_at hl 2 rfl) ?_
                        refine g5 hx hb hts hown hC hH 26 (by decide) wf_X5_77 (v := .int 0) rfl dX5_lease_143 ?_
                        refine W.eq (g2 := F0 m 146 ls [.int 0]) rfl ?_
                        refine lv_if_ne (tgt := 195) hx hb dX5_lease_146 (by decide) (fun c => absurd c (by decide)) (fun _ => ?_)
                        refine lv_aload_n hx hb dX5_lease_149 rfl (lv_at hl 2 rfl) ?_
                        refine g5 hx hb hts hown hC hH 11 (by decide) wf_X5_35 (v := .ref (ad (8, 11, 0))) rfl dX5_lease_150 ?_
                        refine lv_iload_n hx hb dX5_lease_153 rfl (lv_at hl 3 rfl) ?_
                        refine lv_iload hx hb dX5_lease_154 (lv_at hl 7 rfl) ?_
                        refine rStN hx hb hC hH hS 11 (by decide) (by decide) (i := i) (show i < 8 by omega) dX5_lease_156 (fun H locs (hH : Wo D k b ad g (up (up M 26 0 0) 11 i a4) o H) hS => ?_)
                        refine lv_aload_n hx hb dX5_lease_157 rfl (lv_at hl 2 rfl) ?_
                        refine g5 hx hb hts hown hC hH 12 (by decide) wf_X5_38 (v := .ref (ad (8, 12, 0))) rfl dX5_lease_158 ?_
                        refine lv_iload_n hx hb dX5_lease_161 rfl (lv_at hl 3 rfl) ?_
                        refine lv_iload_n hx hb dX5_lease_162 rfl (lv_at hl 4 rfl) ?_
                        refine rStN hx hb hC hH hS 12 (by decide) (by decide) (i := i) (show i < 8 by omega) dX5_lease_163 (fun H locs (hH : Wo D k b ad g (up (up (up M 26 0 0) 11 i a4) 12 i a1) o H) hS => ?_)
                        refine lv_aload_n hx hb dX5_lease_164 rfl (lv_at hl 2 rfl) ?_
                        refine g5 hx hb hts hown hC hH 13 (by decide) wf_X5_41 (v := .ref (ad (8, 13, 0))) rfl dX5_lease_165 ?_
                        refine lv_iload_n hx hb dX5_lease_168 rfl (lv_at hl 3 rfl) ?_
                        refine lv_iload_n hx hb dX5_lease_169 rfl (lv_at hl 5 rfl) ?_
                        refine rStN hx hb hC hH hS 13 (by decide) (by decide) (i := i) (show i < 8 by omega) dX5_lease_170 (fun H locs (hH : Wo D k b ad g (up (up (up (up M 26 0 0) 11 i a4) 12 i a1) 13 i a2) o H) hS => ?_)
                        refine lv_aload_n hx hb dX5_lease_171 rfl (lv_at hl 2 rfl) ?_
                        refine g5 hx hb hts hown hC hH 14 (by decide) wf_X5_44 (v := .ref (ad (8, 14, 0))) rfl dX5_lease_172 ?_
                        refine lv_iload_n hx hb dX5_lease_175 rfl (lv_at hl 3 rfl) ?_
                        refine lv_iload hx hb dX5_lease_176 (lv_at hl 6 rfl) ?_
                        refine rStN hx hb hC hH hS 14 (by decide) (by decide) (i := i) (show i < 8 by omega) dX5_lease_178 (fun H locs (hH : Wo D k b ad g (up (up (up (up (up M 26 0 0) 11 i a4) 12 i a1) 13 i a2) 14 i a3) o H) hS => ?_)
                        refine lv_aload_n hx hb dX5_lease_179 rfl (lv_at hl 2 rfl) ?_
                        refine g5 hx hb hts hown hC hH 15 (by decide) wf_X5_47 (v := .ref (ad (8, 15, 0))) rfl dX5_lease_180 ?_
                        refine lv_iload_n hx hb dX5_lease_183 rfl (lv_at hl 3 rfl) ?_
                        refine lv_iload hx hb dX5_lease_184 (lv_at hl 8 rfl) ?_
                        refine rStN hx hb hC hH hS 15 (by decide) (by decide) (i := i) (show i < 8 by omega) dX5_lease_186 (fun H locs (hH : Wo D k b ad g (up (up (up (up (up (up M 26 0 0) 11 i a4) 12 i a1) 13 i a2) 14 i a3) 15 i a5) o H) hS => ?_)
                        refine lv_aload_n hx hb dX5_lease_187 rfl (lv_at hl 2 rfl) ?_
                        refine g5 hx hb hts hown hC hH 16 (by decide) wf_X5_50 (v := .ref (ad (8, 16, 0))) rfl dX5_lease_188 ?_
                        refine lv_iload_n hx hb dX5_lease_191 rfl (lv_at hl 3 rfl) ?_
                        refine lv_iload hx hb dX5_lease_192 (lv_at hl 9 rfl) ?_
                        refine rStN hx hb hC hH hS 16 (by decide) (by decide) (i := i) (show i < 8 by omega) dX5_lease_194 (fun H locs (hH : Wo D k b ad g (up (up (up (up (up (up (up M 26 0 0) 11 i a4) 12 i a1) 13 i a2) 14 i a3) 15 i a5) 16 i a6) o H) hS => ?_)
                        have h8 : rlC M a0 a1 a2 a3 a4 a5 a6 = 0 := by first | (simp [rlC, c5, h6, c12, c17, c24, c36, c43, c57, c74, c86, c97, c131]; done) | (subst c17; simp [rlC, c5, h6, c12, c24, c36, c57, c74, c86, c97, c131]; done) | (subst c43; simp [rlC, c5, h6, c12, c24, c36, c57, c74, c86, c97, c131]; done) | exact absurd c17 c43 | exact absurd c43 c17 | (subst c36; simp [rlC, c5, h6, c12, c17, c24, c43, c57, c74, c86, c97, c131]; done) | (unfold rlC; rw [if_neg (by simp [c5, h6, c12, c17, c24, c43, c57, c74, c86, c97, c131]), if_pos (by simp [c36])])
                        have h9 : rO M (rlC M a0 a1 a2 a3 a4 a5 a6) (rlG (rT M) i a1 a2 a3 a4 a5 a6) = up (up (up (up (up (up (up M 26 0 0) 11 i a4) 12 i a1) 13 i a2) 14 i a3) 15 i a5) 16 i a6 := (rO_0 h8).trans (rfl)
                        exact e_wv hx hb hr hlocks hS (by rw [h9]; exact hH) (Nat.le_refl _) (Nat.le_refl _) dX5_lease_195
                      · skip
                        have c131 := b2_n0.mp c131
                        refine lv_iconst (v := 3) hx hb dX5_lease_134 (by decide) ?_
                        refine lv_goto (tgt := 139) hx hb dX5_lease_135 (by decide) ?_
                        refine p5 hx hb hts hown hC hH hS 26 (by decide) (by decide) rfl wf_X5_77 rfl rfl dX5_lease_139 (fun H locs (hH : Wo D k b ad g (up M 26 0 3) o H) hS => ?_)
                        refine lv_aload_n hx hb dX5_lease_142 rfl (lv_at hl 2 rfl) ?_
                        refine g5 hx hb hts hown hC hH 26 (by decide) wf_X5_77 (v := .int 3) rfl dX5_lease_143 ?_
                        refine W.eq (g2 := F0 m 146 ls [.int 3]) rfl ?_
                        refine lv_if_ne (tgt := 195) hx hb dX5_lease_146 (by decide) (fun _ => ?_) (fun c => absurd c (by decide))
                        have h8 : rlC M a0 a1 a2 a3 a4 a5 a6 = 3 := by first | (simp [rlC, c5, h6, c12, c17, c24, c36, c43, c57, c74, c86, c97, c131]; done) | (subst c17; simp [rlC, c5, h6, c12, c24, c36, c57, c74, c86, c97, c131]; done) | (subst c43; simp [rlC, c5, h6, c12, c24, c36, c57, c74, c86, c97, c131]; done) | exact absurd c17 c43 | exact absurd c43 c17 | (subst c36; simp [rlC, c5, h6, c12, c17, c24, c43, c57, c74, c86, c97, c131]; done) | (unfold rlC; rw [if_neg (by simp [c5, h6, c12, c17, c24, c43, c57, c74, c86, c97, c131]), if_pos (by simp [c36])])
                        have h9 : rO M (rlC M a0 a1 a2 a3 a4 a5 a6) (rlG (rT M) i a1 a2 a3 a4 a5 a6) = up M 26 0 3 := by rw [rO_n (by rw [h8]; decide), h8]; rfl
                        exact e_wv hx hb hr hlocks hS (by rw [h9]; exact hH) (Nat.le_refl _) (Nat.le_refl _) dX5_lease_195
