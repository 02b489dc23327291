/-! THE REFERENCE: an hour -/
set_option maxHeartbeats 4000000 in
set_option maxRecDepth 100000 in
theorem mX5_hourGoesBy (l : Launch) {D : va_G} {k : Nat → ClassId} {b : Nat} {ad : Tg → Nat} {g : XS} {M : MF} {o : OF} (hR : RI M) : Met l yX5_hourGoesBy (WS yX5_hourGoesBy cX5_hourGoesBy 2 none) ({ frames := 4, cells := 0, slots := 0, locals := 90 }) (P0 D k b (Wo D k b ad g M o) [.ref (ad (7, 0, 0))]) (Qw b none (Wo D k b ad g (rhrG M) o)) 0 0 (Fb b) := by
  refine Met0 (by decide +kernel) (Nat.le_of_ble_eq_true rfl) (fun p e s m below meth c ls hx hb hr hts hown hml hlocks hnm hC hH hl => ?_)
  have hS : va_S (Fb b) s.heap s.heap [] := va_S.rf
  have hl : lv_has ls 2 [(0, .ref (ad (7, 0, 0)))] := hl
  have h8 := hR.1
  have h12 := hR.2.2.1
  have hm := hR.2.1
  have hp := hR.2.2.2.1
  refine lv_iconst (v := nI 0) hx hb dX5_hourGoesBy_0 (by decide) ?_
  refine lv_istore_n (lv' := [(1, .int (nI 0)), (0, .ref (ad (7, 0, 0)))]) hx hb dX5_hourGoesBy_1 rfl hl (by decide) rfl (fun ls hl => ?_)
  refine loop_w (mN M) (fun i H locs cells slots ls => cells = 0 ∧ slots = 0 ∧ Wo D k b ad g (rctG M i) o H ∧ va_S (Fb b) s.heap H locs ∧ lv_has ls 2 [(0, .ref (ad (7, 0, 0))), (1, .int (nI i))]) (fun i hi H locs cells slots ls hJ0 ih => ?_) (fun H locs cells slots ls hJ0 => ?_) ⟨rfl, rfl, hH, hS, lv_sub hl [1, 0] rfl⟩
  · skip
    obtain ⟨rfl, rfl, hH, hS, hl⟩ := hJ0
    have hX : RI (rctG M i) := hR.ct i
    have hxm : (rctG M i) 2 0 = nI (mN M) := (rctG_o (by decide) i).trans hm
    have hxp : (rctG M i) 19 0 = nI (pN M) := (rctG_o (by decide) i).trans hp
    refine lv_iload_n hx hb dX5_hourGoesBy_2 rfl (lv_at hl 1 rfl) ?_
    refine lv_aload_n hx hb dX5_hourGoesBy_3 rfl (lv_at hl 0 rfl) ?_
    refine g5 hx hb hts hown hC hH 2 (by decide) wf_X5_81 (v := .int ((rctG M i) 2 0)) rfl dX5_hourGoesBy_4 ?_
    refine W.eq (g2 := F0 m 7 ls [.int (nI (mN M)), .int (nI i)]) (by rw [hxm]) ?_
    refine lv_icmp_ge (tgt := 42) hx hb dX5_hourGoesBy_7 (by decide) (fun c7 => absurd c7 (nI_ge hi (by omega))) (fun c7 => ?_)
    refine lv_aload_n hx hb dX5_hourGoesBy_10 rfl (lv_at hl 0 rfl) ?_
    refine g5 hx hb hts hown hC hH 18 (by decide) wf_X5_56 (v := .ref (ad (8, 18, 0))) rfl dX5_hourGoesBy_11 ?_
    refine lv_iload_n hx hb dX5_hourGoesBy_14 rfl (lv_at hl 1 rfl) ?_
    refine lv_dup2_11 hx hb dX5_hourGoesBy_15 rfl rfl ?_
    refine rLdN hx hb hC hH 18 (by decide) (by decide) (i := i) (show i < 8 by omega) dX5_hourGoesBy_16 ?_
    refine lv_aload_n hx hb dX5_hourGoesBy_17 rfl (lv_at hl 0 rfl) ?_
    refine lv_iload_n hx hb dX5_hourGoesBy_18 rfl (lv_at hl 1 rfl) ?_
    refine k_r (va_runV (As := [.int (nI i)]) (rest := [.int ((rctG M i) 18 i), .int (nI i), .ref (ad (8, 18, 0))]) ⟨hx, hb, hml, hown, hts⟩ (mX5_isOn l (M := (rctG M i)) i (show i < 8 by omega)) ⟨cb_of hts wk_X5_isOn wi_X5 wm_X5_111 sd_X5_isOn rfl rfl ⟨Nat.le_of_ble_eq_true rfl, Nat.le_of_ble_eq_true rfl⟩, hts _ wv_X5_isOn, hts _ wl_X5_isOn⟩ (P0.preV hC hS hH (Hp.recv hC.1 hH (7, 0, 0) ⟨rfl, rfl⟩ rfl rfl)) rfl rfl hl.1 rfl (lv_room (Nat.le_of_ble_eq_true rfl)) dX5_hourGoesBy_19 ⟨Nat.le_of_ble_eq_true rfl, Nat.le_of_ble_eq_true rfl⟩) ?_
    refine W.eq (g2 := F0 m 22 ls [.int (b2 (roB (rctG M i) i)), .int ((rctG M i) 18 i), .int (nI i), .ref (ad (8, 18, 0))]) rfl ?_
    refine lv_if_eq (tgt := 33) hx hb dX5_hourGoesBy_22 (by decide) (fun c22 => ?_) (fun c22 => ?_)
    · skip
      have c22 := b2_0.mp c22
      refine lv_iconst (v := 0) hx hb dX5_hourGoesBy_33 (by decide) ?_
      refine lv_iadd hx hb dX5_hourGoesBy_34 ?_
      refine rStN hx hb hC hH hS 18 (by decide) (by decide) (i := i) (show i < 8 by omega) dX5_hourGoesBy_35 (fun H locs (hH : Wo D k b ad g (up (rctG M i) 18 i (((rctG M i) 18 i) + 0)) o H) hS => ?_)
      refine lv_iinc (v := nI (i + 1)) (lv' := [(1, .int (nI (i + 1))), (0, .ref (ad (7, 0, 0)))]) hx hb dX5_hourGoesBy_36 hl (k := 1) rfl (by rw [← nI_add]; rfl) (by decide) rfl (fun ls hl => ?_)
      refine lv_goto (tgt := 2) hx hb dX5_hourGoesBy_39 (by decide) ?_
      have h9 : rctG M (i + 1) = up (rctG M i) 18 i (((rctG M i) 18 i) + 0) := by simp [rctG, c22]
      exact ih H locs _ _ ls ⟨rfl, rfl, by rw [h9]; exact hH, hS, lv_sub hl [1, 0] rfl⟩
    · skip
      have c22 := b2_n0.mp c22
      refine lv_aload_n hx hb dX5_hourGoesBy_25 rfl (lv_at hl 0 rfl) ?_
      refine lv_iload_n hx hb dX5_hourGoesBy_26 rfl (lv_at hl 1 rfl) ?_
      refine k_r (va_runV (As := [.int (nI i)]) (rest := [.int ((rctG M i) 18 i), .int (nI i), .ref (ad (8, 18, 0))]) ⟨hx, hb, hml, hown, hts⟩ (mX5_carries l (M := (rctG M i)) hX (nI i)) ⟨cb_of hts wk_X5_carries wi_X5 wm_X5_118 sd_X5_carries rfl rfl ⟨Nat.le_of_ble_eq_true rfl, Nat.le_of_ble_eq_true rfl⟩, hts _ wv_X5_carries, hts _ wl_X5_carries⟩ (P0.preV hC hS hH (Hp.recv hC.1 hH (7, 0, 0) ⟨rfl, rfl⟩ rfl rfl)) rfl rfl hl.1 rfl (lv_room (Nat.le_of_ble_eq_true rfl)) dX5_hourGoesBy_27 ⟨Nat.le_of_ble_eq_true rfl, Nat.le_of_ble_eq_true rfl⟩) ?_
      refine W.eq (g2 := F0 m 30 ls [.int (caI (rctG M i) (nI i) (pN (rctG M i))), .int ((rctG M i) 18 i), .int (nI i), .ref (ad (8, 18, 0))]) rfl ?_
      refine lv_goto (tgt := 34) hx hb dX5_hourGoesBy_30 (by decide) ?_
      refine lv_iadd hx hb dX5_hourGoesBy_34 ?_
      refine rStN hx hb hC hH hS 18 (by decide) (by decide) (i := i) (show i < 8 by omega) dX5_hourGoesBy_35 (fun H locs (hH : Wo D k b ad g (up (rctG M i) 18 i (((rctG M i) 18 i) + (caI (rctG M i) (nI i) (pN (rctG M i))))) o H) hS => ?_)
      refine lv_iinc (v := nI (i + 1)) (lv' := [(1, .int (nI (i + 1))), (0, .ref (ad (7, 0, 0)))]) hx hb dX5_hourGoesBy_36 hl (k := 1) rfl (by rw [← nI_add]; rfl) (by decide) rfl (fun ls hl => ?_)
      refine lv_goto (tgt := 2) hx hb dX5_hourGoesBy_39 (by decide) ?_
      have h9 : rctG M (i + 1) = up (rctG M i) 18 i (((rctG M i) 18 i) + (caI (rctG M i) (nI i) (pN (rctG M i)))) := by simp [rctG, c22]
      exact ih H locs _ _ ls ⟨rfl, rfl, by rw [h9]; exact hH, hS, lv_sub hl [1, 0] rfl⟩
  · skip
    obtain ⟨rfl, rfl, hH, hS, hl⟩ := hJ0
    have hX : RI (rctG M (mN M)) := hR.ct (mN M)
    have hxm : (rctG M (mN M)) 2 0 = nI (mN M) := (rctG_o (by decide) (mN M)).trans hm
    have hxp : (rctG M (mN M)) 19 0 = nI (pN M) := (rctG_o (by decide) (mN M)).trans hp
    refine lv_iload_n hx hb dX5_hourGoesBy_2 rfl (lv_at hl 1 rfl) ?_
    refine lv_aload_n hx hb dX5_hourGoesBy_3 rfl (lv_at hl 0 rfl) ?_
    refine g5 hx hb hts hown hC hH 2 (by decide) wf_X5_81 (v := .int ((rctG M (mN M)) 2 0)) rfl dX5_hourGoesBy_4 ?_
    refine W.eq (g2 := F0 m 7 ls [.int (nI (mN M)), .int (nI (mN M))]) (by rw [hxm]) ?_
    refine lv_icmp_ge (tgt := 42) hx hb dX5_hourGoesBy_7 (by decide) (fun c7 => ?_) (fun c7 => absurd (nI_le (Nat.le_refl _) (by omega)) c7)
    obtain ⟨M1, e1⟩ : ∃ z, z = rctG M (mN M) := ⟨_, rfl⟩
    rw [← e1] at hH hX hxm hxp
    have hR1 := hX
    have hm1 := hxm
    have hp1 := hxp
    refine lv_iconst (v := nI 0) hx hb dX5_hourGoesBy_42 (by decide) ?_
    refine lv_istore_n (lv' := [(1, .int (nI 0)), (0, .ref (ad (7, 0, 0)))]) hx hb dX5_hourGoesBy_43 rfl hl (by decide) rfl (fun ls hl => ?_)
    refine loop_w (mN M) (fun i H locs cells slots ls => cells = 0 ∧ slots = 0 ∧ Wo D k b ad g (rprG M1 i) o H ∧ va_S (Fb b) s.heap H locs ∧ lv_has ls 2 [(0, .ref (ad (7, 0, 0))), (1, .int (nI i))]) (fun i hi H locs cells slots ls hJ0 ih => ?_) (fun H locs cells slots ls hJ0 => ?_) ⟨rfl, rfl, hH, hS, lv_sub hl [1, 0] rfl⟩
    · skip
      obtain ⟨rfl, rfl, hH, hS, hl⟩ := hJ0
      have hX : RI (rprG M1 i) := hR1.pr i
      have hxm : (rprG M1 i) 2 0 = nI (mN M) := (rprG_o (by decide) i).trans hm1
      have hxp : (rprG M1 i) 19 0 = nI (pN M) := (rprG_o (by decide) i).trans hp1
      refine lv_iload_n hx hb dX5_hourGoesBy_44 rfl (lv_at hl 1 rfl) ?_
      refine lv_aload_n hx hb dX5_hourGoesBy_45 rfl (lv_at hl 0 rfl) ?_
      refine g5 hx hb hts hown hC hH 2 (by decide) wf_X5_81 (v := .int ((rprG M1 i) 2 0)) rfl dX5_hourGoesBy_46 ?_
      refine W.eq (g2 := F0 m 49 ls [.int (nI (mN M)), .int (nI i)]) (by rw [hxm]) ?_
      refine lv_icmp_ge (tgt := 71) hx hb dX5_hourGoesBy_49 (by decide) (fun c49 => absurd c49 (nI_ge hi (by omega))) (fun c49 => ?_)
      refine lv_aload_n hx hb dX5_hourGoesBy_52 rfl (lv_at hl 0 rfl) ?_
      refine lv_iload_n hx hb dX5_hourGoesBy_53 rfl (lv_at hl 1 rfl) ?_
      refine k_r (va_runV (As := [.int (nI i)]) (rest := []) ⟨hx, hb, hml, hown, hts⟩ (mX5_isLeased l (M := (rprG M1 i)) i (show i < 8 by omega)) ⟨cb_of hts wk_X5_isLeased wi_X5 wm_X5_91 sd_X5_isLeased rfl rfl ⟨Nat.le_of_ble_eq_true rfl, Nat.le_of_ble_eq_true rfl⟩, hts _ wv_X5_isLeased, hts _ wl_X5_isLeased⟩ (P0.preV hC hS hH (Hp.recv hC.1 hH (7, 0, 0) ⟨rfl, rfl⟩ rfl rfl)) rfl rfl hl.1 rfl (lv_room (Nat.le_of_ble_eq_true rfl)) dX5_hourGoesBy_54 ⟨Nat.le_of_ble_eq_true rfl, Nat.le_of_ble_eq_true rfl⟩) ?_
      refine W.eq (g2 := F0 m 57 ls [.int (b2 (rlB (rprG M1 i) i))]) rfl ?_
      refine lv_if_eq (tgt := 65) hx hb dX5_hourGoesBy_57 (by decide) (fun c57 => ?_) (fun c57 => ?_)
      · skip
        have c57 := b2_0.mp c57
        refine lv_iinc (v := nI (i + 1)) (lv' := [(1, .int (nI (i + 1))), (0, .ref (ad (7, 0, 0)))]) hx hb dX5_hourGoesBy_65 hl (k := 1) rfl (by rw [← nI_add]; rfl) (by decide) rfl (fun ls hl => ?_)
        refine lv_goto (tgt := 44) hx hb dX5_hourGoesBy_68 (by decide) ?_
        have h9 : rprG M1 (i + 1) = (rprG M1 i) := by simp [rprG, c57]
        exact ih H locs _ _ ls ⟨rfl, rfl, by rw [h9]; exact hH, hS, lv_sub hl [1, 0] rfl⟩
      · skip
        have c57 := b2_n0.mp c57
        refine lv_aload_n hx hb dX5_hourGoesBy_60 rfl (lv_at hl 0 rfl) ?_
        refine lv_iload_n hx hb dX5_hourGoesBy_61 rfl (lv_at hl 1 rfl) ?_
        refine k_w (va_runV (As := [.int (nI i)]) (rest := []) ⟨hx, hb, hml, hown, hts⟩ (mX5_payRent l (M := (rprG M1 i)) i (show i < 8 by omega) hX) ⟨cb_of hts wk_X5_payRent wi_X5 wm_X5_132 sd_X5_payRent rfl rfl ⟨Nat.le_of_ble_eq_true rfl, Nat.le_of_ble_eq_true rfl⟩, hts _ wv_X5_payRent, hts _ wl_X5_payRent⟩ (P0.preV hC hS hH (Hp.recv hC.1 hH (7, 0, 0) ⟨rfl, rfl⟩ rfl rfl)) rfl rfl hl.1 rfl (lv_room (Nat.le_of_ble_eq_true rfl)) dX5_hourGoesBy_62 ⟨Nat.le_of_ble_eq_true rfl, Nat.le_of_ble_eq_true rfl⟩) hS (fun H locs hH hS => ?_)
        refine W.eq (g2 := F0 m 65 ls []) rfl ?_
        refine lv_iinc (v := nI (i + 1)) (lv' := [(1, .int (nI (i + 1))), (0, .ref (ad (7, 0, 0)))]) hx hb dX5_hourGoesBy_65 hl (k := 1) rfl (by rw [← nI_add]; rfl) (by decide) rfl (fun ls hl => ?_)
        refine lv_goto (tgt := 44) hx hb dX5_hourGoesBy_68 (by decide) ?_
        have h9 : rprG M1 (i + 1) = (rpG (rprG M1 i) i) := by simp [rprG, c57]
        exact ih H locs _ _ ls ⟨rfl, rfl, by rw [h9]; exact hH, hS, lv_sub hl [1, 0] rfl⟩
    · skip
      obtain ⟨rfl, rfl, hH, hS, hl⟩ := hJ0
      have hX : RI (rprG M1 (mN M)) := hR1.pr (mN M)
      have hxm : (rprG M1 (mN M)) 2 0 = nI (mN M) := (rprG_o (by decide) (mN M)).trans hm1
      have hxp : (rprG M1 (mN M)) 19 0 = nI (pN M) := (rprG_o (by decide) (mN M)).trans hp1
      refine lv_iload_n hx hb dX5_hourGoesBy_44 rfl (lv_at hl 1 rfl) ?_
      refine lv_aload_n hx hb dX5_hourGoesBy_45 rfl (lv_at hl 0 rfl) ?_
      refine g5 hx hb hts hown hC hH 2 (by decide) wf_X5_81 (v := .int ((rprG M1 (mN M)) 2 0)) rfl dX5_hourGoesBy_46 ?_
      refine W.eq (g2 := F0 m 49 ls [.int (nI (mN M)), .int (nI (mN M))]) (by rw [hxm]) ?_
      refine lv_icmp_ge (tgt := 71) hx hb dX5_hourGoesBy_49 (by decide) (fun c49 => ?_) (fun c49 => absurd (nI_le (Nat.le_refl _) (by omega)) c49)
      obtain ⟨M2, e2⟩ : ∃ z, z = rprG M1 (mN M) := ⟨_, rfl⟩
      rw [← e2] at hH hX hxm hxp
      have hR2 := hX
      have hm2 := hxm
      have hp2 := hxp
      refine lv_iconst (v := nI 0) hx hb dX5_hourGoesBy_71 (by decide) ?_
      refine lv_istore_n (lv' := [(1, .int (nI 0)), (0, .ref (ad (7, 0, 0)))]) hx hb dX5_hourGoesBy_72 rfl hl (by decide) rfl (fun ls hl => ?_)
      refine loop_w (mN M) (fun i H locs cells slots ls => cells = 0 ∧ slots = 0 ∧ Wo D k b ad g (rpwG M2 i) o H ∧ va_S (Fb b) s.heap H locs ∧ lv_has ls 2 [(0, .ref (ad (7, 0, 0))), (1, .int (nI i))]) (fun i hi H locs cells slots ls hJ0 ih => ?_) (fun H locs cells slots ls hJ0 => ?_) ⟨rfl, rfl, hH, hS, lv_sub hl [1, 0] rfl⟩
      · skip
        obtain ⟨rfl, rfl, hH, hS, hl⟩ := hJ0
        have hX : RI (rpwG M2 i) := hR2.pw i
        have hxm : (rpwG M2 i) 2 0 = nI (mN M) := (rpwG_o (by decide) (by decide) (by decide) i).trans hm2
        have hxp : (rpwG M2 i) 19 0 = nI (pN M) := (rpwG_o (by decide) (by decide) (by decide) i).trans hp2
        refine lv_iload_n hx hb dX5_hourGoesBy_73 rfl (lv_at hl 1 rfl) ?_
        refine lv_aload_n hx hb dX5_hourGoesBy_74 rfl (lv_at hl 0 rfl) ?_
        refine g5 hx hb hts hown hC hH 2 (by decide) wf_X5_81 (v := .int ((rpwG M2 i) 2 0)) rfl dX5_hourGoesBy_75 ?_
        refine W.eq (g2 := F0 m 78 ls [.int (nI (mN M)), .int (nI i)]) (by rw [hxm]) ?_
        refine lv_icmp_ge (tgt := 110) hx hb dX5_hourGoesBy_78 (by decide) (fun c78 => absurd c78 (nI_ge hi (by omega))) (fun c78 => ?_)
        refine lv_aload_n hx hb dX5_hourGoesBy_81 rfl (lv_at hl 0 rfl) ?_
        refine lv_iload_n hx hb dX5_hourGoesBy_82 rfl (lv_at hl 1 rfl) ?_
        refine k_r (va_runV (As := [.int (nI i)]) (rest := []) ⟨hx, hb, hml, hown, hts⟩ (mX5_isLeased l (M := (rpwG M2 i)) i (show i < 8 by omega)) ⟨cb_of hts wk_X5_isLeased wi_X5 wm_X5_91 sd_X5_isLeased rfl rfl ⟨Nat.le_of_ble_eq_true rfl, Nat.le_of_ble_eq_true rfl⟩, hts _ wv_X5_isLeased, hts _ wl_X5_isLeased⟩ (P0.preV hC hS hH (Hp.recv hC.1 hH (7, 0, 0) ⟨rfl, rfl⟩ rfl rfl)) rfl rfl hl.1 rfl (lv_room (Nat.le_of_ble_eq_true rfl)) dX5_hourGoesBy_83 ⟨Nat.le_of_ble_eq_true rfl, Nat.le_of_ble_eq_true rfl⟩) ?_
        refine W.eq (g2 := F0 m 86 ls [.int (b2 (rlB (rpwG M2 i) i))]) rfl ?_
        refine lv_if_eq (tgt := 97) hx hb dX5_hourGoesBy_86 (by decide) (fun c86 => ?_) (fun c86 => ?_)
        · skip
          have c86 := b2_0.mp c86
          refine lv_aload_n hx hb dX5_hourGoesBy_97 rfl (lv_at hl 0 rfl) ?_
          refine g5 hx hb hts hown hC hH 10 (by decide) wf_X5_32 (v := .ref (ad (8, 10, 0))) rfl dX5_hourGoesBy_98 ?_
          refine lv_iload_n hx hb dX5_hourGoesBy_101 rfl (lv_at hl 1 rfl) ?_
          refine lv_iconst (v := 0) hx hb dX5_hourGoesBy_102 (by decide) ?_
          refine rSzN hx hb hC hH hS 10 (by decide) (by decide) (i := i) (show i < 8 by omega) rfl dX5_hourGoesBy_103 (fun H locs (hH : Wo D k b ad g (up (rpwG M2 i) 10 i 0) o H) hS => ?_)
          refine lv_iinc (v := nI (i + 1)) (lv' := [(1, .int (nI (i + 1))), (0, .ref (ad (7, 0, 0)))]) hx hb dX5_hourGoesBy_104 hl (k := 1) rfl (by rw [← nI_add]; rfl) (by decide) rfl (fun ls hl => ?_)
          refine lv_goto (tgt := 73) hx hb dX5_hourGoesBy_107 (by decide) ?_
          have h9 : rpwG M2 (i + 1) = up (rpwG M2 i) 10 i 0 := by simp [rpwG, c86]
          exact ih H locs _ _ ls ⟨rfl, rfl, by rw [h9]; exact hH, hS, lv_sub hl [1, 0] rfl⟩
        · skip
          have c86 := b2_n0.mp c86
          refine lv_aload_n hx hb dX5_hourGoesBy_89 rfl (lv_at hl 0 rfl) ?_
          refine lv_iload_n hx hb dX5_hourGoesBy_90 rfl (lv_at hl 1 rfl) ?_
          refine k_w (va_runV (As := [.int (nI i)]) (rest := []) ⟨hx, hb, hml, hown, hts⟩ (mX5_power l (M := (rpwG M2 i)) i (show i < 8 by omega) hX) ⟨cb_of hts wk_X5_power wi_X5 wm_X5_135 sd_X5_power rfl rfl ⟨Nat.le_of_ble_eq_true rfl, Nat.le_of_ble_eq_true rfl⟩, hts _ wv_X5_power, hts _ wl_X5_power⟩ (P0.preV hC hS hH (Hp.recv hC.1 hH (7, 0, 0) ⟨rfl, rfl⟩ rfl rfl)) rfl rfl hl.1 rfl (lv_room (Nat.le_of_ble_eq_true rfl)) dX5_hourGoesBy_91 ⟨Nat.le_of_ble_eq_true rfl, Nat.le_of_ble_eq_true rfl⟩) hS (fun H locs hH hS => ?_)
          refine W.eq (g2 := F0 m 94 ls []) rfl ?_
          refine lv_goto (tgt := 104) hx hb dX5_hourGoesBy_94 (by decide) ?_
          refine lv_iinc (v := nI (i + 1)) (lv' := [(1, .int (nI (i + 1))), (0, .ref (ad (7, 0, 0)))]) hx hb dX5_hourGoesBy_104 hl (k := 1) rfl (by rw [← nI_add]; rfl) (by decide) rfl (fun ls hl => ?_)
          refine lv_goto (tgt := 73) hx hb dX5_hourGoesBy_107 (by decide) ?_
          have h9 : rpwG M2 (i + 1) = (rwG (rpwG M2 i) i) := by simp [rpwG, c86]
          exact ih H locs _ _ ls ⟨rfl, rfl, by rw [h9]; exact hH, hS, lv_sub hl [1, 0] rfl⟩
      · skip
        obtain ⟨rfl, rfl, hH, hS, hl⟩ := hJ0
        have hX : RI (rpwG M2 (mN M)) := hR2.pw (mN M)
        have hxm : (rpwG M2 (mN M)) 2 0 = nI (mN M) := (rpwG_o (by decide) (by decide) (by decide) (mN M)).trans hm2
        have hxp : (rpwG M2 (mN M)) 19 0 = nI (pN M) := (rpwG_o (by decide) (by decide) (by decide) (mN M)).trans hp2
        refine lv_iload_n hx hb dX5_hourGoesBy_73 rfl (lv_at hl 1 rfl) ?_
        refine lv_aload_n hx hb dX5_hourGoesBy_74 rfl (lv_at hl 0 rfl) ?_
        refine g5 hx hb hts hown hC hH 2 (by decide) wf_X5_81 (v := .int ((rpwG M2 (mN M)) 2 0)) rfl dX5_hourGoesBy_75 ?_
        refine W.eq (g2 := F0 m 78 ls [.int (nI (mN M)), .int (nI (mN M))]) (by rw [hxm]) ?_
        refine lv_icmp_ge (tgt := 110) hx hb dX5_hourGoesBy_78 (by decide) (fun c78 => ?_) (fun c78 => absurd (nI_le (Nat.le_refl _) (by omega)) c78)
        obtain ⟨M3, e3⟩ : ∃ z, z = rpwG M2 (mN M) := ⟨_, rfl⟩
        rw [← e3] at hH hX hxm hxp
        have hR3 := hX
        have hm3 := hxm
        have hp3 := hxp
        refine lv_aload_n hx hb dX5_hourGoesBy_110 rfl (lv_at hl 0 rfl) ?_
        refine lv_dup hx hb dX5_hourGoesBy_111 rfl ?_
        refine g5 hx hb hts hown hC hH 0 (by decide) wf_X5_105 (v := .int (M3 0 0)) rfl dX5_hourGoesBy_112 ?_
        refine lv_iconst (v := 1) hx hb dX5_hourGoesBy_115 (by decide) ?_
        refine lv_iadd hx hb dX5_hourGoesBy_116 ?_
        refine p5 hx hb hts hown hC hH hS 0 (by decide) (by decide) rfl wf_X5_105 rfl rfl dX5_hourGoesBy_117 (fun H locs (hH : Wo D k b ad g (up M3 0 0 ((M3 0 0) + 1)) o H) hS => ?_)
        obtain ⟨M4, e4⟩ : ∃ z, z = rtkG M3 := ⟨_, rfl⟩
        have hH : Wo D k b ad g (rtkG M3) o H := hH
        have hR4 : RI (rtkG M3) := hR3.tk
        have hm4 : rtkG M3 2 0 = nI (mN M) := hm3
        have hp4 : rtkG M3 19 0 = nI (pN M) := hp3
        rw [← e4] at hH hR4 hm4 hp4
        refine lv_iconst (v := nI 0) hx hb dX5_hourGoesBy_120 (by decide) ?_
        refine lv_istore_n (lv' := [(1, .int (nI 0)), (0, .ref (ad (7, 0, 0)))]) hx hb dX5_hourGoesBy_121 rfl hl (by decide) rfl (fun ls hl => ?_)
        refine loop_w (mN M) (fun i H locs cells slots ls => cells = 0 ∧ slots = 0 ∧ Wo D k b ad g (relG M4 i) o H ∧ va_S (Fb b) s.heap H locs ∧ lv_has ls 2 [(0, .ref (ad (7, 0, 0))), (1, .int (nI i))]) (fun i hi H locs cells slots ls hJ0 ih => ?_) (fun H locs cells slots ls hJ0 => ?_) ⟨rfl, rfl, hH, hS, lv_sub hl [1, 0] rfl⟩
        · skip
          obtain ⟨rfl, rfl, hH, hS, hl⟩ := hJ0
          have hX : RI (relG M4 i) := hR4.el i
          have hxm : (relG M4 i) 2 0 = nI (mN M) := (relG_o (by decide) i).trans hm4
          have hxp : (relG M4 i) 19 0 = nI (pN M) := (relG_o (by decide) i).trans hp4
          refine lv_iload_n hx hb dX5_hourGoesBy_122 rfl (lv_at hl 1 rfl) ?_
          refine lv_aload_n hx hb dX5_hourGoesBy_123 rfl (lv_at hl 0 rfl) ?_
          refine g5 hx hb hts hown hC hH 2 (by decide) wf_X5_81 (v := .int ((relG M4 i) 2 0)) rfl dX5_hourGoesBy_124 ?_
          refine W.eq (g2 := F0 m 127 ls [.int (nI (mN M)), .int (nI i)]) (by rw [hxm]) ?_
          refine lv_icmp_ge (tgt := 165) hx hb dX5_hourGoesBy_127 (by decide) (fun c127 => absurd c127 (nI_ge hi (by omega))) (fun c127 => ?_)
          refine lv_aload_n hx hb dX5_hourGoesBy_130 rfl (lv_at hl 0 rfl) ?_
          refine g5 hx hb hts hown hC hH 11 (by decide) wf_X5_35 (v := .ref (ad (8, 11, 0))) rfl dX5_hourGoesBy_131 ?_
          refine lv_iload_n hx hb dX5_hourGoesBy_134 rfl (lv_at hl 1 rfl) ?_
          refine lv_aload_n hx hb dX5_hourGoesBy_135 rfl (lv_at hl 0 rfl) ?_
          refine g5 hx hb hts hown hC hH 11 (by decide) wf_X5_35 (v := .ref (ad (8, 11, 0))) rfl dX5_hourGoesBy_136 ?_
          refine lv_iload_n hx hb dX5_hourGoesBy_139 rfl (lv_at hl 1 rfl) ?_
          refine rLdN hx hb hC hH 11 (by decide) (by decide) (i := i) (show i < 8 by omega) dX5_hourGoesBy_140 ?_
          refine lv_aload_n hx hb dX5_hourGoesBy_141 rfl (lv_at hl 0 rfl) ?_
          refine g5 hx hb hts hown hC hH 0 (by decide) wf_X5_105 (v := .int ((relG M4 i) 0 0)) rfl dX5_hourGoesBy_142 ?_
          refine lv_icmp_ne (tgt := 152) hx hb dX5_hourGoesBy_145 (by decide) (fun c145 => ?_) (fun c145 => ?_)
          · skip
            refine lv_aload_n hx hb dX5_hourGoesBy_152 rfl (lv_at hl 0 rfl) ?_
            refine g5 hx hb hts hown hC hH 11 (by decide) wf_X5_35 (v := .ref (ad (8, 11, 0))) rfl dX5_hourGoesBy_153 ?_
            refine lv_iload_n hx hb dX5_hourGoesBy_156 rfl (lv_at hl 1 rfl) ?_
            refine rLdN hx hb hC hH 11 (by decide) (by decide) (i := i) (show i < 8 by omega) dX5_hourGoesBy_157 ?_
            refine rStN hx hb hC hH hS 11 (by decide) (by decide) (i := i) (show i < 8 by omega) dX5_hourGoesBy_158 (fun H locs (hH : Wo D k b ad g (up (relG M4 i) 11 i ((relG M4 i) 11 i)) o H) hS => ?_)
            refine lv_iinc (v := nI (i + 1)) (lv' := [(1, .int (nI (i + 1))), (0, .ref (ad (7, 0, 0)))]) hx hb dX5_hourGoesBy_159 hl (k := 1) rfl (by rw [← nI_add]; rfl) (by decide) rfl (fun ls hl => ?_)
            refine lv_goto (tgt := 122) hx hb dX5_hourGoesBy_162 (by decide) ?_
            have h9 : relG M4 (i + 1) = up (relG M4 i) 11 i ((relG M4 i) 11 i) := by simp [relG, c145]
            exact ih H locs _ _ ls ⟨rfl, rfl, by rw [h9]; exact hH, hS, lv_sub hl [1, 0] rfl⟩
          · skip
            refine lv_iconst (v := (-1)) hx hb dX5_hourGoesBy_148 (by decide) ?_
            refine lv_goto (tgt := 158) hx hb dX5_hourGoesBy_149 (by decide) ?_
            refine rStN hx hb hC hH hS 11 (by decide) (by decide) (i := i) (show i < 8 by omega) dX5_hourGoesBy_158 (fun H locs (hH : Wo D k b ad g (up (relG M4 i) 11 i (-1)) o H) hS => ?_)
            refine lv_iinc (v := nI (i + 1)) (lv' := [(1, .int (nI (i + 1))), (0, .ref (ad (7, 0, 0)))]) hx hb dX5_hourGoesBy_159 hl (k := 1) rfl (by rw [← nI_add]; rfl) (by decide) rfl (fun ls hl => ?_)
            refine lv_goto (tgt := 122) hx hb dX5_hourGoesBy_162 (by decide) ?_
            have h9 : relG M4 (i + 1) = up (relG M4 i) 11 i (-1) := by simp [relG, c145]
            exact ih H locs _ _ ls ⟨rfl, rfl, by rw [h9]; exact hH, hS, lv_sub hl [1, 0] rfl⟩
        · skip
          obtain ⟨rfl, rfl, hH, hS, hl⟩ := hJ0
          have hX : RI (relG M4 (mN M)) := hR4.el (mN M)
          have hxm : (relG M4 (mN M)) 2 0 = nI (mN M) := (relG_o (by decide) (mN M)).trans hm4
          have hxp : (relG M4 (mN M)) 19 0 = nI (pN M) := (relG_o (by decide) (mN M)).trans hp4
          refine lv_iload_n hx hb dX5_hourGoesBy_122 rfl (lv_at hl 1 rfl) ?_
          refine lv_aload_n hx hb dX5_hourGoesBy_123 rfl (lv_at hl 0 rfl) ?_
          refine g5 hx hb hts hown hC hH 2 (by decide) wf_X5_81 (v := .int ((relG M4 (mN M)) 2 0)) rfl dX5_hourGoesBy_124 ?_
          refine W.eq (g2 := F0 m 127 ls [.int (nI (mN M)), .int (nI (mN M))]) (by rw [hxm]) ?_
          refine lv_icmp_ge (tgt := 165) hx hb dX5_hourGoesBy_127 (by decide) (fun c127 => ?_) (fun c127 => absurd (nI_le (Nat.le_refl _) (by omega)) c127)
          obtain ⟨M5, e5⟩ : ∃ z, z = relG M4 (mN M) := ⟨_, rfl⟩
          rw [← e5] at hH hX hxm hxp
          have hR5 := hX
          have hm5 := hxm
          have hp5 := hxp
          refine lv_iconst (v := nI 0) hx hb dX5_hourGoesBy_165 (by decide) ?_
          refine lv_istore_n (lv' := [(1, .int (nI 0)), (0, .ref (ad (7, 0, 0)))]) hx hb dX5_hourGoesBy_166 rfl hl (by decide) rfl (fun ls hl => ?_)
          refine loop_w (pN M) (fun i H locs cells slots ls => cells = 0 ∧ slots = 0 ∧ Wo D k b ad g (rlvG M5 i) o H ∧ va_S (Fb b) s.heap H locs ∧ lv_has ls 2 [(0, .ref (ad (7, 0, 0))), (1, .int (nI i))]) (fun i hi H locs cells slots ls hJ0 ih => ?_) (fun H locs cells slots ls hJ0 => ?_) ⟨rfl, rfl, hH, hS, lv_sub hl [1, 0] rfl⟩
          · skip
            obtain ⟨rfl, rfl, hH, hS, hl⟩ := hJ0
            have hX : RI (rlvG M5 i) := hR5.lv i
            have hxm : (rlvG M5 i) 2 0 = nI (mN M) := (rlvG_o (by decide) (by decide) (by decide) i).trans hm5
            have hxp : (rlvG M5 i) 19 0 = nI (pN M) := (rlvG_o (by decide) (by decide) (by decide) i).trans hp5
            have hq : i < pN (rlvG M5 i) := by unfold pN; rw [hxp, nI_clamp (by omega)]; exact hi
            refine lv_iload_n hx hb dX5_hourGoesBy_167 rfl (lv_at hl 1 rfl) ?_
            refine lv_aload_n hx hb dX5_hourGoesBy_168 rfl (lv_at hl 0 rfl) ?_
            refine g5 hx hb hts hown hC hH 19 (by decide) wf_X5_88 (v := .int ((rlvG M5 i) 19 0)) rfl dX5_hourGoesBy_169 ?_
            refine W.eq (g2 := F0 m 172 ls [.int (nI (pN M)), .int (nI i)]) (by rw [hxp]) ?_
            refine lv_icmp_ge (tgt := 209) hx hb dX5_hourGoesBy_172 (by decide) (fun c172 => absurd c172 (nI_ge hi (by omega))) (fun c172 => ?_)
            refine lv_aload_n hx hb dX5_hourGoesBy_175 rfl (lv_at hl 0 rfl) ?_
            refine g5 hx hb hts hown hC hH 21 (by decide) wf_X5_62 (v := .ref (ad (8, 21, 0))) rfl dX5_hourGoesBy_176 ?_
            refine lv_iload_n hx hb dX5_hourGoesBy_179 rfl (lv_at hl 1 rfl) ?_
            refine rLdN hx hb hC hH 21 (by decide) (by decide) (i := i) (show i < 12 by omega) dX5_hourGoesBy_180 ?_
            refine lv_iconst (v := (-1)) hx hb dX5_hourGoesBy_181 (by decide) ?_
            refine lv_icmp_eq (tgt := 203) hx hb dX5_hourGoesBy_182 (by decide) (fun c182 => ?_) (fun c182 => ?_)
            · skip
              refine lv_iinc (v := nI (i + 1)) (lv' := [(1, .int (nI (i + 1))), (0, .ref (ad (7, 0, 0)))]) hx hb dX5_hourGoesBy_203 hl (k := 1) rfl (by rw [← nI_add]; rfl) (by decide) rfl (fun ls hl => ?_)
              refine lv_goto (tgt := 167) hx hb dX5_hourGoesBy_206 (by decide) ?_
              have h9 : rlvG M5 (i + 1) = (rlvG M5 i) := by simp [rlvG, c182]
              exact ih H locs _ _ ls ⟨rfl, rfl, by rw [h9]; exact hH, hS, lv_sub hl [1, 0] rfl⟩
            · skip
              refine lv_aload_n hx hb dX5_hourGoesBy_185 rfl (lv_at hl 0 rfl) ?_
              refine lv_aload_n hx hb dX5_hourGoesBy_186 rfl (lv_at hl 0 rfl) ?_
              refine g5 hx hb hts hown hC hH 21 (by decide) wf_X5_62 (v := .ref (ad (8, 21, 0))) rfl dX5_hourGoesBy_187 ?_
              refine lv_iload_n hx hb dX5_hourGoesBy_190 rfl (lv_at hl 1 rfl) ?_
              refine rLdN hx hb hC hH 21 (by decide) (by decide) (i := i) (show i < 12 by omega) dX5_hourGoesBy_191 ?_
              refine W.eq (g2 := F0 m 192 ls [.int (nI (rlvG M5 i 21 i).toNatClampNeg), .ref (ad (7, 0, 0))]) (by rw [← (hX.at hq c182).1]) ?_
              refine k_r (va_runV (As := [.int (nI (rlvG M5 i 21 i).toNatClampNeg)]) (rest := []) ⟨hx, hb, hml, hown, hts⟩ (mX5_isOn l (M := (rlvG M5 i)) ((rlvG M5 i 21 i).toNatClampNeg) (Nat.lt_of_lt_of_le (hX.at hq c182).2 hX.1)) ⟨cb_of hts wk_X5_isOn wi_X5 wm_X5_111 sd_X5_isOn rfl rfl ⟨Nat.le_of_ble_eq_true rfl, Nat.le_of_ble_eq_true rfl⟩, hts _ wv_X5_isOn, hts _ wl_X5_isOn⟩ (P0.preV hC hS hH (Hp.recv hC.1 hH (7, 0, 0) ⟨rfl, rfl⟩ rfl rfl)) rfl rfl hl.1 rfl (lv_room (Nat.le_of_ble_eq_true rfl)) dX5_hourGoesBy_192 ⟨Nat.le_of_ble_eq_true rfl, Nat.le_of_ble_eq_true rfl⟩) ?_
              refine W.eq (g2 := F0 m 195 ls [.int (b2 (roB (rlvG M5 i) ((rlvG M5 i 21 i).toNatClampNeg)))]) rfl ?_
              refine lv_if_ne (tgt := 203) hx hb dX5_hourGoesBy_195 (by decide) (fun c195 => ?_) (fun c195 => ?_)
              · skip
                have c195 := b2_n0.mp c195
                refine lv_iinc (v := nI (i + 1)) (lv' := [(1, .int (nI (i + 1))), (0, .ref (ad (7, 0, 0)))]) hx hb dX5_hourGoesBy_203 hl (k := 1) rfl (by rw [← nI_add]; rfl) (by decide) rfl (fun ls hl => ?_)
                refine lv_goto (tgt := 167) hx hb dX5_hourGoesBy_206 (by decide) ?_
                have h9 : rlvG M5 (i + 1) = (rlvG M5 i) := by simp [rlvG, c182, c195]
                exact ih H locs _ _ ls ⟨rfl, rfl, by rw [h9]; exact hH, hS, lv_sub hl [1, 0] rfl⟩
              · skip
                have c195 := b2_0.mp c195
                refine lv_aload_n hx hb dX5_hourGoesBy_198 rfl (lv_at hl 0 rfl) ?_
                refine lv_iload_n hx hb dX5_hourGoesBy_199 rfl (lv_at hl 1 rfl) ?_
                refine k_w (va_runV (As := [.int (nI i)]) (rest := []) ⟨hx, hb, hml, hown, hts⟩ (mX5_handOver l (M := (rlvG M5 i)) i hq hX) ⟨cb_of hts wk_X5_handOver wi_X5 wm_X5_128 sd_X5_handOver rfl rfl ⟨Nat.le_of_ble_eq_true rfl, Nat.le_of_ble_eq_true rfl⟩, hts _ wv_X5_handOver, hts _ wl_X5_handOver⟩ (P0.preV hC hS hH (Hp.recv hC.1 hH (7, 0, 0) ⟨rfl, rfl⟩ rfl rfl)) rfl rfl hl.1 rfl (lv_room (Nat.le_of_ble_eq_true rfl)) dX5_hourGoesBy_200 ⟨Nat.le_of_ble_eq_true rfl, Nat.le_of_ble_eq_true rfl⟩) hS (fun H locs hH hS => ?_)
                refine W.eq (g2 := F0 m 203 ls []) rfl ?_
                refine lv_iinc (v := nI (i + 1)) (lv' := [(1, .int (nI (i + 1))), (0, .ref (ad (7, 0, 0)))]) hx hb dX5_hourGoesBy_203 hl (k := 1) rfl (by rw [← nI_add]; rfl) (by decide) rfl (fun ls hl => ?_)
                refine lv_goto (tgt := 167) hx hb dX5_hourGoesBy_206 (by decide) ?_
                have h9 : rlvG M5 (i + 1) = (rhG (rlvG M5 i) i) := by simp [rlvG, c182, c195]
                exact ih H locs _ _ ls ⟨rfl, rfl, by rw [h9]; exact hH, hS, lv_sub hl [1, 0] rfl⟩
          · skip
            obtain ⟨rfl, rfl, hH, hS, hl⟩ := hJ0
            have hX : RI (rlvG M5 (pN M)) := hR5.lv (pN M)
            have hxm : (rlvG M5 (pN M)) 2 0 = nI (mN M) := (rlvG_o (by decide) (by decide) (by decide) (pN M)).trans hm5
            have hxp : (rlvG M5 (pN M)) 19 0 = nI (pN M) := (rlvG_o (by decide) (by decide) (by decide) (pN M)).trans hp5
            refine lv_iload_n hx hb dX5_hourGoesBy_167 rfl (lv_at hl 1 rfl) ?_
            refine lv_aload_n hx hb dX5_hourGoesBy_168 rfl (lv_at hl 0 rfl) ?_
            refine g5 hx hb hts hown hC hH 19 (by decide) wf_X5_88 (v := .int ((rlvG M5 (pN M)) 19 0)) rfl dX5_hourGoesBy_169 ?_
            refine W.eq (g2 := F0 m 172 ls [.int (nI (pN M)), .int (nI (pN M))]) (by rw [hxp]) ?_
            refine lv_icmp_ge (tgt := 209) hx hb dX5_hourGoesBy_172 (by decide) (fun c172 => ?_) (fun c172 => absurd (nI_le (Nat.le_refl _) (by omega)) c172)
            have h9 : rhrG M = rlvG M5 (pN M) := by
              have h1 : rhrA M = M3 := by unfold rhrA; rw [← e1, ← e2, ← e3]
              have h2 : mN M3 = mN M := by unfold mN; rw [hm3, nI_clamp (by omega)]; rfl
              have h3 : pN M5 = pN M := by unfold pN; rw [hp5, nI_clamp (by omega)]; rfl
              unfold rhrG; rw [h1, ← e4]; rw [← e5]
            exact e_wv hx hb hr hlocks hS (by rw [h9]; exact hH) (Nat.le_refl _) (Nat.le_refl _) dX5_hourGoesBy_209
