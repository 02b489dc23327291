/-! THE REFERENCE: what callers call, the rest -/
set_option maxHeartbeats 4000000 in
set_option maxRecDepth 100000 in
theorem mX5_move (l : Launch) {D : va_G} {k : Nat → ClassId} {b : Nat} {ad : Tg → Nat} {g : XS} {M : MF} {o : OF} (hR : RI M) (a0 a1 : Int32) (q : Nat) (hq : isPB M a0 = true → q < pN M ∧ a0 = nI q) : Met l yX5_move (WS yX5_move cX5_move 3 (some .int)) ({ frames := 4, cells := 0, slots := 0, locals := 90 }) (P0 D k b (Wo D k b ad g M o) [.ref (ad (7, 0, 0)), .int a0, .int a1]) (Qw b (some (.int (vO (rmvC M a0 a1) ((rmvG (rT M) q a1) 21 q)))) (Wo D k b ad g (rO M (rmvC M a0 a1) (rmvG (rT M) q a1)) o)) 0 0 (Fb b) := by
  refine Met0 (by decide +kernel) (Nat.le_of_ble_eq_true rfl) (fun p e s m below meth c ls hx hb hr hts hown hml hlocks hnm hC hH hl => ?_)
  have hS : va_S (Fb b) s.heap s.heap [] := va_S.rf
  have hl : lv_has ls 3 [(0, .ref (ad (7, 0, 0))), (1, .int a0), (2, .int a1)] := hl
  have h8 := hR.1
  have h12 := hR.2.2.1
  refine lv_aload_n hx hb dX5_move_0 rfl (lv_at hl 0 rfl) ?_
  refine lv_aload_n hx hb dX5_move_1 rfl (lv_at hl 0 rfl) ?_
  refine lv_iload_n hx hb dX5_move_2 rfl (lv_at hl 1 rfl) ?_
  refine k_r (va_runV (As := [.int a0]) (rest := [.ref (ad (7, 0, 0))]) ⟨hx, hb, hml, hown, hts⟩ (mX5_isPhone l (M := M) a0) ⟨cb_of hts wk_X5_isPhone wi_X5 wm_X5_122 sd_X5_isPhone rfl rfl ⟨Nat.le_of_ble_eq_true rfl, Nat.le_of_ble_eq_true rfl⟩, hts _ wv_X5_isPhone, hts _ wl_X5_isPhone⟩ (P0.preV hC hS hH (Hp.recv hC.1 hH (7, 0, 0) ⟨rfl, rfl⟩ rfl rfl)) rfl rfl hl.1 rfl (lv_room (Nat.le_of_ble_eq_true rfl)) dX5_move_3 ⟨Nat.le_of_ble_eq_true rfl, Nat.le_of_ble_eq_true rfl⟩) ?_
  refine W.eq (g2 := F0 m 6 ls [.int (b2 (isPB M a0)), .ref (ad (7, 0, 0))]) rfl ?_
  refine lv_if_ne (tgt := 13) hx hb dX5_move_6 (by decide) (fun c6 => ?_) (fun c6 => ?_)
  · skip
    have c6 := b2_n0.mp c6
    obtain ⟨hj, h7⟩ := hq c6
    have hl : lv_has ls 3 [(0, .ref (ad (7, 0, 0))), (1, .int (nI q)), (2, .int a1)] := by rw [← h7]; exact hl
    refine lv_iload_n hx hb dX5_move_13 rfl (lv_at hl 2 rfl) ?_
    refine lv_iconst (v := 0) hx hb dX5_move_14 (by decide) ?_
    refine lv_bipush (v := 99) hx hb dX5_move_15 (by decide) ?_
    refine k_r (va_runS (As := [.int a1, .int 0, .int 99]) (rest := [.ref (ad (7, 0, 0))]) ⟨hx, hb, hml, hown, hts⟩ (mX5_in l a1 0 99) ⟨cb_of hts wk_X5_in wi_X5 wm_X5_84 sd_X5_in rfl rfl ⟨Nat.le_of_ble_eq_true rfl, Nat.le_of_ble_eq_true rfl⟩, hts _ wz_X5_in⟩ (P0.pre hC hS hH) rfl rfl hl.1 rfl (lv_room (Nat.le_of_ble_eq_true rfl)) dX5_move_17 ⟨Nat.le_of_ble_eq_true rfl, Nat.le_of_ble_eq_true rfl⟩) ?_
    refine W.eq (g2 := F0 m 20 ls [.int (b2 (inB a1 0 99)), .ref (ad (7, 0, 0))]) rfl ?_
    refine lv_if_ne (tgt := 27) hx hb dX5_move_20 (by decide) (fun c20 => ?_) (fun c20 => ?_)
    · skip
      have c20 := b2_n0.mp c20
      refine lv_iconst (v := 0) hx hb dX5_move_27 (by decide) ?_
      refine p5 hx hb hts hown hC hH hS 26 (by decide) (by decide) rfl wf_X5_77 rfl rfl dX5_move_28 (fun H locs (hH : Wo D k b ad g (up M 26 0 0) o H) hS => ?_)
      refine lv_aload_n hx hb dX5_move_31 rfl (lv_at hl 0 rfl) ?_
      refine g5 hx hb hts hown hC hH 26 (by decide) wf_X5_77 (v := .int 0) rfl dX5_move_32 ?_
      refine W.eq (g2 := F0 m 35 ls [.int 0]) rfl ?_
      refine lv_if_le (tgt := 40) hx hb dX5_move_35 (by decide) (fun _ => ?_) (fun c => absurd c (by decide))
      refine lv_aload_n hx hb dX5_move_40 rfl (lv_at hl 0 rfl) ?_
      refine g5 hx hb hts hown hC hH 20 (by decide) wf_X5_59 (v := .ref (ad (8, 20, 0))) rfl dX5_move_41 ?_
      refine lv_iload_n hx hb dX5_move_44 rfl (lv_at hl 1 rfl) ?_
      refine lv_iload_n hx hb dX5_move_45 rfl (lv_at hl 2 rfl) ?_
      refine rStN hx hb hC hH hS 20 (by decide) (by decide) (i := q) (show q < 12 by omega) dX5_move_46 (fun H locs (hH : Wo D k b ad g (up (up M 26 0 0) 20 q a1) o H) hS => ?_)
      refine lv_aload_n hx hb dX5_move_47 rfl (lv_at hl 0 rfl) ?_
      refine g5 hx hb hts hown hC hH 21 (by decide) wf_X5_62 (v := .ref (ad (8, 21, 0))) rfl dX5_move_48 ?_
      refine lv_iload_n hx hb dX5_move_51 rfl (lv_at hl 1 rfl) ?_
      refine rLdN hx hb hC hH 21 (by decide) (by decide) (i := q) (show q < 12 by omega) dX5_move_52 ?_
      refine W.eq (g2 := F0 m 53 ls [.int (M 21 q)]) (by simp [up]) ?_
      refine lv_iconst (v := (-1)) hx hb dX5_move_53 (by decide) ?_
      refine lv_icmp_eq (tgt := 76) hx hb dX5_move_54 (by decide) (fun c54 => ?_) (fun c54 => ?_)
      · skip
        refine lv_aload_n hx hb dX5_move_76 rfl (lv_at hl 0 rfl) ?_
        refine g5 hx hb hts hown hC hH 21 (by decide) wf_X5_62 (v := .ref (ad (8, 21, 0))) rfl dX5_move_77 ?_
        refine lv_iload_n hx hb dX5_move_80 rfl (lv_at hl 1 rfl) ?_
        refine rLdN hx hb hC hH 21 (by decide) (by decide) (i := q) (show q < 12 by omega) dX5_move_81 ?_
        refine W.eq (g2 := F0 m 82 ls [.int (M 21 q)]) (by simp [up]) ?_
        have h8 : rmvC M a0 a1 = 0 := by simp [rmvC, c6, c20]
        have h9 : rO M (rmvC M a0 a1) (rmvG (rT M) q a1) = up (up M 26 0 0) 20 q a1 := (rO_0 h8).trans (by unfold rmvG; rw [if_neg (fun z => z.1 c54)])
        exact e_wi hx hb hr hlocks (by unfold vO; rw [if_pos h8]; first | done | (rw [show rmvG (rT M) q a1 = _ from (rO_0 h8).symm.trans h9]; first | done | rfl)) hS (by rw [h9]; exact hH) (Nat.le_refl _) (Nat.le_refl _) dX5_move_82
      · skip
        refine lv_aload_n hx hb dX5_move_57 rfl (lv_at hl 0 rfl) ?_
        refine lv_aload_n hx hb dX5_move_58 rfl (lv_at hl 0 rfl) ?_
        refine g5 hx hb hts hown hC hH 21 (by decide) wf_X5_62 (v := .ref (ad (8, 21, 0))) rfl dX5_move_59 ?_
        refine lv_iload_n hx hb dX5_move_62 rfl (lv_at hl 1 rfl) ?_
        refine rLdN hx hb hC hH 21 (by decide) (by decide) (i := q) (show q < 12 by omega) dX5_move_63 ?_
        refine W.eq (g2 := F0 m 64 ls [.int (M 21 q), .ref (ad (7, 0, 0))]) (by simp [up]) ?_
        have h5 := hR.at hj c54
        refine W.eq (g2 := F0 m 64 ls [.int (nI (M 21 q).toNatClampNeg), .ref (ad (7, 0, 0))]) (by rw [← h5.1]) ?_
        refine lv_iload_n hx hb dX5_move_64 rfl (lv_at hl 2 rfl) ?_
        refine k_r (va_runV (As := [.int (nI (M 21 q).toNatClampNeg), .int a1]) (rest := []) ⟨hx, hb, hml, hown, hts⟩ (mX5_covers l (M := (up (up M 26 0 0) 20 q a1)) ((M 21 q).toNatClampNeg) (Nat.lt_of_lt_of_le h5.2 hR.1) a1) ⟨cb_of hts wk_X5_covers wi_X5 wm_X5_114 sd_X5_covers rfl rfl ⟨Nat.le_of_ble_eq_true rfl, Nat.le_of_ble_eq_true rfl⟩, hts _ wv_X5_covers, hts _ wl_X5_covers⟩ (P0.preV hC hS hH (Hp.recv hC.1 hH (7, 0, 0) ⟨rfl, rfl⟩ rfl rfl)) rfl rfl hl.1 rfl (lv_room (Nat.le_of_ble_eq_true rfl)) dX5_move_65 ⟨Nat.le_of_ble_eq_true rfl, Nat.le_of_ble_eq_true rfl⟩) ?_
        refine W.eq (g2 := F0 m 68 ls [.int (b2 (rcB (up (up M 26 0 0) 20 q a1) ((M 21 q).toNatClampNeg) a1))]) rfl ?_
        refine lv_if_ne (tgt := 76) hx hb dX5_move_68 (by decide) (fun c68 => ?_) (fun c68 => ?_)
        · skip
          have c68 := b2_n0.mp c68
          refine lv_aload_n hx hb dX5_move_76 rfl (lv_at hl 0 rfl) ?_
          refine g5 hx hb hts hown hC hH 21 (by decide) wf_X5_62 (v := .ref (ad (8, 21, 0))) rfl dX5_move_77 ?_
          refine lv_iload_n hx hb dX5_move_80 rfl (lv_at hl 1 rfl) ?_
          refine rLdN hx hb hC hH 21 (by decide) (by decide) (i := q) (show q < 12 by omega) dX5_move_81 ?_
          refine W.eq (g2 := F0 m 82 ls [.int (M 21 q)]) (by simp [up]) ?_
          have h8 : rmvC M a0 a1 = 0 := by simp [rmvC, c6, c20]
          have h9 : rO M (rmvC M a0 a1) (rmvG (rT M) q a1) = up (up M 26 0 0) 20 q a1 := (rO_0 h8).trans (by unfold rmvG; rw [if_neg (fun z => by have c9 : rcB (up (rT M) 20 q a1) ((rT M) 21 q).toNatClampNeg a1 = true := c68; rw [c9] at z; exact absurd z.2 (by decide))])
          exact e_wi hx hb hr hlocks (by unfold vO; rw [if_pos h8]; first | done | (rw [show rmvG (rT M) q a1 = _ from (rO_0 h8).symm.trans h9]; first | done | rfl)) hS (by rw [h9]; exact hH) (Nat.le_refl _) (Nat.le_refl _) dX5_move_82
        · skip
          have c68 := b2_0.mp c68
          refine lv_aload_n hx hb dX5_move_71 rfl (lv_at hl 0 rfl) ?_
          refine lv_iload_n hx hb dX5_move_72 rfl (lv_at hl 1 rfl) ?_
          refine k_w (va_runV (As := [.int (nI q)]) (rest := []) ⟨hx, hb, hml, hown, hts⟩ (mX5_handOver l (M := (up (up M 26 0 0) 20 q a1)) q hj (hR.T.put (by decide) (by decide) (by decide) (by decide) (by decide))) ⟨cb_of hts wk_X5_handOver wi_X5 wm_X5_128 sd_X5_handOver rfl rfl ⟨Nat.le_of_ble_eq_true rfl, Nat.le_of_ble_eq_true rfl⟩, hts _ wv_X5_handOver, hts _ wl_X5_handOver⟩ (P0.preV hC hS hH (Hp.recv hC.1 hH (7, 0, 0) ⟨rfl, rfl⟩ rfl rfl)) rfl rfl hl.1 rfl (lv_room (Nat.le_of_ble_eq_true rfl)) dX5_move_73 ⟨Nat.le_of_ble_eq_true rfl, Nat.le_of_ble_eq_true rfl⟩) hS (fun H locs hH hS => ?_)
          refine W.eq (g2 := F0 m 76 ls []) rfl ?_
          refine lv_aload_n hx hb dX5_move_76 rfl (lv_at hl 0 rfl) ?_
          refine g5 hx hb hts hown hC hH 21 (by decide) wf_X5_62 (v := .ref (ad (8, 21, 0))) rfl dX5_move_77 ?_
          refine lv_iload_n hx hb dX5_move_80 rfl (lv_at hl 1 rfl) ?_
          refine rLdN hx hb hC hH 21 (by decide) (by decide) (i := q) (show q < 12 by omega) dX5_move_81 ?_
          have h8 : rmvC M a0 a1 = 0 := by simp [rmvC, c6, c20]
          have h9 : rO M (rmvC M a0 a1) (rmvG (rT M) q a1) = (rhG (up (up M 26 0 0) 20 q a1) q) := (rO_0 h8).trans (by unfold rmvG; rw [if_pos (⟨c54, c68⟩ : ¬ (rT M) 21 q = -1 ∧ rcB (up (rT M) 20 q a1) ((rT M) 21 q).toNatClampNeg a1 = false)])
          exact e_wi hx hb hr hlocks (by unfold vO; rw [if_pos h8]; first | done | (rw [show rmvG (rT M) q a1 = _ from (rO_0 h8).symm.trans h9]; first | done | rfl)) hS (by rw [h9]; exact hH) (Nat.le_refl _) (Nat.le_refl _) dX5_move_82
    · skip
      have c20 := b2_0.mp c20
      refine lv_iconst (v := 2) hx hb dX5_move_23 (by decide) ?_
      refine lv_goto (tgt := 28) hx hb dX5_move_24 (by decide) ?_
      refine p5 hx hb hts hown hC hH hS 26 (by decide) (by decide) rfl wf_X5_77 rfl rfl dX5_move_28 (fun H locs (hH : Wo D k b ad g (up M 26 0 2) o H) hS => ?_)
      refine lv_aload_n hx hb dX5_move_31 rfl (lv_at hl 0 rfl) ?_
      refine g5 hx hb hts hown hC hH 26 (by decide) wf_X5_77 (v := .int 2) rfl dX5_move_32 ?_
      refine W.eq (g2 := F0 m 35 ls [.int 2]) rfl ?_
      refine lv_if_le (tgt := 40) hx hb dX5_move_35 (by decide) (fun c => absurd c (by decide)) (fun _ => ?_)
      refine lv_iconst (v := 0) hx hb dX5_move_38 (by decide) ?_
      have h8 : rmvC M a0 a1 = 2 := by simp [rmvC, c6, c20]
      have h9 : rO M (rmvC M a0 a1) (rmvG (rT M) q a1) = up M 26 0 2 := by rw [rO_n (by rw [h8]; decide), h8]; rfl
      exact e_wi hx hb hr hlocks (by unfold vO; rw [if_neg (by rw [h8]; decide)]; first | done | rfl) hS (by rw [h9]; exact hH) (Nat.le_refl _) (Nat.le_refl _) dX5_move_39
  · skip
    have c6 := b2_0.mp c6
    refine lv_iconst (v := 1) hx hb dX5_move_9 (by decide) ?_
    refine lv_goto (tgt := 28) hx hb dX5_move_10 (by decide) ?_
    refine p5 hx hb hts hown hC hH hS 26 (by decide) (by decide) rfl wf_X5_77 rfl rfl dX5_move_28 (fun H locs (hH : Wo D k b ad g (up M 26 0 1) o H) hS => ?_)
    refine lv_aload_n hx hb dX5_move_31 rfl (lv_at hl 0 rfl) ?_
    refine g5 hx hb hts hown hC hH 26 (by decide) wf_X5_77 (v := .int 1) rfl dX5_move_32 ?_
    refine W.eq (g2 := F0 m 35 ls [.int 1]) rfl ?_
    refine lv_if_le (tgt := 40) hx hb dX5_move_35 (by decide) (fun c => absurd c (by decide)) (fun _ => ?_)
    refine lv_iconst (v := 0) hx hb dX5_move_38 (by decide) ?_
    have h8 : rmvC M a0 a1 = 1 := by simp [rmvC, c6]
    have h9 : rO M (rmvC M a0 a1) (rmvG (rT M) q a1) = up M 26 0 1 := by rw [rO_n (by rw [h8]; decide), h8]; rfl
    exact e_wi hx hb hr hlocks (by unfold vO; rw [if_neg (by rw [h8]; decide)]; first | done | rfl) hS (by rw [h9]; exact hH) (Nat.le_refl _) (Nat.le_refl _) dX5_move_39

set_option maxHeartbeats 4000000 in
set_option maxRecDepth 100000 in
theorem mX5_pass (l : Launch) {D : va_G} {k : Nat → ClassId} {b : Nat} {ad : Tg → Nat} {g : XS} {M : MF} {o : OF} (hR : RI M) (a0 : Int32) (n : Nat) (hn : inB a0 1 100 = true → n ≤ 100 ∧ a0 = nI n) : Met l yX5_pass (WS yX5_pass cX5_pass 3 (some .int)) ({ frames := 5, cells := 0, slots := 0, locals := 111 }) (P0 D k b (Wo D k b ad g M o) [.ref (ad (7, 0, 0)), .int a0]) (Qw b (some (.int (vO (rpaC M a0) ((rhrsG (rT M) n) 0 0)))) (Wo D k b ad g (rO M (rpaC M a0) (rhrsG (rT M) n)) o)) 0 0 (Fb b) := by
  refine Met0 (by decide +kernel) (Nat.le_of_ble_eq_true rfl) (fun p e s m below meth c ls hx hb hr hts hown hml hlocks hnm hC hH hl => ?_)
  have hS : va_S (Fb b) s.heap s.heap [] := va_S.rf
  have hl : lv_has ls 3 [(0, .ref (ad (7, 0, 0))), (1, .int a0)] := hl
  have h8 := hR.1
  have h12 := hR.2.2.1
  refine lv_aload_n hx hb dX5_pass_0 rfl (lv_at hl 0 rfl) ?_
  refine lv_iload_n hx hb dX5_pass_1 rfl (lv_at hl 1 rfl) ?_
  refine lv_iconst (v := 1) hx hb dX5_pass_2 (by decide) ?_
  refine lv_bipush (v := 100) hx hb dX5_pass_3 (by decide) ?_
  refine k_r (va_runS (As := [.int a0, .int 1, .int 100]) (rest := [.ref (ad (7, 0, 0))]) ⟨hx, hb, hml, hown, hts⟩ (mX5_in l a0 1 100) ⟨cb_of hts wk_X5_in wi_X5 wm_X5_84 sd_X5_in rfl rfl ⟨Nat.le_of_ble_eq_true rfl, Nat.le_of_ble_eq_true rfl⟩, hts _ wz_X5_in⟩ (P0.pre hC hS hH) rfl rfl hl.1 rfl (lv_room (Nat.le_of_ble_eq_true rfl)) dX5_pass_5 ⟨Nat.le_of_ble_eq_true rfl, Nat.le_of_ble_eq_true rfl⟩) ?_
  refine W.eq (g2 := F0 m 8 ls [.int (b2 (inB a0 1 100)), .ref (ad (7, 0, 0))]) rfl ?_
  refine lv_if_ne (tgt := 15) hx hb dX5_pass_8 (by decide) (fun c8 => ?_) (fun c8 => ?_)
  · skip
    have c8 := b2_n0.mp c8
    refine lv_aload_n hx hb dX5_pass_15 rfl (lv_at hl 0 rfl) ?_
    refine g5 hx hb hts hown hC hH 0 (by decide) wf_X5_105 (v := .int (M 0 0)) rfl dX5_pass_16 ?_
    refine lv_iload_n hx hb dX5_pass_19 rfl (lv_at hl 1 rfl) ?_
    refine lv_iadd hx hb dX5_pass_20 ?_
    refine lv_sipush (v := 10000) hx hb dX5_pass_21 (by decide) ?_
    refine lv_icmp_le (tgt := 31) hx hb dX5_pass_24 (by decide) (fun c24 => ?_) (fun c24 => ?_)
    · skip
      have c24x := Int32.not_lt.mpr c24
      refine lv_iconst (v := 0) hx hb dX5_pass_31 (by decide) ?_
      refine p5 hx hb hts hown hC hH hS 26 (by decide) (by decide) rfl wf_X5_77 rfl rfl dX5_pass_32 (fun H locs (hH : Wo D k b ad g (up M 26 0 0) o H) hS => ?_)
      refine lv_iconst (v := 0) hx hb dX5_pass_35 (by decide) ?_
      refine lv_istore_n (lv' := [(2, .int 0), (0, .ref (ad (7, 0, 0))), (1, .int a0)]) hx hb dX5_pass_36 rfl hl (by decide) rfl (fun ls hl => ?_)
      have h8 : rpaC M a0 = 0 := by simp [rpaC, c8, c24, c24x]
      obtain ⟨hn1, h7⟩ := hn c8
      have hl : lv_has ls 3 [(2, .int (nI 0)), (0, .ref (ad (7, 0, 0))), (1, .int (nI n))] := by rw [← h7]; exact hl
      refine loop_w n (fun i H locs cells slots ls => cells = 0 ∧ slots = 0 ∧ Wo D k b ad g (rhrsG (rT M) i) o H ∧ va_S (Fb b) s.heap H locs ∧ lv_has ls 3 [(0, .ref (ad (7, 0, 0))), (1, .int (nI n)), (2, .int (nI i))]) (fun i hi H locs cells slots ls hJ0 ih => ?_) (fun H locs cells slots ls hJ0 => ?_) ⟨rfl, rfl, hH, hS, lv_sub hl [1, 2, 0] rfl⟩
      · skip
        obtain ⟨rfl, rfl, hH, hS, hl⟩ := hJ0
        refine lv_iload_n hx hb dX5_pass_37 rfl (lv_at hl 2 rfl) ?_
        refine lv_iload_n hx hb dX5_pass_38 rfl (lv_at hl 1 rfl) ?_
        refine lv_icmp_ge (tgt := 59) hx hb dX5_pass_39 (by decide) (fun c39 => absurd c39 (nI_ge hi (by omega))) (fun c39 => ?_)
        refine lv_aload_n hx hb dX5_pass_42 rfl (lv_at hl 0 rfl) ?_
        refine g5 hx hb hts hown hC hH 26 (by decide) wf_X5_77 (v := .int ((rhrsG (rT M) i) 26 0)) rfl dX5_pass_43 ?_
        refine W.eq (g2 := F0 m 46 ls [.int 0]) (by rw [show (rhrsG (rT M) i) 26 0 = 0 from (rhrsG_o (by decide) (by decide) (by decide) (by decide) (by decide) (by decide) (by decide) (by decide) (by decide) (by decide) i)]) ?_
        refine lv_if_ne (tgt := 59) hx hb dX5_pass_46 (by decide) (fun c => absurd c (by decide)) (fun _ => ?_)
        refine lv_aload_n hx hb dX5_pass_49 rfl (lv_at hl 0 rfl) ?_
        refine k_w (va_runV (As := []) (rest := []) ⟨hx, hb, hml, hown, hts⟩ (mX5_hourGoesBy l (M := rhrsG (rT M) i) (hR.T.hrs i)) ⟨cb_of hts wk_X5_hourGoesBy wi_X5 wm_X5_138 sd_X5_hourGoesBy rfl rfl ⟨Nat.le_of_ble_eq_true rfl, Nat.le_of_ble_eq_true rfl⟩, hts _ wv_X5_hourGoesBy, hts _ wl_X5_hourGoesBy⟩ (P0.preV hC hS hH (Hp.recv hC.1 hH (7, 0, 0) ⟨rfl, rfl⟩ rfl rfl)) rfl rfl hl.1 rfl (lv_room (Nat.le_of_ble_eq_true rfl)) dX5_pass_50 ⟨Nat.le_of_ble_eq_true rfl, Nat.le_of_ble_eq_true rfl⟩) hS (fun H locs hH hS => ?_)
        refine W.eq (g2 := F0 m 53 ls []) rfl ?_
        refine lv_iinc (v := nI (i + 1)) (lv' := [(2, .int (nI (i + 1))), (0, .ref (ad (7, 0, 0))), (1, .int (nI n))]) hx hb dX5_pass_53 hl (k := 2) rfl (by rw [← nI_add]; rfl) (by decide) rfl (fun ls hl => ?_)
        refine lv_goto (tgt := 37) hx hb dX5_pass_56 (by decide) ?_
        exact ih H locs _ _ ls ⟨rfl, rfl, hH, hS, lv_sub hl [1, 2, 0] rfl⟩
      · skip
        obtain ⟨rfl, rfl, hH, hS, hl⟩ := hJ0
        refine lv_iload_n hx hb dX5_pass_37 rfl (lv_at hl 2 rfl) ?_
        refine lv_iload_n hx hb dX5_pass_38 rfl (lv_at hl 1 rfl) ?_
        refine lv_icmp_ge (tgt := 59) hx hb dX5_pass_39 (by decide) (fun c39 => ?_) (fun c39 => absurd (nI_le (Nat.le_refl _) (by omega)) c39)
        refine lv_aload_n hx hb dX5_pass_59 rfl (lv_at hl 0 rfl) ?_
        refine g5 hx hb hts hown hC hH 26 (by decide) wf_X5_77 (v := .int ((rhrsG (rT M) n) 26 0)) rfl dX5_pass_60 ?_
        refine W.eq (g2 := F0 m 63 ls [.int 0]) (by rw [show (rhrsG (rT M) n) 26 0 = 0 from (rhrsG_o (by decide) (by decide) (by decide) (by decide) (by decide) (by decide) (by decide) (by decide) (by decide) (by decide) n)]) ?_
        refine lv_if_ne (tgt := 73) hx hb dX5_pass_63 (by decide) (fun c => absurd c (by decide)) (fun _ => ?_)
        refine lv_aload_n hx hb dX5_pass_66 rfl (lv_at hl 0 rfl) ?_
        refine g5 hx hb hts hown hC hH 0 (by decide) wf_X5_105 (v := .int ((rhrsG (rT M) n) 0 0)) rfl dX5_pass_67 ?_
        refine lv_goto (tgt := 74) hx hb dX5_pass_70 (by decide) ?_
        have h9 : rO M (rpaC M a0) (rhrsG (rT M) n) = rhrsG (rT M) n := rO_0 h8
        exact e_wi hx hb hr hlocks (by unfold vO; rw [if_pos h8]) hS (by rw [h9]; exact hH) (Nat.le_refl _) (Nat.le_refl _) dX5_pass_74
    · skip
      have c24x := Int32.not_le.mp c24
      refine lv_iconst (v := 2) hx hb dX5_pass_27 (by decide) ?_
      refine lv_goto (tgt := 32) hx hb dX5_pass_28 (by decide) ?_
      refine p5 hx hb hts hown hC hH hS 26 (by decide) (by decide) rfl wf_X5_77 rfl rfl dX5_pass_32 (fun H locs (hH : Wo D k b ad g (up M 26 0 2) o H) hS => ?_)
      refine lv_iconst (v := 0) hx hb dX5_pass_35 (by decide) ?_
      refine lv_istore_n (lv' := [(2, .int 0), (0, .ref (ad (7, 0, 0))), (1, .int a0)]) hx hb dX5_pass_36 rfl hl (by decide) rfl (fun ls hl => ?_)
      refine lv_iload_n hx hb dX5_pass_37 rfl (lv_at hl 0 rfl) ?_
      refine lv_iload_n hx hb dX5_pass_38 rfl (lv_at hl 2 rfl) ?_
      refine lv_icmp_ge (tgt := 59) hx hb dX5_pass_39 (by decide) (fun c39 => ?_) (fun c39 => ?_)
      · skip
        have c39x := Int32.not_lt.mpr c39
        refine lv_aload_n hx hb dX5_pass_59 rfl (lv_at hl 1 rfl) ?_
        refine g5 hx hb hts hown hC hH 26 (by decide) wf_X5_77 (v := .int 2) rfl dX5_pass_60 ?_
        refine W.eq (g2 := F0 m 63 ls [.int 2]) rfl ?_
        refine lv_if_ne (tgt := 73) hx hb dX5_pass_63 (by decide) (fun _ => ?_) (fun c => absurd c (by decide))
        refine lv_iconst (v := 0) hx hb dX5_pass_73 (by decide) ?_
        have h8 : rpaC M a0 = 2 := by simp [rpaC, c8, c24]
        have h9 : rO M (rpaC M a0) (rhrsG (rT M) n) = up M 26 0 2 := by rw [rO_n (by rw [h8]; decide), h8]; rfl
        exact e_wi hx hb hr hlocks (by unfold vO; rw [if_neg (by rw [h8]; decide)]; first | done | rfl) hS (by rw [h9]; exact hH) (Nat.le_refl _) (Nat.le_refl _) dX5_pass_74
      · skip
        have c39x := Int32.not_le.mp c39
        refine lv_aload_n hx hb dX5_pass_42 rfl (lv_at hl 1 rfl) ?_
        refine g5 hx hb hts hown hC hH 26 (by decide) wf_X5_77 (v := .int 2) rfl dX5_pass_43 ?_
        refine W.eq (g2 := F0 m 46 ls [.int 2]) rfl ?_
        refine lv_if_ne (tgt := 59) hx hb dX5_pass_46 (by decide) (fun _ => ?_) (fun c => absurd c (by decide))
        refine lv_aload_n hx hb dX5_pass_59 rfl (lv_at hl 1 rfl) ?_
        refine g5 hx hb hts hown hC hH 26 (by decide) wf_X5_77 (v := .int 2) rfl dX5_pass_60 ?_
        refine W.eq (g2 := F0 m 63 ls [.int 2]) rfl ?_
        refine lv_if_ne (tgt := 73) hx hb dX5_pass_63 (by decide) (fun _ => ?_) (fun c => absurd c (by decide))
        refine lv_iconst (v := 0) hx hb dX5_pass_73 (by decide) ?_
        have h8 : rpaC M a0 = 2 := by simp [rpaC, c8, c24]
        have h9 : rO M (rpaC M a0) (rhrsG (rT M) n) = up M 26 0 2 := by rw [rO_n (by rw [h8]; decide), h8]; rfl
        exact e_wi hx hb hr hlocks (by unfold vO; rw [if_neg (by rw [h8]; decide)]; first | done | rfl) hS (by rw [h9]; exact hH) (Nat.le_refl _) (Nat.le_refl _) dX5_pass_74
  · skip
    have c8 := b2_0.mp c8
    refine lv_iconst (v := 1) hx hb dX5_pass_11 (by decide) ?_
    refine lv_goto (tgt := 32) hx hb dX5_pass_12 (by decide) ?_
    refine p5 hx hb hts hown hC hH hS 26 (by decide) (by decide) rfl wf_X5_77 rfl rfl dX5_pass_32 (fun H locs (hH : Wo D k b ad g (up M 26 0 1) o H) hS => ?_)
    refine lv_iconst (v := 0) hx hb dX5_pass_35 (by decide) ?_
    refine lv_istore_n (lv' := [(2, .int 0), (0, .ref (ad (7, 0, 0))), (1, .int a0)]) hx hb dX5_pass_36 rfl hl (by decide) rfl (fun ls hl => ?_)
    refine lv_iload_n hx hb dX5_pass_37 rfl (lv_at hl 0 rfl) ?_
    refine lv_iload_n hx hb dX5_pass_38 rfl (lv_at hl 2 rfl) ?_
    refine lv_icmp_ge (tgt := 59) hx hb dX5_pass_39 (by decide) (fun c39 => ?_) (fun c39 => ?_)
    · skip
      have c39x := Int32.not_lt.mpr c39
      refine lv_aload_n hx hb dX5_pass_59 rfl (lv_at hl 1 rfl) ?_
      refine g5 hx hb hts hown hC hH 26 (by decide) wf_X5_77 (v := .int 1) rfl dX5_pass_60 ?_
      refine W.eq (g2 := F0 m 63 ls [.int 1]) rfl ?_
      refine lv_if_ne (tgt := 73) hx hb dX5_pass_63 (by decide) (fun _ => ?_) (fun c => absurd c (by decide))
      refine lv_iconst (v := 0) hx hb dX5_pass_73 (by decide) ?_
      have h8 : rpaC M a0 = 1 := by simp [rpaC, c8]
      have h9 : rO M (rpaC M a0) (rhrsG (rT M) n) = up M 26 0 1 := by rw [rO_n (by rw [h8]; decide), h8]; rfl
      exact e_wi hx hb hr hlocks (by unfold vO; rw [if_neg (by rw [h8]; decide)]; first | done | rfl) hS (by rw [h9]; exact hH) (Nat.le_refl _) (Nat.le_refl _) dX5_pass_74
    · skip
      have c39x := Int32.not_le.mp c39
      refine lv_aload_n hx hb dX5_pass_42 rfl (lv_at hl 1 rfl) ?_
      refine g5 hx hb hts hown hC hH 26 (by decide) wf_X5_77 (v := .int 1) rfl dX5_pass_43 ?_
      refine W.eq (g2 := F0 m 46 ls [.int 1]) rfl ?_
      refine lv_if_ne (tgt := 59) hx hb dX5_pass_46 (by decide) (fun _ => ?_) (fun c => absurd c (by decide))
      refine lv_aload_n hx hb dX5_pass_59 rfl (lv_at hl 1 rfl) ?_
      refine g5 hx hb hts hown hC hH 26 (by decide) wf_X5_77 (v := .int 1) rfl dX5_pass_60 ?_
      refine W.eq (g2 := F0 m 63 ls [.int 1]) rfl ?_
      refine lv_if_ne (tgt := 73) hx hb dX5_pass_63 (by decide) (fun _ => ?_) (fun c => absurd c (by decide))
      refine lv_iconst (v := 0) hx hb dX5_pass_73 (by decide) ?_
      have h8 : rpaC M a0 = 1 := by simp [rpaC, c8]
      have h9 : rO M (rpaC M a0) (rhrsG (rT M) n) = up M 26 0 1 := by rw [rO_n (by rw [h8]; decide), h8]; rfl
      exact e_wi hx hb hr hlocks (by unfold vO; rw [if_neg (by rw [h8]; decide)]; first | done | rfl) hS (by rw [h9]; exact hH) (Nat.le_refl _) (Nat.le_refl _) dX5_pass_74

set_option maxHeartbeats 4000000 in
set_option maxRecDepth 100000 in
theorem mX5_ofMast (l : Launch) {D : va_G} {k : Nat → ClassId} {b : Nat} {ad : Tg → Nat} {g : XS} {M : MF} {o : OF} (hR : RI M) (a0 a1 : Int32) (i : Nat) (hq : isMB M a0 = true → i < mN M ∧ a0 = nI i) : Met l yX5_ofMast (WS yX5_ofMast cX5_ofMast 3 (some .int)) ({ frames := 2, cells := 0, slots := 0, locals := 43 }) (P0 D k b (Wo D k b ad g M o) [.ref (ad (7, 0, 0)), .int a0, .int a1]) (Qw b (some (.int (vO (romC M a0 a1) (rofMV (rT M) i a1)))) (Wo D k b ad g (rO M (romC M a0 a1) (rT M)) o)) 0 0 (Fb b) := by
  refine Met0 (by decide +kernel) (Nat.le_of_ble_eq_true rfl) (fun p e s m below meth c ls hx hb hr hts hown hml hlocks hnm hC hH hl => ?_)
  have hS : va_S (Fb b) s.heap s.heap [] := va_S.rf
  have hl : lv_has ls 3 [(0, .ref (ad (7, 0, 0))), (1, .int a0), (2, .int a1)] := hl
  have h8 := hR.1
  have h12 := hR.2.2.1
  refine lv_aload_n hx hb dX5_ofMast_0 rfl (lv_at hl 0 rfl) ?_
  refine lv_aload_n hx hb dX5_ofMast_1 rfl (lv_at hl 0 rfl) ?_
  refine lv_iload_n hx hb dX5_ofMast_2 rfl (lv_at hl 1 rfl) ?_
  refine k_r (va_runV (As := [.int a0]) (rest := [.ref (ad (7, 0, 0))]) ⟨hx, hb, hml, hown, hts⟩ (mX5_isMast l (M := M) a0) ⟨cb_of hts wk_X5_isMast wi_X5 wm_X5_99 sd_X5_isMast rfl rfl ⟨Nat.le_of_ble_eq_true rfl, Nat.le_of_ble_eq_true rfl⟩, hts _ wv_X5_isMast, hts _ wl_X5_isMast⟩ (P0.preV hC hS hH (Hp.recv hC.1 hH (7, 0, 0) ⟨rfl, rfl⟩ rfl rfl)) rfl rfl hl.1 rfl (lv_room (Nat.le_of_ble_eq_true rfl)) dX5_ofMast_3 ⟨Nat.le_of_ble_eq_true rfl, Nat.le_of_ble_eq_true rfl⟩) ?_
  refine W.eq (g2 := F0 m 6 ls [.int (b2 (isMB M a0)), .ref (ad (7, 0, 0))]) rfl ?_
  refine lv_if_ne (tgt := 13) hx hb dX5_ofMast_6 (by decide) (fun c6 => ?_) (fun c6 => ?_)
  · skip
    have c6 := b2_n0.mp c6
    obtain ⟨hj, h7⟩ := hq c6
    have hl : lv_has ls 3 [(0, .ref (ad (7, 0, 0))), (1, .int (nI i)), (2, .int a1)] := by rw [← h7]; exact hl
    refine lv_iload_n hx hb dX5_ofMast_13 rfl (lv_at hl 2 rfl) ?_
    refine lv_iconst (v := 0) hx hb dX5_ofMast_14 (by decide) ?_
    refine lv_iconst (v := 5) hx hb dX5_ofMast_15 (by decide) ?_
    refine k_r (va_runS (As := [.int a1, .int 0, .int 5]) (rest := [.ref (ad (7, 0, 0))]) ⟨hx, hb, hml, hown, hts⟩ (mX5_in l a1 0 5) ⟨cb_of hts wk_X5_in wi_X5 wm_X5_84 sd_X5_in rfl rfl ⟨Nat.le_of_ble_eq_true rfl, Nat.le_of_ble_eq_true rfl⟩, hts _ wz_X5_in⟩ (P0.pre hC hS hH) rfl rfl hl.1 rfl (lv_room (Nat.le_of_ble_eq_true rfl)) dX5_ofMast_16 ⟨Nat.le_of_ble_eq_true rfl, Nat.le_of_ble_eq_true rfl⟩) ?_
    refine W.eq (g2 := F0 m 19 ls [.int (b2 (inB a1 0 5)), .ref (ad (7, 0, 0))]) rfl ?_
    refine lv_if_ne (tgt := 26) hx hb dX5_ofMast_19 (by decide) (fun c19 => ?_) (fun c19 => ?_)
    · skip
      have c19 := b2_n0.mp c19
      refine lv_iconst (v := 0) hx hb dX5_ofMast_26 (by decide) ?_
      refine p5 hx hb hts hown hC hH hS 26 (by decide) (by decide) rfl wf_X5_77 rfl rfl dX5_ofMast_27 (fun H locs (hH : Wo D k b ad g (up M 26 0 0) o H) hS => ?_)
      refine lv_aload_n hx hb dX5_ofMast_30 rfl (lv_at hl 0 rfl) ?_
      refine g5 hx hb hts hown hC hH 26 (by decide) wf_X5_77 (v := .int 0) rfl dX5_ofMast_31 ?_
      refine W.eq (g2 := F0 m 34 ls [.int 0]) rfl ?_
      refine lv_if_le (tgt := 39) hx hb dX5_ofMast_34 (by decide) (fun _ => ?_) (fun c => absurd c (by decide))
      refine lv_iload_n hx hb dX5_ofMast_39 rfl (lv_at hl 2 rfl) ?_
      obtain ⟨z, hz, hq2⟩ := inB_nI (n := 5) rfl (by decide) c19
      rcases (show z = 0 ∨ z = 1 ∨ z = 2 ∨ z = 3 ∨ z = 4 ∨ z = 5 by omega) with rfl | rfl | rfl | rfl | rfl | rfl
      · skip
        have cz : a1 = 0 := hq2
        refine lv_tableIn (tgt := 76) (off := 36) hx hb dX5_ofMast_40 (by rw [cz]; decide) (by rw [cz]; decide) (by rw [cz]; rfl) (by decide) ?_
        refine lv_aload_n hx hb dX5_ofMast_76 rfl (lv_at hl 0 rfl) ?_
        refine lv_iload_n hx hb dX5_ofMast_77 rfl (lv_at hl 1 rfl) ?_
        refine k_r (va_runV (As := [.int (nI i)]) (rest := []) ⟨hx, hb, hml, hown, hts⟩ (mX5_isOn l (M := (up M 26 0 0)) i (by omega)) ⟨cb_of hts wk_X5_isOn wi_X5 wm_X5_111 sd_X5_isOn rfl rfl ⟨Nat.le_of_ble_eq_true rfl, Nat.le_of_ble_eq_true rfl⟩, hts _ wv_X5_isOn, hts _ wl_X5_isOn⟩ (P0.preV hC hS hH (Hp.recv hC.1 hH (7, 0, 0) ⟨rfl, rfl⟩ rfl rfl)) rfl rfl hl.1 rfl (lv_room (Nat.le_of_ble_eq_true rfl)) dX5_ofMast_78 ⟨Nat.le_of_ble_eq_true rfl, Nat.le_of_ble_eq_true rfl⟩) ?_
        refine W.eq (g2 := F0 m 81 ls [.int (b2 (roB (up M 26 0 0) i))]) rfl ?_
        refine lv_if_eq (tgt := 88) hx hb dX5_ofMast_81 (by decide) (fun c81 => ?_) (fun c81 => ?_)
        · skip
          have c81 := b2_0.mp c81
          refine lv_iconst (v := 0) hx hb dX5_ofMast_88 (by decide) ?_
          have h8 : romC M a0 a1 = 0 := by simp [romC, c6, c19]
          have h9 : rO M (romC M a0 a1) (rT M) = up M 26 0 0 := (rO_0 h8).trans (rfl)
          exact e_wi hx hb hr hlocks (by unfold vO; rw [if_pos h8]; first | done | (rw [cz]; simp only [rofMV]; first | (rw [c81]; rfl) | rfl)) hS (by rw [h9]; exact hH) (Nat.le_refl _) (Nat.le_refl _) dX5_ofMast_89
        · skip
          have c81 := b2_n0.mp c81
          refine lv_iconst (v := 1) hx hb dX5_ofMast_84 (by decide) ?_
          refine lv_goto (tgt := 89) hx hb dX5_ofMast_85 (by decide) ?_
          have h8 : romC M a0 a1 = 0 := by simp [romC, c6, c19]
          have h9 : rO M (romC M a0 a1) (rT M) = up M 26 0 0 := (rO_0 h8).trans (rfl)
          exact e_wi hx hb hr hlocks (by unfold vO; rw [if_pos h8]; first | done | (rw [cz]; simp only [rofMV]; first | (rw [c81]; rfl) | rfl)) hS (by rw [h9]; exact hH) (Nat.le_refl _) (Nat.le_refl _) dX5_ofMast_89
      · skip
        have cz : a1 = 1 := hq2
        refine lv_tableIn (tgt := 90) (off := 50) hx hb dX5_ofMast_40 (by rw [cz]; decide) (by rw [cz]; decide) (by rw [cz]; rfl) (by decide) ?_
        refine lv_aload_n hx hb dX5_ofMast_90 rfl (lv_at hl 0 rfl) ?_
        refine lv_iload_n hx hb dX5_ofMast_91 rfl (lv_at hl 1 rfl) ?_
        refine k_r (va_runV (As := [.int (nI i)]) (rest := []) ⟨hx, hb, hml, hown, hts⟩ (mX5_carries l (M := (up M 26 0 0)) hR.T (nI i)) ⟨cb_of hts wk_X5_carries wi_X5 wm_X5_118 sd_X5_carries rfl rfl ⟨Nat.le_of_ble_eq_true rfl, Nat.le_of_ble_eq_true rfl⟩, hts _ wv_X5_carries, hts _ wl_X5_carries⟩ (P0.preV hC hS hH (Hp.recv hC.1 hH (7, 0, 0) ⟨rfl, rfl⟩ rfl rfl)) rfl rfl hl.1 rfl (lv_room (Nat.le_of_ble_eq_true rfl)) dX5_ofMast_92 ⟨Nat.le_of_ble_eq_true rfl, Nat.le_of_ble_eq_true rfl⟩) ?_
        refine W.eq (g2 := F0 m 95 ls [.int (caI (up M 26 0 0) (nI i) (pN (up M 26 0 0)))]) rfl ?_
        have h8 : romC M a0 a1 = 0 := by simp [romC, c6, c19]
        have h9 : rO M (romC M a0 a1) (rT M) = up M 26 0 0 := (rO_0 h8).trans (rfl)
        exact e_wi hx hb hr hlocks (by unfold vO; rw [if_pos h8]; first | done | (rw [cz]; rfl)) hS (by rw [h9]; exact hH) (Nat.le_refl _) (Nat.le_refl _) dX5_ofMast_95
      · skip
        have cz : a1 = 2 := hq2
        refine lv_tableIn (tgt := 96) (off := 56) hx hb dX5_ofMast_40 (by rw [cz]; decide) (by rw [cz]; decide) (by rw [cz]; rfl) (by decide) ?_
        refine lv_aload_n hx hb dX5_ofMast_96 rfl (lv_at hl 0 rfl) ?_
        refine g5 hx hb hts hown hC hH 9 (by decide) wf_X5_29 (v := .ref (ad (8, 9, 0))) rfl dX5_ofMast_97 ?_
        refine lv_iload_n hx hb dX5_ofMast_100 rfl (lv_at hl 1 rfl) ?_
        refine rLdN hx hb hC hH 9 (by decide) (by decide) (i := i) (show i < 8 by omega) dX5_ofMast_101 ?_
        refine W.eq (g2 := F0 m 102 ls [.int (M 9 i)]) (by simp [up]) ?_
        have h8 : romC M a0 a1 = 0 := by simp [romC, c6, c19]
        have h9 : rO M (romC M a0 a1) (rT M) = up M 26 0 0 := (rO_0 h8).trans (rfl)
        exact e_wi hx hb hr hlocks (by unfold vO; rw [if_pos h8]; first | done | (rw [cz]; rfl)) hS (by rw [h9]; exact hH) (Nat.le_refl _) (Nat.le_refl _) dX5_ofMast_102
      · skip
        have cz : a1 = 3 := hq2
        refine lv_tableIn (tgt := 103) (off := 63) hx hb dX5_ofMast_40 (by rw [cz]; decide) (by rw [cz]; decide) (by rw [cz]; rfl) (by decide) ?_
        refine lv_aload_n hx hb dX5_ofMast_103 rfl (lv_at hl 0 rfl) ?_
        refine g5 hx hb hts hown hC hH 17 (by decide) wf_X5_53 (v := .ref (ad (8, 17, 0))) rfl dX5_ofMast_104 ?_
        refine lv_iload_n hx hb dX5_ofMast_107 rfl (lv_at hl 1 rfl) ?_
        refine rLdN hx hb hC hH 17 (by decide) (by decide) (i := i) (show i < 8 by omega) dX5_ofMast_108 ?_
        refine W.eq (g2 := F0 m 109 ls [.int (M 17 i)]) (by simp [up]) ?_
        have h8 : romC M a0 a1 = 0 := by simp [romC, c6, c19]
        have h9 : rO M (romC M a0 a1) (rT M) = up M 26 0 0 := (rO_0 h8).trans (rfl)
        exact e_wi hx hb hr hlocks (by unfold vO; rw [if_pos h8]; first | done | (rw [cz]; rfl)) hS (by rw [h9]; exact hH) (Nat.le_refl _) (Nat.le_refl _) dX5_ofMast_109
      · skip
        have cz : a1 = 4 := hq2
        refine lv_tableIn (tgt := 110) (off := 70) hx hb dX5_ofMast_40 (by rw [cz]; decide) (by rw [cz]; decide) (by rw [cz]; rfl) (by decide) ?_
        refine lv_aload_n hx hb dX5_ofMast_110 rfl (lv_at hl 0 rfl) ?_
        refine g5 hx hb hts hown hC hH 18 (by decide) wf_X5_56 (v := .ref (ad (8, 18, 0))) rfl dX5_ofMast_111 ?_
        refine lv_iload_n hx hb dX5_ofMast_114 rfl (lv_at hl 1 rfl) ?_
        refine rLdN hx hb hC hH 18 (by decide) (by decide) (i := i) (show i < 8 by omega) dX5_ofMast_115 ?_
        refine W.eq (g2 := F0 m 116 ls [.int (M 18 i)]) (by simp [up]) ?_
        have h8 : romC M a0 a1 = 0 := by simp [romC, c6, c19]
        have h9 : rO M (romC M a0 a1) (rT M) = up M 26 0 0 := (rO_0 h8).trans (rfl)
        exact e_wi hx hb hr hlocks (by unfold vO; rw [if_pos h8]; first | done | (rw [cz]; rfl)) hS (by rw [h9]; exact hH) (Nat.le_refl _) (Nat.le_refl _) dX5_ofMast_116
      · skip
        have cz : a1 = 5 := hq2
        refine lv_tableOut (tgt := 117) hx hb dX5_ofMast_40 (by rw [cz]; decide) (by decide) ?_
        refine lv_aload_n hx hb dX5_ofMast_117 rfl (lv_at hl 0 rfl) ?_
        refine g5 hx hb hts hown hC hH 11 (by decide) wf_X5_35 (v := .ref (ad (8, 11, 0))) rfl dX5_ofMast_118 ?_
        refine lv_iload_n hx hb dX5_ofMast_121 rfl (lv_at hl 1 rfl) ?_
        refine rLdN hx hb hC hH 11 (by decide) (by decide) (i := i) (show i < 8 by omega) dX5_ofMast_122 ?_
        refine W.eq (g2 := F0 m 123 ls [.int (M 11 i)]) (by simp [up]) ?_
        have h8 : romC M a0 a1 = 0 := by simp [romC, c6, c19]
        have h9 : rO M (romC M a0 a1) (rT M) = up M 26 0 0 := (rO_0 h8).trans (rfl)
        exact e_wi hx hb hr hlocks (by unfold vO; rw [if_pos h8]; first | done | (rw [cz]; rfl)) hS (by rw [h9]; exact hH) (Nat.le_refl _) (Nat.le_refl _) dX5_ofMast_123
    · skip
      have c19 := b2_0.mp c19
      refine lv_iconst (v := 2) hx hb dX5_ofMast_22 (by decide) ?_
      refine lv_goto (tgt := 27) hx hb dX5_ofMast_23 (by decide) ?_
      refine p5 hx hb hts hown hC hH hS 26 (by decide) (by decide) rfl wf_X5_77 rfl rfl dX5_ofMast_27 (fun H locs (hH : Wo D k b ad g (up M 26 0 2) o H) hS => ?_)
      refine lv_aload_n hx hb dX5_ofMast_30 rfl (lv_at hl 0 rfl) ?_
      refine g5 hx hb hts hown hC hH 26 (by decide) wf_X5_77 (v := .int 2) rfl dX5_ofMast_31 ?_
      refine W.eq (g2 := F0 m 34 ls [.int 2]) rfl ?_
      refine lv_if_le (tgt := 39) hx hb dX5_ofMast_34 (by decide) (fun c => absurd c (by decide)) (fun _ => ?_)
      refine lv_iconst (v := 0) hx hb dX5_ofMast_37 (by decide) ?_
      have h8 : romC M a0 a1 = 2 := by simp [romC, c6, c19]
      have h9 : rO M (romC M a0 a1) (rT M) = up M 26 0 2 := by rw [rO_n (by rw [h8]; decide), h8]; rfl
      exact e_wi hx hb hr hlocks (by unfold vO; rw [if_neg (by rw [h8]; decide)]; first | done | rfl) hS (by rw [h9]; exact hH) (Nat.le_refl _) (Nat.le_refl _) dX5_ofMast_38
  · skip
    have c6 := b2_0.mp c6
    refine lv_iconst (v := 1) hx hb dX5_ofMast_9 (by decide) ?_
    refine lv_goto (tgt := 27) hx hb dX5_ofMast_10 (by decide) ?_
    refine p5 hx hb hts hown hC hH hS 26 (by decide) (by decide) rfl wf_X5_77 rfl rfl dX5_ofMast_27 (fun H locs (hH : Wo D k b ad g (up M 26 0 1) o H) hS => ?_)
    refine lv_aload_n hx hb dX5_ofMast_30 rfl (lv_at hl 0 rfl) ?_
    refine g5 hx hb hts hown hC hH 26 (by decide) wf_X5_77 (v := .int 1) rfl dX5_ofMast_31 ?_
    refine W.eq (g2 := F0 m 34 ls [.int 1]) rfl ?_
    refine lv_if_le (tgt := 39) hx hb dX5_ofMast_34 (by decide) (fun c => absurd c (by decide)) (fun _ => ?_)
    refine lv_iconst (v := 0) hx hb dX5_ofMast_37 (by decide) ?_
    have h8 : romC M a0 a1 = 1 := by simp [romC, c6]
    have h9 : rO M (romC M a0 a1) (rT M) = up M 26 0 1 := by rw [rO_n (by rw [h8]; decide), h8]; rfl
    exact e_wi hx hb hr hlocks (by unfold vO; rw [if_neg (by rw [h8]; decide)]; first | done | rfl) hS (by rw [h9]; exact hH) (Nat.le_refl _) (Nat.le_refl _) dX5_ofMast_38

set_option maxHeartbeats 4000000 in
set_option maxRecDepth 100000 in
theorem mX5_strength (l : Launch) {D : va_G} {k : Nat → ClassId} {b : Nat} {ad : Tg → Nat} {g : XS} {M : MF} {o : OF} (hR : RI M) (a0 : Int32) (q : Nat) (hq : isPB M a0 = true → q < pN M ∧ a0 = nI q) (hnan : isPB M a0 = true → ¬ M 21 q = -1 → vf_n32 (FP.fdiv (FP.i2f (apI M (M 21 q).toNatClampNeg (M 20 q))) (FP.i2f (M 4 (M 21 q).toNatClampNeg))) ∧ vf_n32 (FP.fsub FP.fconst1 (FP.fdiv (FP.i2f (apI M (M 21 q).toNatClampNeg (M 20 q))) (FP.i2f (M 4 (M 21 q).toNatClampNeg))))) : Met l yX5_strength (WS yX5_strength cX5_strength 3 (some .float)) ({ frames := 2, cells := 0, slots := 0, locals := 43 }) (P0 D k b (Wo D k b ad g M o) [.ref (ad (7, 0, 0)), .int a0]) (Qw b (some (.float (if rstC M a0 = 0 then rstV (rT M) q else FP.fconst0))) (Wo D k b ad g (rO M (rstC M a0) (rT M)) o)) 0 0 (Fb b) := by
  refine Met0 (by decide +kernel) (Nat.le_of_ble_eq_true rfl) (fun p e s m below meth c ls hx hb hr hts hown hml hlocks hnm hC hH hl => ?_)
  have hS : va_S (Fb b) s.heap s.heap [] := va_S.rf
  have hl : lv_has ls 3 [(0, .ref (ad (7, 0, 0))), (1, .int a0)] := hl
  have h8 := hR.1
  have h12 := hR.2.2.1
  refine lv_aload_n hx hb dX5_strength_0 rfl (lv_at hl 0 rfl) ?_
  refine lv_aload_n hx hb dX5_strength_1 rfl (lv_at hl 0 rfl) ?_
  refine lv_iload_n hx hb dX5_strength_2 rfl (lv_at hl 1 rfl) ?_
  refine k_r (va_runV (As := [.int a0]) (rest := [.ref (ad (7, 0, 0))]) ⟨hx, hb, hml, hown, hts⟩ (mX5_isPhone l (M := M) a0) ⟨cb_of hts wk_X5_isPhone wi_X5 wm_X5_122 sd_X5_isPhone rfl rfl ⟨Nat.le_of_ble_eq_true rfl, Nat.le_of_ble_eq_true rfl⟩, hts _ wv_X5_isPhone, hts _ wl_X5_isPhone⟩ (P0.preV hC hS hH (Hp.recv hC.1 hH (7, 0, 0) ⟨rfl, rfl⟩ rfl rfl)) rfl rfl hl.1 rfl (lv_room (Nat.le_of_ble_eq_true rfl)) dX5_strength_3 ⟨Nat.le_of_ble_eq_true rfl, Nat.le_of_ble_eq_true rfl⟩) ?_
  refine W.eq (g2 := F0 m 6 ls [.int (b2 (isPB M a0)), .ref (ad (7, 0, 0))]) rfl ?_
  refine lv_if_eq (tgt := 13) hx hb dX5_strength_6 (by decide) (fun c6 => ?_) (fun c6 => ?_)
  · skip
    have c6 := b2_0.mp c6
    refine lv_iconst (v := 1) hx hb dX5_strength_13 (by decide) ?_
    refine p5 hx hb hts hown hC hH hS 26 (by decide) (by decide) rfl wf_X5_77 rfl rfl dX5_strength_14 (fun H locs (hH : Wo D k b ad g (up M 26 0 1) o H) hS => ?_)
    refine lv_aload_n hx hb dX5_strength_17 rfl (lv_at hl 0 rfl) ?_
    refine g5 hx hb hts hown hC hH 26 (by decide) wf_X5_77 (v := .int 1) rfl dX5_strength_18 ?_
    refine W.eq (g2 := F0 m 21 ls [.int 1]) rfl ?_
    refine lv_if_gt (tgt := 34) hx hb dX5_strength_21 (by decide) (fun _ => ?_) (fun c => absurd c (by decide))
    refine lv_fconst0 hx hb dX5_strength_34 ?_
    have h8 : rstC M a0 = 1 := by simp [rstC, c6]
    have h9 : rO M (rstC M a0) (rT M) = up M 26 0 1 := by rw [rO_n (by rw [h8]; decide), h8]; rfl
    exact e_wf hx hb hr hlocks (by rw [if_neg (by rw [h8]; decide)]) hS (by rw [h9]; exact hH) (Nat.le_refl _) (Nat.le_refl _) dX5_strength_35
  · skip
    have c6 := b2_n0.mp c6
    obtain ⟨hj, h7⟩ := hq c6
    have hl : lv_has ls 3 [(0, .ref (ad (7, 0, 0))), (1, .int (nI q))] := by rw [← h7]; exact hl
    refine lv_iconst (v := 0) hx hb dX5_strength_9 (by decide) ?_
    refine lv_goto (tgt := 14) hx hb dX5_strength_10 (by decide) ?_
    refine p5 hx hb hts hown hC hH hS 26 (by decide) (by decide) rfl wf_X5_77 rfl rfl dX5_strength_14 (fun H locs (hH : Wo D k b ad g (up M 26 0 0) o H) hS => ?_)
    refine lv_aload_n hx hb dX5_strength_17 rfl (lv_at hl 0 rfl) ?_
    refine g5 hx hb hts hown hC hH 26 (by decide) wf_X5_77 (v := .int 0) rfl dX5_strength_18 ?_
    refine W.eq (g2 := F0 m 21 ls [.int 0]) rfl ?_
    refine lv_if_gt (tgt := 34) hx hb dX5_strength_21 (by decide) (fun c => absurd c (by decide)) (fun _ => ?_)
    refine lv_aload_n hx hb dX5_strength_24 rfl (lv_at hl 0 rfl) ?_
    refine g5 hx hb hts hown hC hH 21 (by decide) wf_X5_62 (v := .ref (ad (8, 21, 0))) rfl dX5_strength_25 ?_
    refine lv_iload_n hx hb dX5_strength_28 rfl (lv_at hl 1 rfl) ?_
    refine rLdN hx hb hC hH 21 (by decide) (by decide) (i := q) (show q < 12 by omega) dX5_strength_29 ?_
    refine W.eq (g2 := F0 m 30 ls [.int (M 21 q)]) (by simp [up]) ?_
    refine lv_iconst (v := (-1)) hx hb dX5_strength_30 (by decide) ?_
    refine lv_icmp_ne (tgt := 36) hx hb dX5_strength_31 (by decide) (fun c31 => ?_) (fun c31 => ?_)
    · skip
      refine lv_aload_n hx hb dX5_strength_36 rfl (lv_at hl 0 rfl) ?_
      refine g5 hx hb hts hown hC hH 21 (by decide) wf_X5_62 (v := .ref (ad (8, 21, 0))) rfl dX5_strength_37 ?_
      refine lv_iload_n hx hb dX5_strength_40 rfl (lv_at hl 1 rfl) ?_
      refine rLdN hx hb hC hH 21 (by decide) (by decide) (i := q) (show q < 12 by omega) dX5_strength_41 ?_
      refine W.eq (g2 := F0 m 42 ls [.int (M 21 q)]) (by simp [up]) ?_
      refine lv_istore_n (lv' := [(2, .int (M 21 q)), (0, .ref (ad (7, 0, 0))), (1, .int (nI q))]) hx hb dX5_strength_42 rfl hl (by decide) rfl (fun ls hl => ?_)
      have h5 := hR.at hj c31
      have hl : lv_has ls 3 [(2, .int (nI (M 21 q).toNatClampNeg)), (0, .ref (ad (7, 0, 0))), (1, .int (nI q))] := by rw [← h5.1]; exact hl
      refine lv_fconst1 hx hb dX5_strength_43 ?_
      refine lv_aload_n hx hb dX5_strength_44 rfl (lv_at hl 1 rfl) ?_
      refine lv_iload_n hx hb dX5_strength_45 rfl (lv_at hl 0 rfl) ?_
      refine lv_aload_n hx hb dX5_strength_46 rfl (lv_at hl 1 rfl) ?_
      refine g5 hx hb hts hown hC hH 20 (by decide) wf_X5_59 (v := .ref (ad (8, 20, 0))) rfl dX5_strength_47 ?_
      refine lv_iload_n hx hb dX5_strength_50 rfl (lv_at hl 2 rfl) ?_
      refine rLdN hx hb hC hH 20 (by decide) (by decide) (i := q) (show q < 12 by omega) dX5_strength_51 ?_
      refine W.eq (g2 := F0 m 52 ls [.int (M 20 q), .int (nI (M 21 q).toNatClampNeg), .ref (ad (7, 0, 0)), .float FP.fconst1]) (by simp [up]) ?_
      refine k_r (va_runV (As := [.int (nI (M 21 q).toNatClampNeg), .int (M 20 q)]) (rest := [.float FP.fconst1]) ⟨hx, hb, hml, hown, hts⟩ (mX5_apart l (M := (up M 26 0 0)) ((M 21 q).toNatClampNeg) (Nat.lt_of_lt_of_le h5.2 hR.1) (M 20 q)) ⟨cb_of hts wk_X5_apart wi_X5 wm_X5_95 sd_X5_apart rfl rfl ⟨Nat.le_of_ble_eq_true rfl, Nat.le_of_ble_eq_true rfl⟩, hts _ wv_X5_apart, hts _ wl_X5_apart⟩ (P0.preV hC hS hH (Hp.recv hC.1 hH (7, 0, 0) ⟨rfl, rfl⟩ rfl rfl)) rfl rfl hl.1 rfl (lv_room (Nat.le_of_ble_eq_true rfl)) dX5_strength_52 ⟨Nat.le_of_ble_eq_true rfl, Nat.le_of_ble_eq_true rfl⟩) ?_
      refine W.eq (g2 := F0 m 55 ls [.int (apI (up M 26 0 0) ((M 21 q).toNatClampNeg) (M 20 q)), .float FP.fconst1]) rfl ?_
      refine lv_i2f hx hb dX5_strength_55 ?_
      refine lv_aload_n hx hb dX5_strength_56 rfl (lv_at hl 1 rfl) ?_
      refine g5 hx hb hts hown hC hH 4 (by decide) wf_X5_13 (v := .ref (ad (8, 4, 0))) rfl dX5_strength_57 ?_
      refine lv_iload_n hx hb dX5_strength_60 rfl (lv_at hl 0 rfl) ?_
      refine rLdN hx hb hC hH 4 (by decide) (by decide) (i := (M 21 q).toNatClampNeg) (show (M 21 q).toNatClampNeg < 8 by omega) dX5_strength_61 ?_
      refine W.eq (g2 := F0 m 62 ls [.int (M 4 ((M 21 q).toNatClampNeg)), .float (FP.i2f (apI (up M 26 0 0) ((M 21 q).toNatClampNeg) (M 20 q))), .float FP.fconst1]) (by simp [up]) ?_
      refine lv_i2f hx hb dX5_strength_62 ?_
      refine lv_fdiv hx hb dX5_strength_63 (hnan c6 c31).1 ?_
      refine lv_fsub hx hb dX5_strength_64 (hnan c6 c31).2 ?_
      have h8 : rstC M a0 = 0 := by simp [rstC, c6]
      have h9 : rO M (rstC M a0) (rT M) = up M 26 0 0 := rO_0 h8
      exact e_wf hx hb hr hlocks (by rw [if_pos h8]; unfold rstV; rw [if_neg (show ¬ (rT M) 21 q = -1 from c31)]; first | done | rfl) hS (by rw [h9]; exact hH) (Nat.le_refl _) (Nat.le_refl _) dX5_strength_65
    · skip
      refine lv_fconst0 hx hb dX5_strength_34 ?_
      have h8 : rstC M a0 = 0 := by simp [rstC, c6]
      have h9 : rO M (rstC M a0) (rT M) = up M 26 0 0 := rO_0 h8
      exact e_wf hx hb hr hlocks (by rw [if_pos h8]; unfold rstV; rw [if_pos (show (rT M) 21 q = -1 from c31)]; first | done | rfl) hS (by rw [h9]; exact hH) (Nat.le_refl _) (Nat.le_refl _) dX5_strength_35
