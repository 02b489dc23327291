/-! THE REFERENCE: what writes -/
set_option maxHeartbeats 4000000 in
set_option maxRecDepth 100000 in
theorem mX5_handOver (l : Launch) {D : va_G} {k : Nat → ClassId} {b : Nat} {ad : Tg → Nat} {g : XS} {M : MF} {o : OF} (q : Nat) (hq : q < pN M) (hR : RI M) : Met l yX5_handOver (WS yX5_handOver cX5_handOver 2 none) ({ frames := 3, cells := 0, slots := 0, locals := 69 }) (P0 D k b (Wo D k b ad g M o) [.ref (ad (7, 0, 0)), .int (nI q)]) (Qw b none (Wo D k b ad g (rhG M q) o)) 0 0 (Fb b) := by
  refine Met0 (by decide +kernel) (Nat.le_of_ble_eq_true rfl) (fun p e s m below meth c ls hx hb hr hts hown hml hlocks hnm hC hH hl => ?_)
  have hS : va_S (Fb b) s.heap s.heap [] := va_S.rf
  have hl : lv_has ls 2 [(0, .ref (ad (7, 0, 0))), (1, .int (nI q))] := hl
  have h12 := hR.2.2.1
  refine lv_aload_n hx hb dX5_handOver_0 rfl (lv_at hl 0 rfl) ?_
  refine g5 hx hb hts hown hC hH 21 (by decide) wf_X5_62 (v := .ref (ad (8, 21, 0))) rfl dX5_handOver_1 ?_
  refine lv_iload_n hx hb dX5_handOver_4 rfl (lv_at hl 1 rfl) ?_
  refine lv_iconst (v := (-1)) hx hb dX5_handOver_5 (by decide) ?_
  refine rStN hx hb hC hH hS 21 (by decide) (by decide) (i := q) (show q < 12 by omega) dX5_handOver_6 (fun H locs (hH : Wo D k b ad g (up M 21 q (-1)) o H) hS => ?_)
  refine lv_aload_n hx hb dX5_handOver_7 rfl (lv_at hl 0 rfl) ?_
  refine g5 hx hb hts hown hC hH 21 (by decide) wf_X5_62 (v := .ref (ad (8, 21, 0))) rfl dX5_handOver_8 ?_
  refine lv_iload_n hx hb dX5_handOver_11 rfl (lv_at hl 1 rfl) ?_
  refine lv_aload_n hx hb dX5_handOver_12 rfl (lv_at hl 0 rfl) ?_
  refine lv_aload_n hx hb dX5_handOver_13 rfl (lv_at hl 0 rfl) ?_
  refine g5 hx hb hts hown hC hH 20 (by decide) wf_X5_59 (v := .ref (ad (8, 20, 0))) rfl dX5_handOver_14 ?_
  refine lv_iload_n hx hb dX5_handOver_17 rfl (lv_at hl 1 rfl) ?_
  refine rLdN hx hb hC hH 20 (by decide) (by decide) (i := q) (show q < 12 by omega) dX5_handOver_18 ?_
  refine W.eq (g2 := F0 m 19 ls [.int (M 20 q), .ref (ad (7, 0, 0)), .int (nI q), .ref (ad (8, 21, 0))]) (by simp [up]) ?_
  refine k_r (va_runV (As := [.int (M 20 q)]) (rest := [.int (nI q), .ref (ad (8, 21, 0))]) ⟨hx, hb, hml, hown, hts⟩ (mX5_mastFor l (M := (up M 21 q (-1))) hR.no (M 20 q)) ⟨cb_of hts wk_X5_mastFor wi_X5 wm_X5_125 sd_X5_mastFor rfl rfl ⟨Nat.le_of_ble_eq_true rfl, Nat.le_of_ble_eq_true rfl⟩, hts _ wv_X5_mastFor, hts _ wl_X5_mastFor⟩ (P0.preV hC hS hH (Hp.recv hC.1 hH (7, 0, 0) ⟨rfl, rfl⟩ rfl rfl)) rfl rfl hl.1 rfl (lv_room (Nat.le_of_ble_eq_true rfl)) dX5_handOver_19 ⟨Nat.le_of_ble_eq_true rfl, Nat.le_of_ble_eq_true rfl⟩) ?_
  refine W.eq (g2 := F0 m 22 ls [.int (cdI (mf (up M 21 q (-1)) (M 20 q) (mN (up M 21 q (-1))))), .int (nI q), .ref (ad (8, 21, 0))]) rfl ?_
  refine rStN hx hb hC hH hS 21 (by decide) (by decide) (i := q) (show q < 12 by omega) dX5_handOver_22 (fun H locs (hH : Wo D k b ad g (up (up M 21 q (-1)) 21 q (cdI (mf (up M 21 q (-1)) (M 20 q) (mN (up M 21 q (-1)))))) o H) hS => ?_)
  have hH : Wo D k b ad g (rhA M q) o H := hH
  refine lv_aload_n hx hb dX5_handOver_23 rfl (lv_at hl 0 rfl) ?_
  refine g5 hx hb hts hown hC hH 21 (by decide) wf_X5_62 (v := .ref (ad (8, 21, 0))) rfl dX5_handOver_24 ?_
  refine lv_iload_n hx hb dX5_handOver_27 rfl (lv_at hl 1 rfl) ?_
  refine rLdN hx hb hC hH 21 (by decide) (by decide) (i := q) (show q < 12 by omega) dX5_handOver_28 ?_
  refine lv_iconst (v := (-1)) hx hb dX5_handOver_29 (by decide) ?_
  refine lv_icmp_ne (tgt := 46) hx hb dX5_handOver_30 (by decide) (fun c30 => ?_) (fun c30 => ?_)
  · skip
    refine lv_aload_n hx hb dX5_handOver_46 rfl (lv_at hl 0 rfl) ?_
    refine g5 hx hb hts hown hC hH 24 (by decide) wf_X5_71 (v := .ref (ad (8, 24, 0))) rfl dX5_handOver_47 ?_
    refine lv_iload_n hx hb dX5_handOver_50 rfl (lv_at hl 1 rfl) ?_
    refine lv_dup2_11 hx hb dX5_handOver_51 rfl rfl ?_
    refine rLdN hx hb hC hH 24 (by decide) (by decide) (i := q) (show q < 12 by omega) dX5_handOver_52 ?_
    refine lv_iconst (v := 1) hx hb dX5_handOver_53 (by decide) ?_
    refine lv_iadd hx hb dX5_handOver_54 ?_
    refine rStN hx hb hC hH hS 24 (by decide) (by decide) (i := q) (show q < 12 by omega) dX5_handOver_55 (fun H locs (hH : Wo D k b ad g (up (rhA M q) 24 q (((rhA M q) 24 q) + 1)) o H) hS => ?_)
    have h9 : rhG M q = up (rhA M q) 24 q (((rhA M q) 24 q) + 1) := by unfold rhG; rw [if_neg (show ¬ rhA M q 21 q = -1 from c30)]; rfl
    exact e_wv hx hb hr hlocks hS (by rw [h9]; exact hH) (Nat.le_refl _) (Nat.le_refl _) dX5_handOver_56
  · skip
    refine lv_aload_n hx hb dX5_handOver_33 rfl (lv_at hl 0 rfl) ?_
    refine g5 hx hb hts hown hC hH 23 (by decide) wf_X5_68 (v := .ref (ad (8, 23, 0))) rfl dX5_handOver_34 ?_
    refine lv_iload_n hx hb dX5_handOver_37 rfl (lv_at hl 1 rfl) ?_
    refine lv_dup2_11 hx hb dX5_handOver_38 rfl rfl ?_
    refine rLdN hx hb hC hH 23 (by decide) (by decide) (i := q) (show q < 12 by omega) dX5_handOver_39 ?_
    refine lv_iconst (v := 1) hx hb dX5_handOver_40 (by decide) ?_
    refine lv_iadd hx hb dX5_handOver_41 ?_
    refine rStN hx hb hC hH hS 23 (by decide) (by decide) (i := q) (show q < 12 by omega) dX5_handOver_42 (fun H locs (hH : Wo D k b ad g (up (rhA M q) 23 q (((rhA M q) 23 q) + 1)) o H) hS => ?_)
    refine lv_goto (tgt := 56) hx hb dX5_handOver_43 (by decide) ?_
    have h9 : rhG M q = up (rhA M q) 23 q (((rhA M q) 23 q) + 1) := by unfold rhG; rw [if_pos (show  rhA M q 21 q = -1 from c30)]; rfl
    exact e_wv hx hb hr hlocks hS (by rw [h9]; exact hH) (Nat.le_refl _) (Nat.le_refl _) dX5_handOver_56

set_option maxHeartbeats 4000000 in
set_option maxRecDepth 100000 in
theorem mX5_payRent (l : Launch) {D : va_G} {k : Nat → ClassId} {b : Nat} {ad : Tg → Nat} {g : XS} {M : MF} {o : OF} (i : Nat) (hi : i < 8) (hR : RI M) : Met l yX5_payRent (WS yX5_payRent cX5_payRent 4 none) ({ frames := 2, cells := 0, slots := 0, locals := 42 }) (P0 D k b (Wo D k b ad g M o) [.ref (ad (7, 0, 0)), .int (nI i)]) (Qw b none (Wo D k b ad g (rpG M i) o)) 0 0 (Fb b) := by
  refine Met0 (by decide +kernel) (Nat.le_of_ble_eq_true rfl) (fun p e s m below meth c ls hx hb hr hts hown hml hlocks hnm hC hH hl => ?_)
  have hS : va_S (Fb b) s.heap s.heap [] := va_S.rf
  have hl : lv_has ls 4 [(0, .ref (ad (7, 0, 0))), (1, .int (nI i))] := hl
  refine lv_aload_n hx hb dX5_payRent_0 rfl (lv_at hl 0 rfl) ?_
  refine g5 hx hb hts hown hC hH 15 (by decide) wf_X5_47 (v := .ref (ad (8, 15, 0))) rfl dX5_payRent_1 ?_
  refine lv_iload_n hx hb dX5_payRent_4 rfl (lv_at hl 1 rfl) ?_
  refine rLdN hx hb hC hH 15 (by decide) (by decide) (i := i) (show i < 8 by omega) dX5_payRent_5 ?_
  refine lv_aload_n hx hb dX5_payRent_6 rfl (lv_at hl 0 rfl) ?_
  refine g5 hx hb hts hown hC hH 16 (by decide) wf_X5_50 (v := .ref (ad (8, 16, 0))) rfl dX5_payRent_7 ?_
  refine lv_iload_n hx hb dX5_payRent_10 rfl (lv_at hl 1 rfl) ?_
  refine rLdN hx hb hC hH 16 (by decide) (by decide) (i := i) (show i < 8 by omega) dX5_payRent_11 ?_
  refine lv_aload_n hx hb dX5_payRent_12 rfl (lv_at hl 0 rfl) ?_
  refine lv_iload_n hx hb dX5_payRent_13 rfl (lv_at hl 1 rfl) ?_
  refine k_r (va_runV (As := [.int (nI i)]) (rest := [.int (M 16 i), .int (M 15 i)]) ⟨hx, hb, hml, hown, hts⟩ (mX5_isOn l (M := M) i (by omega)) ⟨cb_of hts wk_X5_isOn wi_X5 wm_X5_111 sd_X5_isOn rfl rfl ⟨Nat.le_of_ble_eq_true rfl, Nat.le_of_ble_eq_true rfl⟩, hts _ wv_X5_isOn, hts _ wl_X5_isOn⟩ (P0.preV hC hS hH (Hp.recv hC.1 hH (7, 0, 0) ⟨rfl, rfl⟩ rfl rfl)) rfl rfl hl.1 rfl (lv_room (Nat.le_of_ble_eq_true rfl)) dX5_payRent_14 ⟨Nat.le_of_ble_eq_true rfl, Nat.le_of_ble_eq_true rfl⟩) ?_
  refine W.eq (g2 := F0 m 17 ls [.int (b2 (roB M i)), .int (M 16 i), .int (M 15 i)]) rfl ?_
  refine lv_if_eq (tgt := 28) hx hb dX5_payRent_17 (by decide) (fun c17 => ?_) (fun c17 => ?_)
  · skip
    have c17 := b2_0.mp c17
    refine lv_iconst (v := 0) hx hb dX5_payRent_28 (by decide) ?_
    refine lv_imul hx hb dX5_payRent_29 ?_
    refine lv_iadd hx hb dX5_payRent_30 ?_
    have h5 : rsm M i = (M 15 i) + ((M 16 i) * 0) := by simp [rsm, c17]
    refine W.eq (g2 := F0 m 31 ls [.int (rsm M i)]) (by rw [h5]) ?_
    refine lv_istore_n (lv' := [(2, .int (rsm M i)), (0, .ref (ad (7, 0, 0))), (1, .int (nI i))]) hx hb dX5_payRent_31 rfl hl (by decide) rfl (fun ls hl => ?_)
    refine lv_iload_n hx hb dX5_payRent_32 rfl (lv_at hl 0 rfl) ?_
    refine lv_aload_n hx hb dX5_payRent_33 rfl (lv_at hl 1 rfl) ?_
    refine g5 hx hb hts hown hC hH 14 (by decide) wf_X5_44 (v := .ref (ad (8, 14, 0))) rfl dX5_payRent_34 ?_
    refine lv_iload_n hx hb dX5_payRent_37 rfl (lv_at hl 2 rfl) ?_
    refine rLdN hx hb hC hH 14 (by decide) (by decide) (i := i) (show i < 8 by omega) dX5_payRent_38 ?_
    refine lv_imul hx hb dX5_payRent_39 ?_
    refine lv_bipush (v := 10) hx hb dX5_payRent_40 (by decide) ?_
    refine lv_idiv hx hb dX5_payRent_42 (by decide) ?_
    refine lv_istore_n (lv' := [(3, .int (((rsm M i) * (M 14 i)) / 10)), (2, .int (rsm M i)), (0, .ref (ad (7, 0, 0))), (1, .int (nI i))]) hx hb dX5_payRent_43 rfl hl (by decide) rfl (fun ls hl => ?_)
    refine lv_aload_n hx hb dX5_payRent_44 rfl (lv_at hl 2 rfl) ?_
    refine g5 hx hb hts hown hC hH 25 (by decide) wf_X5_74 (v := .ref (ad (8, 25, 0))) rfl dX5_payRent_45 ?_
    refine lv_aload_n hx hb dX5_payRent_48 rfl (lv_at hl 2 rfl) ?_
    refine g5 hx hb hts hown hC hH 12 (by decide) wf_X5_38 (v := .ref (ad (8, 12, 0))) rfl dX5_payRent_49 ?_
    refine lv_iload_n hx hb dX5_payRent_52 rfl (lv_at hl 3 rfl) ?_
    refine rLdN hx hb hC hH 12 (by decide) (by decide) (i := i) (show i < 8 by omega) dX5_payRent_53 ?_
    refine lv_dup2_11 hx hb dX5_payRent_54 rfl rfl ?_
    refine rLd hx hb hC hH 25 (by decide) (by decide) (show vp_in (M 12 i) 6 from (hR.2.2.2.2.2 i hi).1) dX5_payRent_55 ?_
    refine lv_iload_n hx hb dX5_payRent_56 rfl (lv_at hl 0 rfl) ?_
    refine lv_iadd hx hb dX5_payRent_57 ?_
    refine rSt hx hb hC hH hS 25 (by decide) (by decide) (show vp_in (M 12 i) 6 from (hR.2.2.2.2.2 i hi).1) dX5_payRent_58 (fun H locs (hH : Wo D k b ad g (up M 25 ((M 12 i).toNatClampNeg) ((M 25 ((M 12 i).toNatClampNeg)) + (((rsm M i) * (M 14 i)) / 10))) o H) hS => ?_)
    have hH : Wo D k b ad g (rpA M i) o H := hH
    refine lv_aload_n hx hb dX5_payRent_59 rfl (lv_at hl 2 rfl) ?_
    refine g5 hx hb hts hown hC hH 13 (by decide) wf_X5_41 (v := .ref (ad (8, 13, 0))) rfl dX5_payRent_60 ?_
    refine lv_iload_n hx hb dX5_payRent_63 rfl (lv_at hl 3 rfl) ?_
    refine rLdN hx hb hC hH 13 (by decide) (by decide) (i := i) (show i < 8 by omega) dX5_payRent_64 ?_
    refine W.eq (g2 := F0 m 65 ls [.int (M 13 i)]) (by rw [rpA_o (by decide)]) ?_
    refine lv_iconst (v := (-1)) hx hb dX5_payRent_65 (by decide) ?_
    refine lv_icmp_eq (tgt := 86) hx hb dX5_payRent_66 (by decide) (fun c66 => ?_) (fun c66 => ?_)
    · skip
      have h9 : rpG M i = (rpA M i) := by unfold rpG; rw [if_pos c66]
      exact e_wv hx hb hr hlocks hS (by rw [h9]; exact hH) (Nat.le_refl _) (Nat.le_refl _) dX5_payRent_86
    · skip
      refine lv_aload_n hx hb dX5_payRent_69 rfl (lv_at hl 2 rfl) ?_
      refine g5 hx hb hts hown hC hH 25 (by decide) wf_X5_74 (v := .ref (ad (8, 25, 0))) rfl dX5_payRent_70 ?_
      refine lv_aload_n hx hb dX5_payRent_73 rfl (lv_at hl 2 rfl) ?_
      refine g5 hx hb hts hown hC hH 13 (by decide) wf_X5_41 (v := .ref (ad (8, 13, 0))) rfl dX5_payRent_74 ?_
      refine lv_iload_n hx hb dX5_payRent_77 rfl (lv_at hl 3 rfl) ?_
      refine rLdN hx hb hC hH 13 (by decide) (by decide) (i := i) (show i < 8 by omega) dX5_payRent_78 ?_
      refine W.eq (g2 := F0 m 79 ls [.int (M 13 i), .ref (ad (8, 25, 0))]) (by rw [rpA_o (by decide)]) ?_
      refine lv_dup2_11 hx hb dX5_payRent_79 rfl rfl ?_
      refine rLd hx hb hC hH 25 (by decide) (by decide) (show vp_in (M 13 i) 6 from (hR.2.2.2.2.2 i hi).2.resolve_left c66) dX5_payRent_80 ?_
      refine lv_iload_n hx hb dX5_payRent_81 rfl (lv_at hl 1 rfl) ?_
      refine lv_iload_n hx hb dX5_payRent_82 rfl (lv_at hl 0 rfl) ?_
      refine lv_isub hx hb dX5_payRent_83 ?_
      refine lv_iadd hx hb dX5_payRent_84 ?_
      refine rSt hx hb hC hH hS 25 (by decide) (by decide) (show vp_in (M 13 i) 6 from (hR.2.2.2.2.2 i hi).2.resolve_left c66) dX5_payRent_85 (fun H locs (hH : Wo D k b ad g (up (rpA M i) 25 ((M 13 i).toNatClampNeg) (((rpA M i) 25 ((M 13 i).toNatClampNeg)) + ((rsm M i) - (((rsm M i) * (M 14 i)) / 10)))) o H) hS => ?_)
      have h9 : rpG M i = up (rpA M i) 25 ((M 13 i).toNatClampNeg) (((rpA M i) 25 ((M 13 i).toNatClampNeg)) + ((rsm M i) - (((rsm M i) * (M 14 i)) / 10))) := by unfold rpG; rw [if_neg c66]
      exact e_wv hx hb hr hlocks hS (by rw [h9]; exact hH) (Nat.le_refl _) (Nat.le_refl _) dX5_payRent_86
  · skip
    have c17 := b2_n0.mp c17
    refine lv_aload_n hx hb dX5_payRent_20 rfl (lv_at hl 0 rfl) ?_
    refine lv_iload_n hx hb dX5_payRent_21 rfl (lv_at hl 1 rfl) ?_
    refine k_r (va_runV (As := [.int (nI i)]) (rest := [.int (M 16 i), .int (M 15 i)]) ⟨hx, hb, hml, hown, hts⟩ (mX5_carries l (M := M) hR (nI i)) ⟨cb_of hts wk_X5_carries wi_X5 wm_X5_118 sd_X5_carries rfl rfl ⟨Nat.le_of_ble_eq_true rfl, Nat.le_of_ble_eq_true rfl⟩, hts _ wv_X5_carries, hts _ wl_X5_carries⟩ (P0.preV hC hS hH (Hp.recv hC.1 hH (7, 0, 0) ⟨rfl, rfl⟩ rfl rfl)) rfl rfl hl.1 rfl (lv_room (Nat.le_of_ble_eq_true rfl)) dX5_payRent_22 ⟨Nat.le_of_ble_eq_true rfl, Nat.le_of_ble_eq_true rfl⟩) ?_
    refine W.eq (g2 := F0 m 25 ls [.int (caI M (nI i) (pN M)), .int (M 16 i), .int (M 15 i)]) rfl ?_
    refine lv_goto (tgt := 29) hx hb dX5_payRent_25 (by decide) ?_
    refine lv_imul hx hb dX5_payRent_29 ?_
    refine lv_iadd hx hb dX5_payRent_30 ?_
    have h5 : rsm M i = (M 15 i) + ((M 16 i) * (caI M (nI i) (pN M))) := by simp [rsm, c17]
    refine W.eq (g2 := F0 m 31 ls [.int (rsm M i)]) (by rw [h5]) ?_
    refine lv_istore_n (lv' := [(2, .int (rsm M i)), (0, .ref (ad (7, 0, 0))), (1, .int (nI i))]) hx hb dX5_payRent_31 rfl hl (by decide) rfl (fun ls hl => ?_)
    refine lv_iload_n hx hb dX5_payRent_32 rfl (lv_at hl 0 rfl) ?_
    refine lv_aload_n hx hb dX5_payRent_33 rfl (lv_at hl 1 rfl) ?_
    refine g5 hx hb hts hown hC hH 14 (by decide) wf_X5_44 (v := .ref (ad (8, 14, 0))) rfl dX5_payRent_34 ?_
    refine lv_iload_n hx hb dX5_payRent_37 rfl (lv_at hl 2 rfl) ?_
    refine rLdN hx hb hC hH 14 (by decide) (by decide) (i := i) (show i < 8 by omega) dX5_payRent_38 ?_
    refine lv_imul hx hb dX5_payRent_39 ?_
    refine lv_bipush (v := 10) hx hb dX5_payRent_40 (by decide) ?_
    refine lv_idiv hx hb dX5_payRent_42 (by decide) ?_
    refine lv_istore_n (lv' := [(3, .int (((rsm M i) * (M 14 i)) / 10)), (2, .int (rsm M i)), (0, .ref (ad (7, 0, 0))), (1, .int (nI i))]) hx hb dX5_payRent_43 rfl hl (by decide) rfl (fun ls hl => ?_)
    refine lv_aload_n hx hb dX5_payRent_44 rfl (lv_at hl 2 rfl) ?_
    refine g5 hx hb hts hown hC hH 25 (by decide) wf_X5_74 (v := .ref (ad (8, 25, 0))) rfl dX5_payRent_45 ?_
    refine lv_aload_n hx hb dX5_payRent_48 rfl (lv_at hl 2 rfl) ?_
    refine g5 hx hb hts hown hC hH 12 (by decide) wf_X5_38 (v := .ref (ad (8, 12, 0))) rfl dX5_payRent_49 ?_
    refine lv_iload_n hx hb dX5_payRent_52 rfl (lv_at hl 3 rfl) ?_
    refine rLdN hx hb hC hH 12 (by decide) (by decide) (i := i) (show i < 8 by omega) dX5_payRent_53 ?_
    refine lv_dup2_11 hx hb dX5_payRent_54 rfl rfl ?_
    refine rLd hx hb hC hH 25 (by decide) (by decide) (show vp_in (M 12 i) 6 from (hR.2.2.2.2.2 i hi).1) dX5_payRent_55 ?_
    refine lv_iload_n hx hb dX5_payRent_56 rfl (lv_at hl 0 rfl) ?_
    refine lv_iadd hx hb dX5_payRent_57 ?_
    refine rSt hx hb hC hH hS 25 (by decide) (by decide) (show vp_in (M 12 i) 6 from (hR.2.2.2.2.2 i hi).1) dX5_payRent_58 (fun H locs (hH : Wo D k b ad g (up M 25 ((M 12 i).toNatClampNeg) ((M 25 ((M 12 i).toNatClampNeg)) + (((rsm M i) * (M 14 i)) / 10))) o H) hS => ?_)
    have hH : Wo D k b ad g (rpA M i) o H := hH
    refine lv_aload_n hx hb dX5_payRent_59 rfl (lv_at hl 2 rfl) ?_
    refine g5 hx hb hts hown hC hH 13 (by decide) wf_X5_41 (v := .ref (ad (8, 13, 0))) rfl dX5_payRent_60 ?_
    refine lv_iload_n hx hb dX5_payRent_63 rfl (lv_at hl 3 rfl) ?_
    refine rLdN hx hb hC hH 13 (by decide) (by decide) (i := i) (show i < 8 by omega) dX5_payRent_64 ?_
    refine W.eq (g2 := F0 m 65 ls [.int (M 13 i)]) (by rw [rpA_o (by decide)]) ?_
    refine lv_iconst (v := (-1)) hx hb dX5_payRent_65 (by decide) ?_
    refine lv_icmp_eq (tgt := 86) hx hb dX5_payRent_66 (by decide) (fun c66 => ?_) (fun c66 => ?_)
    · skip
      have h9 : rpG M i = (rpA M i) := by unfold rpG; rw [if_pos c66]
      exact e_wv hx hb hr hlocks hS (by rw [h9]; exact hH) (Nat.le_refl _) (Nat.le_refl _) dX5_payRent_86
    · skip
      refine lv_aload_n hx hb dX5_payRent_69 rfl (lv_at hl 2 rfl) ?_
      refine g5 hx hb hts hown hC hH 25 (by decide) wf_X5_74 (v := .ref (ad (8, 25, 0))) rfl dX5_payRent_70 ?_
      refine lv_aload_n hx hb dX5_payRent_73 rfl (lv_at hl 2 rfl) ?_
      refine g5 hx hb hts hown hC hH 13 (by decide) wf_X5_41 (v := .ref (ad (8, 13, 0))) rfl dX5_payRent_74 ?_
      refine lv_iload_n hx hb dX5_payRent_77 rfl (lv_at hl 3 rfl) ?_
      refine rLdN hx hb hC hH 13 (by decide) (by decide) (i := i) (show i < 8 by omega) dX5_payRent_78 ?_
      refine W.eq (g2 := F0 m 79 ls [.int (M 13 i), .ref (ad (8, 25, 0))]) (by rw [rpA_o (by decide)]) ?_
      refine lv_dup2_11 hx hb dX5_payRent_79 rfl rfl ?_
      refine rLd hx hb hC hH 25 (by decide) (by decide) (show vp_in (M 13 i) 6 from (hR.2.2.2.2.2 i hi).2.resolve_left c66) dX5_payRent_80 ?_
      refine lv_iload_n hx hb dX5_payRent_81 rfl (lv_at hl 1 rfl) ?_
      refine lv_iload_n hx hb dX5_payRent_82 rfl (lv_at hl 0 rfl) ?_
      refine lv_isub hx hb dX5_payRent_83 ?_
      refine lv_iadd hx hb dX5_payRent_84 ?_
      refine rSt hx hb hC hH hS 25 (by decide) (by decide) (show vp_in (M 13 i) 6 from (hR.2.2.2.2.2 i hi).2.resolve_left c66) dX5_payRent_85 (fun H locs (hH : Wo D k b ad g (up (rpA M i) 25 ((M 13 i).toNatClampNeg) (((rpA M i) 25 ((M 13 i).toNatClampNeg)) + ((rsm M i) - (((rsm M i) * (M 14 i)) / 10)))) o H) hS => ?_)
      have h9 : rpG M i = up (rpA M i) 25 ((M 13 i).toNatClampNeg) (((rpA M i) 25 ((M 13 i).toNatClampNeg)) + ((rsm M i) - (((rsm M i) * (M 14 i)) / 10))) := by unfold rpG; rw [if_neg c66]
      exact e_wv hx hb hr hlocks hS (by rw [h9]; exact hH) (Nat.le_refl _) (Nat.le_refl _) dX5_payRent_86

set_option maxHeartbeats 4000000 in
set_option maxRecDepth 100000 in
theorem mX5_power (l : Launch) {D : va_G} {k : Nat → ClassId} {b : Nat} {ad : Tg → Nat} {g : XS} {M : MF} {o : OF} (i : Nat) (hi : i < 8) (hR : RI M) : Met l yX5_power (WS yX5_power cX5_power 5 none) ({ frames := 1, cells := 0, slots := 0, locals := 23 }) (P0 D k b (Wo D k b ad g M o) [.ref (ad (7, 0, 0)), .int (nI i)]) (Qw b none (Wo D k b ad g (rwG M i) o)) 0 0 (Fb b) := by
  refine Met0 (by decide +kernel) (Nat.le_of_ble_eq_true rfl) (fun p e s m below meth c ls hx hb hr hts hown hml hlocks hnm hC hH hl => ?_)
  have hS : va_S (Fb b) s.heap s.heap [] := va_S.rf
  have hl : lv_has ls 5 [(0, .ref (ad (7, 0, 0))), (1, .int (nI i))] := hl
  refine lv_aload_n hx hb dX5_power_0 rfl (lv_at hl 0 rfl) ?_
  refine g5 hx hb hts hown hC hH 6 (by decide) wf_X5_19 (v := .ref (ad (8, 6, 0))) rfl dX5_power_1 ?_
  refine lv_iload_n hx hb dX5_power_4 rfl (lv_at hl 1 rfl) ?_
  refine rLdN hx hb hC hH 6 (by decide) (by decide) (i := i) (show i < 8 by omega) dX5_power_5 ?_
  refine lv_aload_n hx hb dX5_power_6 rfl (lv_at hl 0 rfl) ?_
  refine g5 hx hb hts hown hC hH 1 (by decide) wf_X5_108 (v := .int (M 1 0)) rfl dX5_power_7 ?_
  refine lv_imul hx hb dX5_power_10 ?_
  refine lv_aload_n hx hb dX5_power_11 rfl (lv_at hl 0 rfl) ?_
  refine g5 hx hb hts hown hC hH 9 (by decide) wf_X5_29 (v := .ref (ad (8, 9, 0))) rfl dX5_power_12 ?_
  refine lv_iload_n hx hb dX5_power_15 rfl (lv_at hl 1 rfl) ?_
  refine rLdN hx hb hC hH 9 (by decide) (by decide) (i := i) (show i < 8 by omega) dX5_power_16 ?_
  refine lv_iadd hx hb dX5_power_17 ?_
  refine W.eq (g2 := F0 m 18 ls [.int (rhas M i)]) rfl ?_
  refine lv_istore_n (lv' := [(2, .int (rhas M i)), (0, .ref (ad (7, 0, 0))), (1, .int (nI i))]) hx hb dX5_power_18 rfl hl (by decide) rfl (fun ls hl => ?_)
  refine lv_iconst (v := 2) hx hb dX5_power_19 (by decide) ?_
  refine lv_aload_n hx hb dX5_power_20 rfl (lv_at hl 1 rfl) ?_
  refine lv_iload_n hx hb dX5_power_21 rfl (lv_at hl 2 rfl) ?_
  refine k_r (va_runV (As := [.int (nI i)]) (rest := [.int 2]) ⟨hx, hb, hml, hown, hts⟩ (mX5_carries l (M := M) hR (nI i)) ⟨cb_of hts wk_X5_carries wi_X5 wm_X5_118 sd_X5_carries rfl rfl ⟨Nat.le_of_ble_eq_true rfl, Nat.le_of_ble_eq_true rfl⟩, hts _ wv_X5_carries, hts _ wl_X5_carries⟩ (P0.preV hC hS hH (Hp.recv hC.1 hH (7, 0, 0) ⟨rfl, rfl⟩ rfl rfl)) rfl rfl hl.1 rfl (lv_room (Nat.le_of_ble_eq_true rfl)) dX5_power_22 ⟨Nat.le_of_ble_eq_true rfl, Nat.le_of_ble_eq_true rfl⟩) ?_
  refine W.eq (g2 := F0 m 25 ls [.int (caI M (nI i) (pN M)), .int 2]) rfl ?_
  refine lv_iadd hx hb dX5_power_25 ?_
  refine W.eq (g2 := F0 m 26 ls [.int (rnds M i)]) rfl ?_
  refine lv_istore_n (lv' := [(3, .int (rnds M i)), (2, .int (rhas M i)), (0, .ref (ad (7, 0, 0))), (1, .int (nI i))]) hx hb dX5_power_26 rfl hl (by decide) rfl (fun ls hl => ?_)
  refine lv_aload_n hx hb dX5_power_27 rfl (lv_at hl 2 rfl) ?_
  refine g5 hx hb hts hown hC hH 10 (by decide) wf_X5_32 (v := .ref (ad (8, 10, 0))) rfl dX5_power_28 ?_
  refine lv_iload_n hx hb dX5_power_31 rfl (lv_at hl 3 rfl) ?_
  refine lv_iload_n hx hb dX5_power_32 rfl (lv_at hl 1 rfl) ?_
  refine lv_iload_n hx hb dX5_power_33 rfl (lv_at hl 0 rfl) ?_
  refine lv_icmp_ge (tgt := 50) hx hb dX5_power_34 (by decide) (fun c34 => ?_) (fun c34 => ?_)
  · skip
    have c34x := Int32.not_lt.mpr c34
    refine lv_iconst (v := 0) hx hb dX5_power_50 (by decide) ?_
    refine rSzN hx hb hC hH hS 10 (by decide) (by decide) (i := i) (show i < 8 by omega) rfl dX5_power_51 (fun H locs (hH : Wo D k b ad g (up M 10 i 0) o H) hS => ?_)
    refine lv_aload_n hx hb dX5_power_52 rfl (lv_at hl 2 rfl) ?_
    refine g5 hx hb hts hown hC hH 10 (by decide) wf_X5_32 (v := .ref (ad (8, 10, 0))) rfl dX5_power_53 ?_
    refine lv_iload_n hx hb dX5_power_56 rfl (lv_at hl 3 rfl) ?_
    refine rLzN hx hb hC hH 10 (by decide) (by decide) (i := i) (show i < 8 by omega) dX5_power_57 ?_
    refine W.eq (g2 := F0 m 58 ls [.int 0]) (by simp [up]) ?_
    refine lv_if_eq (tgt := 65) hx hb dX5_power_58 (by decide) (fun _ => ?_) (fun c => absurd c (by decide))
    refine lv_iload_n hx hb dX5_power_65 rfl (lv_at hl 1 rfl) ?_
    refine lv_iload_n hx hb dX5_power_66 rfl (lv_at hl 0 rfl) ?_
    refine lv_icmp_ge (tgt := 74) hx hb dX5_power_67 (by decide) (fun _ => ?_) (fun c => absurd c34 c)
    refine lv_iload_n hx hb dX5_power_74 rfl (lv_at hl 1 rfl) ?_
    refine lv_iload_n hx hb dX5_power_75 rfl (lv_at hl 0 rfl) ?_
    refine lv_isub hx hb dX5_power_76 ?_
    refine lv_istore (lv' := [(4, .int ((rhas M i) - (rnds M i))), (3, .int (rnds M i)), (2, .int (rhas M i)), (0, .ref (ad (7, 0, 0))), (1, .int (nI i))]) hx hb dX5_power_77 hl (by decide) rfl (fun ls hl => ?_)
    refine lv_aload_n hx hb dX5_power_79 rfl (lv_at hl 3 rfl) ?_
    refine g5 hx hb hts hown hC hH 17 (by decide) wf_X5_53 (v := .ref (ad (8, 17, 0))) rfl dX5_power_80 ?_
    refine lv_iload_n hx hb dX5_power_83 rfl (lv_at hl 4 rfl) ?_
    refine lv_dup2_11 hx hb dX5_power_84 rfl rfl ?_
    refine rLdN hx hb hC hH 17 (by decide) (by decide) (i := i) (show i < 8 by omega) dX5_power_85 ?_
    refine W.eq (g2 := F0 m 86 ls [.int (M 17 i), .int (nI i), .ref (ad (8, 17, 0))]) (by simp [up]) ?_
    refine lv_iload_n hx hb dX5_power_86 rfl (lv_at hl 2 rfl) ?_
    refine lv_iload_n hx hb dX5_power_87 rfl (lv_at hl 1 rfl) ?_
    refine lv_icmp_ge (tgt := 106) hx hb dX5_power_88 (by decide) (fun _ => ?_) (fun c => absurd c34 c)
    refine lv_iconst (v := 0) hx hb dX5_power_106 (by decide) ?_
    refine lv_iadd hx hb dX5_power_107 ?_
    refine rStN hx hb hC hH hS 17 (by decide) (by decide) (i := i) (show i < 8 by omega) dX5_power_108 (fun H locs (hH : Wo D k b ad g (up (up M 10 i 0) 17 i ((M 17 i) + 0)) o H) hS => ?_)
    refine lv_aload_n hx hb dX5_power_109 rfl (lv_at hl 3 rfl) ?_
    refine g5 hx hb hts hown hC hH 9 (by decide) wf_X5_29 (v := .ref (ad (8, 9, 0))) rfl dX5_power_110 ?_
    refine lv_iload_n hx hb dX5_power_113 rfl (lv_at hl 4 rfl) ?_
    refine lv_iload hx hb dX5_power_114 (lv_at hl 0 rfl) ?_
    refine lv_aload_n hx hb dX5_power_116 rfl (lv_at hl 3 rfl) ?_
    refine g5 hx hb hts hown hC hH 7 (by decide) wf_X5_22 (v := .ref (ad (8, 7, 0))) rfl dX5_power_117 ?_
    refine lv_iload_n hx hb dX5_power_120 rfl (lv_at hl 4 rfl) ?_
    refine rLdN hx hb hC hH 7 (by decide) (by decide) (i := i) (show i < 8 by omega) dX5_power_121 ?_
    refine W.eq (g2 := F0 m 122 ls [.int (M 7 i), .int ((rhas M i) - (rnds M i)), .int (nI i), .ref (ad (8, 9, 0))]) (by simp [up]) ?_
    refine lv_icmp_le (tgt := 134) hx hb dX5_power_122 (by decide) (fun c122 => ?_) (fun c122 => ?_)
    · skip
      have c122x := Int32.not_lt.mpr c122
      refine lv_iload hx hb dX5_power_134 (lv_at hl 0 rfl) ?_
      refine rStN hx hb hC hH hS 9 (by decide) (by decide) (i := i) (show i < 8 by omega) dX5_power_136 (fun H locs (hH : Wo D k b ad g (up (up (up M 10 i 0) 17 i ((M 17 i) + 0)) 9 i ((rhas M i) - (rnds M i))) o H) hS => ?_)
      have h9 : rwG M i = up (up (up M 10 i 0) 17 i ((M 17 i) + 0)) 9 i ((rhas M i) - (rnds M i)) := by simp [rwG, rwo, rkp, b2, c34, c34x, c122, c122x]
      exact e_wv hx hb hr hlocks hS (by rw [h9]; exact hH) (Nat.le_refl _) (Nat.le_refl _) dX5_power_137
    · skip
      have c122x := Int32.not_le.mp c122
      refine lv_aload_n hx hb dX5_power_125 rfl (lv_at hl 3 rfl) ?_
      refine g5 hx hb hts hown hC hH 7 (by decide) wf_X5_22 (v := .ref (ad (8, 7, 0))) rfl dX5_power_126 ?_
      refine lv_iload_n hx hb dX5_power_129 rfl (lv_at hl 4 rfl) ?_
      refine rLdN hx hb hC hH 7 (by decide) (by decide) (i := i) (show i < 8 by omega) dX5_power_130 ?_
      refine W.eq (g2 := F0 m 131 ls [.int (M 7 i), .int (nI i), .ref (ad (8, 9, 0))]) (by simp [up]) ?_
      refine lv_goto (tgt := 136) hx hb dX5_power_131 (by decide) ?_
      refine rStN hx hb hC hH hS 9 (by decide) (by decide) (i := i) (show i < 8 by omega) dX5_power_136 (fun H locs (hH : Wo D k b ad g (up (up (up M 10 i 0) 17 i ((M 17 i) + 0)) 9 i (M 7 i)) o H) hS => ?_)
      have h9 : rwG M i = up (up (up M 10 i 0) 17 i ((M 17 i) + 0)) 9 i (M 7 i) := by simp [rwG, rwo, rkp, b2, c34, c34x, c122, c122x]
      exact e_wv hx hb hr hlocks hS (by rw [h9]; exact hH) (Nat.le_refl _) (Nat.le_refl _) dX5_power_137
  · skip
    have c34x := Int32.not_le.mp c34
    refine lv_aload_n hx hb dX5_power_37 rfl (lv_at hl 2 rfl) ?_
    refine g5 hx hb hts hown hC hH 8 (by decide) wf_X5_25 (v := .ref (ad (8, 8, 0))) rfl dX5_power_38 ?_
    refine lv_iload_n hx hb dX5_power_41 rfl (lv_at hl 3 rfl) ?_
    refine rLzN hx hb hC hH 8 (by decide) (by decide) (i := i) (show i < 8 by omega) dX5_power_42 ?_
    refine lv_if_ne (tgt := 50) hx hb dX5_power_43 (by decide) (fun c43 => ?_) (fun c43 => ?_)
    · skip
      refine lv_iconst (v := 0) hx hb dX5_power_50 (by decide) ?_
      refine rSzN hx hb hC hH hS 10 (by decide) (by decide) (i := i) (show i < 8 by omega) rfl dX5_power_51 (fun H locs (hH : Wo D k b ad g (up M 10 i 0) o H) hS => ?_)
      refine lv_aload_n hx hb dX5_power_52 rfl (lv_at hl 2 rfl) ?_
      refine g5 hx hb hts hown hC hH 10 (by decide) wf_X5_32 (v := .ref (ad (8, 10, 0))) rfl dX5_power_53 ?_
      refine lv_iload_n hx hb dX5_power_56 rfl (lv_at hl 3 rfl) ?_
      refine rLzN hx hb hC hH 10 (by decide) (by decide) (i := i) (show i < 8 by omega) dX5_power_57 ?_
      refine W.eq (g2 := F0 m 58 ls [.int 0]) (by simp [up]) ?_
      refine lv_if_eq (tgt := 65) hx hb dX5_power_58 (by decide) (fun _ => ?_) (fun c => absurd c (by decide))
      refine lv_iload_n hx hb dX5_power_65 rfl (lv_at hl 1 rfl) ?_
      refine lv_iload_n hx hb dX5_power_66 rfl (lv_at hl 0 rfl) ?_
      refine lv_icmp_ge (tgt := 74) hx hb dX5_power_67 (by decide) (fun c => absurd c c34) (fun _ => ?_)
      refine lv_iconst (v := 0) hx hb dX5_power_70 (by decide) ?_
      refine lv_goto (tgt := 77) hx hb dX5_power_71 (by decide) ?_
      refine lv_istore (lv' := [(4, .int 0), (3, .int (rnds M i)), (2, .int (rhas M i)), (0, .ref (ad (7, 0, 0))), (1, .int (nI i))]) hx hb dX5_power_77 hl (by decide) rfl (fun ls hl => ?_)
      refine lv_aload_n hx hb dX5_power_79 rfl (lv_at hl 3 rfl) ?_
      refine g5 hx hb hts hown hC hH 17 (by decide) wf_X5_53 (v := .ref (ad (8, 17, 0))) rfl dX5_power_80 ?_
      refine lv_iload_n hx hb dX5_power_83 rfl (lv_at hl 4 rfl) ?_
      refine lv_dup2_11 hx hb dX5_power_84 rfl rfl ?_
      refine rLdN hx hb hC hH 17 (by decide) (by decide) (i := i) (show i < 8 by omega) dX5_power_85 ?_
      refine W.eq (g2 := F0 m 86 ls [.int (M 17 i), .int (nI i), .ref (ad (8, 17, 0))]) (by simp [up]) ?_
      refine lv_iload_n hx hb dX5_power_86 rfl (lv_at hl 2 rfl) ?_
      refine lv_iload_n hx hb dX5_power_87 rfl (lv_at hl 1 rfl) ?_
      refine lv_icmp_ge (tgt := 106) hx hb dX5_power_88 (by decide) (fun c => absurd c c34) (fun _ => ?_)
      refine lv_aload_n hx hb dX5_power_91 rfl (lv_at hl 3 rfl) ?_
      refine g5 hx hb hts hown hC hH 8 (by decide) wf_X5_25 (v := .ref (ad (8, 8, 0))) rfl dX5_power_92 ?_
      refine lv_iload_n hx hb dX5_power_95 rfl (lv_at hl 4 rfl) ?_
      refine rLzN hx hb hC hH 8 (by decide) (by decide) (i := i) (show i < 8 by omega) dX5_power_96 ?_
      refine W.eq (g2 := F0 m 97 ls [.int (M 8 i), .int (M 17 i), .int (nI i), .ref (ad (8, 17, 0))]) (by simp [up]) ?_
      refine lv_if_eq (tgt := 106) hx hb dX5_power_97 (by decide) (fun c => absurd c c43) (fun _ => ?_)
      refine lv_iload_n hx hb dX5_power_100 rfl (lv_at hl 1 rfl) ?_
      refine lv_iload_n hx hb dX5_power_101 rfl (lv_at hl 2 rfl) ?_
      refine lv_isub hx hb dX5_power_102 ?_
      refine lv_goto (tgt := 107) hx hb dX5_power_103 (by decide) ?_
      refine lv_iadd hx hb dX5_power_107 ?_
      refine rStN hx hb hC hH hS 17 (by decide) (by decide) (i := i) (show i < 8 by omega) dX5_power_108 (fun H locs (hH : Wo D k b ad g (up (up M 10 i 0) 17 i ((M 17 i) + ((rnds M i) - (rhas M i)))) o H) hS => ?_)
      refine lv_aload_n hx hb dX5_power_109 rfl (lv_at hl 3 rfl) ?_
      refine g5 hx hb hts hown hC hH 9 (by decide) wf_X5_29 (v := .ref (ad (8, 9, 0))) rfl dX5_power_110 ?_
      refine lv_iload_n hx hb dX5_power_113 rfl (lv_at hl 4 rfl) ?_
      refine lv_iload hx hb dX5_power_114 (lv_at hl 0 rfl) ?_
      refine lv_aload_n hx hb dX5_power_116 rfl (lv_at hl 3 rfl) ?_
      refine g5 hx hb hts hown hC hH 7 (by decide) wf_X5_22 (v := .ref (ad (8, 7, 0))) rfl dX5_power_117 ?_
      refine lv_iload_n hx hb dX5_power_120 rfl (lv_at hl 4 rfl) ?_
      refine rLdN hx hb hC hH 7 (by decide) (by decide) (i := i) (show i < 8 by omega) dX5_power_121 ?_
      refine W.eq (g2 := F0 m 122 ls [.int (M 7 i), .int 0, .int (nI i), .ref (ad (8, 9, 0))]) (by simp [up]) ?_
      refine lv_icmp_le (tgt := 134) hx hb dX5_power_122 (by decide) (fun c122 => ?_) (fun c122 => ?_)
      · skip
        have c122x := Int32.not_lt.mpr c122
        refine lv_iload hx hb dX5_power_134 (lv_at hl 0 rfl) ?_
        refine rStN hx hb hC hH hS 9 (by decide) (by decide) (i := i) (show i < 8 by omega) dX5_power_136 (fun H locs (hH : Wo D k b ad g (up (up (up M 10 i 0) 17 i ((M 17 i) + ((rnds M i) - (rhas M i)))) 9 i 0) o H) hS => ?_)
        have h9 : rwG M i = up (up (up M 10 i 0) 17 i ((M 17 i) + ((rnds M i) - (rhas M i)))) 9 i 0 := by simp [rwG, rwo, rkp, b2, c34, c34x, c43, c122, c122x]
        exact e_wv hx hb hr hlocks hS (by rw [h9]; exact hH) (Nat.le_refl _) (Nat.le_refl _) dX5_power_137
      · skip
        have c122x := Int32.not_le.mp c122
        refine lv_aload_n hx hb dX5_power_125 rfl (lv_at hl 3 rfl) ?_
        refine g5 hx hb hts hown hC hH 7 (by decide) wf_X5_22 (v := .ref (ad (8, 7, 0))) rfl dX5_power_126 ?_
        refine lv_iload_n hx hb dX5_power_129 rfl (lv_at hl 4 rfl) ?_
        refine rLdN hx hb hC hH 7 (by decide) (by decide) (i := i) (show i < 8 by omega) dX5_power_130 ?_
        refine W.eq (g2 := F0 m 131 ls [.int (M 7 i), .int (nI i), .ref (ad (8, 9, 0))]) (by simp [up]) ?_
        refine lv_goto (tgt := 136) hx hb dX5_power_131 (by decide) ?_
        refine rStN hx hb hC hH hS 9 (by decide) (by decide) (i := i) (show i < 8 by omega) dX5_power_136 (fun H locs (hH : Wo D k b ad g (up (up (up M 10 i 0) 17 i ((M 17 i) + ((rnds M i) - (rhas M i)))) 9 i (M 7 i)) o H) hS => ?_)
        have h9 : rwG M i = up (up (up M 10 i 0) 17 i ((M 17 i) + ((rnds M i) - (rhas M i)))) 9 i (M 7 i) := by simp [rwG, rwo, rkp, b2, c34, c34x, c43, c122, c122x]
        exact e_wv hx hb hr hlocks hS (by rw [h9]; exact hH) (Nat.le_refl _) (Nat.le_refl _) dX5_power_137
    · skip
      refine lv_iconst (v := 1) hx hb dX5_power_46 (by decide) ?_
      refine lv_goto (tgt := 51) hx hb dX5_power_47 (by decide) ?_
      refine rSzN hx hb hC hH hS 10 (by decide) (by decide) (i := i) (show i < 8 by omega) rfl dX5_power_51 (fun H locs (hH : Wo D k b ad g (up M 10 i 1) o H) hS => ?_)
      refine lv_aload_n hx hb dX5_power_52 rfl (lv_at hl 2 rfl) ?_
      refine g5 hx hb hts hown hC hH 10 (by decide) wf_X5_32 (v := .ref (ad (8, 10, 0))) rfl dX5_power_53 ?_
      refine lv_iload_n hx hb dX5_power_56 rfl (lv_at hl 3 rfl) ?_
      refine rLzN hx hb hC hH 10 (by decide) (by decide) (i := i) (show i < 8 by omega) dX5_power_57 ?_
      refine W.eq (g2 := F0 m 58 ls [.int 1]) (by simp [up]) ?_
      refine lv_if_eq (tgt := 65) hx hb dX5_power_58 (by decide) (fun c => absurd c (by decide)) (fun _ => ?_)
      refine lv_iload_n hx hb dX5_power_61 rfl (lv_at hl 1 rfl) ?_
      refine lv_goto (tgt := 77) hx hb dX5_power_62 (by decide) ?_
      refine lv_istore (lv' := [(4, .int (rhas M i)), (3, .int (rnds M i)), (2, .int (rhas M i)), (0, .ref (ad (7, 0, 0))), (1, .int (nI i))]) hx hb dX5_power_77 hl (by decide) rfl (fun ls hl => ?_)
      refine lv_aload_n hx hb dX5_power_79 rfl (lv_at hl 3 rfl) ?_
      refine g5 hx hb hts hown hC hH 17 (by decide) wf_X5_53 (v := .ref (ad (8, 17, 0))) rfl dX5_power_80 ?_
      refine lv_iload_n hx hb dX5_power_83 rfl (lv_at hl 4 rfl) ?_
      refine lv_dup2_11 hx hb dX5_power_84 rfl rfl ?_
      refine rLdN hx hb hC hH 17 (by decide) (by decide) (i := i) (show i < 8 by omega) dX5_power_85 ?_
      refine W.eq (g2 := F0 m 86 ls [.int (M 17 i), .int (nI i), .ref (ad (8, 17, 0))]) (by simp [up]) ?_
      refine lv_iload_n hx hb dX5_power_86 rfl (lv_at hl 2 rfl) ?_
      refine lv_iload_n hx hb dX5_power_87 rfl (lv_at hl 1 rfl) ?_
      refine lv_icmp_ge (tgt := 106) hx hb dX5_power_88 (by decide) (fun c => absurd c c34) (fun _ => ?_)
      refine lv_aload_n hx hb dX5_power_91 rfl (lv_at hl 3 rfl) ?_
      refine g5 hx hb hts hown hC hH 8 (by decide) wf_X5_25 (v := .ref (ad (8, 8, 0))) rfl dX5_power_92 ?_
      refine lv_iload_n hx hb dX5_power_95 rfl (lv_at hl 4 rfl) ?_
      refine rLzN hx hb hC hH 8 (by decide) (by decide) (i := i) (show i < 8 by omega) dX5_power_96 ?_
      refine W.eq (g2 := F0 m 97 ls [.int (M 8 i), .int (M 17 i), .int (nI i), .ref (ad (8, 17, 0))]) (by simp [up]) ?_
      refine lv_if_eq (tgt := 106) hx hb dX5_power_97 (by decide) (fun _ => ?_) (fun c => absurd c43 c)
      refine lv_iconst (v := 0) hx hb dX5_power_106 (by decide) ?_
      refine lv_iadd hx hb dX5_power_107 ?_
      refine rStN hx hb hC hH hS 17 (by decide) (by decide) (i := i) (show i < 8 by omega) dX5_power_108 (fun H locs (hH : Wo D k b ad g (up (up M 10 i 1) 17 i ((M 17 i) + 0)) o H) hS => ?_)
      refine lv_aload_n hx hb dX5_power_109 rfl (lv_at hl 3 rfl) ?_
      refine g5 hx hb hts hown hC hH 9 (by decide) wf_X5_29 (v := .ref (ad (8, 9, 0))) rfl dX5_power_110 ?_
      refine lv_iload_n hx hb dX5_power_113 rfl (lv_at hl 4 rfl) ?_
      refine lv_iload hx hb dX5_power_114 (lv_at hl 0 rfl) ?_
      refine lv_aload_n hx hb dX5_power_116 rfl (lv_at hl 3 rfl) ?_
      refine g5 hx hb hts hown hC hH 7 (by decide) wf_X5_22 (v := .ref (ad (8, 7, 0))) rfl dX5_power_117 ?_
      refine lv_iload_n hx hb dX5_power_120 rfl (lv_at hl 4 rfl) ?_
      refine rLdN hx hb hC hH 7 (by decide) (by decide) (i := i) (show i < 8 by omega) dX5_power_121 ?_
      refine W.eq (g2 := F0 m 122 ls [.int (M 7 i), .int (rhas M i), .int (nI i), .ref (ad (8, 9, 0))]) (by simp [up]) ?_
      refine lv_icmp_le (tgt := 134) hx hb dX5_power_122 (by decide) (fun c122 => ?_) (fun c122 => ?_)
      · skip
        have c122x := Int32.not_lt.mpr c122
        refine lv_iload hx hb dX5_power_134 (lv_at hl 0 rfl) ?_
        refine rStN hx hb hC hH hS 9 (by decide) (by decide) (i := i) (show i < 8 by omega) dX5_power_136 (fun H locs (hH : Wo D k b ad g (up (up (up M 10 i 1) 17 i ((M 17 i) + 0)) 9 i (rhas M i)) o H) hS => ?_)
        have h9 : rwG M i = up (up (up M 10 i 1) 17 i ((M 17 i) + 0)) 9 i (rhas M i) := by simp [rwG, rwo, rkp, b2, c34, c34x, c43, c122, c122x]
        exact e_wv hx hb hr hlocks hS (by rw [h9]; exact hH) (Nat.le_refl _) (Nat.le_refl _) dX5_power_137
      · skip
        have c122x := Int32.not_le.mp c122
        refine lv_aload_n hx hb dX5_power_125 rfl (lv_at hl 3 rfl) ?_
        refine g5 hx hb hts hown hC hH 7 (by decide) wf_X5_22 (v := .ref (ad (8, 7, 0))) rfl dX5_power_126 ?_
        refine lv_iload_n hx hb dX5_power_129 rfl (lv_at hl 4 rfl) ?_
        refine rLdN hx hb hC hH 7 (by decide) (by decide) (i := i) (show i < 8 by omega) dX5_power_130 ?_
        refine W.eq (g2 := F0 m 131 ls [.int (M 7 i), .int (nI i), .ref (ad (8, 9, 0))]) (by simp [up]) ?_
        refine lv_goto (tgt := 136) hx hb dX5_power_131 (by decide) ?_
        refine rStN hx hb hC hH hS 9 (by decide) (by decide) (i := i) (show i < 8 by omega) dX5_power_136 (fun H locs (hH : Wo D k b ad g (up (up (up M 10 i 1) 17 i ((M 17 i) + 0)) 9 i (M 7 i)) o H) hS => ?_)
        have h9 : rwG M i = up (up (up M 10 i 1) 17 i ((M 17 i) + 0)) 9 i (M 7 i) := by simp [rwG, rwo, rkp, b2, c34, c34x, c43, c122, c122x]
        exact e_wv hx hb hr hlocks hS (by rw [h9]; exact hH) (Nat.le_refl _) (Nat.le_refl _) dX5_power_137
