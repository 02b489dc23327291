/-! THE CLASS: methods that write and make nothing -/
set_option maxHeartbeats 4000000 in
set_option maxRecDepth 100000 in
theorem mX3_comeTo (l : Launch) {D : va_G} {k : Nat → ClassId} {b : Nat} {ad : Tg → Nat} {g : XS} {M : MF} {o : OF} (q i : Nat) (hq : q < g.2.1 1 0) (hi : i < g.2.1 0 0) (a0 : Int32) : Met l yX3_comeTo (WS yX3_comeTo cX3_comeTo 3 none) ({ frames := 0, cells := 0, slots := 0, locals := 0 }) (P0 D k b (Wo D k b ad g M o) [.ref (ad (2, q, 0)), .ref (ad (1, i, 0)), .int a0]) (Qw b none (Wo D k b ad (comG g q i a0) M o)) 0 0 (Fb b) := by
  refine Met0 (by decide +kernel) (Nat.le_of_ble_eq_true rfl) (fun p e s m below meth c ls hx hb hr hts hown hml hlocks hnm hC hH hl => ?_)
  have hS : va_S (Fb b) s.heap s.heap [] := va_S.rf
  have hl : lv_has ls 3 [(0, .ref (ad (2, q, 0))), (1, .ref (ad (1, i, 0))), (2, .int a0)] := hl
  refine lv_aload_n hx hb dX3_comeTo_0 rfl (lv_at hl 1 rfl) ?_
  refine lv_ifnonnull (tgt := 5) hx hb dX3_comeTo_1 (by decide) ?_
  refine lv_aload_n hx hb dX3_comeTo_5 rfl (lv_at hl 0 rfl) ?_
  refine lv_aload_n hx hb dX3_comeTo_6 rfl (lv_at hl 1 rfl) ?_
  refine W.eq (g2 := F0 m 7 ls (va_rf (mrO ad (i + 1)) :: .ref (ad (2, q, 0)) :: [])) (by simp [mrO, va_rf]) ?_
  refine p3C hx hb hts hown hC hH hS q hq wf_X3_15 (i + 1) dX3_comeTo_7 (fun H locs (hH : Wo D k b ad (sn g 3 q (i + 1)) M o H) hS => ?_)
  refine lv_aload_n hx hb dX3_comeTo_10 rfl (lv_at hl 0 rfl) ?_
  refine lv_iload_n hx hb dX3_comeTo_11 rfl (lv_at hl 2 rfl) ?_
  refine p3 hx hb hts hown hC hH hS q hq 2 (by decide) (by decide) rfl wf_X3_24 rfl rfl dX3_comeTo_12 (fun H locs (hH : Wo D k b ad (sx (sn g 3 q (i + 1)) 32 q a0) M o H) hS => ?_)
  refine lv_aload_n hx hb dX3_comeTo_15 rfl (lv_at hl 1 rfl) ?_
  refine lv_dup hx hb dX3_comeTo_16 rfl ?_
  refine g2N hx hb hts hown hC hH i hi 9 (by decide) wf_X3_27 (v := .int (g.1 9 i)) rfl dX3_comeTo_17 ?_
  refine lv_iconst (v := 1) hx hb dX3_comeTo_20 (by decide) ?_
  refine lv_iadd hx hb dX3_comeTo_21 ?_
  refine p2N hx hb hts hown hC hH hS i hi 9 (by decide) (by decide) rfl wf_X3_27 rfl rfl dX3_comeTo_22 (fun H locs (hH : Wo D k b ad (sx (sx (sn g 3 q (i + 1)) 32 q a0) 9 i ((g.1 9 i) + 1)) M o H) hS => ?_)
  exact e_wv hx hb hr hlocks hS (by exact hH) (Nat.le_refl _) (Nat.le_refl _) dX3_comeTo_25

set_option maxHeartbeats 4000000 in
set_option maxRecDepth 100000 in
theorem mX2_takePower (l : Launch) {D : va_G} {k : Nat → ClassId} {b : Nat} {ad : Tg → Nat} {g : XS} {M : MF} {o : OF} (i : Nat) (hi : i < g.2.1 0 0) (a0 : Int32) : Met l yX2_takePower (WS yX2_takePower cX2_takePower 4 none) ({ frames := 1, cells := 0, slots := 0, locals := 14 }) (P0 D k b (Wo D k b ad g M o) [.ref (ad (1, i, 0)), .int a0]) (Qw b none (Wo D k b ad (tkpG g i a0) M o)) 0 0 (Fb b) := by
  refine Met0 (by decide +kernel) (Nat.le_of_ble_eq_true rfl) (fun p e s m below meth c ls hx hb hr hts hown hml hlocks hnm hC hH hl => ?_)
  have hS : va_S (Fb b) s.heap s.heap [] := va_S.rf
  have hl : lv_has ls 4 [(0, .ref (ad (1, i, 0))), (1, .int a0)] := hl
  refine lv_aload_n hx hb dX2_takePower_0 rfl (lv_at hl 0 rfl) ?_
  refine lv_iconst (v := 0) hx hb dX2_takePower_1 (by decide) ?_
  refine p2 hx hb hts hown hC hH hS i hi 8 (by decide) (by decide) rfl wf_X2_38 rfl rfl dX2_takePower_2 (fun H locs (hH : Wo D k b ad (sx g 8 i 0) M o H) hS => ?_)
  refine lv_aload_n hx hb dX2_takePower_5 rfl (lv_at hl 0 rfl) ?_
  refine g2 hx hb hts hown hC hH i hi 7 (by decide) wf_X2_34 (v := va_rf (lsO ad i (g.2.1 2 i))) rfl dX2_takePower_6 ?_
  by_cases c6 : g.2.1 2 i = 0
  · skip
    refine W.eq (g2 := F0 m 9 ls [.null]) (by simp [lsO, va_rf, c6]) ?_
    refine lv_ifnonnullN hx hb dX2_takePower_9 ?_
    have h9 : tkpG g i a0 = sx g 8 i 0 := by simp [tkpG, c6]
    exact e_wv hx hb hr hlocks hS (by rw [h9]; exact hH) (Nat.le_refl _) (Nat.le_refl _) dX2_takePower_12
  · skip
    refine W.eq (g2 := F0 m 9 ls [.ref (ad (3, i, 0))]) (by simp [lsO, va_rf, c6]) ?_
    refine lv_ifnonnull (tgt := 13) hx hb dX2_takePower_9 (by decide) ?_
    refine lv_aload_n hx hb dX2_takePower_13 rfl (lv_at hl 0 rfl) ?_
    refine g2 hx hb hts hown hC hH i hi 10 (by decide) wf_X2_53 (v := .int (g.1 10 i)) rfl dX2_takePower_14 ?_
    refine lv_aload_n hx hb dX2_takePower_17 rfl (lv_at hl 0 rfl) ?_
    refine g2 hx hb hts hown hC hH i hi 4 (by decide) wf_X2_24 (v := .int (g.1 4 i)) rfl dX2_takePower_18 ?_
    refine lv_iload_n hx hb dX2_takePower_21 rfl (lv_at hl 1 rfl) ?_
    refine lv_imul hx hb dX2_takePower_22 ?_
    refine lv_iadd hx hb dX2_takePower_23 ?_
    refine lv_istore_n (lv' := [(2, .int ((g.1 10 i) + ((g.1 4 i) * a0))), (0, .ref (ad (1, i, 0))), (1, .int a0)]) hx hb dX2_takePower_24 rfl hl (by decide) rfl (fun ls hl => ?_)
    refine lv_iconst (v := 2) hx hb dX2_takePower_25 (by decide) ?_
    refine lv_aload_n hx hb dX2_takePower_26 rfl (lv_at hl 1 rfl) ?_
    refine g2 hx hb hts hown hC hH i hi 9 (by decide) wf_X2_50 (v := .int (g.1 9 i)) rfl dX2_takePower_27 ?_
    refine lv_iadd hx hb dX2_takePower_30 ?_
    refine lv_istore_n (lv' := [(3, .int (2 + (g.1 9 i))), (2, .int ((g.1 10 i) + ((g.1 4 i) * a0))), (0, .ref (ad (1, i, 0))), (1, .int a0)]) hx hb dX2_takePower_31 rfl hl (by decide) rfl (fun ls hl => ?_)
    refine lv_iload_n hx hb dX2_takePower_32 rfl (lv_at hl 1 rfl) ?_
    refine lv_iload_n hx hb dX2_takePower_33 rfl (lv_at hl 0 rfl) ?_
    refine lv_icmp_lt (tgt := 54) hx hb dX2_takePower_34 (by decide) (fun c34 => ?_) (fun c34 => ?_)
    · skip
      have c34x := Int32.not_le.mpr c34
      refine lv_aload_n hx hb dX2_takePower_54 rfl (lv_at hl 2 rfl) ?_
      refine g2 hx hb hts hown hC hH i hi 6 (by decide) wf_X2_30 (v := .int (g.1 6 i)) rfl dX2_takePower_55 ?_
      refine lv_if_eq (tgt := 81) hx hb dX2_takePower_58 (by decide) (fun c58 => ?_) (fun c58 => ?_)
      · skip
        refine lv_aload_n hx hb dX2_takePower_81 rfl (lv_at hl 2 rfl) ?_
        refine lv_iconst (v := 1) hx hb dX2_takePower_82 (by decide) ?_
        refine p2 hx hb hts hown hC hH hS i hi 8 (by decide) (by decide) rfl wf_X2_38 rfl rfl dX2_takePower_83 (fun H locs (hH : Wo D k b ad (sx (sx g 8 i 0) 8 i 1) M o H) hS => ?_)
        refine lv_aload_n hx hb dX2_takePower_86 rfl (lv_at hl 2 rfl) ?_
        refine lv_iload_n hx hb dX2_takePower_87 rfl (lv_at hl 1 rfl) ?_
        refine lv_aload_n hx hb dX2_takePower_88 rfl (lv_at hl 2 rfl) ?_
        refine g2 hx hb hts hown hC hH i hi 5 (by decide) wf_X2_27 (v := .int (g.1 5 i)) rfl dX2_takePower_89 ?_
        refine va_mmin hx hb (by rw [hml]; exact hl.1.symm) hown (hts _ wm_X2_56) (hts _ wz_min) (hts _ wi_J9) (hts _ wk_min) (Nat.le_of_ble_eq_true rfl) (Nat.le_of_ble_eq_true rfl) (Nat.zero_le _) (Nat.zero_le _) dX2_takePower_92 ?_
        refine W.eq (g2 := F0 m 95 ls [.int (mnI ((g.1 10 i) + ((g.1 4 i) * a0)) (g.1 5 i)), .ref (ad (1, i, 0))]) rfl ?_
        refine p2 hx hb hts hown hC hH hS i hi 10 (by decide) (by decide) rfl wf_X2_53 rfl rfl dX2_takePower_95 (fun H locs (hH : Wo D k b ad (sx (sx (sx g 8 i 0) 8 i 1) 10 i (mnI ((g.1 10 i) + ((g.1 4 i) * a0)) (g.1 5 i))) M o H) hS => ?_)
        have h9 : tkpG g i a0 = sx (sx (sx g 8 i 0) 8 i 1) 10 i (mnI ((g.1 10 i) + ((g.1 4 i) * a0)) (g.1 5 i)) := by simp [tkpG, c6, c34, c34x, c58]
        exact e_wv hx hb hr hlocks hS (by rw [h9]; exact hH) (Nat.le_refl _) (Nat.le_refl _) dX2_takePower_98
      · skip
        refine lv_aload_n hx hb dX2_takePower_61 rfl (lv_at hl 2 rfl) ?_
        refine lv_dup hx hb dX2_takePower_62 rfl ?_
        refine g2 hx hb hts hown hC hH i hi 11 (by decide) wf_X2_60 (v := .int (g.1 11 i)) rfl dX2_takePower_63 ?_
        refine lv_iload_n hx hb dX2_takePower_66 rfl (lv_at hl 0 rfl) ?_
        refine lv_iload_n hx hb dX2_takePower_67 rfl (lv_at hl 1 rfl) ?_
        refine lv_isub hx hb dX2_takePower_68 ?_
        refine lv_iadd hx hb dX2_takePower_69 ?_
        refine p2 hx hb hts hown hC hH hS i hi 11 (by decide) (by decide) rfl wf_X2_60 rfl rfl dX2_takePower_70 (fun H locs (hH : Wo D k b ad (sx (sx g 8 i 0) 11 i ((g.1 11 i) + ((2 + (g.1 9 i)) - ((g.1 10 i) + ((g.1 4 i) * a0))))) M o H) hS => ?_)
        refine lv_aload_n hx hb dX2_takePower_73 rfl (lv_at hl 2 rfl) ?_
        refine lv_iconst (v := 0) hx hb dX2_takePower_74 (by decide) ?_
        refine p2 hx hb hts hown hC hH hS i hi 10 (by decide) (by decide) rfl wf_X2_53 rfl rfl dX2_takePower_75 (fun H locs (hH : Wo D k b ad (sx (sx (sx g 8 i 0) 11 i ((g.1 11 i) + ((2 + (g.1 9 i)) - ((g.1 10 i) + ((g.1 4 i) * a0))))) 10 i 0) M o H) hS => ?_)
        refine lv_goto (tgt := 98) hx hb dX2_takePower_78 (by decide) ?_
        have h9 : tkpG g i a0 = sx (sx (sx g 8 i 0) 11 i ((g.1 11 i) + ((2 + (g.1 9 i)) - ((g.1 10 i) + ((g.1 4 i) * a0))))) 10 i 0 := by simp [tkpG, c6, c34, c34x, c58]
        exact e_wv hx hb hr hlocks hS (by rw [h9]; exact hH) (Nat.le_refl _) (Nat.le_refl _) dX2_takePower_98
    · skip
      have c34x := Int32.not_lt.mp c34
      refine lv_aload_n hx hb dX2_takePower_37 rfl (lv_at hl 2 rfl) ?_
      refine lv_iload_n hx hb dX2_takePower_38 rfl (lv_at hl 1 rfl) ?_
      refine lv_iload_n hx hb dX2_takePower_39 rfl (lv_at hl 0 rfl) ?_
      refine lv_isub hx hb dX2_takePower_40 ?_
      refine lv_aload_n hx hb dX2_takePower_41 rfl (lv_at hl 2 rfl) ?_
      refine g2 hx hb hts hown hC hH i hi 5 (by decide) wf_X2_27 (v := .int (g.1 5 i)) rfl dX2_takePower_42 ?_
      refine va_mmin hx hb (by rw [hml]; exact hl.1.symm) hown (hts _ wm_X2_56) (hts _ wz_min) (hts _ wi_J9) (hts _ wk_min) (Nat.le_of_ble_eq_true rfl) (Nat.le_of_ble_eq_true rfl) (Nat.zero_le _) (Nat.zero_le _) dX2_takePower_45 ?_
      refine W.eq (g2 := F0 m 48 ls [.int (mnI (((g.1 10 i) + ((g.1 4 i) * a0)) - (2 + (g.1 9 i))) (g.1 5 i)), .ref (ad (1, i, 0))]) rfl ?_
      refine p2 hx hb hts hown hC hH hS i hi 10 (by decide) (by decide) rfl wf_X2_53 rfl rfl dX2_takePower_48 (fun H locs (hH : Wo D k b ad (sx (sx g 8 i 0) 10 i (mnI (((g.1 10 i) + ((g.1 4 i) * a0)) - (2 + (g.1 9 i))) (g.1 5 i))) M o H) hS => ?_)
      refine lv_goto (tgt := 98) hx hb dX2_takePower_51 (by decide) ?_
      have h9 : tkpG g i a0 = sx (sx g 8 i 0) 10 i (mnI (((g.1 10 i) + ((g.1 4 i) * a0)) - (2 + (g.1 9 i))) (g.1 5 i)) := by simp [tkpG, c6, c34, c34x]
      exact e_wv hx hb hr hlocks hS (by rw [h9]; exact hH) (Nat.le_refl _) (Nat.le_refl _) dX2_takePower_98

set_option maxHeartbeats 4000000 in
set_option maxRecDepth 100000 in
theorem mX4_pay (l : Launch) {D : va_G} {k : Nat → ClassId} {b : Nat} {ad : Tg → Nat} {g : XS} {M : MF} {o : OF} (a0 a1 : Int32) : Met l yX4_pay (WS yX4_pay cX4_pay 3 none) ({ frames := 2, cells := 0, slots := 0, locals := 42 }) (P0 D k b (Wo D k b ad g M o) [.ref (ad (0, 0, 0)), .int a0, .int a1]) (Qw b none (Wo D k b ad (payG g a0 a1) M o)) 0 0 (Fb b) := by
  refine Met0 (by decide +kernel) (Nat.le_of_ble_eq_true rfl) (fun p e s m below meth c ls hx hb hr hts hown hml hlocks hnm hC hH hl => ?_)
  have hS : va_S (Fb b) s.heap s.heap [] := va_S.rf
  have hl : lv_has ls 3 [(0, .ref (ad (0, 0, 0))), (1, .int a0), (2, .int a1)] := hl
  refine lv_iload_n hx hb dX4_pay_0 rfl (lv_at hl 1 rfl) ?_
  refine k_r (va_runS (As := [.int a0]) (rest := []) ⟨hx, hb, hml, hown, hts⟩ (mX4_isFarmer l a0) ⟨cb_of hts wk_X4_isFarmer wi_X4 wm_X4_46 sd_X4_isFarmer rfl rfl ⟨Nat.le_of_ble_eq_true rfl, Nat.le_of_ble_eq_true rfl⟩, hts _ wz_X4_isFarmer⟩ (P0.pre hC hS hH) rfl rfl hl.1 rfl (lv_room (Nat.le_of_ble_eq_true rfl)) dX4_pay_1 ⟨Nat.le_of_ble_eq_true rfl, Nat.le_of_ble_eq_true rfl⟩) ?_
  refine W.eq (g2 := F0 m 4 ls [.int (b2 (inB a0 0 5))]) rfl ?_
  refine lv_if_eq (tgt := 17) hx hb dX4_pay_4 (by decide) (fun c4 => ?_) (fun c4 => ?_)
  · skip
    have c4 := b2_0.mp c4
    have h9 : payG g a0 a1 = g := by simp [payG, c4]
    exact e_wv hx hb hr hlocks hS (by rw [h9]; exact hH) (Nat.le_refl _) (Nat.le_refl _) dX4_pay_17
  · skip
    have c4 := b2_n0.mp c4
    refine lv_aload_n hx hb dX4_pay_7 rfl (lv_at hl 0 rfl) ?_
    refine g4 hx hb hts hown hC hH 2 (by decide) wf_X4_21 (v := .ref (ad (0, 3, 0))) rfl dX4_pay_8 ?_
    refine lv_iload_n hx hb dX4_pay_11 rfl (lv_at hl 1 rfl) ?_
    refine lv_dup2_11 hx hb dX4_pay_12 rfl rfl ?_
    refine yLd hx hb hC hH (inB_vp c4) dX4_pay_13 ?_
    refine lv_iload_n hx hb dX4_pay_14 rfl (lv_at hl 2 rfl) ?_
    refine lv_iadd hx hb dX4_pay_15 ?_
    refine ySt hx hb hC hH hS (inB_vp c4) dX4_pay_16 (fun H locs (hH : Wo D k b ad (sx g 42 a0.toNatClampNeg ((g.1 42 a0.toNatClampNeg) + a1)) M o H) hS => ?_)
    have h9 : payG g a0 a1 = sx g 42 a0.toNatClampNeg ((g.1 42 a0.toNatClampNeg) + a1) := by simp [payG, c4]
    exact e_wv hx hb hr hlocks hS (by rw [h9]; exact hH) (Nat.le_refl _) (Nat.le_refl _) dX4_pay_17

set_option maxHeartbeats 4000000 in
set_option maxRecDepth 100000 in
theorem mX4_payRent (l : Launch) {D : va_G} {k : Nat → ClassId} {b : Nat} {ad : Tg → Nat} {g : XS} {M : MF} {o : OF} (i : Nat) (hi : i < g.2.1 0 0) (hz : ¬ g.2.1 2 i = 0) (a0 : Int32) : Met l yX4_payRent (WS yX4_payRent cX4_payRent 5 none) ({ frames := 3, cells := 0, slots := 0, locals := 64 }) (P0 D k b (Wo D k b ad g M o) [.ref (ad (0, 0, 0)), .ref (ad (3, i, 0)), .int a0]) (Qw b none (Wo D k b ad (prnG g i a0) M o)) 0 0 (Fb b) := by
  refine Met0 (by decide +kernel) (Nat.le_of_ble_eq_true rfl) (fun p e s m below meth c ls hx hb hr hts hown hml hlocks hnm hC hH hl => ?_)
  have hS : va_S (Fb b) s.heap s.heap [] := va_S.rf
  have hl : lv_has ls 5 [(0, .ref (ad (0, 0, 0))), (1, .ref (ad (3, i, 0))), (2, .int a0)] := hl
  refine lv_aload_n hx hb dX4_payRent_0 rfl (lv_at hl 1 rfl) ?_
  refine g0N hx hb hts hown hC hH i hi hz 4 (by decide) wf_X4_175 (v := .int (g.1 24 i)) rfl dX4_payRent_1 ?_
  refine lv_aload_n hx hb dX4_payRent_4 rfl (lv_at hl 1 rfl) ?_
  refine g0N hx hb hts hown hC hH i hi hz 5 (by decide) wf_X4_178 (v := .int (g.1 25 i)) rfl dX4_payRent_5 ?_
  refine lv_iload_n hx hb dX4_payRent_8 rfl (lv_at hl 2 rfl) ?_
  refine lv_imul hx hb dX4_payRent_9 ?_
  refine lv_iadd hx hb dX4_payRent_10 ?_
  refine lv_istore_n (lv' := [(3, .int ((g.1 24 i) + ((g.1 25 i) * a0))), (0, .ref (ad (0, 0, 0))), (1, .ref (ad (3, i, 0))), (2, .int a0)]) hx hb dX4_payRent_11 rfl hl (by decide) rfl (fun ls hl => ?_)
  refine lv_iload_n hx hb dX4_payRent_12 rfl (lv_at hl 0 rfl) ?_
  refine lv_aload_n hx hb dX4_payRent_13 rfl (lv_at hl 2 rfl) ?_
  refine g0N hx hb hts hown hC hH i hi hz 2 (by decide) wf_X4_181 (v := .int (g.1 22 i)) rfl dX4_payRent_14 ?_
  refine lv_imul hx hb dX4_payRent_17 ?_
  refine lv_bipush (v := 10) hx hb dX4_payRent_18 (by decide) ?_
  refine lv_idiv hx hb dX4_payRent_20 (by decide) ?_
  refine lv_istore (lv' := [(4, .int ((((g.1 24 i) + ((g.1 25 i) * a0)) * (g.1 22 i)) / 10)), (3, .int ((g.1 24 i) + ((g.1 25 i) * a0))), (0, .ref (ad (0, 0, 0))), (1, .ref (ad (3, i, 0))), (2, .int a0)]) hx hb dX4_payRent_21 hl (by decide) rfl (fun ls hl => ?_)
  refine lv_aload_n hx hb dX4_payRent_23 rfl (lv_at hl 2 rfl) ?_
  refine lv_aload_n hx hb dX4_payRent_24 rfl (lv_at hl 3 rfl) ?_
  refine g0N hx hb hts hown hC hH i hi hz 0 (by decide) wf_X4_184 (v := .int (g.1 20 i)) rfl dX4_payRent_25 ?_
  refine lv_iload hx hb dX4_payRent_28 (lv_at hl 0 rfl) ?_
  refine k_w (va_runV (As := [.int (g.1 20 i), .int ((((g.1 24 i) + ((g.1 25 i) * a0)) * (g.1 22 i)) / 10)]) (rest := []) ⟨hx, hb, hml, hown, hts⟩ (mX4_pay l (g.1 20 i) ((((g.1 24 i) + ((g.1 25 i) * a0)) * (g.1 22 i)) / 10)) ⟨cb_of hts wk_X4_pay wi_X4 wm_X4_187 sd_X4_pay rfl rfl ⟨Nat.le_of_ble_eq_true rfl, Nat.le_of_ble_eq_true rfl⟩, hts _ wv_X4_pay, hts _ wl_X4_pay⟩ (P0.preV hC hS hH (Hp.recv hC.1 hH (0, 0, 0) ⟨by decide, rfl⟩ rfl rfl)) rfl rfl hl.1 rfl (lv_room (Nat.le_of_ble_eq_true rfl)) dX4_payRent_30 ⟨Nat.le_of_ble_eq_true rfl, Nat.le_of_ble_eq_true rfl⟩) hS (fun H locs hH hS => ?_)
  refine W.eq (g2 := F0 m 33 ls []) rfl ?_
  refine lv_aload_n hx hb dX4_payRent_33 rfl (lv_at hl 2 rfl) ?_
  refine lv_aload_n hx hb dX4_payRent_34 rfl (lv_at hl 3 rfl) ?_
  refine g0N hx hb hts hown hC hH i (by rw [payG_n]; exact hi) (by rw [payG_n]; exact hz) 1 (by decide) wf_X4_191 (v := .int ((payG g (g.1 20 i) ((((g.1 24 i) + ((g.1 25 i) * a0)) * (g.1 22 i)) / 10)).1 21 i)) rfl dX4_payRent_35 ?_
  refine W.eq (g2 := F0 m 38 ls [.int (g.1 21 i), .ref (ad (0, 0, 0))]) (by rw [payG_x (by decide)]) ?_
  refine lv_iload_n hx hb dX4_payRent_38 rfl (lv_at hl 1 rfl) ?_
  refine lv_iload hx hb dX4_payRent_39 (lv_at hl 0 rfl) ?_
  refine lv_isub hx hb dX4_payRent_41 ?_
  refine k_w (va_runV (As := [.int (g.1 21 i), .int (((g.1 24 i) + ((g.1 25 i) * a0)) - ((((g.1 24 i) + ((g.1 25 i) * a0)) * (g.1 22 i)) / 10))]) (rest := []) ⟨hx, hb, hml, hown, hts⟩ (mX4_pay l (g.1 21 i) (((g.1 24 i) + ((g.1 25 i) * a0)) - ((((g.1 24 i) + ((g.1 25 i) * a0)) * (g.1 22 i)) / 10))) ⟨cb_of hts wk_X4_pay wi_X4 wm_X4_187 sd_X4_pay rfl rfl ⟨Nat.le_of_ble_eq_true rfl, Nat.le_of_ble_eq_true rfl⟩, hts _ wv_X4_pay, hts _ wl_X4_pay⟩ (P0.preV hC hS hH (Hp.recv hC.1 hH (0, 0, 0) ⟨by decide, rfl⟩ rfl rfl)) rfl rfl hl.1 rfl (lv_room (Nat.le_of_ble_eq_true rfl)) dX4_payRent_42 ⟨Nat.le_of_ble_eq_true rfl, Nat.le_of_ble_eq_true rfl⟩) hS (fun H locs hH hS => ?_)
  refine W.eq (g2 := F0 m 45 ls []) rfl ?_
  exact e_wv hx hb hr hlocks hS (by exact hH) (Nat.le_refl _) (Nat.le_refl _) dX4_payRent_45

set_option maxHeartbeats 4000000 in
set_option maxRecDepth 100000 in
theorem mX4_countTraffic (l : Launch) {D : va_G} {k : Nat → ClassId} {b : Nat} {ad : Tg → Nat} {g : XS} {M : MF} {o : OF}  : Met l yX4_countTraffic (WS yX4_countTraffic cX4_countTraffic 5 none) ({ frames := 1, cells := 0, slots := 0, locals := 20 }) (P0 D k b (Wo D k b ad g M o) [.ref (ad (0, 0, 0))]) (Qw b none (Wo D k b ad (ctrG g 8) M o)) 0 0 (Fb b) := by
  refine Met0 (by decide +kernel) (Nat.le_of_ble_eq_true rfl) (fun p e s m below meth c ls hx hb hr hts hown hml hlocks hnm hC hH hl => ?_)
  have hS : va_S (Fb b) s.heap s.heap [] := va_S.rf
  have hl : lv_has ls 5 [(0, .ref (ad (0, 0, 0)))] := hl
  refine lv_aload_n hx hb dX4_countTraffic_0 rfl (lv_at hl 0 rfl) ?_
  refine g4 hx hb hts hown hC hH 0 (by decide) wf_X4_11 (v := .ref (ad (0, 1, 0))) rfl dX4_countTraffic_1 ?_
  refine lv_astore_n (lv' := [(1, .ref (ad (0, 1, 0))), (0, .ref (ad (0, 0, 0)))]) hx hb dX4_countTraffic_4 rfl hl (by decide) rfl (fun ls hl => ?_)
  refine lv_aload_n hx hb dX4_countTraffic_5 rfl (lv_at hl 0 rfl) ?_
  refine mLen hx hb hC hH dX4_countTraffic_6 ?_
  refine lv_istore_n (lv' := [(2, .int (nI 8)), (1, .ref (ad (0, 1, 0))), (0, .ref (ad (0, 0, 0)))]) hx hb dX4_countTraffic_7 rfl hl (by decide) rfl (fun ls hl => ?_)
  refine lv_iconst (v := nI 0) hx hb dX4_countTraffic_8 (by decide) ?_
  refine lv_istore_n (lv' := [(3, .int (nI 0)), (2, .int (nI 8)), (1, .ref (ad (0, 1, 0))), (0, .ref (ad (0, 0, 0)))]) hx hb dX4_countTraffic_9 rfl hl (by decide) rfl (fun ls hl => ?_)
  refine loop_w 8 (fun i H locs cells slots ls => cells = 0 ∧ slots = 0 ∧ Wo D k b ad (ctrG g i) M o H ∧ va_S (Fb b) s.heap H locs ∧ lv_has ls 5 [(0, .ref (ad (0, 0, 0))), (1, .ref (ad (0, 1, 0))), (2, .int (nI 8)), (3, .int (nI i))]) (fun i hi H locs cells slots ls hJ0 ih => ?_) (fun H locs cells slots ls hJ0 => ?_) ⟨rfl, rfl, hH, hS, lv_sub hl [3, 2, 1, 0] rfl⟩
  · skip
    obtain ⟨rfl, rfl, hH, hS, hl⟩ := hJ0
    refine lv_iload_n hx hb dX4_countTraffic_10 rfl (lv_at hl 3 rfl) ?_
    refine lv_iload_n hx hb dX4_countTraffic_11 rfl (lv_at hl 2 rfl) ?_
    refine lv_icmp_ge (tgt := 54) hx hb dX4_countTraffic_12 (by decide) (fun c12 => absurd c12 (nI_ge hi (by decide))) (fun c12 => ?_)
    refine lv_aload_n hx hb dX4_countTraffic_15 rfl (lv_at hl 1 rfl) ?_
    refine lv_iload_n hx hb dX4_countTraffic_16 rfl (lv_at hl 3 rfl) ?_
    refine mLd hx hb hC hH (i := i) hi dX4_countTraffic_17 ?_
    by_cases c17 : i < (ctrG g i).2.1 0 0
    · skip
      refine W.eq (g2 := F0 m 18 ls [.ref (ad (1, i, 0))]) (by simp [maO, c17, va_rf]) ?_
      refine lv_astore (lv' := [(4, .ref (ad (1, i, 0))), (0, .ref (ad (0, 0, 0))), (1, .ref (ad (0, 1, 0))), (2, .int (nI 8)), (3, .int (nI i))]) hx hb dX4_countTraffic_18 hl (by decide) rfl (fun ls hl => ?_)
      refine lv_aload hx hb dX4_countTraffic_20 (lv_at hl 0 rfl) ?_
      refine lv_ifnull hx hb dX4_countTraffic_22 ?_
      refine lv_aload hx hb dX4_countTraffic_25 (lv_at hl 0 rfl) ?_
      refine k_r (va_runVN (As := []) (rest := []) ⟨hx, hb, hml, hown, hts⟩ (mX2_isOn l i c17) ⟨cn_of hts wk_X2_isOn wi_X2 wm_X4_112 sd_X2_isOn rfl rfl ⟨Nat.le_of_ble_eq_true rfl, Nat.le_of_ble_eq_true rfl⟩, hts _ wv_X2_isOn, hts _ wl_X2_isOn⟩ (P0.preV hC hS hH (Hp.recv hC.1 hH (1, i, 0) ⟨c17, rfl⟩ rfl rfl)) rfl rfl hl.1 rfl (lv_room (Nat.le_of_ble_eq_true rfl)) dX4_countTraffic_27 ⟨Nat.le_of_ble_eq_true rfl, Nat.le_of_ble_eq_true rfl⟩) ?_
      refine W.eq (g2 := F0 m 30 ls [.int (b2 (onB (ctrG g i) i))]) rfl ?_
      refine lv_if_eq (tgt := 48) hx hb dX4_countTraffic_30 (by decide) (fun c30 => ?_) (fun c30 => ?_)
      · skip
        have c30 := b2_0.mp c30
        refine lv_iinc (v := nI (i + 1)) (lv' := [(3, .int (nI (i + 1))), (4, .ref (ad (1, i, 0))), (0, .ref (ad (0, 0, 0))), (1, .ref (ad (0, 1, 0))), (2, .int (nI 8))]) hx hb dX4_countTraffic_48 hl (k := 4) rfl (by rw [← nI_add]; rfl) (by decide) rfl (fun ls hl => ?_)
        refine lv_goto (tgt := 10) hx hb dX4_countTraffic_51 (by decide) ?_
        have h9 : ctrG g (i + 1) = (ctrG g i) := by simp [ctrG, c17, c30]
        exact ih H locs _ _ ls ⟨rfl, rfl, by rw [h9]; exact hH, hS, lv_sub hl [2, 3, 4, 0] rfl⟩
      · skip
        have c30 := b2_n0.mp c30
        refine lv_aload hx hb dX4_countTraffic_33 (lv_at hl 0 rfl) ?_
        refine lv_dup hx hb dX4_countTraffic_35 rfl ?_
        refine g2N hx hb hts hown hC hH i c17 12 (by decide) wf_X4_125 (v := .int ((ctrG g i).1 12 i)) rfl dX4_countTraffic_36 ?_
        refine lv_aload hx hb dX4_countTraffic_39 (lv_at hl 0 rfl) ?_
        refine g2N hx hb hts hown hC hH i c17 9 (by decide) wf_X4_116 (v := .int ((ctrG g i).1 9 i)) rfl dX4_countTraffic_41 ?_
        refine lv_iadd hx hb dX4_countTraffic_44 ?_
        refine p2N hx hb hts hown hC hH hS i c17 12 (by decide) (by decide) rfl wf_X4_125 rfl rfl dX4_countTraffic_45 (fun H locs (hH : Wo D k b ad (sx (ctrG g i) 12 i (((ctrG g i).1 12 i) + ((ctrG g i).1 9 i))) M o H) hS => ?_)
        refine lv_iinc (v := nI (i + 1)) (lv' := [(3, .int (nI (i + 1))), (4, .ref (ad (1, i, 0))), (0, .ref (ad (0, 0, 0))), (1, .ref (ad (0, 1, 0))), (2, .int (nI 8))]) hx hb dX4_countTraffic_48 hl (k := 4) rfl (by rw [← nI_add]; rfl) (by decide) rfl (fun ls hl => ?_)
        refine lv_goto (tgt := 10) hx hb dX4_countTraffic_51 (by decide) ?_
        have h9 : ctrG g (i + 1) = sx (ctrG g i) 12 i (((ctrG g i).1 12 i) + ((ctrG g i).1 9 i)) := by simp [ctrG, c17, c30]
        exact ih H locs _ _ ls ⟨rfl, rfl, by rw [h9]; exact hH, hS, lv_sub hl [2, 3, 4, 0] rfl⟩
    · skip
      refine W.eq (g2 := F0 m 18 ls [.null]) (by simp [maO, c17, va_rf]) ?_
      refine lv_astoreN (lv' := [(4, .null), (0, .ref (ad (0, 0, 0))), (1, .ref (ad (0, 1, 0))), (2, .int (nI 8)), (3, .int (nI i))]) hx hb dX4_countTraffic_18 hl (by decide) rfl (fun ls hl => ?_)
      refine lv_aloadN hx hb dX4_countTraffic_20 (lv_at hl 0 rfl) ?_
      refine lv_ifnullN (tgt := 48) hx hb dX4_countTraffic_22 (by decide) ?_
      refine lv_iinc (v := nI (i + 1)) (lv' := [(3, .int (nI (i + 1))), (4, .null), (0, .ref (ad (0, 0, 0))), (1, .ref (ad (0, 1, 0))), (2, .int (nI 8))]) hx hb dX4_countTraffic_48 hl (k := 4) rfl (by rw [← nI_add]; rfl) (by decide) rfl (fun ls hl => ?_)
      refine lv_goto (tgt := 10) hx hb dX4_countTraffic_51 (by decide) ?_
      have h9 : ctrG g (i + 1) = (ctrG g i) := by simp [ctrG, c17]
      exact ih H locs _ _ ls ⟨rfl, rfl, by rw [h9]; exact hH, hS, lv_sub hl [2, 3, 4, 0] rfl⟩
  · skip
    obtain ⟨rfl, rfl, hH, hS, hl⟩ := hJ0
    refine lv_iload_n hx hb dX4_countTraffic_10 rfl (lv_at hl 3 rfl) ?_
    refine lv_iload_n hx hb dX4_countTraffic_11 rfl (lv_at hl 2 rfl) ?_
    refine lv_icmp_ge (tgt := 54) hx hb dX4_countTraffic_12 (by decide) (fun c12 => ?_) (fun c12 => absurd (nI_le (Nat.le_refl _) (by decide)) c12)
    exact e_wv hx hb hr hlocks hS (by exact hH) (Nat.le_refl _) (Nat.le_refl _) dX4_countTraffic_54

set_option maxHeartbeats 4000000 in
set_option maxRecDepth 100000 in
theorem mX4_payRents (l : Launch) {D : va_G} {k : Nat → ClassId} {b : Nat} {ad : Tg → Nat} {g : XS} {M : MF} {o : OF}  : Met l yX4_payRents (WS yX4_payRents cX4_payRents 5 none) ({ frames := 4, cells := 0, slots := 0, locals := 88 }) (P0 D k b (Wo D k b ad g M o) [.ref (ad (0, 0, 0))]) (Qw b none (Wo D k b ad (prsG g 8) M o)) 0 0 (Fb b) := by
  refine Met0 (by decide +kernel) (Nat.le_of_ble_eq_true rfl) (fun p e s m below meth c ls hx hb hr hts hown hml hlocks hnm hC hH hl => ?_)
  have hS : va_S (Fb b) s.heap s.heap [] := va_S.rf
  have hl : lv_has ls 5 [(0, .ref (ad (0, 0, 0)))] := hl
  refine lv_aload_n hx hb dX4_payRents_0 rfl (lv_at hl 0 rfl) ?_
  refine g4 hx hb hts hown hC hH 0 (by decide) wf_X4_11 (v := .ref (ad (0, 1, 0))) rfl dX4_payRents_1 ?_
  refine lv_astore_n (lv' := [(1, .ref (ad (0, 1, 0))), (0, .ref (ad (0, 0, 0)))]) hx hb dX4_payRents_4 rfl hl (by decide) rfl (fun ls hl => ?_)
  refine lv_aload_n hx hb dX4_payRents_5 rfl (lv_at hl 0 rfl) ?_
  refine mLen hx hb hC hH dX4_payRents_6 ?_
  refine lv_istore_n (lv' := [(2, .int (nI 8)), (1, .ref (ad (0, 1, 0))), (0, .ref (ad (0, 0, 0)))]) hx hb dX4_payRents_7 rfl hl (by decide) rfl (fun ls hl => ?_)
  refine lv_iconst (v := nI 0) hx hb dX4_payRents_8 (by decide) ?_
  refine lv_istore_n (lv' := [(3, .int (nI 0)), (2, .int (nI 8)), (1, .ref (ad (0, 1, 0))), (0, .ref (ad (0, 0, 0)))]) hx hb dX4_payRents_9 rfl hl (by decide) rfl (fun ls hl => ?_)
  refine loop_w 8 (fun i H locs cells slots ls => cells = 0 ∧ slots = 0 ∧ Wo D k b ad (prsG g i) M o H ∧ va_S (Fb b) s.heap H locs ∧ lv_has ls 5 [(0, .ref (ad (0, 0, 0))), (1, .ref (ad (0, 1, 0))), (2, .int (nI 8)), (3, .int (nI i))]) (fun i hi H locs cells slots ls hJ0 ih => ?_) (fun H locs cells slots ls hJ0 => ?_) ⟨rfl, rfl, hH, hS, lv_sub hl [3, 2, 1, 0] rfl⟩
  · skip
    obtain ⟨rfl, rfl, hH, hS, hl⟩ := hJ0
    refine lv_iload_n hx hb dX4_payRents_10 rfl (lv_at hl 3 rfl) ?_
    refine lv_iload_n hx hb dX4_payRents_11 rfl (lv_at hl 2 rfl) ?_
    refine lv_icmp_ge (tgt := 53) hx hb dX4_payRents_12 (by decide) (fun c12 => absurd c12 (nI_ge hi (by decide))) (fun c12 => ?_)
    refine lv_aload_n hx hb dX4_payRents_15 rfl (lv_at hl 1 rfl) ?_
    refine lv_iload_n hx hb dX4_payRents_16 rfl (lv_at hl 3 rfl) ?_
    refine mLd hx hb hC hH (i := i) hi dX4_payRents_17 ?_
    by_cases c17 : i < (prsG g i).2.1 0 0
    · skip
      refine W.eq (g2 := F0 m 18 ls [.ref (ad (1, i, 0))]) (by simp [maO, c17, va_rf]) ?_
      refine lv_astore (lv' := [(4, .ref (ad (1, i, 0))), (0, .ref (ad (0, 0, 0))), (1, .ref (ad (0, 1, 0))), (2, .int (nI 8)), (3, .int (nI i))]) hx hb dX4_payRents_18 hl (by decide) rfl (fun ls hl => ?_)
      refine lv_aload hx hb dX4_payRents_20 (lv_at hl 0 rfl) ?_
      refine lv_ifnull hx hb dX4_payRents_22 ?_
      refine lv_aload hx hb dX4_payRents_25 (lv_at hl 0 rfl) ?_
      refine g2N hx hb hts hown hC hH i c17 7 (by decide) wf_X4_56 (v := va_rf (lsO ad i ((prsG g i).2.1 2 i))) rfl dX4_payRents_27 ?_
      by_cases c27 : (prsG g i).2.1 2 i = 0
      · skip
        refine W.eq (g2 := F0 m 30 ls [.null]) (by simp [lsO, va_rf, c27]) ?_
        refine lv_ifnullN (tgt := 47) hx hb dX4_payRents_30 (by decide) ?_
        refine lv_iinc (v := nI (i + 1)) (lv' := [(3, .int (nI (i + 1))), (4, .ref (ad (1, i, 0))), (0, .ref (ad (0, 0, 0))), (1, .ref (ad (0, 1, 0))), (2, .int (nI 8))]) hx hb dX4_payRents_47 hl (k := 4) rfl (by rw [← nI_add]; rfl) (by decide) rfl (fun ls hl => ?_)
        refine lv_goto (tgt := 10) hx hb dX4_payRents_50 (by decide) ?_
        have h9 : prsG g (i + 1) = (prsG g i) := by simp [prsG, c17, c27]
        exact ih H locs _ _ ls ⟨rfl, rfl, by rw [h9]; exact hH, hS, lv_sub hl [2, 3, 4, 0] rfl⟩
      · skip
        refine W.eq (g2 := F0 m 30 ls [.ref (ad (3, i, 0))]) (by simp [lsO, va_rf, c27]) ?_
        refine lv_ifnull hx hb dX4_payRents_30 ?_
        refine lv_aload_n hx hb dX4_payRents_33 rfl (lv_at hl 1 rfl) ?_
        refine lv_aload hx hb dX4_payRents_34 (lv_at hl 0 rfl) ?_
        refine g2N hx hb hts hown hC hH i c17 7 (by decide) wf_X4_56 (v := va_rf (lsO ad i ((prsG g i).2.1 2 i))) rfl dX4_payRents_36 ?_
        refine W.eq (g2 := F0 m 39 ls [.ref (ad (3, i, 0)), .ref (ad (0, 0, 0))]) (by simp [lsO, va_rf, c27]) ?_
        refine lv_aload hx hb dX4_payRents_39 (lv_at hl 0 rfl) ?_
        refine g2N hx hb hts hown hC hH i c17 9 (by decide) wf_X4_116 (v := .int ((prsG g i).1 9 i)) rfl dX4_payRents_41 ?_
        refine k_w (va_runV (As := [.ref (ad (3, i, 0)), .int ((prsG g i).1 9 i)]) (rest := []) ⟨hx, hb, hml, hown, hts⟩ (mX4_payRent l i c17 c27 ((prsG g i).1 9 i)) ⟨cb_of hts wk_X4_payRent wi_X4 wm_X4_171 sd_X4_payRent rfl rfl ⟨Nat.le_of_ble_eq_true rfl, Nat.le_of_ble_eq_true rfl⟩, hts _ wv_X4_payRent, hts _ wl_X4_payRent⟩ (P0.preV hC hS hH (Hp.recv hC.1 hH (0, 0, 0) ⟨by decide, rfl⟩ rfl rfl)) rfl rfl hl.1 rfl (lv_room (Nat.le_of_ble_eq_true rfl)) dX4_payRents_44 ⟨Nat.le_of_ble_eq_true rfl, Nat.le_of_ble_eq_true rfl⟩) hS (fun H locs hH hS => ?_)
        refine W.eq (g2 := F0 m 47 ls []) rfl ?_
        refine lv_iinc (v := nI (i + 1)) (lv' := [(3, .int (nI (i + 1))), (4, .ref (ad (1, i, 0))), (0, .ref (ad (0, 0, 0))), (1, .ref (ad (0, 1, 0))), (2, .int (nI 8))]) hx hb dX4_payRents_47 hl (k := 4) rfl (by rw [← nI_add]; rfl) (by decide) rfl (fun ls hl => ?_)
        refine lv_goto (tgt := 10) hx hb dX4_payRents_50 (by decide) ?_
        have h9 : prsG g (i + 1) = prnG (prsG g i) i ((prsG g i).1 9 i) := by simp [prsG, c17, c27]
        exact ih H locs _ _ ls ⟨rfl, rfl, by rw [h9]; exact hH, hS, lv_sub hl [2, 3, 4, 0] rfl⟩
    · skip
      refine W.eq (g2 := F0 m 18 ls [.null]) (by simp [maO, c17, va_rf]) ?_
      refine lv_astoreN (lv' := [(4, .null), (0, .ref (ad (0, 0, 0))), (1, .ref (ad (0, 1, 0))), (2, .int (nI 8)), (3, .int (nI i))]) hx hb dX4_payRents_18 hl (by decide) rfl (fun ls hl => ?_)
      refine lv_aloadN hx hb dX4_payRents_20 (lv_at hl 0 rfl) ?_
      refine lv_ifnullN (tgt := 47) hx hb dX4_payRents_22 (by decide) ?_
      refine lv_iinc (v := nI (i + 1)) (lv' := [(3, .int (nI (i + 1))), (4, .null), (0, .ref (ad (0, 0, 0))), (1, .ref (ad (0, 1, 0))), (2, .int (nI 8))]) hx hb dX4_payRents_47 hl (k := 4) rfl (by rw [← nI_add]; rfl) (by decide) rfl (fun ls hl => ?_)
      refine lv_goto (tgt := 10) hx hb dX4_payRents_50 (by decide) ?_
      have h9 : prsG g (i + 1) = (prsG g i) := by simp [prsG, c17]
      exact ih H locs _ _ ls ⟨rfl, rfl, by rw [h9]; exact hH, hS, lv_sub hl [2, 3, 4, 0] rfl⟩
  · skip
    obtain ⟨rfl, rfl, hH, hS, hl⟩ := hJ0
    refine lv_iload_n hx hb dX4_payRents_10 rfl (lv_at hl 3 rfl) ?_
    refine lv_iload_n hx hb dX4_payRents_11 rfl (lv_at hl 2 rfl) ?_
    refine lv_icmp_ge (tgt := 53) hx hb dX4_payRents_12 (by decide) (fun c12 => ?_) (fun c12 => absurd (nI_le (Nat.le_refl _) (by decide)) c12)
    exact e_wv hx hb hr hlocks hS (by exact hH) (Nat.le_refl _) (Nat.le_refl _) dX4_payRents_53

set_option maxHeartbeats 4000000 in
set_option maxRecDepth 100000 in
theorem mX4_powerMasts (l : Launch) {D : va_G} {k : Nat → ClassId} {b : Nat} {ad : Tg → Nat} {g : XS} {M : MF} {o : OF}  : Met l yX4_powerMasts (WS yX4_powerMasts cX4_powerMasts 5 none) ({ frames := 2, cells := 0, slots := 0, locals := 37 }) (P0 D k b (Wo D k b ad g M o) [.ref (ad (0, 0, 0))]) (Qw b none (Wo D k b ad (pwsG g 8) M o)) 0 0 (Fb b) := by
  refine Met0 (by decide +kernel) (Nat.le_of_ble_eq_true rfl) (fun p e s m below meth c ls hx hb hr hts hown hml hlocks hnm hC hH hl => ?_)
  have hS : va_S (Fb b) s.heap s.heap [] := va_S.rf
  have hl : lv_has ls 5 [(0, .ref (ad (0, 0, 0)))] := hl
  refine lv_aload_n hx hb dX4_powerMasts_0 rfl (lv_at hl 0 rfl) ?_
  refine g4 hx hb hts hown hC hH 0 (by decide) wf_X4_11 (v := .ref (ad (0, 1, 0))) rfl dX4_powerMasts_1 ?_
  refine lv_astore_n (lv' := [(1, .ref (ad (0, 1, 0))), (0, .ref (ad (0, 0, 0)))]) hx hb dX4_powerMasts_4 rfl hl (by decide) rfl (fun ls hl => ?_)
  refine lv_aload_n hx hb dX4_powerMasts_5 rfl (lv_at hl 0 rfl) ?_
  refine mLen hx hb hC hH dX4_powerMasts_6 ?_
  refine lv_istore_n (lv' := [(2, .int (nI 8)), (1, .ref (ad (0, 1, 0))), (0, .ref (ad (0, 0, 0)))]) hx hb dX4_powerMasts_7 rfl hl (by decide) rfl (fun ls hl => ?_)
  refine lv_iconst (v := nI 0) hx hb dX4_powerMasts_8 (by decide) ?_
  refine lv_istore_n (lv' := [(3, .int (nI 0)), (2, .int (nI 8)), (1, .ref (ad (0, 1, 0))), (0, .ref (ad (0, 0, 0)))]) hx hb dX4_powerMasts_9 rfl hl (by decide) rfl (fun ls hl => ?_)
  refine loop_w 8 (fun i H locs cells slots ls => cells = 0 ∧ slots = 0 ∧ Wo D k b ad (pwsG g i) M o H ∧ va_S (Fb b) s.heap H locs ∧ lv_has ls 5 [(0, .ref (ad (0, 0, 0))), (1, .ref (ad (0, 1, 0))), (2, .int (nI 8)), (3, .int (nI i))]) (fun i hi H locs cells slots ls hJ0 ih => ?_) (fun H locs cells slots ls hJ0 => ?_) ⟨rfl, rfl, hH, hS, lv_sub hl [3, 2, 1, 0] rfl⟩
  · skip
    obtain ⟨rfl, rfl, hH, hS, hl⟩ := hJ0
    refine lv_iload_n hx hb dX4_powerMasts_10 rfl (lv_at hl 3 rfl) ?_
    refine lv_iload_n hx hb dX4_powerMasts_11 rfl (lv_at hl 2 rfl) ?_
    refine lv_icmp_ge (tgt := 40) hx hb dX4_powerMasts_12 (by decide) (fun c12 => absurd c12 (nI_ge hi (by decide))) (fun c12 => ?_)
    refine lv_aload_n hx hb dX4_powerMasts_15 rfl (lv_at hl 1 rfl) ?_
    refine lv_iload_n hx hb dX4_powerMasts_16 rfl (lv_at hl 3 rfl) ?_
    refine mLd hx hb hC hH (i := i) hi dX4_powerMasts_17 ?_
    by_cases c17 : i < (pwsG g i).2.1 0 0
    · skip
      refine W.eq (g2 := F0 m 18 ls [.ref (ad (1, i, 0))]) (by simp [maO, c17, va_rf]) ?_
      refine lv_astore (lv' := [(4, .ref (ad (1, i, 0))), (0, .ref (ad (0, 0, 0))), (1, .ref (ad (0, 1, 0))), (2, .int (nI 8)), (3, .int (nI i))]) hx hb dX4_powerMasts_18 hl (by decide) rfl (fun ls hl => ?_)
      refine lv_aload hx hb dX4_powerMasts_20 (lv_at hl 0 rfl) ?_
      refine lv_ifnull hx hb dX4_powerMasts_22 ?_
      refine lv_aload hx hb dX4_powerMasts_25 (lv_at hl 0 rfl) ?_
      refine lv_aload_n hx hb dX4_powerMasts_27 rfl (lv_at hl 1 rfl) ?_
      refine g4 hx hb hts hown hC hH 4 (by decide) wf_X4_65 (v := .int ((pwsG g i).1 41 0)) rfl dX4_powerMasts_28 ?_
      refine k_w (va_runVN (As := [.int ((pwsG g i).1 41 0)]) (rest := []) ⟨hx, hb, hml, hown, hts⟩ (mX2_takePower l i c17 ((pwsG g i).1 41 0)) ⟨cn_of hts wk_X2_takePower wi_X2 wm_X4_194 sd_X2_takePower rfl rfl ⟨Nat.le_of_ble_eq_true rfl, Nat.le_of_ble_eq_true rfl⟩, hts _ wv_X2_takePower, hts _ wl_X2_takePower⟩ (P0.preV hC hS hH (Hp.recv hC.1 hH (1, i, 0) ⟨c17, rfl⟩ rfl rfl)) rfl rfl hl.1 rfl (lv_room (Nat.le_of_ble_eq_true rfl)) dX4_powerMasts_31 ⟨Nat.le_of_ble_eq_true rfl, Nat.le_of_ble_eq_true rfl⟩) hS (fun H locs hH hS => ?_)
      refine W.eq (g2 := F0 m 34 ls []) rfl ?_
      refine lv_iinc (v := nI (i + 1)) (lv' := [(3, .int (nI (i + 1))), (4, .ref (ad (1, i, 0))), (0, .ref (ad (0, 0, 0))), (1, .ref (ad (0, 1, 0))), (2, .int (nI 8))]) hx hb dX4_powerMasts_34 hl (k := 4) rfl (by rw [← nI_add]; rfl) (by decide) rfl (fun ls hl => ?_)
      refine lv_goto (tgt := 10) hx hb dX4_powerMasts_37 (by decide) ?_
      have h9 : pwsG g (i + 1) = tkpG (pwsG g i) i ((pwsG g i).1 41 0) := by simp [pwsG, c17]
      exact ih H locs _ _ ls ⟨rfl, rfl, by rw [h9]; exact hH, hS, lv_sub hl [2, 3, 4, 0] rfl⟩
    · skip
      refine W.eq (g2 := F0 m 18 ls [.null]) (by simp [maO, c17, va_rf]) ?_
      refine lv_astoreN (lv' := [(4, .null), (0, .ref (ad (0, 0, 0))), (1, .ref (ad (0, 1, 0))), (2, .int (nI 8)), (3, .int (nI i))]) hx hb dX4_powerMasts_18 hl (by decide) rfl (fun ls hl => ?_)
      refine lv_aloadN hx hb dX4_powerMasts_20 (lv_at hl 0 rfl) ?_
      refine lv_ifnullN (tgt := 34) hx hb dX4_powerMasts_22 (by decide) ?_
      refine lv_iinc (v := nI (i + 1)) (lv' := [(3, .int (nI (i + 1))), (4, .null), (0, .ref (ad (0, 0, 0))), (1, .ref (ad (0, 1, 0))), (2, .int (nI 8))]) hx hb dX4_powerMasts_34 hl (k := 4) rfl (by rw [← nI_add]; rfl) (by decide) rfl (fun ls hl => ?_)
      refine lv_goto (tgt := 10) hx hb dX4_powerMasts_37 (by decide) ?_
      have h9 : pwsG g (i + 1) = (pwsG g i) := by simp [pwsG, c17]
      exact ih H locs _ _ ls ⟨rfl, rfl, by rw [h9]; exact hH, hS, lv_sub hl [2, 3, 4, 0] rfl⟩
  · skip
    obtain ⟨rfl, rfl, hH, hS, hl⟩ := hJ0
    refine lv_iload_n hx hb dX4_powerMasts_10 rfl (lv_at hl 3 rfl) ?_
    refine lv_iload_n hx hb dX4_powerMasts_11 rfl (lv_at hl 2 rfl) ?_
    refine lv_icmp_ge (tgt := 40) hx hb dX4_powerMasts_12 (by decide) (fun c12 => ?_) (fun c12 => absurd (nI_le (Nat.le_refl _) (by decide)) c12)
    exact e_wv hx hb hr hlocks hS (by exact hH) (Nat.le_refl _) (Nat.le_refl _) dX4_powerMasts_40

set_option maxHeartbeats 4000000 in
set_option maxRecDepth 100000 in
theorem mX4_endLeases (l : Launch) {D : va_G} {k : Nat → ClassId} {b : Nat} {ad : Tg → Nat} {g : XS} {M : MF} {o : OF}  : Met l yX4_endLeases (WS yX4_endLeases cX4_endLeases 5 none) ({ frames := 0, cells := 0, slots := 0, locals := 0 }) (P0 D k b (Wo D k b ad g M o) [.ref (ad (0, 0, 0))]) (Qw b none (Wo D k b ad (elsG g 8) M o)) 0 0 (Fb b) := by
  refine Met0 (by decide +kernel) (Nat.le_of_ble_eq_true rfl) (fun p e s m below meth c ls hx hb hr hts hown hml hlocks hnm hC hH hl => ?_)
  have hS : va_S (Fb b) s.heap s.heap [] := va_S.rf
  have hl : lv_has ls 5 [(0, .ref (ad (0, 0, 0)))] := hl
  refine lv_aload_n hx hb dX4_endLeases_0 rfl (lv_at hl 0 rfl) ?_
  refine g4 hx hb hts hown hC hH 0 (by decide) wf_X4_11 (v := .ref (ad (0, 1, 0))) rfl dX4_endLeases_1 ?_
  refine lv_astore_n (lv' := [(1, .ref (ad (0, 1, 0))), (0, .ref (ad (0, 0, 0)))]) hx hb dX4_endLeases_4 rfl hl (by decide) rfl (fun ls hl => ?_)
  refine lv_aload_n hx hb dX4_endLeases_5 rfl (lv_at hl 0 rfl) ?_
  refine mLen hx hb hC hH dX4_endLeases_6 ?_
  refine lv_istore_n (lv' := [(2, .int (nI 8)), (1, .ref (ad (0, 1, 0))), (0, .ref (ad (0, 0, 0)))]) hx hb dX4_endLeases_7 rfl hl (by decide) rfl (fun ls hl => ?_)
  refine lv_iconst (v := nI 0) hx hb dX4_endLeases_8 (by decide) ?_
  refine lv_istore_n (lv' := [(3, .int (nI 0)), (2, .int (nI 8)), (1, .ref (ad (0, 1, 0))), (0, .ref (ad (0, 0, 0)))]) hx hb dX4_endLeases_9 rfl hl (by decide) rfl (fun ls hl => ?_)
  refine loop_w 8 (fun i H locs cells slots ls => cells = 0 ∧ slots = 0 ∧ Wo D k b ad (elsG g i) M o H ∧ va_S (Fb b) s.heap H locs ∧ lv_has ls 5 [(0, .ref (ad (0, 0, 0))), (1, .ref (ad (0, 1, 0))), (2, .int (nI 8)), (3, .int (nI i))]) (fun i hi H locs cells slots ls hJ0 ih => ?_) (fun H locs cells slots ls hJ0 => ?_) ⟨rfl, rfl, hH, hS, lv_sub hl [3, 2, 1, 0] rfl⟩
  · skip
    obtain ⟨rfl, rfl, hH, hS, hl⟩ := hJ0
    refine lv_iload_n hx hb dX4_endLeases_10 rfl (lv_at hl 3 rfl) ?_
    refine lv_iload_n hx hb dX4_endLeases_11 rfl (lv_at hl 2 rfl) ?_
    refine lv_icmp_ge (tgt := 60) hx hb dX4_endLeases_12 (by decide) (fun c12 => absurd c12 (nI_ge hi (by decide))) (fun c12 => ?_)
    refine lv_aload_n hx hb dX4_endLeases_15 rfl (lv_at hl 1 rfl) ?_
    refine lv_iload_n hx hb dX4_endLeases_16 rfl (lv_at hl 3 rfl) ?_
    refine mLd hx hb hC hH (i := i) hi dX4_endLeases_17 ?_
    by_cases c17 : i < (elsG g i).2.1 0 0
    · skip
      refine W.eq (g2 := F0 m 18 ls [.ref (ad (1, i, 0))]) (by simp [maO, c17, va_rf]) ?_
      refine lv_astore (lv' := [(4, .ref (ad (1, i, 0))), (0, .ref (ad (0, 0, 0))), (1, .ref (ad (0, 1, 0))), (2, .int (nI 8)), (3, .int (nI i))]) hx hb dX4_endLeases_18 hl (by decide) rfl (fun ls hl => ?_)
      refine lv_aload hx hb dX4_endLeases_20 (lv_at hl 0 rfl) ?_
      refine lv_ifnull hx hb dX4_endLeases_22 ?_
      refine lv_aload hx hb dX4_endLeases_25 (lv_at hl 0 rfl) ?_
      refine g2N hx hb hts hown hC hH i c17 7 (by decide) wf_X4_56 (v := va_rf (lsO ad i ((elsG g i).2.1 2 i))) rfl dX4_endLeases_27 ?_
      by_cases c27 : (elsG g i).2.1 2 i = 0
      · skip
        refine W.eq (g2 := F0 m 30 ls [.null]) (by simp [lsO, va_rf, c27]) ?_
        refine lv_ifnullN (tgt := 54) hx hb dX4_endLeases_30 (by decide) ?_
        refine lv_iinc (v := nI (i + 1)) (lv' := [(3, .int (nI (i + 1))), (4, .ref (ad (1, i, 0))), (0, .ref (ad (0, 0, 0))), (1, .ref (ad (0, 1, 0))), (2, .int (nI 8))]) hx hb dX4_endLeases_54 hl (k := 4) rfl (by rw [← nI_add]; rfl) (by decide) rfl (fun ls hl => ?_)
        refine lv_goto (tgt := 10) hx hb dX4_endLeases_57 (by decide) ?_
        have h9 : elsG g (i + 1) = (elsG g i) := by simp [elsG, c17, c27]
        exact ih H locs _ _ ls ⟨rfl, rfl, by rw [h9]; exact hH, hS, lv_sub hl [2, 3, 4, 0] rfl⟩
      · skip
        refine W.eq (g2 := F0 m 30 ls [.ref (ad (3, i, 0))]) (by simp [lsO, va_rf, c27]) ?_
        refine lv_ifnull hx hb dX4_endLeases_30 ?_
        refine lv_aload hx hb dX4_endLeases_33 (lv_at hl 0 rfl) ?_
        refine g2N hx hb hts hown hC hH i c17 7 (by decide) wf_X4_56 (v := va_rf (lsO ad i ((elsG g i).2.1 2 i))) rfl dX4_endLeases_35 ?_
        refine W.eq (g2 := F0 m 38 ls [.ref (ad (3, i, 0))]) (by simp [lsO, va_rf, c27]) ?_
        refine g0N hx hb hts hown hC hH i c17 c27 3 (by decide) wf_X4_128 (v := .int ((elsG g i).1 23 i)) rfl dX4_endLeases_38 ?_
        refine lv_aload_n hx hb dX4_endLeases_41 rfl (lv_at hl 1 rfl) ?_
        refine g4 hx hb hts hown hC hH 3 (by decide) wf_X4_52 (v := .int ((elsG g i).1 40 0)) rfl dX4_endLeases_42 ?_
        refine lv_icmp_gt (tgt := 54) hx hb dX4_endLeases_45 (by decide) (fun c45 => ?_) (fun c45 => ?_)
        · skip
          have c45x := Int32.not_le.mpr c45
          refine lv_iinc (v := nI (i + 1)) (lv' := [(3, .int (nI (i + 1))), (4, .ref (ad (1, i, 0))), (0, .ref (ad (0, 0, 0))), (1, .ref (ad (0, 1, 0))), (2, .int (nI 8))]) hx hb dX4_endLeases_54 hl (k := 4) rfl (by rw [← nI_add]; rfl) (by decide) rfl (fun ls hl => ?_)
          refine lv_goto (tgt := 10) hx hb dX4_endLeases_57 (by decide) ?_
          have h9 : elsG g (i + 1) = (elsG g i) := by simp [elsG, c17, c27, c45, c45x]
          exact ih H locs _ _ ls ⟨rfl, rfl, by rw [h9]; exact hH, hS, lv_sub hl [2, 3, 4, 0] rfl⟩
        · skip
          have c45x := Int32.not_lt.mp c45
          refine lv_aload hx hb dX4_endLeases_48 (lv_at hl 0 rfl) ?_
          refine lv_null hx hb dX4_endLeases_50 ?_
          refine p2E hx hb hts hown hC hH hS i c17 wf_X4_56 dX4_endLeases_51 (fun H locs (hH : Wo D k b ad (sn (elsG g i) 2 i 0) M o H) hS => ?_)
          refine lv_iinc (v := nI (i + 1)) (lv' := [(3, .int (nI (i + 1))), (4, .ref (ad (1, i, 0))), (0, .ref (ad (0, 0, 0))), (1, .ref (ad (0, 1, 0))), (2, .int (nI 8))]) hx hb dX4_endLeases_54 hl (k := 4) rfl (by rw [← nI_add]; rfl) (by decide) rfl (fun ls hl => ?_)
          refine lv_goto (tgt := 10) hx hb dX4_endLeases_57 (by decide) ?_
          have h9 : elsG g (i + 1) = sn (elsG g i) 2 i 0 := by simp [elsG, c17, c27, c45, c45x]
          exact ih H locs _ _ ls ⟨rfl, rfl, by rw [h9]; exact hH, hS, lv_sub hl [2, 3, 4, 0] rfl⟩
    · skip
      refine W.eq (g2 := F0 m 18 ls [.null]) (by simp [maO, c17, va_rf]) ?_
      refine lv_astoreN (lv' := [(4, .null), (0, .ref (ad (0, 0, 0))), (1, .ref (ad (0, 1, 0))), (2, .int (nI 8)), (3, .int (nI i))]) hx hb dX4_endLeases_18 hl (by decide) rfl (fun ls hl => ?_)
      refine lv_aloadN hx hb dX4_endLeases_20 (lv_at hl 0 rfl) ?_
      refine lv_ifnullN (tgt := 54) hx hb dX4_endLeases_22 (by decide) ?_
      refine lv_iinc (v := nI (i + 1)) (lv' := [(3, .int (nI (i + 1))), (4, .null), (0, .ref (ad (0, 0, 0))), (1, .ref (ad (0, 1, 0))), (2, .int (nI 8))]) hx hb dX4_endLeases_54 hl (k := 4) rfl (by rw [← nI_add]; rfl) (by decide) rfl (fun ls hl => ?_)
      refine lv_goto (tgt := 10) hx hb dX4_endLeases_57 (by decide) ?_
      have h9 : elsG g (i + 1) = (elsG g i) := by simp [elsG, c17]
      exact ih H locs _ _ ls ⟨rfl, rfl, by rw [h9]; exact hH, hS, lv_sub hl [2, 3, 4, 0] rfl⟩
  · skip
    obtain ⟨rfl, rfl, hH, hS, hl⟩ := hJ0
    refine lv_iload_n hx hb dX4_endLeases_10 rfl (lv_at hl 3 rfl) ?_
    refine lv_iload_n hx hb dX4_endLeases_11 rfl (lv_at hl 2 rfl) ?_
    refine lv_icmp_ge (tgt := 60) hx hb dX4_endLeases_12 (by decide) (fun c12 => ?_) (fun c12 => absurd (nI_le (Nat.le_refl _) (by decide)) c12)
    exact e_wv hx hb hr hlocks hS (by exact hH) (Nat.le_refl _) (Nat.le_refl _) dX4_endLeases_60
