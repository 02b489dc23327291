/-! THE CLASS: what callers call -/
set_option maxHeartbeats 4000000 in
set_option maxRecDepth 100000 in
theorem mX4_sun (l : Launch) (hlf : l.stackTraces = false) {D : va_G} {k : Nat → ClassId} {b : Nat} {ad0 : Tg → Nat} {g : XS} {M : MF} {o : OF} (a0 : Int32) : vx_Met l yX4_sun (WS yX4_sun cX4_sun 3 (some .int)) ({ frames := 6, cells := 1, slots := 6, locals := 81 }) (P0 D k b (Wo D k b ad0 g M o) [.ref (ad0 (0, 0, 0)), .int a0]) (Qx b (sunC a0 = 0) (some (.int (g.1 41 0))) (fun H => ∃ ad : Tg → Nat, Ex g ad0 ad ∧ Wo D k b ad (sx g 41 0 a0) M o H)) (Xx b (xN [nIA] (sunC a0)) (fun H => ∃ ad : Tg → Nat, Ex g ad0 ad ∧ Wo D k b ad g M o H)) 1 6 (Fb b) := by
  refine Met0x (by decide +kernel) (Nat.le_of_ble_eq_true rfl) (fun p e s m below meth c ls hx hb hr hts hown hml hlocks ht hC hH hl => ?_)
  have hS : va_S (Fb b) s.heap s.heap [] := va_S.rf
  obtain ⟨ad, hE, hH, hl⟩ : ∃ ad : Tg → Nat, Ex g ad0 ad ∧ Wo D k b ad g M o s.heap ∧ lv_has ls 3 [(0, .ref (ad (0, 0, 0))), (1, .int a0)] := ⟨ad0, Ex.rf, hH, hl⟩
  refine lv_iload_n hx hb dX4_sun_0 rfl (lv_at hl 1 rfl) ?_
  refine lv_iconst (v := 0) hx hb dX4_sun_1 (by decide) ?_
  refine lv_bipush (v := 10) hx hb dX4_sun_2 (by decide) ?_
  refine k_r (va_runS (As := [.int a0, .int 0, .int 10]) (rest := []) ⟨hx, hb, hml, hown, hts⟩ (mX4_isWithin l a0 0 10) ⟨cb_of hts wk_X4_isWithin wi_X4 wm_X4_29 sd_X4_isWithin rfl rfl ⟨Nat.le_of_ble_eq_true rfl, Nat.le_of_ble_eq_true rfl⟩, hts _ wz_X4_isWithin⟩ (P0.pre hC hS hH) rfl rfl hl.1 rfl (lv_room (Nat.le_of_ble_eq_true rfl)) dX4_sun_4 ⟨Nat.le_of_ble_eq_true rfl, Nat.le_of_ble_eq_true rfl⟩) ?_
  refine W.eq (g2 := F0 m 7 ls [.int (b2 (inB a0 0 10))]) rfl ?_
  refine lv_if_ne (tgt := 18) hx hb dX4_sun_7 (by decide) (fun c7 => ?_) (fun c7 => ?_)
  · skip
    have c7 := b2_n0.mp c7
    refine lv_aload_n hx hb dX4_sun_18 rfl (lv_at hl 0 rfl) ?_
    refine g4 hx hb hts hown hC hH 4 (by decide) wf_X4_65 (v := .int (g.1 41 0)) rfl dX4_sun_19 ?_
    refine lv_istore_n (lv' := [(2, .int (g.1 41 0)), (0, .ref (ad (0, 0, 0))), (1, .int a0)]) hx hb dX4_sun_22 rfl hl (by decide) rfl (fun ls hl => ?_)
    refine lv_aload_n hx hb dX4_sun_23 rfl (lv_at hl 1 rfl) ?_
    refine lv_iload_n hx hb dX4_sun_24 rfl (lv_at hl 2 rfl) ?_
    refine p4 hx hb hts hown hC hH hS 4 (by decide) (by decide) rfl wf_X4_65 rfl rfl dX4_sun_25 (fun H locs (hH : Wo D k b ad (sx g 41 0 a0) M o H) hS => ?_)
    refine lv_iload_n hx hb dX4_sun_28 rfl (lv_at hl 0 rfl) ?_
    have h8 : sunC a0 = 0 := by simp [sunC, c7]
    exact e_xi hx hb hr hlocks h8 rfl hS ⟨ad, hE, hH⟩ (Nat.zero_le _) (Nat.zero_le _) dX4_sun_29
  · skip
    have c7 := b2_0.mp c7
    have h9 : sunC a0 = 1 := by simp [sunC, c7]
    exact e_th (BX := fun H => ∃ ad : Tg → Nat, Ex g ad0 ad ∧ Wo D k b ad g M o H) (PE := xN [nIA] (sunC a0)) hlf (E := nIA) (by decide +kernel) wc_X4_33 wi_java_lang_IllegalArgumentException ax_IA gd_IA hx hb hts hown hC hlocks ht (by rw [hml]; exact hl.1) hS dX4_sun_10 dX4_sun_13 dX4_sun_14 dX4_sun_17 (fun H1 z o => ⟨ad, hE, hH.grow z o⟩) (Nat.le_of_ble_eq_true rfl) (Nat.le_of_ble_eq_true rfl) (show 0 + 1 ≤ 1 by omega) (show 0 + 6 ≤ 6 by omega) (show 0 + 1 ≤ 1 by omega) (show 0 + 6 ≤ 6 by omega) (by rw [h9]; exact ⟨by decide, rfl⟩)

set_option maxHeartbeats 4000000 in
set_option maxRecDepth 100000 in
theorem mX4_paid (l : Launch) (hlf : l.stackTraces = false) {D : va_G} {k : Nat → ClassId} {b : Nat} {ad0 : Tg → Nat} {g : XS} {M : MF} {o : OF} (a0 : Int32) : vx_Met l yX4_paid (WS yX4_paid cX4_paid 2 (some .int)) ({ frames := 6, cells := 1, slots := 6, locals := 81 }) (P0 D k b (Wo D k b ad0 g M o) [.ref (ad0 (0, 0, 0)), .int a0]) (Qx b (pdC a0 = 0) (some (.int (g.1 42 a0.toNatClampNeg))) (fun H => ∃ ad : Tg → Nat, Ex g ad0 ad ∧ Wo D k b ad g M o H)) (Xx b (xN [nIO] (pdC a0)) (fun H => ∃ ad : Tg → Nat, Ex g ad0 ad ∧ Wo D k b ad g M o H)) 1 6 (Fb b) := by
  refine Met0x (by decide +kernel) (Nat.le_of_ble_eq_true rfl) (fun p e s m below meth c ls hx hb hr hts hown hml hlocks ht hC hH hl => ?_)
  have hS : va_S (Fb b) s.heap s.heap [] := va_S.rf
  obtain ⟨ad, hE, hH, hl⟩ : ∃ ad : Tg → Nat, Ex g ad0 ad ∧ Wo D k b ad g M o s.heap ∧ lv_has ls 2 [(0, .ref (ad (0, 0, 0))), (1, .int a0)] := ⟨ad0, Ex.rf, hH, hl⟩
  refine lv_iload_n hx hb dX4_paid_0 rfl (lv_at hl 1 rfl) ?_
  refine k_r (va_runS (As := [.int a0]) (rest := []) ⟨hx, hb, hml, hown, hts⟩ (mX4_isFarmer l a0) ⟨cb_of hts wk_X4_isFarmer wi_X4 wm_X4_46 sd_X4_isFarmer rfl rfl ⟨Nat.le_of_ble_eq_true rfl, Nat.le_of_ble_eq_true rfl⟩, hts _ wz_X4_isFarmer⟩ (P0.pre hC hS hH) rfl rfl hl.1 rfl (lv_room (Nat.le_of_ble_eq_true rfl)) dX4_paid_1 ⟨Nat.le_of_ble_eq_true rfl, Nat.le_of_ble_eq_true rfl⟩) ?_
  refine W.eq (g2 := F0 m 4 ls [.int (b2 (inB a0 0 5))]) rfl ?_
  refine lv_if_ne (tgt := 15) hx hb dX4_paid_4 (by decide) (fun c4 => ?_) (fun c4 => ?_)
  · skip
    have c4 := b2_n0.mp c4
    refine lv_aload_n hx hb dX4_paid_15 rfl (lv_at hl 0 rfl) ?_
    refine g4 hx hb hts hown hC hH 2 (by decide) wf_X4_21 (v := .ref (ad (0, 3, 0))) rfl dX4_paid_16 ?_
    refine lv_iload_n hx hb dX4_paid_19 rfl (lv_at hl 1 rfl) ?_
    refine yLd hx hb hC hH (inB_vp c4) dX4_paid_20 ?_
    have h8 : pdC a0 = 0 := by simp [pdC, c4]
    exact e_xi hx hb hr hlocks h8 rfl hS ⟨ad, hE, hH⟩ (Nat.zero_le _) (Nat.zero_le _) dX4_paid_21
  · skip
    have c4 := b2_0.mp c4
    have h9 : pdC a0 = 1 := by simp [pdC, c4]
    exact e_th (BX := fun H => ∃ ad : Tg → Nat, Ex g ad0 ad ∧ Wo D k b ad g M o H) (PE := xN [nIO] (pdC a0)) hlf (E := nIO) (by decide +kernel) wc_X4_49 wi_java_lang_IndexOutOfBoundsException ax_IO gd_IO hx hb hts hown hC hlocks ht (by rw [hml]; exact hl.1) hS dX4_paid_7 dX4_paid_10 dX4_paid_11 dX4_paid_14 (fun H1 z o => ⟨ad, hE, hH.grow z o⟩) (Nat.le_of_ble_eq_true rfl) (Nat.le_of_ble_eq_true rfl) (show 0 + 1 ≤ 1 by omega) (show 0 + 6 ≤ 6 by omega) (show 0 + 1 ≤ 1 by omega) (show 0 + 6 ≤ 6 by omega) (by rw [h9]; exact ⟨by decide, rfl⟩)

set_option maxHeartbeats 4000000 in
set_option maxRecDepth 100000 in
theorem mX4_call (l : Launch) (hlf : l.stackTraces = false) {D : va_G} {k : Nat → ClassId} {b : Nat} {ad0 : Tg → Nat} {g : XS} {M : MF} {o : OF} (hI : XI g) (a0 : Int32) : vx_Met l yX4_call (WS yX4_call cX4_call 4 (some .int)) ({ frames := 6, cells := 1, slots := 6, locals := 81 }) (P0 D k b (Wo D k b ad0 g M o) [.ref (ad0 (0, 0, 0)), .int a0]) (Qx b (clC g a0 = 0) (some (.int (clV g (pI g a0 - 1)))) (fun H => ∃ ad : Tg → Nat, Ex g ad0 ad ∧ Wo D k b ad (clG g (pI g a0 - 1)) M o H)) (Xx b (xN [nIO, nIS] (clC g a0)) (fun H => ∃ ad : Tg → Nat, Ex g ad0 ad ∧ Wo D k b ad g M o H)) 1 6 (Fb b) := by
  refine Met0x (by decide +kernel) (Nat.le_of_ble_eq_true rfl) (fun p e s m below meth c ls hx hb hr hts hown hml hlocks ht hC hH hl => ?_)
  have hS : va_S (Fb b) s.heap s.heap [] := va_S.rf
  obtain ⟨ad, hE, hH, hl⟩ : ∃ ad : Tg → Nat, Ex g ad0 ad ∧ Wo D k b ad g M o s.heap ∧ lv_has ls 4 [(0, .ref (ad (0, 0, 0))), (1, .int a0)] := ⟨ad0, Ex.rf, hH, hl⟩
  refine lv_aload_n hx hb dX4_call_0 rfl (lv_at hl 0 rfl) ?_
  refine lv_iload_n hx hb dX4_call_1 rfl (lv_at hl 1 rfl) ?_
  refine k_r (va_runV (As := [.int a0]) (rest := []) ⟨hx, hb, hml, hown, hts⟩ (mX4_phoneAt l a0) ⟨cb_of hts wk_X4_phoneAt wi_X4 wm_X4_71 sd_X4_phoneAt rfl rfl ⟨Nat.le_of_ble_eq_true rfl, Nat.le_of_ble_eq_true rfl⟩, hts _ wv_X4_phoneAt, hts _ wl_X4_phoneAt⟩ (P0.preV hC hS hH (Hp.recv hC.1 hH (0, 0, 0) ⟨by decide, rfl⟩ rfl rfl)) rfl rfl hl.1 rfl (lv_room (Nat.le_of_ble_eq_true rfl)) dX4_call_2 ⟨Nat.le_of_ble_eq_true rfl, Nat.le_of_ble_eq_true rfl⟩) ?_
  refine W.eq (g2 := F0 m 5 ls [va_rf (prO ad (pI g a0))]) rfl ?_
  refine lv_astore_nO (lv' := [(2, va_rf (prO ad (pI g a0))), (0, .ref (ad (0, 0, 0))), (1, .int a0)]) hx hb dX4_call_5 rfl hl (by decide) rfl (fun ls hl => ?_)
  refine lv_aload_nO hx hb dX4_call_6 rfl (lv_at hl 0 rfl) ?_
  refine lv_ifnonnullO (tgt := 18) hx hb dX4_call_7 (by decide) (fun c7a c7 => ?_) (fun c7 => ?_)
  · skip
    have c7 := mt prO_0.mpr (by rw [c7]; exact Option.some_ne_none _)
    have hl : lv_has ls 4 [(2, .ref (ad (2, pI g a0 - 1, 0))), (0, .ref (ad (0, 0, 0))), (1, .int a0)] := by simpa [prO, va_rf, c7] using hl
    refine lv_aload_n hx hb dX4_call_18 rfl (lv_at hl 0 rfl) ?_
    refine g3N hx hb hts hown hC hH (pI g a0 - 1) (pI_n c7).1 1 (by decide) wf_X4_75 (v := va_rf (mrO ad (g.2.1 3 (pI g a0 - 1)))) rfl dX4_call_19 ?_
    by_cases c19 : g.2.1 3 (pI g a0 - 1) = 0
    · skip
      refine W.eq (g2 := F0 m 22 ls [.null]) (by simp [mrO, va_rf, c19]) ?_
      refine lv_ifnullN (tgt := 33) hx hb dX4_call_22 (by decide) ?_
      refine lv_aload_n hx hb dX4_call_33 rfl (lv_at hl 1 rfl) ?_
      refine lv_aload_n hx hb dX4_call_34 rfl (lv_at hl 0 rfl) ?_
      refine g3N hx hb hts hown hC hH (pI g a0 - 1) (pI_n c7).1 0 (by decide) wf_X4_79 (v := .int (g.1 30 (pI g a0 - 1))) rfl dX4_call_35 ?_
      refine k_r (va_runV (As := [.int (g.1 30 (pI g a0 - 1))]) (rest := []) ⟨hx, hb, hml, hown, hts⟩ (mX4_nearestFree l (g.1 30 (pI g a0 - 1))) ⟨cb_of hts wk_X4_nearestFree wi_X4 wm_X4_82 sd_X4_nearestFree rfl rfl ⟨Nat.le_of_ble_eq_true rfl, Nat.le_of_ble_eq_true rfl⟩, hts _ wv_X4_nearestFree, hts _ wl_X4_nearestFree⟩ (P0.preV hC hS hH (Hp.recv hC.1 hH (0, 0, 0) ⟨by decide, rfl⟩ rfl rfl)) rfl rfl hl.1 rfl (lv_room (Nat.le_of_ble_eq_true rfl)) dX4_call_38 ⟨Nat.le_of_ble_eq_true rfl, Nat.le_of_ble_eq_true rfl⟩) ?_
      refine W.eq (g2 := F0 m 41 ls [va_rf (mrO ad (nf g (g.1 30 (pI g a0 - 1)) 8))]) rfl ?_
      refine lv_astore_nO (lv' := [(3, va_rf (mrO ad (nf g (g.1 30 (pI g a0 - 1)) 8))), (2, .ref (ad (2, pI g a0 - 1, 0))), (0, .ref (ad (0, 0, 0))), (1, .int a0)]) hx hb dX4_call_41 rfl hl (by decide) rfl (fun ls hl => ?_)
      refine lv_aload_nO hx hb dX4_call_42 rfl (lv_at hl 0 rfl) ?_
      refine lv_ifnonnullO (tgt := 58) hx hb dX4_call_43 (by decide) (fun c43a c43 => ?_) (fun c43 => ?_)
      · skip
        have c43 := mt mrO_0.mpr (by rw [c43]; exact Option.some_ne_none _)
        have hl : lv_has ls 4 [(3, .ref (ad (1, nf g (g.1 30 (pI g a0 - 1)) 8 - 1, 0))), (2, .ref (ad (2, pI g a0 - 1, 0))), (0, .ref (ad (0, 0, 0))), (1, .int a0)] := by simpa [mrO, va_rf, c43] using hl
        refine lv_aload_n hx hb dX4_call_58 rfl (lv_at hl 1 rfl) ?_
        refine lv_aload_n hx hb dX4_call_59 rfl (lv_at hl 0 rfl) ?_
        refine lv_aload_n hx hb dX4_call_60 rfl (lv_at hl 2 rfl) ?_
        refine g4 hx hb hts hown hC hH 3 (by decide) wf_X4_52 (v := .int (g.1 40 0)) rfl dX4_call_61 ?_
        refine k_w (va_runVN (As := [.ref (ad (1, nf g (g.1 30 (pI g a0 - 1)) 8 - 1, 0)), .int (g.1 40 0)]) (rest := []) ⟨hx, hb, hml, hown, hts⟩ (mX3_comeTo l (g := g) (pI g a0 - 1) (nf g (g.1 30 (pI g a0 - 1)) 8 - 1) (pI_n c7).1 (show nf g (g.1 30 (pI g a0 - 1)) 8 - 1 < g.2.1 0 0 by have := (nf_le g (g.1 30 (pI g a0 - 1)) 8).2 c43; omega) (g.1 40 0)) ⟨cn_of hts wk_X3_comeTo wi_X3 wm_X4_88 sd_X3_comeTo rfl rfl ⟨Nat.le_of_ble_eq_true rfl, Nat.le_of_ble_eq_true rfl⟩, hts _ wv_X3_comeTo, hts _ wl_X3_comeTo⟩ (P0.preV hC hS hH (Hp.recv hC.1 hH (2, pI g a0 - 1, 0) ⟨(pI_n c7).1, rfl⟩ rfl rfl)) rfl rfl hl.1 rfl (lv_room (Nat.le_of_ble_eq_true rfl)) dX4_call_64 ⟨Nat.le_of_ble_eq_true rfl, Nat.le_of_ble_eq_true rfl⟩) hS (fun H locs hH hS => ?_)
        refine W.eq (g2 := F0 m 67 ls []) rfl ?_
        refine lv_aload_n hx hb dX4_call_67 rfl (lv_at hl 0 rfl) ?_
        refine g2N hx hb hts hown hC hH (nf g (g.1 30 (pI g a0 - 1)) 8 - 1) (show nf g (g.1 30 (pI g a0 - 1)) 8 - 1 < g.2.1 0 0 by have := (nf_le g (g.1 30 (pI g a0 - 1)) 8).2 c43; omega) 0 (by decide) wf_X4_92 (v := .int ((comG g (pI g a0 - 1) (nf g (g.1 30 (pI g a0 - 1)) 8 - 1) (g.1 40 0)).1 0 (nf g (g.1 30 (pI g a0 - 1)) 8 - 1))) rfl dX4_call_68 ?_
        have h8 : clC g a0 = 0 := by simp [clC, c7, c19, c43]
        have h9 : clG g (pI g a0 - 1) = (comG g (pI g a0 - 1) (nf g (g.1 30 (pI g a0 - 1)) 8 - 1) (g.1 40 0)) := by simp [clG, c7, c19, c43]
        exact e_xi hx hb hr hlocks h8 (by simp [clV, clG, c7, c19, c43]) hS ⟨ad, hE, by rw [h9]; exact hH⟩ (Nat.zero_le _) (Nat.zero_le _) dX4_call_71
      · skip
        have c43 := mrO_0.mp c43
        have hl : lv_has ls 4 [(3, .null), (2, .ref (ad (2, pI g a0 - 1, 0))), (0, .ref (ad (0, 0, 0))), (1, .int a0)] := by simpa [mrO, va_rf, c43] using hl
        refine lv_aload_n hx hb dX4_call_46 rfl (lv_at hl 1 rfl) ?_
        refine lv_dup hx hb dX4_call_47 rfl ?_
        refine g3N hx hb hts hown hC hH (pI g a0 - 1) (pI_n c7).1 3 (by decide) wf_X4_85 (v := .int (g.1 33 (pI g a0 - 1))) rfl dX4_call_48 ?_
        refine lv_iconst (v := 1) hx hb dX4_call_51 (by decide) ?_
        refine lv_iadd hx hb dX4_call_52 ?_
        refine p3N hx hb hts hown hC hH hS (pI g a0 - 1) (pI_n c7).1 3 (by decide) (by decide) rfl wf_X4_85 rfl rfl dX4_call_53 (fun H locs (hH : Wo D k b ad (sx g 33 (pI g a0 - 1) ((g.1 33 (pI g a0 - 1)) + 1)) M o H) hS => ?_)
        refine lv_iconst (v := (-1)) hx hb dX4_call_56 (by decide) ?_
        have h8 : clC g a0 = 0 := by simp [clC, c7, c19, c43]
        have h9 : clG g (pI g a0 - 1) = sx g 33 (pI g a0 - 1) ((g.1 33 (pI g a0 - 1)) + 1) := by simp [clG, c7, c19, c43]
        exact e_xi hx hb hr hlocks h8 (by simp [clV, clG, c7, c19, c43]) hS ⟨ad, hE, by rw [h9]; exact hH⟩ (Nat.zero_le _) (Nat.zero_le _) dX4_call_57
    · skip
      refine W.eq (g2 := F0 m 22 ls [.ref (ad (1, (g.2.1 3 (pI g a0 - 1)) - 1, 0))]) (by simp [mrO, va_rf, c19]) ?_
      refine lv_ifnull hx hb dX4_call_22 ?_
      have h9 : clC g a0 = 2 := by simp [clC, c7, c19]
      exact e_th (BX := fun H => ∃ ad : Tg → Nat, Ex g ad0 ad ∧ Wo D k b ad g M o H) (PE := xN [nIO, nIS] (clC g a0)) hlf (E := nIS) (by decide +kernel) wc_X4_39 wi_java_lang_IllegalStateException ax_IS gd_IS hx hb hts hown hC hlocks ht (by rw [hml]; exact hl.1) hS dX4_call_25 dX4_call_28 dX4_call_29 dX4_call_32 (fun H1 z o => ⟨ad, hE, hH.grow z o⟩) (Nat.le_of_ble_eq_true rfl) (Nat.le_of_ble_eq_true rfl) (show 0 + 1 ≤ 1 by omega) (show 0 + 6 ≤ 6 by omega) (show 0 + 1 ≤ 1 by omega) (show 0 + 6 ≤ 6 by omega) (by rw [h9]; exact ⟨by decide, rfl⟩)
  · skip
    have c7 := prO_0.mp c7
    have hl : lv_has ls 4 [(2, .null), (0, .ref (ad (0, 0, 0))), (1, .int a0)] := by simpa [prO, va_rf, c7] using hl
    have h9 : clC g a0 = 1 := by simp [clC, c7]
    exact e_th (BX := fun H => ∃ ad : Tg → Nat, Ex g ad0 ad ∧ Wo D k b ad g M o H) (PE := xN [nIO, nIS] (clC g a0)) hlf (E := nIO) (by decide +kernel) wc_X4_49 wi_java_lang_IndexOutOfBoundsException ax_IO gd_IO hx hb hts hown hC hlocks ht (by rw [hml]; exact hl.1) hS dX4_call_10 dX4_call_13 dX4_call_14 dX4_call_17 (fun H1 z o => ⟨ad, hE, hH.grow z o⟩) (Nat.le_of_ble_eq_true rfl) (Nat.le_of_ble_eq_true rfl) (show 0 + 1 ≤ 1 by omega) (show 0 + 6 ≤ 6 by omega) (show 0 + 1 ≤ 1 by omega) (show 0 + 6 ≤ 6 by omega) (by rw [h9]; exact ⟨by decide, rfl⟩)

set_option maxHeartbeats 4000000 in
set_option maxRecDepth 100000 in
theorem mX4_end (l : Launch) (hlf : l.stackTraces = false) {D : va_G} {k : Nat → ClassId} {b : Nat} {ad0 : Tg → Nat} {g : XS} {M : MF} {o : OF} (hI : XI g) (a0 : Int32) (B : Nat) (hB : enC g a0 = 0 → tb (goG g (pI g a0 - 1) (g.1 40 0)) ≤ tb g + B) : vx_Met l yX4_end (WS yX4_end cX4_end 4 (some .int)) ({ frames := 6, cells := 3 * B + 1, slots := 132 * B + 6, locals := 101 }) (P0 D k b (Wo D k b ad0 g M o) [.ref (ad0 (0, 0, 0)), .int a0]) (Qx b (enC g a0 = 0) (some (.int (cnI g (pI g a0 - 1)))) (fun H => ∃ ad : Tg → Nat, Ex g ad0 ad ∧ Wo D k b ad (goG g (pI g a0 - 1) (g.1 40 0)) M o H)) (Xx b (xN [nIO, nIS] (enC g a0)) (fun H => ∃ ad : Tg → Nat, Ex g ad0 ad ∧ Wo D k b ad g M o H)) (3 * B + 1) (132 * B + 6) (Fb b) := by
  refine Met0x (by decide +kernel) (Nat.le_of_ble_eq_true rfl) (fun p e s m below meth c ls hx hb hr hts hown hml hlocks ht hC hH hl => ?_)
  have hS : va_S (Fb b) s.heap s.heap [] := va_S.rf
  obtain ⟨ad, hE, hH, hl⟩ : ∃ ad : Tg → Nat, Ex g ad0 ad ∧ Wo D k b ad g M o s.heap ∧ lv_has ls 4 [(0, .ref (ad (0, 0, 0))), (1, .int a0)] := ⟨ad0, Ex.rf, hH, hl⟩
  refine lv_aload_n hx hb dX4_end_0 rfl (lv_at hl 0 rfl) ?_
  refine lv_iload_n hx hb dX4_end_1 rfl (lv_at hl 1 rfl) ?_
  refine k_r (va_runV (As := [.int a0]) (rest := []) ⟨hx, hb, hml, hown, hts⟩ (mX4_phoneAt l a0) ⟨cb_of hts wk_X4_phoneAt wi_X4 wm_X4_71 sd_X4_phoneAt rfl rfl ⟨Nat.le_of_ble_eq_true rfl, Nat.le_of_ble_eq_true rfl⟩, hts _ wv_X4_phoneAt, hts _ wl_X4_phoneAt⟩ (P0.preV hC hS hH (Hp.recv hC.1 hH (0, 0, 0) ⟨by decide, rfl⟩ rfl rfl)) rfl rfl hl.1 rfl (lv_room (Nat.le_of_ble_eq_true rfl)) dX4_end_2 ⟨Nat.le_of_ble_eq_true rfl, Nat.le_of_ble_eq_true rfl⟩) ?_
  refine W.eq (g2 := F0 m 5 ls [va_rf (prO ad (pI g a0))]) rfl ?_
  refine lv_astore_nO (lv' := [(2, va_rf (prO ad (pI g a0))), (0, .ref (ad (0, 0, 0))), (1, .int a0)]) hx hb dX4_end_5 rfl hl (by decide) rfl (fun ls hl => ?_)
  refine lv_aload_nO hx hb dX4_end_6 rfl (lv_at hl 0 rfl) ?_
  refine lv_ifnonnullO (tgt := 18) hx hb dX4_end_7 (by decide) (fun c7a c7 => ?_) (fun c7 => ?_)
  · skip
    have c7 := mt prO_0.mpr (by rw [c7]; exact Option.some_ne_none _)
    have hl : lv_has ls 4 [(2, .ref (ad (2, pI g a0 - 1, 0))), (0, .ref (ad (0, 0, 0))), (1, .int a0)] := by simpa [prO, va_rf, c7] using hl
    refine lv_aload_n hx hb dX4_end_18 rfl (lv_at hl 0 rfl) ?_
    refine g3N hx hb hts hown hC hH (pI g a0 - 1) (pI_n c7).1 1 (by decide) wf_X4_75 (v := va_rf (mrO ad (g.2.1 3 (pI g a0 - 1)))) rfl dX4_end_19 ?_
    by_cases c19 : g.2.1 3 (pI g a0 - 1) = 0
    · skip
      refine W.eq (g2 := F0 m 22 ls [.null]) (by simp [mrO, va_rf, c19]) ?_
      refine lv_ifnonnullN hx hb dX4_end_22 ?_
      have h9 : enC g a0 = 2 := by simp [enC, c7, c19]
      exact e_th (BX := fun H => ∃ ad : Tg → Nat, Ex g ad0 ad ∧ Wo D k b ad g M o H) (PE := xN [nIO, nIS] (enC g a0)) hlf (E := nIS) (by decide +kernel) wc_X4_39 wi_java_lang_IllegalStateException ax_IS gd_IS hx hb hts hown hC hlocks ht (by rw [hml]; exact hl.1) hS dX4_end_25 dX4_end_28 dX4_end_29 dX4_end_32 (fun H1 z o => ⟨ad, hE, hH.grow z o⟩) (Nat.le_of_ble_eq_true rfl) (Nat.le_of_ble_eq_true rfl) (show 0 + 1 ≤ 3 * B + 1 by omega) (show 0 + 6 ≤ 132 * B + 6 by omega) (show 0 + 1 ≤ 3 * B + 1 by omega) (show 0 + 6 ≤ 132 * B + 6 by omega) (by rw [h9]; exact ⟨by decide, rfl⟩)
    · skip
      refine W.eq (g2 := F0 m 22 ls [.ref (ad (1, (g.2.1 3 (pI g a0 - 1)) - 1, 0))]) (by simp [mrO, va_rf, c19]) ?_
      refine lv_ifnonnull (tgt := 33) hx hb dX4_end_22 (by decide) ?_
      refine lv_aload_n hx hb dX4_end_33 rfl (lv_at hl 0 rfl) ?_
      refine k_r (va_runVN (As := []) (rest := []) ⟨hx, hb, hml, hown, hts⟩ (mX3_carrierNumber l (pI g a0 - 1) (pI_n c7).1 hI) ⟨cn_of hts wk_X3_carrierNumber wi_X3 wm_X4_95 sd_X3_carrierNumber rfl rfl ⟨Nat.le_of_ble_eq_true rfl, Nat.le_of_ble_eq_true rfl⟩, hts _ wv_X3_carrierNumber, hts _ wl_X3_carrierNumber⟩ (P0.preV hC hS hH (Hp.recv hC.1 hH (2, pI g a0 - 1, 0) ⟨(pI_n c7).1, rfl⟩ rfl rfl)) rfl rfl hl.1 rfl (lv_room (Nat.le_of_ble_eq_true rfl)) dX4_end_34 ⟨Nat.le_of_ble_eq_true rfl, Nat.le_of_ble_eq_true rfl⟩) ?_
      refine W.eq (g2 := F0 m 37 ls [.int (cnI g (pI g a0 - 1))]) rfl ?_
      refine lv_istore_n (lv' := [(3, .int (cnI g (pI g a0 - 1))), (2, .ref (ad (2, pI g a0 - 1, 0))), (0, .ref (ad (0, 0, 0))), (1, .int a0)]) hx hb dX4_end_37 rfl hl (by decide) rfl (fun ls hl => ?_)
      refine lv_aload_n hx hb dX4_end_38 rfl (lv_at hl 1 rfl) ?_
      refine lv_aload_n hx hb dX4_end_39 rfl (lv_at hl 2 rfl) ?_
      refine g4 hx hb hts hown hC hH 3 (by decide) wf_X4_52 (v := .int (g.1 40 0)) rfl dX4_end_40 ?_
      refine k_w (va_runVN (As := [.int (g.1 40 0)]) (rest := []) ⟨hx, hb, hml, hown, hts⟩ (mX3_goAway l (pI g a0 - 1) (pI_n c7).1 hI c19 (g.1 40 0) B (hB (by simp [enC, c7, c19]))) ⟨cn_of hts wk_X3_goAway wi_X3 wm_X4_99 sd_X3_goAway rfl rfl ⟨Nat.le_of_ble_eq_true rfl, Nat.le_of_ble_eq_true rfl⟩, hts _ wv_X3_goAway, hts _ wl_X3_goAway⟩ (P0.preV hC hS hH (Hp.recv hC.1 hH (2, pI g a0 - 1, 0) ⟨(pI_n c7).1, rfl⟩ rfl rfl)) rfl rfl hl.1 rfl (lv_room (Nat.le_of_ble_eq_true rfl)) dX4_end_43 ⟨show 0 + 3 * B ≤ 3 * B + 1 by omega, show 0 + 132 * B ≤ 132 * B + 6 by omega⟩) hS (fun H locs hH hS => ?_)
      obtain ⟨ad, hF, hH⟩ := hH
      have hl : lv_has ls 4 [(3, .int (cnI g (pI g a0 - 1))), (2, .ref (ad (2, pI g a0 - 1, 0))), (0, .ref (ad (0, 0, 0))), (1, .int a0)] := by rw [hF (2, pI g a0 - 1, 0) (by simp) ⟨(pI_n c7).1, rfl⟩, hF (0, 0, 0) (by simp) ⟨by decide, rfl⟩]; exact hl
      refine W.eq (g2 := F0 m 46 ls []) rfl ?_
      have hE := hE.tr Gr.rf hF
      refine lv_iload_n hx hb dX4_end_46 rfl (lv_at hl 0 rfl) ?_
      have h8 : enC g a0 = 0 := by simp [enC, c7, c19]
      exact e_xi hx hb hr hlocks h8 rfl hS ⟨ad, hE, hH⟩ (show 0 + 3 * B ≤ 3 * B + 1 by omega) (show 0 + 132 * B ≤ 132 * B + 6 by omega) dX4_end_47
  · skip
    have c7 := prO_0.mp c7
    have hl : lv_has ls 4 [(2, .null), (0, .ref (ad (0, 0, 0))), (1, .int a0)] := by simpa [prO, va_rf, c7] using hl
    have h9 : enC g a0 = 1 := by simp [enC, c7]
    exact e_th (BX := fun H => ∃ ad : Tg → Nat, Ex g ad0 ad ∧ Wo D k b ad g M o H) (PE := xN [nIO, nIS] (enC g a0)) hlf (E := nIO) (by decide +kernel) wc_X4_49 wi_java_lang_IndexOutOfBoundsException ax_IO gd_IO hx hb hts hown hC hlocks ht (by rw [hml]; exact hl.1) hS dX4_end_10 dX4_end_13 dX4_end_14 dX4_end_17 (fun H1 z o => ⟨ad, hE, hH.grow z o⟩) (Nat.le_of_ble_eq_true rfl) (Nat.le_of_ble_eq_true rfl) (show 0 + 1 ≤ 3 * B + 1 by omega) (show 0 + 6 ≤ 132 * B + 6 by omega) (show 0 + 1 ≤ 3 * B + 1 by omega) (show 0 + 6 ≤ 132 * B + 6 by omega) (by rw [h9]; exact ⟨by decide, rfl⟩)

set_option maxHeartbeats 4000000 in
set_option maxRecDepth 100000 in
theorem mX4_move (l : Launch) (hlf : l.stackTraces = false) {D : va_G} {k : Nat → ClassId} {b : Nat} {ad0 : Tg → Nat} {g : XS} {M : MF} {o : OF} (hI : XI g) (a0 a1 : Int32) (B : Nat) (hB : mvC g a0 a1 = 0 → tb (moveG g (pI g a0 - 1) a1) ≤ tb g + B) : vx_Met l yX4_move (WS yX4_move cX4_move 4 (some .int)) ({ frames := 6, cells := 3 * B + 1, slots := 132 * B + 6, locals := 123 }) (P0 D k b (Wo D k b ad0 g M o) [.ref (ad0 (0, 0, 0)), .int a0, .int a1]) (Qx b (mvC g a0 a1 = 0) (some (.int (cnI (moveG g (pI g a0 - 1) a1) (pI g a0 - 1)))) (fun H => ∃ ad : Tg → Nat, Ex g ad0 ad ∧ Wo D k b ad (moveG g (pI g a0 - 1) a1) M o H)) (Xx b (xN [nIO, nIA] (mvC g a0 a1)) (fun H => ∃ ad : Tg → Nat, Ex g ad0 ad ∧ Wo D k b ad g M o H)) (3 * B + 1) (132 * B + 6) (Fb b) := by
  refine Met0x (by decide +kernel) (Nat.le_of_ble_eq_true rfl) (fun p e s m below meth c ls hx hb hr hts hown hml hlocks ht hC hH hl => ?_)
  have hS : va_S (Fb b) s.heap s.heap [] := va_S.rf
  obtain ⟨ad, hE, hH, hl⟩ : ∃ ad : Tg → Nat, Ex g ad0 ad ∧ Wo D k b ad g M o s.heap ∧ lv_has ls 4 [(0, .ref (ad (0, 0, 0))), (1, .int a0), (2, .int a1)] := ⟨ad0, Ex.rf, hH, hl⟩
  refine lv_aload_n hx hb dX4_move_0 rfl (lv_at hl 0 rfl) ?_
  refine lv_iload_n hx hb dX4_move_1 rfl (lv_at hl 1 rfl) ?_
  refine k_r (va_runV (As := [.int a0]) (rest := []) ⟨hx, hb, hml, hown, hts⟩ (mX4_phoneAt l a0) ⟨cb_of hts wk_X4_phoneAt wi_X4 wm_X4_71 sd_X4_phoneAt rfl rfl ⟨Nat.le_of_ble_eq_true rfl, Nat.le_of_ble_eq_true rfl⟩, hts _ wv_X4_phoneAt, hts _ wl_X4_phoneAt⟩ (P0.preV hC hS hH (Hp.recv hC.1 hH (0, 0, 0) ⟨by decide, rfl⟩ rfl rfl)) rfl rfl hl.1 rfl (lv_room (Nat.le_of_ble_eq_true rfl)) dX4_move_2 ⟨Nat.le_of_ble_eq_true rfl, Nat.le_of_ble_eq_true rfl⟩) ?_
  refine W.eq (g2 := F0 m 5 ls [va_rf (prO ad (pI g a0))]) rfl ?_
  refine lv_astore_nO (lv' := [(3, va_rf (prO ad (pI g a0))), (0, .ref (ad (0, 0, 0))), (1, .int a0), (2, .int a1)]) hx hb dX4_move_5 rfl hl (by decide) rfl (fun ls hl => ?_)
  refine lv_aload_nO hx hb dX4_move_6 rfl (lv_at hl 0 rfl) ?_
  refine lv_ifnonnullO (tgt := 18) hx hb dX4_move_7 (by decide) (fun c7a c7 => ?_) (fun c7 => ?_)
  · skip
    have c7 := mt prO_0.mpr (by rw [c7]; exact Option.some_ne_none _)
    have hl : lv_has ls 4 [(3, .ref (ad (2, pI g a0 - 1, 0))), (0, .ref (ad (0, 0, 0))), (1, .int a0), (2, .int a1)] := by simpa [prO, va_rf, c7] using hl
    refine lv_iload_n hx hb dX4_move_18 rfl (lv_at hl 3 rfl) ?_
    refine k_r (va_runS (As := [.int a1]) (rest := []) ⟨hx, hb, hml, hown, hts⟩ (mX4_isPlace l a1) ⟨cb_of hts wk_X4_isPlace wi_X4 wm_X4_25 sd_X4_isPlace rfl rfl ⟨Nat.le_of_ble_eq_true rfl, Nat.le_of_ble_eq_true rfl⟩, hts _ wz_X4_isPlace⟩ (P0.pre hC hS hH) rfl rfl hl.1 rfl (lv_room (Nat.le_of_ble_eq_true rfl)) dX4_move_19 ⟨Nat.le_of_ble_eq_true rfl, Nat.le_of_ble_eq_true rfl⟩) ?_
    refine W.eq (g2 := F0 m 22 ls [.int (b2 (inB a1 0 99))]) rfl ?_
    refine lv_if_ne (tgt := 33) hx hb dX4_move_22 (by decide) (fun c22 => ?_) (fun c22 => ?_)
    · skip
      have c22 := b2_n0.mp c22
      refine lv_aload_n hx hb dX4_move_33 rfl (lv_at hl 0 rfl) ?_
      refine lv_iload_n hx hb dX4_move_34 rfl (lv_at hl 3 rfl) ?_
      refine p3N hx hb hts hown hC hH hS (pI g a0 - 1) (pI_n c7).1 0 (by decide) (by decide) rfl wf_X4_79 rfl rfl dX4_move_35 (fun H locs (hH : Wo D k b ad (sx g 30 (pI g a0 - 1) a1) M o H) hS => ?_)
      refine lv_aload_n hx hb dX4_move_38 rfl (lv_at hl 0 rfl) ?_
      refine g3N hx hb hts hown hC hH (pI g a0 - 1) (pI_n c7).1 1 (by decide) wf_X4_75 (v := va_rf (mrO ad (g.2.1 3 (pI g a0 - 1)))) rfl dX4_move_39 ?_
      by_cases c39 : g.2.1 3 (pI g a0 - 1) = 0
      · skip
        refine W.eq (g2 := F0 m 42 ls [.null]) (by simp [mrO, va_rf, c39]) ?_
        refine lv_ifnullN (tgt := 61) hx hb dX4_move_42 (by decide) ?_
        refine lv_aload_n hx hb dX4_move_61 rfl (lv_at hl 0 rfl) ?_
        refine k_r (va_runVN (As := []) (rest := []) ⟨hx, hb, hml, hown, hts⟩ (mX3_carrierNumber l (g := (sx g 30 (pI g a0 - 1) a1)) (pI g a0 - 1) (pI_n c7).1 (hI.of rfl rfl)) ⟨cn_of hts wk_X3_carrierNumber wi_X3 wm_X4_95 sd_X3_carrierNumber rfl rfl ⟨Nat.le_of_ble_eq_true rfl, Nat.le_of_ble_eq_true rfl⟩, hts _ wv_X3_carrierNumber, hts _ wl_X3_carrierNumber⟩ (P0.preV hC hS hH (Hp.recv hC.1 hH (2, pI g a0 - 1, 0) ⟨(pI_n c7).1, rfl⟩ rfl rfl)) rfl rfl hl.1 rfl (lv_room (Nat.le_of_ble_eq_true rfl)) dX4_move_62 ⟨Nat.le_of_ble_eq_true rfl, Nat.le_of_ble_eq_true rfl⟩) ?_
        refine W.eq (g2 := F0 m 65 ls [.int (cnI (sx g 30 (pI g a0 - 1) a1) (pI g a0 - 1))]) rfl ?_
        have h8 : mvC g a0 a1 = 0 := by simp [mvC, c7, c22, c39]
        have h9 : moveG g (pI g a0 - 1) a1 = sx g 30 (pI g a0 - 1) a1 := by unfold moveG; rw [if_neg (fun q => q.1 c39)]
        exact e_xi hx hb hr hlocks h8 (by rw [h9]) hS ⟨ad, hE, by rw [h9]; exact hH⟩ (Nat.zero_le _) (Nat.zero_le _) dX4_move_65
      · skip
        refine W.eq (g2 := F0 m 42 ls [.ref (ad (1, (g.2.1 3 (pI g a0 - 1)) - 1, 0))]) (by simp [mrO, va_rf, c39]) ?_
        refine lv_ifnull hx hb dX4_move_42 ?_
        refine lv_aload_n hx hb dX4_move_45 rfl (lv_at hl 0 rfl) ?_
        refine g3N hx hb hts hown hC hH (pI g a0 - 1) (pI_n c7).1 1 (by decide) wf_X4_75 (v := va_rf (mrO ad (g.2.1 3 (pI g a0 - 1)))) rfl dX4_move_46 ?_
        refine W.eq (g2 := F0 m 49 ls [.ref (ad (1, (g.2.1 3 (pI g a0 - 1)) - 1, 0))]) (by simp [mrO, va_rf, c39]) ?_
        refine lv_iload_n hx hb dX4_move_49 rfl (lv_at hl 3 rfl) ?_
        refine k_r (va_runVN (As := [.int a1]) (rest := []) ⟨hx, hb, hml, hown, hts⟩ (mX2_covers l (g := (sx g 30 (pI g a0 - 1) a1)) ((g.2.1 3 (pI g a0 - 1)) - 1) (show _ < g.2.1 0 0 by have := hI.2.2.1 (pI g a0 - 1) (pI_n c7).1; omega) a1) ⟨cn_of hts wk_X2_covers wi_X2 wm_X4_102 sd_X2_covers rfl rfl ⟨Nat.le_of_ble_eq_true rfl, Nat.le_of_ble_eq_true rfl⟩, hts _ wv_X2_covers, hts _ wl_X2_covers⟩ (P0.preV hC hS hH (Hp.recv hC.1 hH (1, (g.2.1 3 (pI g a0 - 1)) - 1, 0) ⟨(show _ < g.2.1 0 0 by have := hI.2.2.1 (pI g a0 - 1) (pI_n c7).1; omega), rfl⟩ rfl rfl)) rfl rfl hl.1 rfl (lv_room (Nat.le_of_ble_eq_true rfl)) dX4_move_50 ⟨Nat.le_of_ble_eq_true rfl, Nat.le_of_ble_eq_true rfl⟩) ?_
        refine W.eq (g2 := F0 m 53 ls [.int (b2 (cvB (sx g 30 (pI g a0 - 1) a1) ((g.2.1 3 (pI g a0 - 1)) - 1) a1))]) rfl ?_
        refine lv_if_ne (tgt := 61) hx hb dX4_move_53 (by decide) (fun c53 => ?_) (fun c53 => ?_)
        · skip
          have c53 := b2_n0.mp c53
          refine lv_aload_n hx hb dX4_move_61 rfl (lv_at hl 0 rfl) ?_
          refine k_r (va_runVN (As := []) (rest := []) ⟨hx, hb, hml, hown, hts⟩ (mX3_carrierNumber l (g := (sx g 30 (pI g a0 - 1) a1)) (pI g a0 - 1) (pI_n c7).1 (hI.of rfl rfl)) ⟨cn_of hts wk_X3_carrierNumber wi_X3 wm_X4_95 sd_X3_carrierNumber rfl rfl ⟨Nat.le_of_ble_eq_true rfl, Nat.le_of_ble_eq_true rfl⟩, hts _ wv_X3_carrierNumber, hts _ wl_X3_carrierNumber⟩ (P0.preV hC hS hH (Hp.recv hC.1 hH (2, pI g a0 - 1, 0) ⟨(pI_n c7).1, rfl⟩ rfl rfl)) rfl rfl hl.1 rfl (lv_room (Nat.le_of_ble_eq_true rfl)) dX4_move_62 ⟨Nat.le_of_ble_eq_true rfl, Nat.le_of_ble_eq_true rfl⟩) ?_
          refine W.eq (g2 := F0 m 65 ls [.int (cnI (sx g 30 (pI g a0 - 1) a1) (pI g a0 - 1))]) rfl ?_
          have h8 : mvC g a0 a1 = 0 := by simp [mvC, c7, c22, c39, c53]
          have h9 : moveG g (pI g a0 - 1) a1 = sx g 30 (pI g a0 - 1) a1 := by unfold moveG; rw [if_neg (fun q => by rw [c53] at q; exact absurd q.2 (by decide))]
          exact e_xi hx hb hr hlocks h8 (by rw [h9]) hS ⟨ad, hE, by rw [h9]; exact hH⟩ (Nat.zero_le _) (Nat.zero_le _) dX4_move_65
        · skip
          have c53 := b2_0.mp c53
          have h9 : moveG g (pI g a0 - 1) a1 = hndG (sx g 30 (pI g a0 - 1) a1) (pI g a0 - 1) := by unfold moveG; rw [if_pos ⟨c39, c53⟩]
          refine lv_aload_n hx hb dX4_move_56 rfl (lv_at hl 1 rfl) ?_
          refine lv_aload_n hx hb dX4_move_57 rfl (lv_at hl 0 rfl) ?_
          refine k_w (va_runV (As := [.ref (ad (2, pI g a0 - 1, 0))]) (rest := []) ⟨hx, hb, hml, hown, hts⟩ (mX4_handOverOrDrop l (g := (sx g 30 (pI g a0 - 1) a1)) (pI g a0 - 1) (pI_n c7).1 (hI.of rfl rfl) c39 B (by rw [← h9]; exact hB (by simp [mvC, c7, c22]))) ⟨cb_of hts wk_X4_handOverOrDrop wi_X4 wm_X4_105 sd_X4_handOverOrDrop rfl rfl ⟨Nat.le_of_ble_eq_true rfl, Nat.le_of_ble_eq_true rfl⟩, hts _ wv_X4_handOverOrDrop, hts _ wl_X4_handOverOrDrop⟩ (P0.preV hC hS hH (Hp.recv hC.1 hH (0, 0, 0) ⟨by decide, rfl⟩ rfl rfl)) rfl rfl hl.1 rfl (lv_room (Nat.le_of_ble_eq_true rfl)) dX4_move_58 ⟨show 0 + 3 * B ≤ 3 * B + 1 by omega, show 0 + 132 * B ≤ 132 * B + 6 by omega⟩) hS (fun H locs hH hS => ?_)
          obtain ⟨ad, hF, hH⟩ := hH
          have hl : lv_has ls 4 [(3, .ref (ad (2, pI g a0 - 1, 0))), (0, .ref (ad (0, 0, 0))), (1, .int a0), (2, .int a1)] := by rw [hF (2, pI g a0 - 1, 0) (by simp) ⟨(pI_n c7).1, rfl⟩, hF (0, 0, 0) (by simp) ⟨by decide, rfl⟩]; exact hl
          refine W.eq (g2 := F0 m 61 ls []) rfl ?_
          have hE := hE.tr (Gr.of rfl) hF
          have hI9 : XI (hndG (sx g 30 (pI g a0 - 1) a1) (pI g a0 - 1)) := XI.hnd (hI.of rfl rfl) (pI_n c7).1 c39
          refine lv_aload_n hx hb dX4_move_61 rfl (lv_at hl 0 rfl) ?_
          refine k_r (va_runVN (As := []) (rest := []) ⟨hx, hb, hml, hown, hts⟩ (mX3_carrierNumber l (g := (hndG (sx g 30 (pI g a0 - 1) a1) (pI g a0 - 1))) (pI g a0 - 1) (by rw [hndG_n (by decide) (by decide)]; exact (pI_n c7).1) hI9) ⟨cn_of hts wk_X3_carrierNumber wi_X3 wm_X4_95 sd_X3_carrierNumber rfl rfl ⟨Nat.le_of_ble_eq_true rfl, Nat.le_of_ble_eq_true rfl⟩, hts _ wv_X3_carrierNumber, hts _ wl_X3_carrierNumber⟩ (P0.preV hC hS hH (Hp.recv hC.1 hH (2, pI g a0 - 1, 0) ⟨(by rw [hndG_n (by decide) (by decide)]; exact (pI_n c7).1), rfl⟩ rfl rfl)) rfl rfl hl.1 rfl (lv_room (Nat.le_of_ble_eq_true rfl)) dX4_move_62 ⟨show 0 + 3 * B + 0 ≤ 3 * B + 1 by omega, show 0 + 132 * B + 0 ≤ 132 * B + 6 by omega⟩) ?_
          refine W.eq (g2 := F0 m 65 ls [.int (cnI (hndG (sx g 30 (pI g a0 - 1) a1) (pI g a0 - 1)) (pI g a0 - 1))]) rfl ?_
          have h8 : mvC g a0 a1 = 0 := by simp [mvC, c7, c22, c39, c53]
          exact e_xi hx hb hr hlocks h8 (by rw [h9]) hS ⟨ad, hE, by rw [h9]; exact hH⟩ (show 0 + 3 * B ≤ 3 * B + 1 by omega) (show 0 + 132 * B ≤ 132 * B + 6 by omega) dX4_move_65
    · skip
      have c22 := b2_0.mp c22
      have h9 : mvC g a0 a1 = 2 := by simp [mvC, c7, c22]
      exact e_th (BX := fun H => ∃ ad : Tg → Nat, Ex g ad0 ad ∧ Wo D k b ad g M o H) (PE := xN [nIO, nIA] (mvC g a0 a1)) hlf (E := nIA) (by decide +kernel) wc_X4_33 wi_java_lang_IllegalArgumentException ax_IA gd_IA hx hb hts hown hC hlocks ht (by rw [hml]; exact hl.1) hS dX4_move_25 dX4_move_28 dX4_move_29 dX4_move_32 (fun H1 z o => ⟨ad, hE, hH.grow z o⟩) (Nat.le_of_ble_eq_true rfl) (Nat.le_of_ble_eq_true rfl) (show 0 + 1 ≤ 3 * B + 1 by omega) (show 0 + 6 ≤ 132 * B + 6 by omega) (show 0 + 1 ≤ 3 * B + 1 by omega) (show 0 + 6 ≤ 132 * B + 6 by omega) (by rw [h9]; exact ⟨by decide, rfl⟩)
  · skip
    have c7 := prO_0.mp c7
    have hl : lv_has ls 4 [(3, .null), (0, .ref (ad (0, 0, 0))), (1, .int a0), (2, .int a1)] := by simpa [prO, va_rf, c7] using hl
    have h9 : mvC g a0 a1 = 1 := by simp [mvC, c7]
    exact e_th (BX := fun H => ∃ ad : Tg → Nat, Ex g ad0 ad ∧ Wo D k b ad g M o H) (PE := xN [nIO, nIA] (mvC g a0 a1)) hlf (E := nIO) (by decide +kernel) wc_X4_49 wi_java_lang_IndexOutOfBoundsException ax_IO gd_IO hx hb hts hown hC hlocks ht (by rw [hml]; exact hl.1) hS dX4_move_10 dX4_move_13 dX4_move_14 dX4_move_17 (fun H1 z o => ⟨ad, hE, hH.grow z o⟩) (Nat.le_of_ble_eq_true rfl) (Nat.le_of_ble_eq_true rfl) (show 0 + 1 ≤ 3 * B + 1 by omega) (show 0 + 6 ≤ 132 * B + 6 by omega) (show 0 + 1 ≤ 3 * B + 1 by omega) (show 0 + 6 ≤ 132 * B + 6 by omega) (by rw [h9]; exact ⟨by decide, rfl⟩)
