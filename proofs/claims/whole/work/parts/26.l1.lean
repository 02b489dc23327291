/-! THE LAW'S HELPERS: a call, its exception as a number -/
theorem xN1 {a E : String} {C : Nat} (h : xN [a] C E) : C = 1 ∧ E = a := by
  obtain ⟨h0, h1⟩ := h
  cases C with
  | zero => exact absurd rfl h0
  | succ n =>
    cases n with
    | zero => exact ⟨rfl, (Option.some.inj h1).symm⟩
    | succ n => simp at h1
theorem xN2 {a b E : String} {C : Nat} (h : xN [a, b] C E) : (C = 1 ∧ E = a) ∨ (C = 2 ∧ E = b) := by
  obtain ⟨h0, h1⟩ := h
  match C, h0, h1 with
  | 0, h0, _ => exact absurd rfl h0
  | 1, _, h1 => exact Or.inl ⟨rfl, (Option.some.inj h1).symm⟩
  | 2, _, h1 => exact Or.inr ⟨rfl, (Option.some.inj h1).symm⟩
  | n + 3, _, h1 => simp at h1
theorem xN3 {a b c E : String} {C : Nat} (h : xN [a, b, c] C E) : (C = 1 ∧ E = a) ∨ (C = 2 ∧ E = b) ∨ (C = 3 ∧ E = c) := by
  obtain ⟨h0, h1⟩ := h
  match C, h0, h1 with
  | 0, h0, _ => exact absurd rfl h0
  | 1, _, h1 => exact Or.inl ⟨rfl, (Option.some.inj h1).symm⟩
  | 2, _, h1 => exact Or.inr (Or.inl ⟨rfl, (Option.some.inj h1).symm⟩)
  | 3, _, h1 => exact Or.inr (Or.inr ⟨rfl, (Option.some.inj h1).symm⟩)
  | n + 4, _, h1 => simp at h1
def gO (C : Nat) (G g : XS) : XS := if C = 0 then G else g
set_option maxHeartbeats 4000000 in
set_option maxRecDepth 100000 in
theorem mL_sun (l : Launch) {D : va_G} {k : Nat → ClassId} {b : Nat} {ad0 : Tg → Nat} {g : XS} {M : MF} {o : OF} (hlf : l.stackTraces = false) (a0 : Int32) : Met l yL_sun (WH yL_sun cL_sun 4 (some .int) [(0, 9, 12, 13)]) ({ frames := 7, cells := 1, slots := 6, locals := 103 }) (P0 D k b (Wo D k b ad0 g M o) [.ref (ad0 (0, 0, 0)), .int a0, .ref (ad0 (9, 0, 0))]) (Qw b (some (.int (nI (sunC a0)))) (fun H => ∃ (ad : Tg → Nat) (o2 : OF), Ex g ad0 ad ∧ (sunC a0 = 0 → o2.1 0 = (g.1 41 0).toInt64) ∧ Wo D k b ad (gO (sunC a0) (sx g 41 0 a0) g) M o2 H)) 1 6 (Fb b) := by
  refine Met0h (by decide +kernel) (Nat.le_of_ble_eq_true rfl) (fun p e s m below meth c ls hx hb hr hts hown hml hlocks ht hC hH hl => ?_)
  have hS : va_S (Fb b) s.heap s.heap [] := va_S.rf
  obtain ⟨ad, hE, hH, hl⟩ : ∃ ad : Tg → Nat, Ex g ad0 ad ∧ Wo D k b ad g M o s.heap ∧ lv_has ls 4 [(0, .ref (ad (0, 0, 0))), (1, .int a0), (2, .ref (ad (9, 0, 0)))] := ⟨ad0, Ex.rf, hH, hl⟩
  refine lv_aload_n hx hb dL_sun_0 rfl (lv_at hl 2 rfl) ?_
  refine lv_iconst (v := 0) hx hb dL_sun_1 (by decide) ?_
  refine lv_aload_n hx hb dL_sun_2 rfl (lv_at hl 0 rfl) ?_
  refine lv_iload_n hx hb dL_sun_3 rfl (lv_at hl 1 rfl) ?_
  refine k_x (vx_runV (As := [.int a0]) (rest := [.int 0, .ref (ad (9, 0, 0))]) ⟨hx, hb, hml, hown, hts⟩ (mX4_sun l hlf a0) ⟨cb_of hts wk_X4_sun wi_X4 wm_L_23 sd_X4_sun rfl rfl ⟨Nat.le_of_ble_eq_true rfl, Nat.le_of_ble_eq_true rfl⟩, hts _ wv_X4_sun, hts _ wl_X4_sun⟩ (P0.preV hC hS hH (Hp.recv hC.1 hH (0, 0, 0) ⟨by decide, rfl⟩ rfl rfl)) rfl rfl hl.1 rfl (lv_room (Nat.le_of_ble_eq_true rfl)) dL_sun_4 ⟨show 0 + (1) ≤ 1 by omega, show 0 + (6) ≤ 6 by omega⟩) hS (fun E ce q9 H locs hPE hH hS hce hcv hcl => ?_) (fun hP H locs hH hS => ?_)
  · skip
    obtain ⟨ad, hF, hH⟩ := hH
    have hl : lv_has ls 4 [(0, .ref (ad (0, 0, 0))), (1, .int a0), (2, .ref (ad (9, 0, 0)))] := by rw [hF (0, 0, 0) (by simp) ⟨by decide, rfl⟩, hF (9, 0, 0) (by simp) ⟨by decide, rfl⟩]; exact hl
    have hE := hE.tr Gr.rf hF
    obtain ⟨hc, rfl⟩ := xN1 hPE
    refine vx_catch hown [] ⟨0, 9, 12, 13⟩ [] (by rw [ht]; rfl) (fun z hz => absurd hz List.not_mem_nil) (by decide) (by decide) (hts _ wc_L_13) (hts _ wx_java_lang_IllegalArgumentException) hce hcv hcl ?_
    refine W.eq (g2 := F0 m 12 ls [.ref q9]) rfl ?_
    refine lv_astore_n (lv' := [(3, .ref q9), (0, .ref (ad (0, 0, 0))), (1, .int a0), (2, .ref (ad (9, 0, 0)))]) hx hb dL_sun_12 rfl hl (by decide) rfl (fun ls hl => ?_)
    refine lv_iconst (v := 1) hx hb dL_sun_13 (by decide) ?_
    exact e_wi hx hb hr hlocks (by rw [hc]; rfl) hS ⟨ad, o, hE, fun h => absurd (hc.symm.trans h) (by decide), by unfold gO; rw [if_neg (by rw [hc]; decide)]; exact hH⟩ (show 0 + (1) ≤ 1 by omega) (show 0 + (6) ≤ 6 by omega) dL_sun_14
  · skip
    obtain ⟨ad, hF, hH⟩ := hH
    have hl : lv_has ls 4 [(0, .ref (ad (0, 0, 0))), (1, .int a0), (2, .ref (ad (9, 0, 0)))] := by rw [hF (0, 0, 0) (by simp) ⟨by decide, rfl⟩, hF (9, 0, 0) (by simp) ⟨by decide, rfl⟩]; exact hl
    have hE := hE.tr Gr.rf hF
    refine W.eq (g2 := F0 m 7 ls [.int (g.1 41 0), .int 0, .ref (ad (9, 0, 0))]) (by rw [hF (9, 0, 0) (by simp) ⟨by decide, rfl⟩]; rfl) ?_
    refine lv_i2l hx hb dL_sun_7 rfl ?_
    refine r_last hx hb hC hH hS (9, 0, 0) ⟨by decide, rfl⟩ rfl (show vp_in (nI 0) 1 from vp_in_nI (by decide) (by decide)) dL_sun_8 (fun H locs hH hS => ?_)
    have hH := Wo_O hH
    refine lv_goto (tgt := 15) hx hb dL_sun_9 (by decide) ?_
    refine lv_iconst (v := 0) hx hb dL_sun_15 (by decide) ?_
    exact e_wi hx hb hr hlocks (by rw [hP]; rfl) hS ⟨ad, _, hE, fun _ => rfl, by unfold gO; rw [if_pos hP]; exact hH⟩ (show 0 + (1) ≤ 1 by omega) (show 0 + (6) ≤ 6 by omega) dL_sun_16

set_option maxHeartbeats 4000000 in
set_option maxRecDepth 100000 in
theorem mL_paid (l : Launch) {D : va_G} {k : Nat → ClassId} {b : Nat} {ad0 : Tg → Nat} {g : XS} {M : MF} {o : OF} (hlf : l.stackTraces = false) (a0 : Int32) : Met l yL_paid (WH yL_paid cL_paid 4 (some .int) [(0, 9, 12, 21)]) ({ frames := 7, cells := 1, slots := 6, locals := 102 }) (P0 D k b (Wo D k b ad0 g M o) [.ref (ad0 (0, 0, 0)), .int a0, .ref (ad0 (9, 0, 0))]) (Qw b (some (.int (nI (pdC a0)))) (fun H => ∃ (ad : Tg → Nat) (o2 : OF), Ex g ad0 ad ∧ (pdC a0 = 0 → o2.1 0 = (g.1 42 a0.toNatClampNeg).toInt64) ∧ Wo D k b ad (gO (pdC a0) g g) M o2 H)) 1 6 (Fb b) := by
  refine Met0h (by decide +kernel) (Nat.le_of_ble_eq_true rfl) (fun p e s m below meth c ls hx hb hr hts hown hml hlocks ht hC hH hl => ?_)
  have hS : va_S (Fb b) s.heap s.heap [] := va_S.rf
  obtain ⟨ad, hE, hH, hl⟩ : ∃ ad : Tg → Nat, Ex g ad0 ad ∧ Wo D k b ad g M o s.heap ∧ lv_has ls 4 [(0, .ref (ad (0, 0, 0))), (1, .int a0), (2, .ref (ad (9, 0, 0)))] := ⟨ad0, Ex.rf, hH, hl⟩
  refine lv_aload_n hx hb dL_paid_0 rfl (lv_at hl 2 rfl) ?_
  refine lv_iconst (v := 0) hx hb dL_paid_1 (by decide) ?_
  refine lv_aload_n hx hb dL_paid_2 rfl (lv_at hl 0 rfl) ?_
  refine lv_iload_n hx hb dL_paid_3 rfl (lv_at hl 1 rfl) ?_
  refine k_x (vx_runV (As := [.int a0]) (rest := [.int 0, .ref (ad (9, 0, 0))]) ⟨hx, hb, hml, hown, hts⟩ (mX4_paid l hlf a0) ⟨cb_of hts wk_X4_paid wi_X4 wm_L_56 sd_X4_paid rfl rfl ⟨Nat.le_of_ble_eq_true rfl, Nat.le_of_ble_eq_true rfl⟩, hts _ wv_X4_paid, hts _ wl_X4_paid⟩ (P0.preV hC hS hH (Hp.recv hC.1 hH (0, 0, 0) ⟨by decide, rfl⟩ rfl rfl)) rfl rfl hl.1 rfl (lv_room (Nat.le_of_ble_eq_true rfl)) dL_paid_4 ⟨show 0 + (1) ≤ 1 by omega, show 0 + (6) ≤ 6 by omega⟩) hS (fun E ce q9 H locs hPE hH hS hce hcv hcl => ?_) (fun hP H locs hH hS => ?_)
  · skip
    obtain ⟨ad, hF, hH⟩ := hH
    have hl : lv_has ls 4 [(0, .ref (ad (0, 0, 0))), (1, .int a0), (2, .ref (ad (9, 0, 0)))] := by rw [hF (0, 0, 0) (by simp) ⟨by decide, rfl⟩, hF (9, 0, 0) (by simp) ⟨by decide, rfl⟩]; exact hl
    have hE := hE.tr Gr.rf hF
    obtain ⟨hc, rfl⟩ := xN1 hPE
    refine vx_catch hown [] ⟨0, 9, 12, 21⟩ [] (by rw [ht]; rfl) (fun z hz => absurd hz List.not_mem_nil) (by decide) (by decide) (hts _ wc_L_21) (hts _ wx_java_lang_IndexOutOfBoundsException) hce hcv hcl ?_
    refine W.eq (g2 := F0 m 12 ls [.ref q9]) rfl ?_
    refine lv_astore_n (lv' := [(3, .ref q9), (0, .ref (ad (0, 0, 0))), (1, .int a0), (2, .ref (ad (9, 0, 0)))]) hx hb dL_paid_12 rfl hl (by decide) rfl (fun ls hl => ?_)
    refine lv_iconst (v := 1) hx hb dL_paid_13 (by decide) ?_
    exact e_wi hx hb hr hlocks (by rw [hc]; rfl) hS ⟨ad, o, hE, fun h => absurd (hc.symm.trans h) (by decide), by unfold gO; rw [if_neg (by rw [hc]; decide)]; exact hH⟩ (show 0 + (1) ≤ 1 by omega) (show 0 + (6) ≤ 6 by omega) dL_paid_14
  · skip
    obtain ⟨ad, hF, hH⟩ := hH
    have hl : lv_has ls 4 [(0, .ref (ad (0, 0, 0))), (1, .int a0), (2, .ref (ad (9, 0, 0)))] := by rw [hF (0, 0, 0) (by simp) ⟨by decide, rfl⟩, hF (9, 0, 0) (by simp) ⟨by decide, rfl⟩]; exact hl
    have hE := hE.tr Gr.rf hF
    refine W.eq (g2 := F0 m 7 ls [.int (g.1 42 a0.toNatClampNeg), .int 0, .ref (ad (9, 0, 0))]) (by rw [hF (9, 0, 0) (by simp) ⟨by decide, rfl⟩]; rfl) ?_
    refine lv_i2l hx hb dL_paid_7 rfl ?_
    refine r_last hx hb hC hH hS (9, 0, 0) ⟨by decide, rfl⟩ rfl (show vp_in (nI 0) 1 from vp_in_nI (by decide) (by decide)) dL_paid_8 (fun H locs hH hS => ?_)
    have hH := Wo_O hH
    refine lv_goto (tgt := 15) hx hb dL_paid_9 (by decide) ?_
    refine lv_iconst (v := 0) hx hb dL_paid_15 (by decide) ?_
    exact e_wi hx hb hr hlocks (by rw [hP]; rfl) hS ⟨ad, _, hE, fun _ => rfl, by unfold gO; rw [if_pos hP]; exact hH⟩ (show 0 + (1) ≤ 1 by omega) (show 0 + (6) ≤ 6 by omega) dL_paid_16

set_option maxHeartbeats 4000000 in
set_option maxRecDepth 100000 in
theorem mL_mast (l : Launch) {D : va_G} {k : Nat → ClassId} {b : Nat} {ad0 : Tg → Nat} {g : XS} {M : MF} {o : OF} (hlf : l.stackTraces = false) (hI : XI g) (a0 a1 a2 a3 a4 a5 : Int32) (hz : a5 = 0 ∨ a5 = 1) : Met l yL_mast (WH yL_mast cL_mast 9 (some .int) [(0, 18, 21, 13), (0, 18, 25, 15)]) ({ frames := 7, cells := 1, slots := 14, locals := 108 }) (P0 D k b (Wo D k b ad0 g M o) [.ref (ad0 (0, 0, 0)), .int a0, .int a1, .int a2, .int a3, .int a4, .int a5, .ref (ad0 (9, 0, 0))]) (Qw b (some (.int (nI (mastC g a0 a1 a2 a3 a4)))) (fun H => ∃ (ad : Tg → Nat) (o2 : OF), Ex g ad0 ad ∧ (mastC g a0 a1 a2 a3 a4 = 0 → o2.1 0 = (nI (g.2.1 0 0)).toInt64) ∧ Wo D k b ad (gO (mastC g a0 a1 a2 a3 a4) (nwM g (l13 (nI (g.2.1 0 0)) a0 a1 a2 a3 a4 a5)) g) M o2 H)) 1 14 (Fb b) := by
  refine Met0h (by decide +kernel) (Nat.le_of_ble_eq_true rfl) (fun p e s m below meth c ls hx hb hr hts hown hml hlocks ht hC hH hl => ?_)
  have hS : va_S (Fb b) s.heap s.heap [] := va_S.rf
  obtain ⟨ad, hE, hH, hl⟩ : ∃ ad : Tg → Nat, Ex g ad0 ad ∧ Wo D k b ad g M o s.heap ∧ lv_has ls 9 [(0, .ref (ad (0, 0, 0))), (1, .int a0), (2, .int a1), (3, .int a2), (4, .int a3), (5, .int a4), (6, .int a5), (7, .ref (ad (9, 0, 0)))] := ⟨ad0, Ex.rf, hH, hl⟩
  refine lv_aload hx hb dL_mast_0 (lv_at hl 7 rfl) ?_
  refine lv_iconst (v := 0) hx hb dL_mast_2 (by decide) ?_
  refine lv_aload_n hx hb dL_mast_3 rfl (lv_at hl 0 rfl) ?_
  refine lv_iload_n hx hb dL_mast_4 rfl (lv_at hl 1 rfl) ?_
  refine lv_iload_n hx hb dL_mast_5 rfl (lv_at hl 2 rfl) ?_
  refine lv_iload_n hx hb dL_mast_6 rfl (lv_at hl 3 rfl) ?_
  refine lv_iload hx hb dL_mast_7 (lv_at hl 4 rfl) ?_
  refine lv_iload hx hb dL_mast_9 (lv_at hl 5 rfl) ?_
  refine lv_iload hx hb dL_mast_11 (lv_at hl 6 rfl) ?_
  refine k_x (vx_runV (As := [.int a0, .int a1, .int a2, .int a3, .int a4, .int a5]) (rest := [.int 0, .ref (ad (9, 0, 0))]) ⟨hx, hb, hml, hown, hts⟩ (mX4_mast l hlf hI a0 a1 a2 a3 a4 a5 hz) ⟨cb_of hts wk_X4_mast wi_X4 wm_L_7 sd_X4_mast rfl rfl ⟨Nat.le_of_ble_eq_true rfl, Nat.le_of_ble_eq_true rfl⟩, hts _ wv_X4_mast, hts _ wl_X4_mast⟩ (P0.preV hC hS hH (Hp.recv hC.1 hH (0, 0, 0) ⟨by decide, rfl⟩ rfl rfl)) rfl rfl hl.1 rfl (lv_room (Nat.le_of_ble_eq_true rfl)) dL_mast_13 ⟨show 0 + (1) ≤ 1 by omega, show 0 + (14) ≤ 14 by omega⟩) hS (fun E ce q9 H locs hPE hH hS hce hcv hcl => ?_) (fun hP H locs hH hS => ?_)
  · skip
    obtain ⟨ad, hF, hH⟩ := hH
    have hl : lv_has ls 9 [(0, .ref (ad (0, 0, 0))), (1, .int a0), (2, .int a1), (3, .int a2), (4, .int a3), (5, .int a4), (6, .int a5), (7, .ref (ad (9, 0, 0)))] := by rw [hF (0, 0, 0) (by simp) ⟨by decide, rfl⟩, hF (9, 0, 0) (by simp) ⟨by decide, rfl⟩]; exact hl
    have hE := hE.tr Gr.rf hF
    rcases xN2 hPE with ⟨hc, rfl⟩ | ⟨hc, rfl⟩
    · skip
      refine vx_catch hown [] ⟨0, 18, 21, 13⟩ [⟨0, 18, 25, 15⟩] (by rw [ht]; rfl) (fun z hz => absurd hz List.not_mem_nil) (by decide) (by decide) (hts _ wc_L_13) (hts _ wx_java_lang_IllegalArgumentException) hce hcv hcl ?_
      refine W.eq (g2 := F0 m 21 ls [.ref q9]) rfl ?_
      refine lv_astore (lv' := [(8, .ref q9), (0, .ref (ad (0, 0, 0))), (1, .int a0), (2, .int a1), (3, .int a2), (4, .int a3), (5, .int a4), (6, .int a5), (7, .ref (ad (9, 0, 0)))]) hx hb dL_mast_21 hl (by decide) rfl (fun ls hl => ?_)
      refine lv_iconst (v := 1) hx hb dL_mast_23 (by decide) ?_
      exact e_wi hx hb hr hlocks (by rw [hc]; rfl) hS ⟨ad, o, hE, fun h => absurd (hc.symm.trans h) (by decide), by unfold gO; rw [if_neg (by rw [hc]; decide)]; exact hH⟩ (show 0 + (1) ≤ 1 by omega) (show 0 + (14) ≤ 14 by omega) dL_mast_24
    · skip
      refine vx_catch hown [⟨0, 18, 21, 13⟩] ⟨0, 18, 25, 15⟩ [] (by rw [ht]; rfl) (fun z hz => by rcases List.mem_singleton.mp hz with rfl; exact Or.inr ⟨by decide, nIA, hts _ wc_L_13, hC.2.2.2.1⟩) (by decide) (by decide) (hts _ wc_L_15) (hts _ wx_java_lang_IllegalStateException) hce hcv hcl ?_
      refine W.eq (g2 := F0 m 25 ls [.ref q9]) rfl ?_
      refine lv_astore (lv' := [(8, .ref q9), (0, .ref (ad (0, 0, 0))), (1, .int a0), (2, .int a1), (3, .int a2), (4, .int a3), (5, .int a4), (6, .int a5), (7, .ref (ad (9, 0, 0)))]) hx hb dL_mast_25 hl (by decide) rfl (fun ls hl => ?_)
      refine lv_iconst (v := 2) hx hb dL_mast_27 (by decide) ?_
      exact e_wi hx hb hr hlocks (by rw [hc]; rfl) hS ⟨ad, o, hE, fun h => absurd (hc.symm.trans h) (by decide), by unfold gO; rw [if_neg (by rw [hc]; decide)]; exact hH⟩ (show 0 + (1) ≤ 1 by omega) (show 0 + (14) ≤ 14 by omega) dL_mast_28
  · skip
    obtain ⟨ad, hF, hH⟩ := hH
    have hl : lv_has ls 9 [(0, .ref (ad (0, 0, 0))), (1, .int a0), (2, .int a1), (3, .int a2), (4, .int a3), (5, .int a4), (6, .int a5), (7, .ref (ad (9, 0, 0)))] := by rw [hF (0, 0, 0) (by simp) ⟨by decide, rfl⟩, hF (9, 0, 0) (by simp) ⟨by decide, rfl⟩]; exact hl
    have hE := hE.tr Gr.rf hF
    refine W.eq (g2 := F0 m 16 ls [.int (nI (g.2.1 0 0)), .int 0, .ref (ad (9, 0, 0))]) (by rw [hF (9, 0, 0) (by simp) ⟨by decide, rfl⟩]; rfl) ?_
    refine lv_i2l hx hb dL_mast_16 rfl ?_
    refine r_last hx hb hC hH hS (9, 0, 0) ⟨by decide, rfl⟩ rfl (show vp_in (nI 0) 1 from vp_in_nI (by decide) (by decide)) dL_mast_17 (fun H locs hH hS => ?_)
    have hH := Wo_O hH
    refine lv_goto (tgt := 29) hx hb dL_mast_18 (by decide) ?_
    refine lv_iconst (v := 0) hx hb dL_mast_29 (by decide) ?_
    exact e_wi hx hb hr hlocks (by rw [hP]; rfl) hS ⟨ad, _, hE, fun _ => rfl, by unfold gO; rw [if_pos hP]; exact hH⟩ (show 0 + (1) ≤ 1 by omega) (show 0 + (14) ≤ 14 by omega) dL_mast_30

set_option maxHeartbeats 4000000 in
set_option maxRecDepth 100000 in
theorem mL_phone (l : Launch) {D : va_G} {k : Nat → ClassId} {b : Nat} {ad0 : Tg → Nat} {g : XS} {M : MF} {o : OF} (hlf : l.stackTraces = false) (hI : XI g) (a0 : Int32) : Met l yL_phone (WH yL_phone cL_phone 4 (some .int) [(0, 9, 12, 13), (0, 9, 15, 15)]) ({ frames := 7, cells := 1, slots := 6, locals := 103 }) (P0 D k b (Wo D k b ad0 g M o) [.ref (ad0 (0, 0, 0)), .int a0, .ref (ad0 (9, 0, 0))]) (Qw b (some (.int (nI (phC g a0)))) (fun H => ∃ (ad : Tg → Nat) (o2 : OF), Ex g ad0 ad ∧ (phC g a0 = 0 → o2.1 0 = (nI (g.2.1 1 0)).toInt64) ∧ Wo D k b ad (gO (phC g a0) (nwP g a0) g) M o2 H)) 1 6 (Fb b) := by
  refine Met0h (by decide +kernel) (Nat.le_of_ble_eq_true rfl) (fun p e s m below meth c ls hx hb hr hts hown hml hlocks ht hC hH hl => ?_)
  have hS : va_S (Fb b) s.heap s.heap [] := va_S.rf
  obtain ⟨ad, hE, hH, hl⟩ : ∃ ad : Tg → Nat, Ex g ad0 ad ∧ Wo D k b ad g M o s.heap ∧ lv_has ls 4 [(0, .ref (ad (0, 0, 0))), (1, .int a0), (2, .ref (ad (9, 0, 0)))] := ⟨ad0, Ex.rf, hH, hl⟩
  refine lv_aload_n hx hb dL_phone_0 rfl (lv_at hl 2 rfl) ?_
  refine lv_iconst (v := 0) hx hb dL_phone_1 (by decide) ?_
  refine lv_aload_n hx hb dL_phone_2 rfl (lv_at hl 0 rfl) ?_
  refine lv_iload_n hx hb dL_phone_3 rfl (lv_at hl 1 rfl) ?_
  refine k_x (vx_runV (As := [.int a0]) (rest := [.int 0, .ref (ad (9, 0, 0))]) ⟨hx, hb, hml, hown, hts⟩ (mX4_phone l hlf hI a0) ⟨cb_of hts wk_X4_phone wi_X4 wm_L_27 sd_X4_phone rfl rfl ⟨Nat.le_of_ble_eq_true rfl, Nat.le_of_ble_eq_true rfl⟩, hts _ wv_X4_phone, hts _ wl_X4_phone⟩ (P0.preV hC hS hH (Hp.recv hC.1 hH (0, 0, 0) ⟨by decide, rfl⟩ rfl rfl)) rfl rfl hl.1 rfl (lv_room (Nat.le_of_ble_eq_true rfl)) dL_phone_4 ⟨show 0 + (1) ≤ 1 by omega, show 0 + (6) ≤ 6 by omega⟩) hS (fun E ce q9 H locs hPE hH hS hce hcv hcl => ?_) (fun hP H locs hH hS => ?_)
  · skip
    obtain ⟨ad, hF, hH⟩ := hH
    have hl : lv_has ls 4 [(0, .ref (ad (0, 0, 0))), (1, .int a0), (2, .ref (ad (9, 0, 0)))] := by rw [hF (0, 0, 0) (by simp) ⟨by decide, rfl⟩, hF (9, 0, 0) (by simp) ⟨by decide, rfl⟩]; exact hl
    have hE := hE.tr Gr.rf hF
    rcases xN2 hPE with ⟨hc, rfl⟩ | ⟨hc, rfl⟩
    · skip
      refine vx_catch hown [] ⟨0, 9, 12, 13⟩ [⟨0, 9, 15, 15⟩] (by rw [ht]; rfl) (fun z hz => absurd hz List.not_mem_nil) (by decide) (by decide) (hts _ wc_L_13) (hts _ wx_java_lang_IllegalArgumentException) hce hcv hcl ?_
      refine W.eq (g2 := F0 m 12 ls [.ref q9]) rfl ?_
      refine lv_astore_n (lv' := [(3, .ref q9), (0, .ref (ad (0, 0, 0))), (1, .int a0), (2, .ref (ad (9, 0, 0)))]) hx hb dL_phone_12 rfl hl (by decide) rfl (fun ls hl => ?_)
      refine lv_iconst (v := 1) hx hb dL_phone_13 (by decide) ?_
      exact e_wi hx hb hr hlocks (by rw [hc]; rfl) hS ⟨ad, o, hE, fun h => absurd (hc.symm.trans h) (by decide), by unfold gO; rw [if_neg (by rw [hc]; decide)]; exact hH⟩ (show 0 + (1) ≤ 1 by omega) (show 0 + (6) ≤ 6 by omega) dL_phone_14
    · skip
      refine vx_catch hown [⟨0, 9, 12, 13⟩] ⟨0, 9, 15, 15⟩ [] (by rw [ht]; rfl) (fun z hz => by rcases List.mem_singleton.mp hz with rfl; exact Or.inr ⟨by decide, nIA, hts _ wc_L_13, hC.2.2.2.1⟩) (by decide) (by decide) (hts _ wc_L_15) (hts _ wx_java_lang_IllegalStateException) hce hcv hcl ?_
      refine W.eq (g2 := F0 m 15 ls [.ref q9]) rfl ?_
      refine lv_astore_n (lv' := [(3, .ref q9), (0, .ref (ad (0, 0, 0))), (1, .int a0), (2, .ref (ad (9, 0, 0)))]) hx hb dL_phone_15 rfl hl (by decide) rfl (fun ls hl => ?_)
      refine lv_iconst (v := 2) hx hb dL_phone_16 (by decide) ?_
      exact e_wi hx hb hr hlocks (by rw [hc]; rfl) hS ⟨ad, o, hE, fun h => absurd (hc.symm.trans h) (by decide), by unfold gO; rw [if_neg (by rw [hc]; decide)]; exact hH⟩ (show 0 + (1) ≤ 1 by omega) (show 0 + (6) ≤ 6 by omega) dL_phone_17
  · skip
    obtain ⟨ad, hF, hH⟩ := hH
    have hl : lv_has ls 4 [(0, .ref (ad (0, 0, 0))), (1, .int a0), (2, .ref (ad (9, 0, 0)))] := by rw [hF (0, 0, 0) (by simp) ⟨by decide, rfl⟩, hF (9, 0, 0) (by simp) ⟨by decide, rfl⟩]; exact hl
    have hE := hE.tr Gr.rf hF
    refine W.eq (g2 := F0 m 7 ls [.int (nI (g.2.1 1 0)), .int 0, .ref (ad (9, 0, 0))]) (by rw [hF (9, 0, 0) (by simp) ⟨by decide, rfl⟩]; rfl) ?_
    refine lv_i2l hx hb dL_phone_7 rfl ?_
    refine r_last hx hb hC hH hS (9, 0, 0) ⟨by decide, rfl⟩ rfl (show vp_in (nI 0) 1 from vp_in_nI (by decide) (by decide)) dL_phone_8 (fun H locs hH hS => ?_)
    have hH := Wo_O hH
    refine lv_goto (tgt := 18) hx hb dL_phone_9 (by decide) ?_
    refine lv_iconst (v := 0) hx hb dL_phone_18 (by decide) ?_
    exact e_wi hx hb hr hlocks (by rw [hP]; rfl) hS ⟨ad, _, hE, fun _ => rfl, by unfold gO; rw [if_pos hP]; exact hH⟩ (show 0 + (1) ≤ 1 by omega) (show 0 + (6) ≤ 6 by omega) dL_phone_19

set_option maxHeartbeats 4000000 in
set_option maxRecDepth 100000 in
theorem mL_lease (l : Launch) {D : va_G} {k : Nat → ClassId} {b : Nat} {ad0 : Tg → Nat} {g : XS} {M : MF} {o : OF} (hlf : l.stackTraces = false) (hI : XI g) (a0 a1 a2 a3 a4 a5 a6 : Int32) : Met l yL_lease (WH yL_lease cL_lease 9 (some .int) [(0, 15, 18, 21), (0, 15, 22, 13), (0, 15, 26, 15)]) ({ frames := 7, cells := 1, slots := 6, locals := 109 }) (P0 D k b (Wo D k b ad0 g M o) [.ref (ad0 (0, 0, 0)), .int a0, .int a1, .int a2, .int a3, .int a4, .int a5, .int a6]) (Qw b (some (.int (nI (leaseC g a0 a1 a2 a3 a4 a5 a6)))) (fun H => ∃ (ad : Tg → Nat) (o2 : OF), Ex g ad0 ad ∧ (leaseC g a0 a1 a2 a3 a4 a5 a6 = 0 → True) ∧ Wo D k b ad (gO (leaseC g a0 a1 a2 a3 a4 a5 a6) (nwL g (mI g a0 - 1) (l6 a1 a2 a3 a4 a5 a6)) g) M o2 H)) 1 6 (Fb b) := by
  refine Met0h (by decide +kernel) (Nat.le_of_ble_eq_true rfl) (fun p e s m below meth c ls hx hb hr hts hown hml hlocks ht hC hH hl => ?_)
  have hS : va_S (Fb b) s.heap s.heap [] := va_S.rf
  obtain ⟨ad, hE, hH, hl⟩ : ∃ ad : Tg → Nat, Ex g ad0 ad ∧ Wo D k b ad g M o s.heap ∧ lv_has ls 9 [(0, .ref (ad (0, 0, 0))), (1, .int a0), (2, .int a1), (3, .int a2), (4, .int a3), (5, .int a4), (6, .int a5), (7, .int a6)] := ⟨ad0, Ex.rf, hH, hl⟩
  refine lv_aload_n hx hb dL_lease_0 rfl (lv_at hl 0 rfl) ?_
  refine lv_iload_n hx hb dL_lease_1 rfl (lv_at hl 1 rfl) ?_
  refine lv_iload_n hx hb dL_lease_2 rfl (lv_at hl 2 rfl) ?_
  refine lv_iload_n hx hb dL_lease_3 rfl (lv_at hl 3 rfl) ?_
  refine lv_iload hx hb dL_lease_4 (lv_at hl 4 rfl) ?_
  refine lv_iload hx hb dL_lease_6 (lv_at hl 5 rfl) ?_
  refine lv_iload hx hb dL_lease_8 (lv_at hl 6 rfl) ?_
  refine lv_iload hx hb dL_lease_10 (lv_at hl 7 rfl) ?_
  refine k_x (vx_runV (As := [.int a0, .int a1, .int a2, .int a3, .int a4, .int a5, .int a6]) (rest := []) ⟨hx, hb, hml, hown, hts⟩ (mX4_lease l hlf hI a0 a1 a2 a3 a4 a5 a6) ⟨cb_of hts wk_X4_lease wi_X4 wm_L_17 sd_X4_lease rfl rfl ⟨Nat.le_of_ble_eq_true rfl, Nat.le_of_ble_eq_true rfl⟩, hts _ wv_X4_lease, hts _ wl_X4_lease⟩ (P0.preV hC hS hH (Hp.recv hC.1 hH (0, 0, 0) ⟨by decide, rfl⟩ rfl rfl)) rfl rfl hl.1 rfl (lv_room (Nat.le_of_ble_eq_true rfl)) dL_lease_12 ⟨show 0 + (1) ≤ 1 by omega, show 0 + (6) ≤ 6 by omega⟩) hS (fun E ce q9 H locs hPE hH hS hce hcv hcl => ?_) (fun hP H locs hH hS => ?_)
  · skip
    obtain ⟨ad, hF, hH⟩ := hH
    have hl : lv_has ls 9 [(0, .ref (ad (0, 0, 0))), (1, .int a0), (2, .int a1), (3, .int a2), (4, .int a3), (5, .int a4), (6, .int a5), (7, .int a6)] := by rw [hF (0, 0, 0) (by simp) ⟨by decide, rfl⟩]; exact hl
    have hE := hE.tr Gr.rf hF
    rcases xN3 hPE with ⟨hc, rfl⟩ | ⟨hc, rfl⟩ | ⟨hc, rfl⟩
    · skip
      refine vx_catch hown [] ⟨0, 15, 18, 21⟩ [⟨0, 15, 22, 13⟩, ⟨0, 15, 26, 15⟩] (by rw [ht]; rfl) (fun z hz => absurd hz List.not_mem_nil) (by decide) (by decide) (hts _ wc_L_21) (hts _ wx_java_lang_IndexOutOfBoundsException) hce hcv hcl ?_
      refine W.eq (g2 := F0 m 18 ls [.ref q9]) rfl ?_
      refine lv_astore (lv' := [(8, .ref q9), (0, .ref (ad (0, 0, 0))), (1, .int a0), (2, .int a1), (3, .int a2), (4, .int a3), (5, .int a4), (6, .int a5), (7, .int a6)]) hx hb dL_lease_18 hl (by decide) rfl (fun ls hl => ?_)
      refine lv_iconst (v := 1) hx hb dL_lease_20 (by decide) ?_
      exact e_wi hx hb hr hlocks (by rw [hc]; rfl) hS ⟨ad, o, hE, fun _ => trivial, by unfold gO; rw [if_neg (by rw [hc]; decide)]; exact hH⟩ (show 0 + (1) ≤ 1 by omega) (show 0 + (6) ≤ 6 by omega) dL_lease_21
    · skip
      refine vx_catch hown [⟨0, 15, 18, 21⟩] ⟨0, 15, 22, 13⟩ [⟨0, 15, 26, 15⟩] (by rw [ht]; rfl) (fun z hz => by rcases List.mem_singleton.mp hz with rfl; exact Or.inr ⟨by decide, nIO, hts _ wc_L_21, hC.2.2.2.2.2.2.2.1⟩) (by decide) (by decide) (hts _ wc_L_13) (hts _ wx_java_lang_IllegalArgumentException) hce hcv hcl ?_
      refine W.eq (g2 := F0 m 22 ls [.ref q9]) rfl ?_
      refine lv_astore (lv' := [(8, .ref q9), (0, .ref (ad (0, 0, 0))), (1, .int a0), (2, .int a1), (3, .int a2), (4, .int a3), (5, .int a4), (6, .int a5), (7, .int a6)]) hx hb dL_lease_22 hl (by decide) rfl (fun ls hl => ?_)
      refine lv_iconst (v := 2) hx hb dL_lease_24 (by decide) ?_
      exact e_wi hx hb hr hlocks (by rw [hc]; rfl) hS ⟨ad, o, hE, fun _ => trivial, by unfold gO; rw [if_neg (by rw [hc]; decide)]; exact hH⟩ (show 0 + (1) ≤ 1 by omega) (show 0 + (6) ≤ 6 by omega) dL_lease_25
    · skip
      refine vx_catch hown [⟨0, 15, 18, 21⟩, ⟨0, 15, 22, 13⟩] ⟨0, 15, 26, 15⟩ [] (by rw [ht]; rfl) ?_ (by decide) (by decide) (hts _ wc_L_15) (hts _ wx_java_lang_IllegalStateException) hce hcv hcl ?_
      · intro z hz
        rcases List.mem_cons.mp hz with rfl | hz
        · exact Or.inr ⟨by decide, nIO, hts _ wc_L_21, hC.2.2.2.2.2.2.2.2⟩
        · rcases List.mem_singleton.mp hz with rfl
          exact Or.inr ⟨by decide, nIA, hts _ wc_L_13, hC.2.2.2.1⟩
      refine W.eq (g2 := F0 m 26 ls [.ref q9]) rfl ?_
      refine lv_astore (lv' := [(8, .ref q9), (0, .ref (ad (0, 0, 0))), (1, .int a0), (2, .int a1), (3, .int a2), (4, .int a3), (5, .int a4), (6, .int a5), (7, .int a6)]) hx hb dL_lease_26 hl (by decide) rfl (fun ls hl => ?_)
      refine lv_iconst (v := 3) hx hb dL_lease_28 (by decide) ?_
      exact e_wi hx hb hr hlocks (by rw [hc]; rfl) hS ⟨ad, o, hE, fun _ => trivial, by unfold gO; rw [if_neg (by rw [hc]; decide)]; exact hH⟩ (show 0 + (1) ≤ 1 by omega) (show 0 + (6) ≤ 6 by omega) dL_lease_29
  · skip
    obtain ⟨ad, hF, hH⟩ := hH
    have hl : lv_has ls 9 [(0, .ref (ad (0, 0, 0))), (1, .int a0), (2, .int a1), (3, .int a2), (4, .int a3), (5, .int a4), (6, .int a5), (7, .int a6)] := by rw [hF (0, 0, 0) (by simp) ⟨by decide, rfl⟩]; exact hl
    have hE := hE.tr Gr.rf hF
    refine W.eq (g2 := F0 m 15 ls []) rfl ?_
    refine lv_goto (tgt := 30) hx hb dL_lease_15 (by decide) ?_
    refine lv_iconst (v := 0) hx hb dL_lease_30 (by decide) ?_
    exact e_wi hx hb hr hlocks (by rw [hP]; rfl) hS ⟨ad, o, hE, fun _ => trivial, by unfold gO; rw [if_pos hP]; exact hH⟩ (show 0 + (1) ≤ 1 by omega) (show 0 + (6) ≤ 6 by omega) dL_lease_31

set_option maxHeartbeats 4000000 in
set_option maxRecDepth 100000 in
theorem mL_call (l : Launch) {D : va_G} {k : Nat → ClassId} {b : Nat} {ad0 : Tg → Nat} {g : XS} {M : MF} {o : OF} (hlf : l.stackTraces = false) (hI : XI g) (a0 : Int32) : Met l yL_call (WH yL_call cL_call 4 (some .int) [(0, 9, 12, 21), (0, 9, 15, 15)]) ({ frames := 7, cells := 1, slots := 6, locals := 104 }) (P0 D k b (Wo D k b ad0 g M o) [.ref (ad0 (0, 0, 0)), .int a0, .ref (ad0 (9, 0, 0))]) (Qw b (some (.int (nI (clC g a0)))) (fun H => ∃ (ad : Tg → Nat) (o2 : OF), Ex g ad0 ad ∧ (clC g a0 = 0 → o2.1 0 = (clV g (pI g a0 - 1)).toInt64) ∧ Wo D k b ad (gO (clC g a0) (clG g (pI g a0 - 1)) g) M o2 H)) 1 6 (Fb b) := by
  refine Met0h (by decide +kernel) (Nat.le_of_ble_eq_true rfl) (fun p e s m below meth c ls hx hb hr hts hown hml hlocks ht hC hH hl => ?_)
  have hS : va_S (Fb b) s.heap s.heap [] := va_S.rf
  obtain ⟨ad, hE, hH, hl⟩ : ∃ ad : Tg → Nat, Ex g ad0 ad ∧ Wo D k b ad g M o s.heap ∧ lv_has ls 4 [(0, .ref (ad (0, 0, 0))), (1, .int a0), (2, .ref (ad (9, 0, 0)))] := ⟨ad0, Ex.rf, hH, hl⟩
  refine lv_aload_n hx hb dL_call_0 rfl (lv_at hl 2 rfl) ?_
  refine lv_iconst (v := 0) hx hb dL_call_1 (by decide) ?_
  refine lv_aload_n hx hb dL_call_2 rfl (lv_at hl 0 rfl) ?_
  refine lv_iload_n hx hb dL_call_3 rfl (lv_at hl 1 rfl) ?_
  refine k_x (vx_runV (As := [.int a0]) (rest := [.int 0, .ref (ad (9, 0, 0))]) ⟨hx, hb, hml, hown, hts⟩ (mX4_call l hlf hI a0) ⟨cb_of hts wk_X4_call wi_X4 wm_L_30 sd_X4_call rfl rfl ⟨Nat.le_of_ble_eq_true rfl, Nat.le_of_ble_eq_true rfl⟩, hts _ wv_X4_call, hts _ wl_X4_call⟩ (P0.preV hC hS hH (Hp.recv hC.1 hH (0, 0, 0) ⟨by decide, rfl⟩ rfl rfl)) rfl rfl hl.1 rfl (lv_room (Nat.le_of_ble_eq_true rfl)) dL_call_4 ⟨show 0 + (1) ≤ 1 by omega, show 0 + (6) ≤ 6 by omega⟩) hS (fun E ce q9 H locs hPE hH hS hce hcv hcl => ?_) (fun hP H locs hH hS => ?_)
  · skip
    obtain ⟨ad, hF, hH⟩ := hH
    have hl : lv_has ls 4 [(0, .ref (ad (0, 0, 0))), (1, .int a0), (2, .ref (ad (9, 0, 0)))] := by rw [hF (0, 0, 0) (by simp) ⟨by decide, rfl⟩, hF (9, 0, 0) (by simp) ⟨by decide, rfl⟩]; exact hl
    have hE := hE.tr Gr.rf hF
    rcases xN2 hPE with ⟨hc, rfl⟩ | ⟨hc, rfl⟩
    · skip
      refine vx_catch hown [] ⟨0, 9, 12, 21⟩ [⟨0, 9, 15, 15⟩] (by rw [ht]; rfl) (fun z hz => absurd hz List.not_mem_nil) (by decide) (by decide) (hts _ wc_L_21) (hts _ wx_java_lang_IndexOutOfBoundsException) hce hcv hcl ?_
      refine W.eq (g2 := F0 m 12 ls [.ref q9]) rfl ?_
      refine lv_astore_n (lv' := [(3, .ref q9), (0, .ref (ad (0, 0, 0))), (1, .int a0), (2, .ref (ad (9, 0, 0)))]) hx hb dL_call_12 rfl hl (by decide) rfl (fun ls hl => ?_)
      refine lv_iconst (v := 1) hx hb dL_call_13 (by decide) ?_
      exact e_wi hx hb hr hlocks (by rw [hc]; rfl) hS ⟨ad, o, hE, fun h => absurd (hc.symm.trans h) (by decide), by unfold gO; rw [if_neg (by rw [hc]; decide)]; exact hH⟩ (show 0 + (1) ≤ 1 by omega) (show 0 + (6) ≤ 6 by omega) dL_call_14
    · skip
      refine vx_catch hown [⟨0, 9, 12, 21⟩] ⟨0, 9, 15, 15⟩ [] (by rw [ht]; rfl) (fun z hz => by rcases List.mem_singleton.mp hz with rfl; exact Or.inr ⟨by decide, nIO, hts _ wc_L_21, hC.2.2.2.2.2.2.2.2⟩) (by decide) (by decide) (hts _ wc_L_15) (hts _ wx_java_lang_IllegalStateException) hce hcv hcl ?_
      refine W.eq (g2 := F0 m 15 ls [.ref q9]) rfl ?_
      refine lv_astore_n (lv' := [(3, .ref q9), (0, .ref (ad (0, 0, 0))), (1, .int a0), (2, .ref (ad (9, 0, 0)))]) hx hb dL_call_15 rfl hl (by decide) rfl (fun ls hl => ?_)
      refine lv_iconst (v := 2) hx hb dL_call_16 (by decide) ?_
      exact e_wi hx hb hr hlocks (by rw [hc]; rfl) hS ⟨ad, o, hE, fun h => absurd (hc.symm.trans h) (by decide), by unfold gO; rw [if_neg (by rw [hc]; decide)]; exact hH⟩ (show 0 + (1) ≤ 1 by omega) (show 0 + (6) ≤ 6 by omega) dL_call_17
  · skip
    obtain ⟨ad, hF, hH⟩ := hH
    have hl : lv_has ls 4 [(0, .ref (ad (0, 0, 0))), (1, .int a0), (2, .ref (ad (9, 0, 0)))] := by rw [hF (0, 0, 0) (by simp) ⟨by decide, rfl⟩, hF (9, 0, 0) (by simp) ⟨by decide, rfl⟩]; exact hl
    have hE := hE.tr Gr.rf hF
    refine W.eq (g2 := F0 m 7 ls [.int (clV g (pI g a0 - 1)), .int 0, .ref (ad (9, 0, 0))]) (by rw [hF (9, 0, 0) (by simp) ⟨by decide, rfl⟩]; rfl) ?_
    refine lv_i2l hx hb dL_call_7 rfl ?_
    refine r_last hx hb hC hH hS (9, 0, 0) ⟨by decide, rfl⟩ rfl (show vp_in (nI 0) 1 from vp_in_nI (by decide) (by decide)) dL_call_8 (fun H locs hH hS => ?_)
    have hH := Wo_O hH
    refine lv_goto (tgt := 18) hx hb dL_call_9 (by decide) ?_
    refine lv_iconst (v := 0) hx hb dL_call_18 (by decide) ?_
    exact e_wi hx hb hr hlocks (by rw [hP]; rfl) hS ⟨ad, _, hE, fun _ => rfl, by unfold gO; rw [if_pos hP]; exact hH⟩ (show 0 + (1) ≤ 1 by omega) (show 0 + (6) ≤ 6 by omega) dL_call_19

set_option maxHeartbeats 4000000 in
set_option maxRecDepth 100000 in
theorem mL_end (l : Launch) {D : va_G} {k : Nat → ClassId} {b : Nat} {ad0 : Tg → Nat} {g : XS} {M : MF} {o : OF} (hlf : l.stackTraces = false) (hI : XI g) (a0 : Int32) (B : Nat) (hB : enC g a0 = 0 → tb (goG g (pI g a0 - 1) (g.1 40 0)) ≤ tb g + B) : Met l yL_end (WH yL_end cL_end 4 (some .int) [(0, 9, 12, 21), (0, 9, 15, 15)]) ({ frames := 7, cells := 3 * B + 1, slots := 132 * B + 6, locals := 124 }) (P0 D k b (Wo D k b ad0 g M o) [.ref (ad0 (0, 0, 0)), .int a0, .ref (ad0 (9, 0, 0))]) (Qw b (some (.int (nI (enC g a0)))) (fun H => ∃ (ad : Tg → Nat) (o2 : OF), Ex g ad0 ad ∧ (enC g a0 = 0 → o2.1 0 = (cnI g (pI g a0 - 1)).toInt64) ∧ Wo D k b ad (gO (enC g a0) (goG g (pI g a0 - 1) (g.1 40 0)) g) M o2 H)) (3 * B + 1) (132 * B + 6) (Fb b) := by
  refine Met0h (by decide +kernel) (Nat.le_of_ble_eq_true rfl) (fun p e s m below meth c ls hx hb hr hts hown hml hlocks ht hC hH hl => ?_)
  have hS : va_S (Fb b) s.heap s.heap [] := va_S.rf
  obtain ⟨ad, hE, hH, hl⟩ : ∃ ad : Tg → Nat, Ex g ad0 ad ∧ Wo D k b ad g M o s.heap ∧ lv_has ls 4 [(0, .ref (ad (0, 0, 0))), (1, .int a0), (2, .ref (ad (9, 0, 0)))] := ⟨ad0, Ex.rf, hH, hl⟩
  refine lv_aload_n hx hb dL_end_0 rfl (lv_at hl 2 rfl) ?_
  refine lv_iconst (v := 0) hx hb dL_end_1 (by decide) ?_
  refine lv_aload_n hx hb dL_end_2 rfl (lv_at hl 0 rfl) ?_
  refine lv_iload_n hx hb dL_end_3 rfl (lv_at hl 1 rfl) ?_
  refine k_x (vx_runV (As := [.int a0]) (rest := [.int 0, .ref (ad (9, 0, 0))]) ⟨hx, hb, hml, hown, hts⟩ (mX4_end l hlf hI a0 B hB) ⟨cb_of hts wk_X4_end wi_X4 wm_L_33 sd_X4_end rfl rfl ⟨Nat.le_of_ble_eq_true rfl, Nat.le_of_ble_eq_true rfl⟩, hts _ wv_X4_end, hts _ wl_X4_end⟩ (P0.preV hC hS hH (Hp.recv hC.1 hH (0, 0, 0) ⟨by decide, rfl⟩ rfl rfl)) rfl rfl hl.1 rfl (lv_room (Nat.le_of_ble_eq_true rfl)) dL_end_4 ⟨show 0 + (3 * B + 1) ≤ 3 * B + 1 by omega, show 0 + (132 * B + 6) ≤ 132 * B + 6 by omega⟩) hS (fun E ce q9 H locs hPE hH hS hce hcv hcl => ?_) (fun hP H locs hH hS => ?_)
  · skip
    obtain ⟨ad, hF, hH⟩ := hH
    have hl : lv_has ls 4 [(0, .ref (ad (0, 0, 0))), (1, .int a0), (2, .ref (ad (9, 0, 0)))] := by rw [hF (0, 0, 0) (by simp) ⟨by decide, rfl⟩, hF (9, 0, 0) (by simp) ⟨by decide, rfl⟩]; exact hl
    have hE := hE.tr Gr.rf hF
    rcases xN2 hPE with ⟨hc, rfl⟩ | ⟨hc, rfl⟩
    · skip
      refine vx_catch hown [] ⟨0, 9, 12, 21⟩ [⟨0, 9, 15, 15⟩] (by rw [ht]; rfl) (fun z hz => absurd hz List.not_mem_nil) (by decide) (by decide) (hts _ wc_L_21) (hts _ wx_java_lang_IndexOutOfBoundsException) hce hcv hcl ?_
      refine W.eq (g2 := F0 m 12 ls [.ref q9]) rfl ?_
      refine lv_astore_n (lv' := [(3, .ref q9), (0, .ref (ad (0, 0, 0))), (1, .int a0), (2, .ref (ad (9, 0, 0)))]) hx hb dL_end_12 rfl hl (by decide) rfl (fun ls hl => ?_)
      refine lv_iconst (v := 1) hx hb dL_end_13 (by decide) ?_
      exact e_wi hx hb hr hlocks (by rw [hc]; rfl) hS ⟨ad, o, hE, fun h => absurd (hc.symm.trans h) (by decide), by unfold gO; rw [if_neg (by rw [hc]; decide)]; exact hH⟩ (show 0 + (3 * B + 1) ≤ 3 * B + 1 by omega) (show 0 + (132 * B + 6) ≤ 132 * B + 6 by omega) dL_end_14
    · skip
      refine vx_catch hown [⟨0, 9, 12, 21⟩] ⟨0, 9, 15, 15⟩ [] (by rw [ht]; rfl) (fun z hz => by rcases List.mem_singleton.mp hz with rfl; exact Or.inr ⟨by decide, nIO, hts _ wc_L_21, hC.2.2.2.2.2.2.2.2⟩) (by decide) (by decide) (hts _ wc_L_15) (hts _ wx_java_lang_IllegalStateException) hce hcv hcl ?_
      refine W.eq (g2 := F0 m 15 ls [.ref q9]) rfl ?_
      refine lv_astore_n (lv' := [(3, .ref q9), (0, .ref (ad (0, 0, 0))), (1, .int a0), (2, .ref (ad (9, 0, 0)))]) hx hb dL_end_15 rfl hl (by decide) rfl (fun ls hl => ?_)
      refine lv_iconst (v := 2) hx hb dL_end_16 (by decide) ?_
      exact e_wi hx hb hr hlocks (by rw [hc]; rfl) hS ⟨ad, o, hE, fun h => absurd (hc.symm.trans h) (by decide), by unfold gO; rw [if_neg (by rw [hc]; decide)]; exact hH⟩ (show 0 + (3 * B + 1) ≤ 3 * B + 1 by omega) (show 0 + (132 * B + 6) ≤ 132 * B + 6 by omega) dL_end_17
  · skip
    obtain ⟨ad, hF, hH⟩ := hH
    have hl : lv_has ls 4 [(0, .ref (ad (0, 0, 0))), (1, .int a0), (2, .ref (ad (9, 0, 0)))] := by rw [hF (0, 0, 0) (by simp) ⟨by decide, rfl⟩, hF (9, 0, 0) (by simp) ⟨by decide, rfl⟩]; exact hl
    have hE := hE.tr Gr.rf hF
    refine W.eq (g2 := F0 m 7 ls [.int (cnI g (pI g a0 - 1)), .int 0, .ref (ad (9, 0, 0))]) (by rw [hF (9, 0, 0) (by simp) ⟨by decide, rfl⟩]; rfl) ?_
    refine lv_i2l hx hb dL_end_7 rfl ?_
    refine r_last hx hb hC hH hS (9, 0, 0) ⟨by decide, rfl⟩ rfl (show vp_in (nI 0) 1 from vp_in_nI (by decide) (by decide)) dL_end_8 (fun H locs hH hS => ?_)
    have hH := Wo_O hH
    refine lv_goto (tgt := 18) hx hb dL_end_9 (by decide) ?_
    refine lv_iconst (v := 0) hx hb dL_end_18 (by decide) ?_
    exact e_wi hx hb hr hlocks (by rw [hP]; rfl) hS ⟨ad, _, hE, fun _ => rfl, by unfold gO; rw [if_pos hP]; exact hH⟩ (show 0 + (3 * B + 1) ≤ 3 * B + 1 by omega) (show 0 + (132 * B + 6) ≤ 132 * B + 6 by omega) dL_end_19

set_option maxHeartbeats 4000000 in
set_option maxRecDepth 100000 in
theorem mL_move (l : Launch) {D : va_G} {k : Nat → ClassId} {b : Nat} {ad0 : Tg → Nat} {g : XS} {M : MF} {o : OF} (hlf : l.stackTraces = false) (hI : XI g) (a0 a1 : Int32) (B : Nat) (hB : mvC g a0 a1 = 0 → tb (moveG g (pI g a0 - 1) a1) ≤ tb g + B) : Met l yL_move (WH yL_move cL_move 5 (some .int) [(0, 10, 13, 21), (0, 10, 17, 13)]) ({ frames := 7, cells := 3 * B + 1, slots := 132 * B + 6, locals := 146 }) (P0 D k b (Wo D k b ad0 g M o) [.ref (ad0 (0, 0, 0)), .int a0, .int a1, .ref (ad0 (9, 0, 0))]) (Qw b (some (.int (nI (mvC g a0 a1)))) (fun H => ∃ (ad : Tg → Nat) (o2 : OF), Ex g ad0 ad ∧ (mvC g a0 a1 = 0 → o2.1 0 = (cnI (moveG g (pI g a0 - 1) a1) (pI g a0 - 1)).toInt64) ∧ Wo D k b ad (gO (mvC g a0 a1) (moveG g (pI g a0 - 1) a1) g) M o2 H)) (3 * B + 1) (132 * B + 6) (Fb b) := by
  refine Met0h (by decide +kernel) (Nat.le_of_ble_eq_true rfl) (fun p e s m below meth c ls hx hb hr hts hown hml hlocks ht hC hH hl => ?_)
  have hS : va_S (Fb b) s.heap s.heap [] := va_S.rf
  obtain ⟨ad, hE, hH, hl⟩ : ∃ ad : Tg → Nat, Ex g ad0 ad ∧ Wo D k b ad g M o s.heap ∧ lv_has ls 5 [(0, .ref (ad (0, 0, 0))), (1, .int a0), (2, .int a1), (3, .ref (ad (9, 0, 0)))] := ⟨ad0, Ex.rf, hH, hl⟩
  refine lv_aload_n hx hb dL_move_0 rfl (lv_at hl 3 rfl) ?_
  refine lv_iconst (v := 0) hx hb dL_move_1 (by decide) ?_
  refine lv_aload_n hx hb dL_move_2 rfl (lv_at hl 0 rfl) ?_
  refine lv_iload_n hx hb dL_move_3 rfl (lv_at hl 1 rfl) ?_
  refine lv_iload_n hx hb dL_move_4 rfl (lv_at hl 2 rfl) ?_
  refine k_x (vx_runV (As := [.int a0, .int a1]) (rest := [.int 0, .ref (ad (9, 0, 0))]) ⟨hx, hb, hml, hown, hts⟩ (mX4_move l hlf hI a0 a1 B hB) ⟨cb_of hts wk_X4_move wi_X4 wm_L_36 sd_X4_move rfl rfl ⟨Nat.le_of_ble_eq_true rfl, Nat.le_of_ble_eq_true rfl⟩, hts _ wv_X4_move, hts _ wl_X4_move⟩ (P0.preV hC hS hH (Hp.recv hC.1 hH (0, 0, 0) ⟨by decide, rfl⟩ rfl rfl)) rfl rfl hl.1 rfl (lv_room (Nat.le_of_ble_eq_true rfl)) dL_move_5 ⟨show 0 + (3 * B + 1) ≤ 3 * B + 1 by omega, show 0 + (132 * B + 6) ≤ 132 * B + 6 by omega⟩) hS (fun E ce q9 H locs hPE hH hS hce hcv hcl => ?_) (fun hP H locs hH hS => ?_)
  · skip
    obtain ⟨ad, hF, hH⟩ := hH
    have hl : lv_has ls 5 [(0, .ref (ad (0, 0, 0))), (1, .int a0), (2, .int a1), (3, .ref (ad (9, 0, 0)))] := by rw [hF (0, 0, 0) (by simp) ⟨by decide, rfl⟩, hF (9, 0, 0) (by simp) ⟨by decide, rfl⟩]; exact hl
    have hE := hE.tr Gr.rf hF
    rcases xN2 hPE with ⟨hc, rfl⟩ | ⟨hc, rfl⟩
    · skip
      refine vx_catch hown [] ⟨0, 10, 13, 21⟩ [⟨0, 10, 17, 13⟩] (by rw [ht]; rfl) (fun z hz => absurd hz List.not_mem_nil) (by decide) (by decide) (hts _ wc_L_21) (hts _ wx_java_lang_IndexOutOfBoundsException) hce hcv hcl ?_
      refine W.eq (g2 := F0 m 13 ls [.ref q9]) rfl ?_
      refine lv_astore (lv' := [(4, .ref q9), (0, .ref (ad (0, 0, 0))), (1, .int a0), (2, .int a1), (3, .ref (ad (9, 0, 0)))]) hx hb dL_move_13 hl (by decide) rfl (fun ls hl => ?_)
      refine lv_iconst (v := 1) hx hb dL_move_15 (by decide) ?_
      exact e_wi hx hb hr hlocks (by rw [hc]; rfl) hS ⟨ad, o, hE, fun h => absurd (hc.symm.trans h) (by decide), by unfold gO; rw [if_neg (by rw [hc]; decide)]; exact hH⟩ (show 0 + (3 * B + 1) ≤ 3 * B + 1 by omega) (show 0 + (132 * B + 6) ≤ 132 * B + 6 by omega) dL_move_16
    · skip
      refine vx_catch hown [⟨0, 10, 13, 21⟩] ⟨0, 10, 17, 13⟩ [] (by rw [ht]; rfl) (fun z hz => by rcases List.mem_singleton.mp hz with rfl; exact Or.inr ⟨by decide, nIO, hts _ wc_L_21, hC.2.2.2.2.2.2.2.1⟩) (by decide) (by decide) (hts _ wc_L_13) (hts _ wx_java_lang_IllegalArgumentException) hce hcv hcl ?_
      refine W.eq (g2 := F0 m 17 ls [.ref q9]) rfl ?_
      refine lv_astore (lv' := [(4, .ref q9), (0, .ref (ad (0, 0, 0))), (1, .int a0), (2, .int a1), (3, .ref (ad (9, 0, 0)))]) hx hb dL_move_17 hl (by decide) rfl (fun ls hl => ?_)
      refine lv_iconst (v := 2) hx hb dL_move_19 (by decide) ?_
      exact e_wi hx hb hr hlocks (by rw [hc]; rfl) hS ⟨ad, o, hE, fun h => absurd (hc.symm.trans h) (by decide), by unfold gO; rw [if_neg (by rw [hc]; decide)]; exact hH⟩ (show 0 + (3 * B + 1) ≤ 3 * B + 1 by omega) (show 0 + (132 * B + 6) ≤ 132 * B + 6 by omega) dL_move_20
  · skip
    obtain ⟨ad, hF, hH⟩ := hH
    have hl : lv_has ls 5 [(0, .ref (ad (0, 0, 0))), (1, .int a0), (2, .int a1), (3, .ref (ad (9, 0, 0)))] := by rw [hF (0, 0, 0) (by simp) ⟨by decide, rfl⟩, hF (9, 0, 0) (by simp) ⟨by decide, rfl⟩]; exact hl
    have hE := hE.tr Gr.rf hF
    refine W.eq (g2 := F0 m 8 ls [.int (cnI (moveG g (pI g a0 - 1) a1) (pI g a0 - 1)), .int 0, .ref (ad (9, 0, 0))]) (by rw [hF (9, 0, 0) (by simp) ⟨by decide, rfl⟩]; rfl) ?_
    refine lv_i2l hx hb dL_move_8 rfl ?_
    refine r_last hx hb hC hH hS (9, 0, 0) ⟨by decide, rfl⟩ rfl (show vp_in (nI 0) 1 from vp_in_nI (by decide) (by decide)) dL_move_9 (fun H locs hH hS => ?_)
    have hH := Wo_O hH
    refine lv_goto (tgt := 21) hx hb dL_move_10 (by decide) ?_
    refine lv_iconst (v := 0) hx hb dL_move_21 (by decide) ?_
    exact e_wi hx hb hr hlocks (by rw [hP]; rfl) hS ⟨ad, _, hE, fun _ => rfl, by unfold gO; rw [if_pos hP]; exact hH⟩ (show 0 + (3 * B + 1) ≤ 3 * B + 1 by omega) (show 0 + (132 * B + 6) ≤ 132 * B + 6 by omega) dL_move_22

set_option maxHeartbeats 4000000 in
set_option maxRecDepth 100000 in
theorem mL_pass (l : Launch) {D : va_G} {k : Nat → ClassId} {b : Nat} {ad0 : Tg → Nat} {g : XS} {M : MF} {o : OF} (hlf : l.stackTraces = false) (hI : XI g) (a0 : Int32) (B : Nat) (hB : paC g a0 = 0 → tb (hrsG g a0.toNatClampNeg) ≤ tb g + B) : Met l yL_pass (WH yL_pass cL_pass 4 (some .int) [(0, 9, 12, 13), (0, 9, 15, 15)]) ({ frames := 9, cells := 3 * B + 1, slots := 132 * B + 6, locals := 189 }) (P0 D k b (Wo D k b ad0 g M o) [.ref (ad0 (0, 0, 0)), .int a0, .ref (ad0 (9, 0, 0))]) (Qw b (some (.int (nI (paC g a0)))) (fun H => ∃ (ad : Tg → Nat) (o2 : OF), Ex g ad0 ad ∧ (paC g a0 = 0 → o2.1 0 = ((hrsG g a0.toNatClampNeg).1 40 0).toInt64) ∧ Wo D k b ad (gO (paC g a0) (hrsG g a0.toNatClampNeg) g) M o2 H)) (3 * B + 1) (132 * B + 6) (Fb b) := by
  refine Met0h (by decide +kernel) (Nat.le_of_ble_eq_true rfl) (fun p e s m below meth c ls hx hb hr hts hown hml hlocks ht hC hH hl => ?_)
  have hS : va_S (Fb b) s.heap s.heap [] := va_S.rf
  obtain ⟨ad, hE, hH, hl⟩ : ∃ ad : Tg → Nat, Ex g ad0 ad ∧ Wo D k b ad g M o s.heap ∧ lv_has ls 4 [(0, .ref (ad (0, 0, 0))), (1, .int a0), (2, .ref (ad (9, 0, 0)))] := ⟨ad0, Ex.rf, hH, hl⟩
  refine lv_aload_n hx hb dL_pass_0 rfl (lv_at hl 2 rfl) ?_
  refine lv_iconst (v := 0) hx hb dL_pass_1 (by decide) ?_
  refine lv_aload_n hx hb dL_pass_2 rfl (lv_at hl 0 rfl) ?_
  refine lv_iload_n hx hb dL_pass_3 rfl (lv_at hl 1 rfl) ?_
  refine k_x (vx_runV (As := [.int a0]) (rest := [.int 0, .ref (ad (9, 0, 0))]) ⟨hx, hb, hml, hown, hts⟩ (mX4_pass l hlf hI a0 B hB) ⟨cb_of hts wk_X4_pass wi_X4 wm_L_40 sd_X4_pass rfl rfl ⟨Nat.le_of_ble_eq_true rfl, Nat.le_of_ble_eq_true rfl⟩, hts _ wv_X4_pass, hts _ wl_X4_pass⟩ (P0.preV hC hS hH (Hp.recv hC.1 hH (0, 0, 0) ⟨by decide, rfl⟩ rfl rfl)) rfl rfl hl.1 rfl (lv_room (Nat.le_of_ble_eq_true rfl)) dL_pass_4 ⟨show 0 + (3 * B + 1) ≤ 3 * B + 1 by omega, show 0 + (132 * B + 6) ≤ 132 * B + 6 by omega⟩) hS (fun E ce q9 H locs hPE hH hS hce hcv hcl => ?_) (fun hP H locs hH hS => ?_)
  · skip
    obtain ⟨ad, hF, hH⟩ := hH
    have hl : lv_has ls 4 [(0, .ref (ad (0, 0, 0))), (1, .int a0), (2, .ref (ad (9, 0, 0)))] := by rw [hF (0, 0, 0) (by simp) ⟨by decide, rfl⟩, hF (9, 0, 0) (by simp) ⟨by decide, rfl⟩]; exact hl
    have hE := hE.tr Gr.rf hF
    rcases xN2 hPE with ⟨hc, rfl⟩ | ⟨hc, rfl⟩
    · skip
      refine vx_catch hown [] ⟨0, 9, 12, 13⟩ [⟨0, 9, 15, 15⟩] (by rw [ht]; rfl) (fun z hz => absurd hz List.not_mem_nil) (by decide) (by decide) (hts _ wc_L_13) (hts _ wx_java_lang_IllegalArgumentException) hce hcv hcl ?_
      refine W.eq (g2 := F0 m 12 ls [.ref q9]) rfl ?_
      refine lv_astore_n (lv' := [(3, .ref q9), (0, .ref (ad (0, 0, 0))), (1, .int a0), (2, .ref (ad (9, 0, 0)))]) hx hb dL_pass_12 rfl hl (by decide) rfl (fun ls hl => ?_)
      refine lv_iconst (v := 1) hx hb dL_pass_13 (by decide) ?_
      exact e_wi hx hb hr hlocks (by rw [hc]; rfl) hS ⟨ad, o, hE, fun h => absurd (hc.symm.trans h) (by decide), by unfold gO; rw [if_neg (by rw [hc]; decide)]; exact hH⟩ (show 0 + (3 * B + 1) ≤ 3 * B + 1 by omega) (show 0 + (132 * B + 6) ≤ 132 * B + 6 by omega) dL_pass_14
    · skip
      refine vx_catch hown [⟨0, 9, 12, 13⟩] ⟨0, 9, 15, 15⟩ [] (by rw [ht]; rfl) (fun z hz => by rcases List.mem_singleton.mp hz with rfl; exact Or.inr ⟨by decide, nIA, hts _ wc_L_13, hC.2.2.2.1⟩) (by decide) (by decide) (hts _ wc_L_15) (hts _ wx_java_lang_IllegalStateException) hce hcv hcl ?_
      refine W.eq (g2 := F0 m 15 ls [.ref q9]) rfl ?_
      refine lv_astore_n (lv' := [(3, .ref q9), (0, .ref (ad (0, 0, 0))), (1, .int a0), (2, .ref (ad (9, 0, 0)))]) hx hb dL_pass_15 rfl hl (by decide) rfl (fun ls hl => ?_)
      refine lv_iconst (v := 2) hx hb dL_pass_16 (by decide) ?_
      exact e_wi hx hb hr hlocks (by rw [hc]; rfl) hS ⟨ad, o, hE, fun h => absurd (hc.symm.trans h) (by decide), by unfold gO; rw [if_neg (by rw [hc]; decide)]; exact hH⟩ (show 0 + (3 * B + 1) ≤ 3 * B + 1 by omega) (show 0 + (132 * B + 6) ≤ 132 * B + 6 by omega) dL_pass_17
  · skip
    obtain ⟨ad, hF, hH⟩ := hH
    have hl : lv_has ls 4 [(0, .ref (ad (0, 0, 0))), (1, .int a0), (2, .ref (ad (9, 0, 0)))] := by rw [hF (0, 0, 0) (by simp) ⟨by decide, rfl⟩, hF (9, 0, 0) (by simp) ⟨by decide, rfl⟩]; exact hl
    have hE := hE.tr Gr.rf hF
    refine W.eq (g2 := F0 m 7 ls [.int ((hrsG g a0.toNatClampNeg).1 40 0), .int 0, .ref (ad (9, 0, 0))]) (by rw [hF (9, 0, 0) (by simp) ⟨by decide, rfl⟩]; rfl) ?_
    refine lv_i2l hx hb dL_pass_7 rfl ?_
    refine r_last hx hb hC hH hS (9, 0, 0) ⟨by decide, rfl⟩ rfl (show vp_in (nI 0) 1 from vp_in_nI (by decide) (by decide)) dL_pass_8 (fun H locs hH hS => ?_)
    have hH := Wo_O hH
    refine lv_goto (tgt := 18) hx hb dL_pass_9 (by decide) ?_
    refine lv_iconst (v := 0) hx hb dL_pass_18 (by decide) ?_
    exact e_wi hx hb hr hlocks (by rw [hP]; rfl) hS ⟨ad, _, hE, fun _ => rfl, by unfold gO; rw [if_pos hP]; exact hH⟩ (show 0 + (3 * B + 1) ≤ 3 * B + 1 by omega) (show 0 + (132 * B + 6) ≤ 132 * B + 6 by omega) dL_pass_19

set_option maxHeartbeats 4000000 in
set_option maxRecDepth 100000 in
theorem mL_ofMast (l : Launch) {D : va_G} {k : Nat → ClassId} {b : Nat} {ad0 : Tg → Nat} {g : XS} {M : MF} {o : OF} (hlf : l.stackTraces = false) (a0 a1 : Int32) : Met l yL_ofMast (WH yL_ofMast cL_ofMast 5 (some .int) [(0, 10, 13, 21), (0, 10, 17, 13)]) ({ frames := 7, cells := 1, slots := 6, locals := 104 }) (P0 D k b (Wo D k b ad0 g M o) [.ref (ad0 (0, 0, 0)), .int a0, .int a1, .ref (ad0 (9, 0, 0))]) (Qw b (some (.int (nI (omC g a0 a1)))) (fun H => ∃ (ad : Tg → Nat) (o2 : OF), Ex g ad0 ad ∧ (omC g a0 a1 = 0 → o2.1 0 = (ofMV g (mI g a0 - 1) a1).toInt64) ∧ Wo D k b ad (gO (omC g a0 a1) g g) M o2 H)) 1 6 (Fb b) := by
  refine Met0h (by decide +kernel) (Nat.le_of_ble_eq_true rfl) (fun p e s m below meth c ls hx hb hr hts hown hml hlocks ht hC hH hl => ?_)
  have hS : va_S (Fb b) s.heap s.heap [] := va_S.rf
  obtain ⟨ad, hE, hH, hl⟩ : ∃ ad : Tg → Nat, Ex g ad0 ad ∧ Wo D k b ad g M o s.heap ∧ lv_has ls 5 [(0, .ref (ad (0, 0, 0))), (1, .int a0), (2, .int a1), (3, .ref (ad (9, 0, 0)))] := ⟨ad0, Ex.rf, hH, hl⟩
  refine lv_aload_n hx hb dL_ofMast_0 rfl (lv_at hl 3 rfl) ?_
  refine lv_iconst (v := 0) hx hb dL_ofMast_1 (by decide) ?_
  refine lv_aload_n hx hb dL_ofMast_2 rfl (lv_at hl 0 rfl) ?_
  refine lv_iload_n hx hb dL_ofMast_3 rfl (lv_at hl 1 rfl) ?_
  refine lv_iload_n hx hb dL_ofMast_4 rfl (lv_at hl 2 rfl) ?_
  refine k_x (vx_runV (As := [.int a0, .int a1]) (rest := [.int 0, .ref (ad (9, 0, 0))]) ⟨hx, hb, hml, hown, hts⟩ (mX4_ofMast l hlf a0 a1) ⟨cb_of hts wk_X4_ofMast wi_X4 wm_L_43 sd_X4_ofMast rfl rfl ⟨Nat.le_of_ble_eq_true rfl, Nat.le_of_ble_eq_true rfl⟩, hts _ wv_X4_ofMast, hts _ wl_X4_ofMast⟩ (P0.preV hC hS hH (Hp.recv hC.1 hH (0, 0, 0) ⟨by decide, rfl⟩ rfl rfl)) rfl rfl hl.1 rfl (lv_room (Nat.le_of_ble_eq_true rfl)) dL_ofMast_5 ⟨show 0 + (1) ≤ 1 by omega, show 0 + (6) ≤ 6 by omega⟩) hS (fun E ce q9 H locs hPE hH hS hce hcv hcl => ?_) (fun hP H locs hH hS => ?_)
  · skip
    obtain ⟨ad, hF, hH⟩ := hH
    have hl : lv_has ls 5 [(0, .ref (ad (0, 0, 0))), (1, .int a0), (2, .int a1), (3, .ref (ad (9, 0, 0)))] := by rw [hF (0, 0, 0) (by simp) ⟨by decide, rfl⟩, hF (9, 0, 0) (by simp) ⟨by decide, rfl⟩]; exact hl
    have hE := hE.tr Gr.rf hF
    rcases xN2 hPE with ⟨hc, rfl⟩ | ⟨hc, rfl⟩
    · skip
      refine vx_catch hown [] ⟨0, 10, 13, 21⟩ [⟨0, 10, 17, 13⟩] (by rw [ht]; rfl) (fun z hz => absurd hz List.not_mem_nil) (by decide) (by decide) (hts _ wc_L_21) (hts _ wx_java_lang_IndexOutOfBoundsException) hce hcv hcl ?_
      refine W.eq (g2 := F0 m 13 ls [.ref q9]) rfl ?_
      refine lv_astore (lv' := [(4, .ref q9), (0, .ref (ad (0, 0, 0))), (1, .int a0), (2, .int a1), (3, .ref (ad (9, 0, 0)))]) hx hb dL_ofMast_13 hl (by decide) rfl (fun ls hl => ?_)
      refine lv_iconst (v := 1) hx hb dL_ofMast_15 (by decide) ?_
      exact e_wi hx hb hr hlocks (by rw [hc]; rfl) hS ⟨ad, o, hE, fun h => absurd (hc.symm.trans h) (by decide), by unfold gO; rw [if_neg (by rw [hc]; decide)]; exact hH⟩ (show 0 + (1) ≤ 1 by omega) (show 0 + (6) ≤ 6 by omega) dL_ofMast_16
    · skip
      refine vx_catch hown [⟨0, 10, 13, 21⟩] ⟨0, 10, 17, 13⟩ [] (by rw [ht]; rfl) (fun z hz => by rcases List.mem_singleton.mp hz with rfl; exact Or.inr ⟨by decide, nIO, hts _ wc_L_21, hC.2.2.2.2.2.2.2.1⟩) (by decide) (by decide) (hts _ wc_L_13) (hts _ wx_java_lang_IllegalArgumentException) hce hcv hcl ?_
      refine W.eq (g2 := F0 m 17 ls [.ref q9]) rfl ?_
      refine lv_astore (lv' := [(4, .ref q9), (0, .ref (ad (0, 0, 0))), (1, .int a0), (2, .int a1), (3, .ref (ad (9, 0, 0)))]) hx hb dL_ofMast_17 hl (by decide) rfl (fun ls hl => ?_)
      refine lv_iconst (v := 2) hx hb dL_ofMast_19 (by decide) ?_
      exact e_wi hx hb hr hlocks (by rw [hc]; rfl) hS ⟨ad, o, hE, fun h => absurd (hc.symm.trans h) (by decide), by unfold gO; rw [if_neg (by rw [hc]; decide)]; exact hH⟩ (show 0 + (1) ≤ 1 by omega) (show 0 + (6) ≤ 6 by omega) dL_ofMast_20
  · skip
    obtain ⟨ad, hF, hH⟩ := hH
    have hl : lv_has ls 5 [(0, .ref (ad (0, 0, 0))), (1, .int a0), (2, .int a1), (3, .ref (ad (9, 0, 0)))] := by rw [hF (0, 0, 0) (by simp) ⟨by decide, rfl⟩, hF (9, 0, 0) (by simp) ⟨by decide, rfl⟩]; exact hl
    have hE := hE.tr Gr.rf hF
    refine W.eq (g2 := F0 m 8 ls [.int (ofMV g (mI g a0 - 1) a1), .int 0, .ref (ad (9, 0, 0))]) (by rw [hF (9, 0, 0) (by simp) ⟨by decide, rfl⟩]; rfl) ?_
    refine lv_i2l hx hb dL_ofMast_8 rfl ?_
    refine r_last hx hb hC hH hS (9, 0, 0) ⟨by decide, rfl⟩ rfl (show vp_in (nI 0) 1 from vp_in_nI (by decide) (by decide)) dL_ofMast_9 (fun H locs hH hS => ?_)
    have hH := Wo_O hH
    refine lv_goto (tgt := 21) hx hb dL_ofMast_10 (by decide) ?_
    refine lv_iconst (v := 0) hx hb dL_ofMast_21 (by decide) ?_
    exact e_wi hx hb hr hlocks (by rw [hP]; rfl) hS ⟨ad, _, hE, fun _ => rfl, by unfold gO; rw [if_pos hP]; exact hH⟩ (show 0 + (1) ≤ 1 by omega) (show 0 + (6) ≤ 6 by omega) dL_ofMast_22

set_option maxHeartbeats 4000000 in
set_option maxRecDepth 100000 in
theorem mL_ofPhone (l : Launch) {D : va_G} {k : Nat → ClassId} {b : Nat} {ad0 : Tg → Nat} {g : XS} {M : MF} {o : OF} (hlf : l.stackTraces = false) (hI : XI g) (a0 a1 : Int32) : Met l yL_ofPhone (WH yL_ofPhone cL_ofPhone 5 (some .int) [(0, 10, 13, 21), (0, 10, 17, 13)]) ({ frames := 7, cells := 1, slots := 6, locals := 104 }) (P0 D k b (Wo D k b ad0 g M o) [.ref (ad0 (0, 0, 0)), .int a0, .int a1, .ref (ad0 (9, 0, 0))]) (Qw b (some (.int (nI (opC g a0 a1)))) (fun H => ∃ (ad : Tg → Nat) (o2 : OF), Ex g ad0 ad ∧ (opC g a0 a1 = 0 → o2.1 0 = (ofPV g (pI g a0 - 1) a1).toInt64) ∧ Wo D k b ad (gO (opC g a0 a1) g g) M o2 H)) 1 6 (Fb b) := by
  refine Met0h (by decide +kernel) (Nat.le_of_ble_eq_true rfl) (fun p e s m below meth c ls hx hb hr hts hown hml hlocks ht hC hH hl => ?_)
  have hS : va_S (Fb b) s.heap s.heap [] := va_S.rf
  obtain ⟨ad, hE, hH, hl⟩ : ∃ ad : Tg → Nat, Ex g ad0 ad ∧ Wo D k b ad g M o s.heap ∧ lv_has ls 5 [(0, .ref (ad (0, 0, 0))), (1, .int a0), (2, .int a1), (3, .ref (ad (9, 0, 0)))] := ⟨ad0, Ex.rf, hH, hl⟩
  refine lv_aload_n hx hb dL_ofPhone_0 rfl (lv_at hl 3 rfl) ?_
  refine lv_iconst (v := 0) hx hb dL_ofPhone_1 (by decide) ?_
  refine lv_aload_n hx hb dL_ofPhone_2 rfl (lv_at hl 0 rfl) ?_
  refine lv_iload_n hx hb dL_ofPhone_3 rfl (lv_at hl 1 rfl) ?_
  refine lv_iload_n hx hb dL_ofPhone_4 rfl (lv_at hl 2 rfl) ?_
  refine k_x (vx_runV (As := [.int a0, .int a1]) (rest := [.int 0, .ref (ad (9, 0, 0))]) ⟨hx, hb, hml, hown, hts⟩ (mX4_ofPhone l hlf hI a0 a1) ⟨cb_of hts wk_X4_ofPhone wi_X4 wm_L_49 sd_X4_ofPhone rfl rfl ⟨Nat.le_of_ble_eq_true rfl, Nat.le_of_ble_eq_true rfl⟩, hts _ wv_X4_ofPhone, hts _ wl_X4_ofPhone⟩ (P0.preV hC hS hH (Hp.recv hC.1 hH (0, 0, 0) ⟨by decide, rfl⟩ rfl rfl)) rfl rfl hl.1 rfl (lv_room (Nat.le_of_ble_eq_true rfl)) dL_ofPhone_5 ⟨show 0 + (1) ≤ 1 by omega, show 0 + (6) ≤ 6 by omega⟩) hS (fun E ce q9 H locs hPE hH hS hce hcv hcl => ?_) (fun hP H locs hH hS => ?_)
  · skip
    obtain ⟨ad, hF, hH⟩ := hH
    have hl : lv_has ls 5 [(0, .ref (ad (0, 0, 0))), (1, .int a0), (2, .int a1), (3, .ref (ad (9, 0, 0)))] := by rw [hF (0, 0, 0) (by simp) ⟨by decide, rfl⟩, hF (9, 0, 0) (by simp) ⟨by decide, rfl⟩]; exact hl
    have hE := hE.tr Gr.rf hF
    rcases xN2 hPE with ⟨hc, rfl⟩ | ⟨hc, rfl⟩
    · skip
      refine vx_catch hown [] ⟨0, 10, 13, 21⟩ [⟨0, 10, 17, 13⟩] (by rw [ht]; rfl) (fun z hz => absurd hz List.not_mem_nil) (by decide) (by decide) (hts _ wc_L_21) (hts _ wx_java_lang_IndexOutOfBoundsException) hce hcv hcl ?_
      refine W.eq (g2 := F0 m 13 ls [.ref q9]) rfl ?_
      refine lv_astore (lv' := [(4, .ref q9), (0, .ref (ad (0, 0, 0))), (1, .int a0), (2, .int a1), (3, .ref (ad (9, 0, 0)))]) hx hb dL_ofPhone_13 hl (by decide) rfl (fun ls hl => ?_)
      refine lv_iconst (v := 1) hx hb dL_ofPhone_15 (by decide) ?_
      exact e_wi hx hb hr hlocks (by rw [hc]; rfl) hS ⟨ad, o, hE, fun h => absurd (hc.symm.trans h) (by decide), by unfold gO; rw [if_neg (by rw [hc]; decide)]; exact hH⟩ (show 0 + (1) ≤ 1 by omega) (show 0 + (6) ≤ 6 by omega) dL_ofPhone_16
    · skip
      refine vx_catch hown [⟨0, 10, 13, 21⟩] ⟨0, 10, 17, 13⟩ [] (by rw [ht]; rfl) (fun z hz => by rcases List.mem_singleton.mp hz with rfl; exact Or.inr ⟨by decide, nIO, hts _ wc_L_21, hC.2.2.2.2.2.2.2.1⟩) (by decide) (by decide) (hts _ wc_L_13) (hts _ wx_java_lang_IllegalArgumentException) hce hcv hcl ?_
      refine W.eq (g2 := F0 m 17 ls [.ref q9]) rfl ?_
      refine lv_astore (lv' := [(4, .ref q9), (0, .ref (ad (0, 0, 0))), (1, .int a0), (2, .int a1), (3, .ref (ad (9, 0, 0)))]) hx hb dL_ofPhone_17 hl (by decide) rfl (fun ls hl => ?_)
      refine lv_iconst (v := 2) hx hb dL_ofPhone_19 (by decide) ?_
      exact e_wi hx hb hr hlocks (by rw [hc]; rfl) hS ⟨ad, o, hE, fun h => absurd (hc.symm.trans h) (by decide), by unfold gO; rw [if_neg (by rw [hc]; decide)]; exact hH⟩ (show 0 + (1) ≤ 1 by omega) (show 0 + (6) ≤ 6 by omega) dL_ofPhone_20
  · skip
    obtain ⟨ad, hF, hH⟩ := hH
    have hl : lv_has ls 5 [(0, .ref (ad (0, 0, 0))), (1, .int a0), (2, .int a1), (3, .ref (ad (9, 0, 0)))] := by rw [hF (0, 0, 0) (by simp) ⟨by decide, rfl⟩, hF (9, 0, 0) (by simp) ⟨by decide, rfl⟩]; exact hl
    have hE := hE.tr Gr.rf hF
    refine W.eq (g2 := F0 m 8 ls [.int (ofPV g (pI g a0 - 1) a1), .int 0, .ref (ad (9, 0, 0))]) (by rw [hF (9, 0, 0) (by simp) ⟨by decide, rfl⟩]; rfl) ?_
    refine lv_i2l hx hb dL_ofPhone_8 rfl ?_
    refine r_last hx hb hC hH hS (9, 0, 0) ⟨by decide, rfl⟩ rfl (show vp_in (nI 0) 1 from vp_in_nI (by decide) (by decide)) dL_ofPhone_9 (fun H locs hH hS => ?_)
    have hH := Wo_O hH
    refine lv_goto (tgt := 21) hx hb dL_ofPhone_10 (by decide) ?_
    refine lv_iconst (v := 0) hx hb dL_ofPhone_21 (by decide) ?_
    exact e_wi hx hb hr hlocks (by rw [hP]; rfl) hS ⟨ad, _, hE, fun _ => rfl, by unfold gO; rw [if_pos hP]; exact hH⟩ (show 0 + (1) ≤ 1 by omega) (show 0 + (6) ≤ 6 by omega) dL_ofPhone_22

set_option maxHeartbeats 4000000 in
set_option maxRecDepth 100000 in
theorem mL_trafficAnew (l : Launch) {D : va_G} {k : Nat → ClassId} {b : Nat} {ad0 : Tg → Nat} {g : XS} {M : MF} {o : OF} (hlf : l.stackTraces = false) (hI : XI g) (a0 : Int32) : Met l yL_trafficAnew (WH yL_trafficAnew cL_trafficAnew 4 (some .int) [(0, 9, 12, 21)]) ({ frames := 7, cells := 1, slots := 6, locals := 108 }) (P0 D k b (Wo D k b ad0 g M o) [.ref (ad0 (0, 0, 0)), .int a0, .ref (ad0 (9, 0, 0))]) (Qw b (some (.int (nI (taC g a0)))) (fun H => ∃ (ad : Tg → Nat) (o2 : OF), Ex g ad0 ad ∧ (taC g a0 = 0 → o2.1 0 = (pnS g (mI g a0 - 1) 12 (hbA g (mI g a0 - 1) (nbk (g.2.1 4 (mI g a0 - 1))) (nbk (g.2.1 4 (mI g a0 - 1))))).toInt64) ∧ Wo D k b ad (gO (taC g a0) g g) M o2 H)) 1 6 (Fb b) := by
  refine Met0h (by decide +kernel) (Nat.le_of_ble_eq_true rfl) (fun p e s m below meth c ls hx hb hr hts hown hml hlocks ht hC hH hl => ?_)
  have hS : va_S (Fb b) s.heap s.heap [] := va_S.rf
  obtain ⟨ad, hE, hH, hl⟩ : ∃ ad : Tg → Nat, Ex g ad0 ad ∧ Wo D k b ad g M o s.heap ∧ lv_has ls 4 [(0, .ref (ad (0, 0, 0))), (1, .int a0), (2, .ref (ad (9, 0, 0)))] := ⟨ad0, Ex.rf, hH, hl⟩
  refine lv_aload_n hx hb dL_trafficAnew_0 rfl (lv_at hl 2 rfl) ?_
  refine lv_iconst (v := 0) hx hb dL_trafficAnew_1 (by decide) ?_
  refine lv_aload_n hx hb dL_trafficAnew_2 rfl (lv_at hl 0 rfl) ?_
  refine lv_iload_n hx hb dL_trafficAnew_3 rfl (lv_at hl 1 rfl) ?_
  refine k_x (vx_runV (As := [.int a0]) (rest := [.int 0, .ref (ad (9, 0, 0))]) ⟨hx, hb, hml, hown, hts⟩ (mX4_trafficAnew l hlf hI a0) ⟨cb_of hts wk_X4_trafficAnew wi_X4 wm_L_46 sd_X4_trafficAnew rfl rfl ⟨Nat.le_of_ble_eq_true rfl, Nat.le_of_ble_eq_true rfl⟩, hts _ wv_X4_trafficAnew, hts _ wl_X4_trafficAnew⟩ (P0.preV hC hS hH (Hp.recv hC.1 hH (0, 0, 0) ⟨by decide, rfl⟩ rfl rfl)) rfl rfl hl.1 rfl (lv_room (Nat.le_of_ble_eq_true rfl)) dL_trafficAnew_4 ⟨show 0 + (1) ≤ 1 by omega, show 0 + (6) ≤ 6 by omega⟩) hS (fun E ce q9 H locs hPE hH hS hce hcv hcl => ?_) (fun hP H locs hH hS => ?_)
  · skip
    obtain ⟨ad, hF, hH⟩ := hH
    have hl : lv_has ls 4 [(0, .ref (ad (0, 0, 0))), (1, .int a0), (2, .ref (ad (9, 0, 0)))] := by rw [hF (0, 0, 0) (by simp) ⟨by decide, rfl⟩, hF (9, 0, 0) (by simp) ⟨by decide, rfl⟩]; exact hl
    have hE := hE.tr Gr.rf hF
    obtain ⟨hc, rfl⟩ := xN1 hPE
    refine vx_catch hown [] ⟨0, 9, 12, 21⟩ [] (by rw [ht]; rfl) (fun z hz => absurd hz List.not_mem_nil) (by decide) (by decide) (hts _ wc_L_21) (hts _ wx_java_lang_IndexOutOfBoundsException) hce hcv hcl ?_
    refine W.eq (g2 := F0 m 12 ls [.ref q9]) rfl ?_
    refine lv_astore_n (lv' := [(3, .ref q9), (0, .ref (ad (0, 0, 0))), (1, .int a0), (2, .ref (ad (9, 0, 0)))]) hx hb dL_trafficAnew_12 rfl hl (by decide) rfl (fun ls hl => ?_)
    refine lv_iconst (v := 1) hx hb dL_trafficAnew_13 (by decide) ?_
    exact e_wi hx hb hr hlocks (by rw [hc]; rfl) hS ⟨ad, o, hE, fun h => absurd (hc.symm.trans h) (by decide), by unfold gO; rw [if_neg (by rw [hc]; decide)]; exact hH⟩ (show 0 + (1) ≤ 1 by omega) (show 0 + (6) ≤ 6 by omega) dL_trafficAnew_14
  · skip
    obtain ⟨ad, hF, hH⟩ := hH
    have hl : lv_has ls 4 [(0, .ref (ad (0, 0, 0))), (1, .int a0), (2, .ref (ad (9, 0, 0)))] := by rw [hF (0, 0, 0) (by simp) ⟨by decide, rfl⟩, hF (9, 0, 0) (by simp) ⟨by decide, rfl⟩]; exact hl
    have hE := hE.tr Gr.rf hF
    refine W.eq (g2 := F0 m 7 ls [.int (pnS g (mI g a0 - 1) 12 (hbA g (mI g a0 - 1) (nbk (g.2.1 4 (mI g a0 - 1))) (nbk (g.2.1 4 (mI g a0 - 1))))), .int 0, .ref (ad (9, 0, 0))]) (by rw [hF (9, 0, 0) (by simp) ⟨by decide, rfl⟩]; rfl) ?_
    refine lv_i2l hx hb dL_trafficAnew_7 rfl ?_
    refine r_last hx hb hC hH hS (9, 0, 0) ⟨by decide, rfl⟩ rfl (show vp_in (nI 0) 1 from vp_in_nI (by decide) (by decide)) dL_trafficAnew_8 (fun H locs hH hS => ?_)
    have hH := Wo_O hH
    refine lv_goto (tgt := 15) hx hb dL_trafficAnew_9 (by decide) ?_
    refine lv_iconst (v := 0) hx hb dL_trafficAnew_15 (by decide) ?_
    exact e_wi hx hb hr hlocks (by rw [hP]; rfl) hS ⟨ad, _, hE, fun _ => rfl, by unfold gO; rw [if_pos hP]; exact hH⟩ (show 0 + (1) ≤ 1 by omega) (show 0 + (6) ≤ 6 by omega) dL_trafficAnew_16

set_option maxHeartbeats 4000000 in
set_option maxRecDepth 100000 in
theorem mL_strength (l : Launch) {D : va_G} {k : Nat → ClassId} {b : Nat} {ad0 : Tg → Nat} {g : XS} {M : MF} {o : OF} (hlf : l.stackTraces = false) (hI : XI g) (a0 : Int32) (hnan : ¬ pI g a0 = 0 → ¬ g.2.1 3 (pI g a0 - 1) = 0 → vf_n32 (FP.fdiv (FP.i2f (dsI g (g.2.1 3 (pI g a0 - 1) - 1) (g.1 30 (pI g a0 - 1)))) (FP.i2f (g.1 2 (g.2.1 3 (pI g a0 - 1) - 1)))) ∧ vf_n32 (FP.fsub FP.fconst1 (FP.fdiv (FP.i2f (dsI g (g.2.1 3 (pI g a0 - 1) - 1) (g.1 30 (pI g a0 - 1)))) (FP.i2f (g.1 2 (g.2.1 3 (pI g a0 - 1) - 1)))))) (hnd : stC g a0 = 0 → vf_n64 (FP.f2d (stV g (pI g a0 - 1)))) : Met l yL_strength (WH yL_strength cL_strength 4 (some .int) [(0, 9, 12, 21)]) ({ frames := 7, cells := 1, slots := 6, locals := 104 }) (P0 D k b (Wo D k b ad0 g M o) [.ref (ad0 (0, 0, 0)), .int a0, .ref (ad0 (9, 1, 0))]) (Qw b (some (.int (nI (stC g a0)))) (fun H => ∃ (ad : Tg → Nat) (o2 : OF), Ex g ad0 ad ∧ (stC g a0 = 0 → o2.2 0 = FP.f2d (stV g (pI g a0 - 1))) ∧ Wo D k b ad (gO (stC g a0) g g) M o2 H)) 1 6 (Fb b) := by
  refine Met0h (by decide +kernel) (Nat.le_of_ble_eq_true rfl) (fun p e s m below meth c ls hx hb hr hts hown hml hlocks ht hC hH hl => ?_)
  have hS : va_S (Fb b) s.heap s.heap [] := va_S.rf
  obtain ⟨ad, hE, hH, hl⟩ : ∃ ad : Tg → Nat, Ex g ad0 ad ∧ Wo D k b ad g M o s.heap ∧ lv_has ls 4 [(0, .ref (ad (0, 0, 0))), (1, .int a0), (2, .ref (ad (9, 1, 0)))] := ⟨ad0, Ex.rf, hH, hl⟩
  refine lv_aload_n hx hb dL_strength_0 rfl (lv_at hl 2 rfl) ?_
  refine lv_iconst (v := 0) hx hb dL_strength_1 (by decide) ?_
  refine lv_aload_n hx hb dL_strength_2 rfl (lv_at hl 0 rfl) ?_
  refine lv_iload_n hx hb dL_strength_3 rfl (lv_at hl 1 rfl) ?_
  refine k_x (vx_runV (As := [.int a0]) (rest := [.int 0, .ref (ad (9, 1, 0))]) ⟨hx, hb, hml, hown, hts⟩ (mX4_strength l hlf hI a0 hnan) ⟨cb_of hts wk_X4_strength wi_X4 wm_L_52 sd_X4_strength rfl rfl ⟨Nat.le_of_ble_eq_true rfl, Nat.le_of_ble_eq_true rfl⟩, hts _ wv_X4_strength, hts _ wl_X4_strength⟩ (P0.preV hC hS hH (Hp.recv hC.1 hH (0, 0, 0) ⟨by decide, rfl⟩ rfl rfl)) rfl rfl hl.1 rfl (lv_room (Nat.le_of_ble_eq_true rfl)) dL_strength_4 ⟨show 0 + (1) ≤ 1 by omega, show 0 + (6) ≤ 6 by omega⟩) hS (fun E ce q9 H locs hPE hH hS hce hcv hcl => ?_) (fun hP H locs hH hS => ?_)
  · skip
    obtain ⟨ad, hF, hH⟩ := hH
    have hl : lv_has ls 4 [(0, .ref (ad (0, 0, 0))), (1, .int a0), (2, .ref (ad (9, 1, 0)))] := by rw [hF (0, 0, 0) (by simp) ⟨by decide, rfl⟩, hF (9, 1, 0) (by simp) ⟨by decide, rfl⟩]; exact hl
    have hE := hE.tr Gr.rf hF
    obtain ⟨hc, rfl⟩ := xN1 hPE
    refine vx_catch hown [] ⟨0, 9, 12, 21⟩ [] (by rw [ht]; rfl) (fun z hz => absurd hz List.not_mem_nil) (by decide) (by decide) (hts _ wc_L_21) (hts _ wx_java_lang_IndexOutOfBoundsException) hce hcv hcl ?_
    refine W.eq (g2 := F0 m 12 ls [.ref q9]) rfl ?_
    refine lv_astore_n (lv' := [(3, .ref q9), (0, .ref (ad (0, 0, 0))), (1, .int a0), (2, .ref (ad (9, 1, 0)))]) hx hb dL_strength_12 rfl hl (by decide) rfl (fun ls hl => ?_)
    refine lv_iconst (v := 1) hx hb dL_strength_13 (by decide) ?_
    exact e_wi hx hb hr hlocks (by rw [hc]; rfl) hS ⟨ad, o, hE, fun h => absurd (hc.symm.trans h) (by decide), by unfold gO; rw [if_neg (by rw [hc]; decide)]; exact hH⟩ (show 0 + (1) ≤ 1 by omega) (show 0 + (6) ≤ 6 by omega) dL_strength_14
  · skip
    obtain ⟨ad, hF, hH⟩ := hH
    have hl : lv_has ls 4 [(0, .ref (ad (0, 0, 0))), (1, .int a0), (2, .ref (ad (9, 1, 0)))] := by rw [hF (0, 0, 0) (by simp) ⟨by decide, rfl⟩, hF (9, 1, 0) (by simp) ⟨by decide, rfl⟩]; exact hl
    have hE := hE.tr Gr.rf hF
    refine W.eq (g2 := F0 m 7 ls [.float (stV g (pI g a0 - 1)), .int 0, .ref (ad (9, 1, 0))]) (by rw [hF (9, 1, 0) (by simp) ⟨by decide, rfl⟩]; rfl) ?_
    refine lv_f2d hx hb dL_strength_7 (hnd hP) ?_
    refine r_dast hx hb hC hH hS (9, 1, 0) ⟨by decide, rfl⟩ rfl (show vp_in (nI 0) 1 from vp_in_nI (by decide) (by decide)) dL_strength_8 (fun H locs hH hS => ?_)
    have hH := Wo_F hH
    refine lv_goto (tgt := 15) hx hb dL_strength_9 (by decide) ?_
    refine lv_iconst (v := 0) hx hb dL_strength_15 (by decide) ?_
    exact e_wi hx hb hr hlocks (by rw [hP]; rfl) hS ⟨ad, _, hE, fun _ => rfl, by unfold gO; rw [if_pos hP]; exact hH⟩ (show 0 + (1) ≤ 1 by omega) (show 0 + (6) ≤ 6 by omega) dL_strength_16
