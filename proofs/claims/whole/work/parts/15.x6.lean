/-! THE CLASS: calls go, are handed over; an hour goes by -/
set_option maxHeartbeats 4000000 in
set_option maxRecDepth 100000 in
theorem mX3_goAway (l : Launch) {D : va_G} {k : Nat → ClassId} {b : Nat} {ad0 : Tg → Nat} {g : XS} {M : MF} {o : OF} (q : Nat) (hq : q < g.2.1 1 0) (hI : XI g) (hc0 : ¬ g.2.1 3 q = 0) (a0 : Int32) (B : Nat) (hB : tb (goG g q a0) ≤ tb g + B) : Met l yX3_goAway (WS yX3_goAway cX3_goAway 2 none) ({ frames := 4, cells := 3 * B, slots := 132 * B, locals := 80 }) (P0 D k b (Wo D k b ad0 g M o) [.ref (ad0 (2, q, 0)), .int a0]) (Qw b none (fun H => ∃ ad : Tg → Nat, Ex g ad0 ad ∧ Wo D k b ad (goG g q a0) M o H)) (3 * B) (132 * B) (Fb b) := by
  refine Met0 (by decide +kernel) (Nat.le_of_ble_eq_true rfl) (fun p e s m below meth c ls hx hb hr hts hown hml hlocks hnm hC hH hl => ?_)
  have hS : va_S (Fb b) s.heap s.heap [] := va_S.rf
  obtain ⟨ad, hE, hH, hl⟩ : ∃ ad : Tg → Nat, Ex g ad0 ad ∧ Wo D k b ad g M o s.heap ∧ lv_has ls 2 [(0, .ref (ad (2, q, 0))), (1, .int a0)] := ⟨ad0, Ex.rf, hH, hl⟩
  have hi : g.2.1 3 q - 1 < g.2.1 0 0 := by have := hI.2.2.1 q hq; omega
  refine lv_aload_n hx hb dX3_goAway_0 rfl (lv_at hl 0 rfl) ?_
  refine g3 hx hb hts hown hC hH q hq 1 (by decide) wf_X3_15 (v := va_rf (mrO ad (g.2.1 3 q))) rfl dX3_goAway_1 ?_
  refine W.eq (g2 := F0 m 4 ls [.ref (ad (1, (g.2.1 3 q) - 1, 0))]) (by simp [mrO, va_rf, hc0]) ?_
  refine lv_ifnonnull (tgt := 8) hx hb dX3_goAway_4 (by decide) ?_
  refine lv_aload_n hx hb dX3_goAway_8 rfl (lv_at hl 0 rfl) ?_
  refine g3 hx hb hts hown hC hH q hq 1 (by decide) wf_X3_15 (v := va_rf (mrO ad (g.2.1 3 q))) rfl dX3_goAway_9 ?_
  refine W.eq (g2 := F0 m 12 ls [.ref (ad (1, (g.2.1 3 q) - 1, 0))]) (by simp [mrO, va_rf, hc0]) ?_
  refine lv_dup hx hb dX3_goAway_12 rfl ?_
  refine g2N hx hb hts hown hC hH ((g.2.1 3 q) - 1) hi 9 (by decide) wf_X3_27 (v := .int (g.1 9 ((g.2.1 3 q) - 1))) rfl dX3_goAway_13 ?_
  refine lv_iconst (v := 1) hx hb dX3_goAway_16 (by decide) ?_
  refine lv_isub hx hb dX3_goAway_17 ?_
  refine p2N hx hb hts hown hC hH hS ((g.2.1 3 q) - 1) hi 9 (by decide) (by decide) rfl wf_X3_27 rfl rfl dX3_goAway_18 (fun H locs (hH : Wo D k b ad (sx g 9 ((g.2.1 3 q) - 1) ((g.1 9 ((g.2.1 3 q) - 1)) - 1)) M o H) hS => ?_)
  refine lv_aload_n hx hb dX3_goAway_21 rfl (lv_at hl 0 rfl) ?_
  refine g3 hx hb hts hown hC hH q hq 1 (by decide) wf_X3_15 (v := va_rf (mrO ad (g.2.1 3 q))) rfl dX3_goAway_22 ?_
  refine W.eq (g2 := F0 m 25 ls [.ref (ad (1, (g.2.1 3 q) - 1, 0))]) (by simp [mrO, va_rf, hc0]) ?_
  refine lv_aload_n hx hb dX3_goAway_25 rfl (lv_at hl 0 rfl) ?_
  refine g3 hx hb hts hown hC hH q hq 2 (by decide) wf_X3_24 (v := .int (g.1 32 q)) rfl dX3_goAway_26 ?_
  refine lv_iload_n hx hb dX3_goAway_29 rfl (lv_at hl 1 rfl) ?_
  refine k_w (va_runVN (As := [.int (g.1 32 q), .int a0]) (rest := []) ⟨hx, hb, hml, hown, hts⟩ (mX2_logStay l (g := (sx g 9 ((g.2.1 3 q) - 1) ((g.1 9 ((g.2.1 3 q) - 1)) - 1))) ((g.2.1 3 q) - 1) hi (hI.of rfl rfl) (g.1 32 q) a0 B (by rw [tb_go] at hB; exact hB)) ⟨cn_of hts wk_X2_logStay wi_X2 wm_X3_30 sd_X2_logStay rfl rfl ⟨Nat.le_of_ble_eq_true rfl, Nat.le_of_ble_eq_true rfl⟩, hts _ wv_X2_logStay, hts _ wl_X2_logStay⟩ (P0.preV hC hS hH (Hp.recv hC.1 hH (1, (g.2.1 3 q) - 1, 0) ⟨hi, rfl⟩ rfl rfl)) rfl rfl hl.1 rfl (lv_room (Nat.le_of_ble_eq_true rfl)) dX3_goAway_30 ⟨show 0 + 3 * B ≤ 3 * B by omega, show 0 + 132 * B ≤ 132 * B by omega⟩) hS (fun H locs hH hS => ?_)
  obtain ⟨ad, hF, hH⟩ := hH
  have hl : lv_has ls 2 [(0, .ref (ad (2, q, 0))), (1, .int a0)] := by rw [hF (2, q, 0) (by simp) ⟨hq, rfl⟩]; exact hl
  refine W.eq (g2 := F0 m 33 ls []) rfl ?_
  have hE := hE.tr (Gr.of rfl) hF
  refine lv_aload_n hx hb dX3_goAway_33 rfl (lv_at hl 0 rfl) ?_
  refine lv_null hx hb dX3_goAway_34 ?_
  refine p3C hx hb hts hown hC hH hS q (by rw [logG_n (by decide)]; exact hq) wf_X3_15 0 dX3_goAway_35 (fun H locs (hH : Wo D k b ad (sn (logG (sx g 9 ((g.2.1 3 q) - 1) ((g.1 9 ((g.2.1 3 q) - 1)) - 1)) ((g.2.1 3 q) - 1) (g.1 32 q) a0) 3 q 0) M o H) hS => ?_)
  exact e_wv hx hb hr hlocks hS ⟨ad, hE, by exact hH⟩ (show 0 + 3 * B ≤ 3 * B by omega) (show 0 + 132 * B ≤ 132 * B by omega) dX3_goAway_38

set_option maxHeartbeats 4000000 in
set_option maxRecDepth 100000 in
theorem mX4_handOverOrDrop (l : Launch) {D : va_G} {k : Nat → ClassId} {b : Nat} {ad0 : Tg → Nat} {g : XS} {M : MF} {o : OF} (q : Nat) (hq : q < g.2.1 1 0) (hI : XI g) (hc0 : ¬ g.2.1 3 q = 0) (B : Nat) (hB : tb (hndG g q) ≤ tb g + B) : Met l yX4_handOverOrDrop (WS yX4_handOverOrDrop cX4_handOverOrDrop 3 none) ({ frames := 5, cells := 3 * B, slots := 132 * B, locals := 101 }) (P0 D k b (Wo D k b ad0 g M o) [.ref (ad0 (0, 0, 0)), .ref (ad0 (2, q, 0))]) (Qw b none (fun H => ∃ ad : Tg → Nat, Ex g ad0 ad ∧ Wo D k b ad (hndG g q) M o H)) (3 * B) (132 * B) (Fb b) := by
  refine Met0 (by decide +kernel) (Nat.le_of_ble_eq_true rfl) (fun p e s m below meth c ls hx hb hr hts hown hml hlocks hnm hC hH hl => ?_)
  have hS : va_S (Fb b) s.heap s.heap [] := va_S.rf
  obtain ⟨ad, hE, hH, hl⟩ : ∃ ad : Tg → Nat, Ex g ad0 ad ∧ Wo D k b ad g M o s.heap ∧ lv_has ls 3 [(0, .ref (ad (0, 0, 0))), (1, .ref (ad (2, q, 0)))] := ⟨ad0, Ex.rf, hH, hl⟩
  refine lv_aload_n hx hb dX4_handOverOrDrop_0 rfl (lv_at hl 1 rfl) ?_
  refine lv_aload_n hx hb dX4_handOverOrDrop_1 rfl (lv_at hl 0 rfl) ?_
  refine g4 hx hb hts hown hC hH 3 (by decide) wf_X4_52 (v := .int (g.1 40 0)) rfl dX4_handOverOrDrop_2 ?_
  refine k_w (va_runVN (As := [.int (g.1 40 0)]) (rest := []) ⟨hx, hb, hml, hown, hts⟩ (mX3_goAway l q hq hI hc0 (g.1 40 0) B (by rw [tb_hnd] at hB; exact hB)) ⟨cn_of hts wk_X3_goAway wi_X3 wm_X4_99 sd_X3_goAway rfl rfl ⟨Nat.le_of_ble_eq_true rfl, Nat.le_of_ble_eq_true rfl⟩, hts _ wv_X3_goAway, hts _ wl_X3_goAway⟩ (P0.preV hC hS hH (Hp.recv hC.1 hH (2, q, 0) ⟨hq, rfl⟩ rfl rfl)) rfl rfl hl.1 rfl (lv_room (Nat.le_of_ble_eq_true rfl)) dX4_handOverOrDrop_5 ⟨show 0 + 3 * B ≤ 3 * B by omega, show 0 + 132 * B ≤ 132 * B by omega⟩) hS (fun H locs hH hS => ?_)
  obtain ⟨ad, hF, hH⟩ := hH
  have hl : lv_has ls 3 [(0, .ref (ad (0, 0, 0))), (1, .ref (ad (2, q, 0)))] := by rw [hF (0, 0, 0) (by simp) ⟨by decide, rfl⟩, hF (2, q, 0) (by simp) ⟨hq, rfl⟩]; exact hl
  refine W.eq (g2 := F0 m 8 ls []) rfl ?_
  have hE := hE.tr Gr.rf hF
  refine lv_aload_n hx hb dX4_handOverOrDrop_8 rfl (lv_at hl 0 rfl) ?_
  refine lv_aload_n hx hb dX4_handOverOrDrop_9 rfl (lv_at hl 1 rfl) ?_
  refine g3N hx hb hts hown hC hH q (by rw [goG_n (by decide) (by decide)]; exact hq) 0 (by decide) wf_X4_79 (v := .int ((goG g q (g.1 40 0)).1 30 q)) rfl dX4_handOverOrDrop_10 ?_
  refine k_r (va_runV (As := [.int ((goG g q (g.1 40 0)).1 30 q)]) (rest := []) ⟨hx, hb, hml, hown, hts⟩ (mX4_nearestFree l ((goG g q (g.1 40 0)).1 30 q)) ⟨cb_of hts wk_X4_nearestFree wi_X4 wm_X4_82 sd_X4_nearestFree rfl rfl ⟨Nat.le_of_ble_eq_true rfl, Nat.le_of_ble_eq_true rfl⟩, hts _ wv_X4_nearestFree, hts _ wl_X4_nearestFree⟩ (P0.preV hC hS hH (Hp.recv hC.1 hH (0, 0, 0) ⟨by decide, rfl⟩ rfl rfl)) rfl rfl hl.1 rfl (lv_room (Nat.le_of_ble_eq_true rfl)) dX4_handOverOrDrop_13 ⟨show 0 + 3 * B + 0 ≤ 3 * B by omega, show 0 + 132 * B + 0 ≤ 132 * B by omega⟩) ?_
  refine W.eq (g2 := F0 m 16 ls [va_rf (mrO ad (nf (goG g q (g.1 40 0)) ((goG g q (g.1 40 0)).1 30 q) 8))]) rfl ?_
  refine lv_astore_nO (lv' := [(2, va_rf (mrO ad (nf (goG g q (g.1 40 0)) ((goG g q (g.1 40 0)).1 30 q) 8))), (0, .ref (ad (0, 0, 0))), (1, .ref (ad (2, q, 0)))]) hx hb dX4_handOverOrDrop_16 rfl hl (by decide) rfl (fun ls hl => ?_)
  refine lv_aload_nO hx hb dX4_handOverOrDrop_17 rfl (lv_at hl 0 rfl) ?_
  refine lv_ifnonnullO (tgt := 34) hx hb dX4_handOverOrDrop_18 (by decide) (fun c18a c18 => ?_) (fun c18 => ?_)
  · skip
    have c18 := mt mrO_0.mpr (by rw [c18]; exact Option.some_ne_none _)
    have hl : lv_has ls 3 [(2, .ref (ad (1, nf (goG g q (g.1 40 0)) ((goG g q (g.1 40 0)).1 30 q) 8 - 1, 0))), (0, .ref (ad (0, 0, 0))), (1, .ref (ad (2, q, 0)))] := by simpa [mrO, va_rf, c18] using hl
    refine lv_aload_n hx hb dX4_handOverOrDrop_34 rfl (lv_at hl 2 rfl) ?_
    refine lv_dup hx hb dX4_handOverOrDrop_35 rfl ?_
    refine g3N hx hb hts hown hC hH q (by rw [goG_n (by decide) (by decide)]; exact hq) 5 (by decide) wf_X4_140 (v := .int ((goG g q (g.1 40 0)).1 35 q)) rfl dX4_handOverOrDrop_36 ?_
    refine lv_iconst (v := 1) hx hb dX4_handOverOrDrop_39 (by decide) ?_
    refine lv_iadd hx hb dX4_handOverOrDrop_40 ?_
    refine p3N hx hb hts hown hC hH hS q (by rw [goG_n (by decide) (by decide)]; exact hq) 5 (by decide) (by decide) rfl wf_X4_140 rfl rfl dX4_handOverOrDrop_41 (fun H locs (hH : Wo D k b ad (sx (goG g q (g.1 40 0)) 35 q (((goG g q (g.1 40 0)).1 35 q) + 1)) M o H) hS => ?_)
    refine lv_aload_n hx hb dX4_handOverOrDrop_44 rfl (lv_at hl 2 rfl) ?_
    refine lv_aload_n hx hb dX4_handOverOrDrop_45 rfl (lv_at hl 0 rfl) ?_
    refine lv_aload_n hx hb dX4_handOverOrDrop_46 rfl (lv_at hl 1 rfl) ?_
    refine g4 hx hb hts hown hC hH 3 (by decide) wf_X4_52 (v := .int ((goG g q (g.1 40 0)).1 40 0)) rfl dX4_handOverOrDrop_47 ?_
    refine k_w (va_runVN (As := [.ref (ad (1, nf (goG g q (g.1 40 0)) ((goG g q (g.1 40 0)).1 30 q) 8 - 1, 0)), .int ((goG g q (g.1 40 0)).1 40 0)]) (rest := []) ⟨hx, hb, hml, hown, hts⟩ (mX3_comeTo l (g := (sx (goG g q (g.1 40 0)) 35 q (((goG g q (g.1 40 0)).1 35 q) + 1))) q (nf (goG g q (g.1 40 0)) ((goG g q (g.1 40 0)).1 30 q) 8 - 1) (by rw [goG_n (by decide) (by decide)]; exact hq) (show nf (goG g q (g.1 40 0)) ((goG g q (g.1 40 0)).1 30 q) 8 - 1 < (goG g q (g.1 40 0)).2.1 0 0 by have := (nf_le (goG g q (g.1 40 0)) ((goG g q (g.1 40 0)).1 30 q) 8).2 c18; omega) ((goG g q (g.1 40 0)).1 40 0)) ⟨cn_of hts wk_X3_comeTo wi_X3 wm_X4_88 sd_X3_comeTo rfl rfl ⟨Nat.le_of_ble_eq_true rfl, Nat.le_of_ble_eq_true rfl⟩, hts _ wv_X3_comeTo, hts _ wl_X3_comeTo⟩ (P0.preV hC hS hH (Hp.recv hC.1 hH (2, q, 0) ⟨(by rw [goG_n (by decide) (by decide)]; exact hq), rfl⟩ rfl rfl)) rfl rfl hl.1 rfl (lv_room (Nat.le_of_ble_eq_true rfl)) dX4_handOverOrDrop_50 ⟨show 0 + 3 * B + 0 ≤ 3 * B by omega, show 0 + 132 * B + 0 ≤ 132 * B by omega⟩) hS (fun H locs hH hS => ?_)
    refine W.eq (g2 := F0 m 53 ls []) rfl ?_
    have h9 : hndG g q = (comG (sx (goG g q (g.1 40 0)) 35 q (((goG g q (g.1 40 0)).1 35 q) + 1)) q (nf (goG g q (g.1 40 0)) ((goG g q (g.1 40 0)).1 30 q) 8 - 1) ((goG g q (g.1 40 0)).1 40 0)) := by simp only [hndG, hndA]; rw [if_neg c18]
    exact e_wv hx hb hr hlocks hS ⟨ad, hE, by rw [h9]; exact hH⟩ (show 0 + 3 * B + 0 ≤ 3 * B by omega) (show 0 + 132 * B + 0 ≤ 132 * B by omega) dX4_handOverOrDrop_53
  · skip
    have c18 := mrO_0.mp c18
    have hl : lv_has ls 3 [(2, .null), (0, .ref (ad (0, 0, 0))), (1, .ref (ad (2, q, 0)))] := by simpa [mrO, va_rf, c18] using hl
    refine lv_aload_n hx hb dX4_handOverOrDrop_21 rfl (lv_at hl 2 rfl) ?_
    refine lv_dup hx hb dX4_handOverOrDrop_22 rfl ?_
    refine g3N hx hb hts hown hC hH q (by rw [goG_n (by decide) (by decide)]; exact hq) 4 (by decide) wf_X4_137 (v := .int ((goG g q (g.1 40 0)).1 34 q)) rfl dX4_handOverOrDrop_23 ?_
    refine lv_iconst (v := 1) hx hb dX4_handOverOrDrop_26 (by decide) ?_
    refine lv_iadd hx hb dX4_handOverOrDrop_27 ?_
    refine p3N hx hb hts hown hC hH hS q (by rw [goG_n (by decide) (by decide)]; exact hq) 4 (by decide) (by decide) rfl wf_X4_137 rfl rfl dX4_handOverOrDrop_28 (fun H locs (hH : Wo D k b ad (sx (goG g q (g.1 40 0)) 34 q (((goG g q (g.1 40 0)).1 34 q) + 1)) M o H) hS => ?_)
    refine lv_goto (tgt := 53) hx hb dX4_handOverOrDrop_31 (by decide) ?_
    have h9 : hndG g q = sx (goG g q (g.1 40 0)) 34 q (((goG g q (g.1 40 0)).1 34 q) + 1) := by simp only [hndG, hndA]; rw [if_pos c18]
    exact e_wv hx hb hr hlocks hS ⟨ad, hE, by rw [h9]; exact hH⟩ (show 0 + 3 * B ≤ 3 * B by omega) (show 0 + 132 * B ≤ 132 * B by omega) dX4_handOverOrDrop_53

set_option maxHeartbeats 4000000 in
set_option maxRecDepth 100000 in
theorem mX4_leaveMastsThatAreNotOn (l : Launch) {D : va_G} {k : Nat → ClassId} {b : Nat} {ad0 : Tg → Nat} {g : XS} {M : MF} {o : OF} (hI : XI g) (B : Nat) (hB : tb (lvsG g 12) ≤ tb g + B) : Met l yX4_leaveMastsThatAreNotOn (WS yX4_leaveMastsThatAreNotOn cX4_leaveMastsThatAreNotOn 5 none) ({ frames := 6, cells := 3 * B, slots := 132 * B, locals := 123 }) (P0 D k b (Wo D k b ad0 g M o) [.ref (ad0 (0, 0, 0))]) (Qw b none (fun H => ∃ ad : Tg → Nat, Ex g ad0 ad ∧ Wo D k b ad (lvsG g 12) M o H)) (3 * B) (132 * B) (Fb b) := by
  refine Met0 (by decide +kernel) (Nat.le_of_ble_eq_true rfl) (fun p e s m below meth c ls hx hb hr hts hown hml hlocks hnm hC hH hl => ?_)
  have hS : va_S (Fb b) s.heap s.heap [] := va_S.rf
  obtain ⟨ad, hE, hH, hl⟩ : ∃ ad : Tg → Nat, Ex g ad0 ad ∧ Wo D k b ad g M o s.heap ∧ lv_has ls 5 [(0, .ref (ad (0, 0, 0)))] := ⟨ad0, Ex.rf, hH, hl⟩
  refine lv_aload_n hx hb dX4_leaveMastsThatAreNotOn_0 rfl (lv_at hl 0 rfl) ?_
  refine g4 hx hb hts hown hC hH 1 (by decide) wf_X4_17 (v := .ref (ad (0, 2, 0))) rfl dX4_leaveMastsThatAreNotOn_1 ?_
  refine lv_astore_n (lv' := [(1, .ref (ad (0, 2, 0))), (0, .ref (ad (0, 0, 0)))]) hx hb dX4_leaveMastsThatAreNotOn_4 rfl hl (by decide) rfl (fun ls hl => ?_)
  refine lv_aload_n hx hb dX4_leaveMastsThatAreNotOn_5 rfl (lv_at hl 0 rfl) ?_
  refine pLen hx hb hC hH dX4_leaveMastsThatAreNotOn_6 ?_
  refine lv_istore_n (lv' := [(2, .int (nI 12)), (1, .ref (ad (0, 2, 0))), (0, .ref (ad (0, 0, 0)))]) hx hb dX4_leaveMastsThatAreNotOn_7 rfl hl (by decide) rfl (fun ls hl => ?_)
  refine lv_iconst (v := nI 0) hx hb dX4_leaveMastsThatAreNotOn_8 (by decide) ?_
  refine lv_istore_n (lv' := [(3, .int (nI 0)), (2, .int (nI 12)), (1, .ref (ad (0, 2, 0))), (0, .ref (ad (0, 0, 0)))]) hx hb dX4_leaveMastsThatAreNotOn_9 rfl hl (by decide) rfl (fun ls hl => ?_)
  refine loop_w 12 (fun i H locs cells slots ls => cells = 3 * (tb (lvsG g i) - tb g) ∧ slots = 132 * (tb (lvsG g i) - tb g) ∧ ∃ ad : Tg → Nat, Ex g ad0 ad ∧ Wo D k b ad (lvsG g i) M o H ∧ va_S (Fb b) s.heap H locs ∧ lv_has ls 5 [(0, .ref (ad (0, 0, 0))), (1, .ref (ad (0, 2, 0))), (2, .int (nI 12)), (3, .int (nI i))]) (fun i hi H locs cells slots ls hJ0 ih => ?_) (fun H locs cells slots ls hJ0 => ?_) ⟨by rw [lvsG]; omega, by rw [lvsG]; omega, ad, hE, hH, hS, lv_sub hl [3, 2, 1, 0] rfl⟩
  · skip
    obtain ⟨rfl, rfl, ad, hE, hH, hS, hl⟩ := hJ0
    have t0 := tb_lvs hI 0 i
    rw [Nat.zero_add, lvsG] at t0
    have t1 := tb_lvs1 hI i
    have t2 := tb_lvs hI (i + 1) (12 - (i + 1))
    rw [show i + 1 + (12 - (i + 1)) = 12 by omega] at t2
    refine lv_iload_n hx hb dX4_leaveMastsThatAreNotOn_10 rfl (lv_at hl 3 rfl) ?_
    refine lv_iload_n hx hb dX4_leaveMastsThatAreNotOn_11 rfl (lv_at hl 2 rfl) ?_
    refine lv_icmp_ge (tgt := 56) hx hb dX4_leaveMastsThatAreNotOn_12 (by decide) (fun c12 => absurd c12 (nI_ge hi (by decide))) (fun c12 => ?_)
    refine lv_aload_n hx hb dX4_leaveMastsThatAreNotOn_15 rfl (lv_at hl 1 rfl) ?_
    refine lv_iload_n hx hb dX4_leaveMastsThatAreNotOn_16 rfl (lv_at hl 3 rfl) ?_
    refine pLd hx hb hC hH (i := i) hi dX4_leaveMastsThatAreNotOn_17 ?_
    by_cases c17 : i < (lvsG g i).2.1 1 0
    · skip
      refine W.eq (g2 := F0 m 18 ls [.ref (ad (2, i, 0))]) (by simp [phO, c17, va_rf]) ?_
      refine lv_astore (lv' := [(4, .ref (ad (2, i, 0))), (0, .ref (ad (0, 0, 0))), (1, .ref (ad (0, 2, 0))), (2, .int (nI 12)), (3, .int (nI i))]) hx hb dX4_leaveMastsThatAreNotOn_18 hl (by decide) rfl (fun ls hl => ?_)
      refine lv_aload hx hb dX4_leaveMastsThatAreNotOn_20 (lv_at hl 0 rfl) ?_
      refine lv_ifnull hx hb dX4_leaveMastsThatAreNotOn_22 ?_
      refine lv_aload hx hb dX4_leaveMastsThatAreNotOn_25 (lv_at hl 0 rfl) ?_
      refine g3N hx hb hts hown hC hH i c17 1 (by decide) wf_X4_75 (v := va_rf (mrO ad ((lvsG g i).2.1 3 i))) rfl dX4_leaveMastsThatAreNotOn_27 ?_
      by_cases c27 : (lvsG g i).2.1 3 i = 0
      · skip
        refine W.eq (g2 := F0 m 30 ls [.null]) (by simp [mrO, va_rf, c27]) ?_
        refine lv_ifnullN (tgt := 50) hx hb dX4_leaveMastsThatAreNotOn_30 (by decide) ?_
        refine lv_iinc (v := nI (i + 1)) (lv' := [(3, .int (nI (i + 1))), (4, .ref (ad (2, i, 0))), (0, .ref (ad (0, 0, 0))), (1, .ref (ad (0, 2, 0))), (2, .int (nI 12))]) hx hb dX4_leaveMastsThatAreNotOn_50 hl (k := 4) rfl (by rw [← nI_add]; rfl) (by decide) rfl (fun ls hl => ?_)
        refine lv_goto (tgt := 10) hx hb dX4_leaveMastsThatAreNotOn_53 (by decide) ?_
        have h9 : lvsG g (i + 1) = lvsG g i := by simp [lvsG, c17, c27]
        exact ih H locs _ _ ls ⟨by rw [h9], by rw [h9], ad, hE, by rw [h9]; exact hH, hS, lv_sub hl [2, 3, 4, 0] rfl⟩
      · skip
        refine W.eq (g2 := F0 m 30 ls [.ref (ad (1, ((lvsG g i).2.1 3 i) - 1, 0))]) (by simp [mrO, va_rf, c27]) ?_
        refine lv_ifnull hx hb dX4_leaveMastsThatAreNotOn_30 ?_
        refine lv_aload hx hb dX4_leaveMastsThatAreNotOn_33 (lv_at hl 0 rfl) ?_
        refine g3N hx hb hts hown hC hH i c17 1 (by decide) wf_X4_75 (v := va_rf (mrO ad ((lvsG g i).2.1 3 i))) rfl dX4_leaveMastsThatAreNotOn_35 ?_
        refine W.eq (g2 := F0 m 38 ls [.ref (ad (1, ((lvsG g i).2.1 3 i) - 1, 0))]) (by simp [mrO, va_rf, c27]) ?_
        refine k_r (va_runVN (As := []) (rest := []) ⟨hx, hb, hml, hown, hts⟩ (mX2_isOn l (((lvsG g i).2.1 3 i) - 1) (by have := (hI.lvs i).2.2.1 i c17; omega)) ⟨cn_of hts wk_X2_isOn wi_X2 wm_X4_112 sd_X2_isOn rfl rfl ⟨Nat.le_of_ble_eq_true rfl, Nat.le_of_ble_eq_true rfl⟩, hts _ wv_X2_isOn, hts _ wl_X2_isOn⟩ (P0.preV hC hS hH (Hp.recv hC.1 hH (1, ((lvsG g i).2.1 3 i) - 1, 0) ⟨(by have := (hI.lvs i).2.2.1 i c17; omega), rfl⟩ rfl rfl)) rfl rfl hl.1 rfl (lv_room (Nat.le_of_ble_eq_true rfl)) dX4_leaveMastsThatAreNotOn_38 ⟨show 3 * (tb (lvsG g i) - tb g) + 0 ≤ 3 * B by omega, show 132 * (tb (lvsG g i) - tb g) + 0 ≤ 132 * B by omega⟩) ?_
        refine W.eq (g2 := F0 m 41 ls [.int (b2 (onB (lvsG g i) (((lvsG g i).2.1 3 i) - 1)))]) rfl ?_
        refine lv_if_ne (tgt := 50) hx hb dX4_leaveMastsThatAreNotOn_41 (by decide) (fun c41 => ?_) (fun c41 => ?_)
        · skip
          have c41 := b2_n0.mp c41
          refine lv_iinc (v := nI (i + 1)) (lv' := [(3, .int (nI (i + 1))), (4, .ref (ad (2, i, 0))), (0, .ref (ad (0, 0, 0))), (1, .ref (ad (0, 2, 0))), (2, .int (nI 12))]) hx hb dX4_leaveMastsThatAreNotOn_50 hl (k := 4) rfl (by rw [← nI_add]; rfl) (by decide) rfl (fun ls hl => ?_)
          refine lv_goto (tgt := 10) hx hb dX4_leaveMastsThatAreNotOn_53 (by decide) ?_
          have h9 : lvsG g (i + 1) = lvsG g i := by simp [lvsG, c17, c27, c41]
          exact ih H locs _ _ ls ⟨by rw [h9], by rw [h9], ad, hE, by rw [h9]; exact hH, hS, lv_sub hl [2, 3, 4, 0] rfl⟩
        · skip
          have c41 := b2_0.mp c41
          refine lv_aload_n hx hb dX4_leaveMastsThatAreNotOn_44 rfl (lv_at hl 1 rfl) ?_
          refine lv_aload hx hb dX4_leaveMastsThatAreNotOn_45 (lv_at hl 0 rfl) ?_
          have h9 : lvsG g (i + 1) = hndG (lvsG g i) i := by simp [lvsG, c17, c27, c41]
          obtain ⟨B1, hB1⟩ : ∃ z, z = tb (lvsG g (i + 1)) - tb (lvsG g i) := ⟨_, rfl⟩
          refine k_w (va_runV (As := [.ref (ad (2, i, 0))]) (rest := []) ⟨hx, hb, hml, hown, hts⟩ (mX4_handOverOrDrop l i c17 (hI.lvs i) c27 B1 (by rw [← h9]; omega)) ⟨cb_of hts wk_X4_handOverOrDrop wi_X4 wm_X4_105 sd_X4_handOverOrDrop rfl rfl ⟨Nat.le_of_ble_eq_true rfl, Nat.le_of_ble_eq_true rfl⟩, hts _ wv_X4_handOverOrDrop, hts _ wl_X4_handOverOrDrop⟩ (P0.preV hC hS hH (Hp.recv hC.1 hH (0, 0, 0) ⟨by decide, rfl⟩ rfl rfl)) rfl rfl hl.1 rfl (lv_room (Nat.le_of_ble_eq_true rfl)) dX4_leaveMastsThatAreNotOn_47 ⟨show 3 * (tb (lvsG g i) - tb g) + 3 * B1 ≤ 3 * B by omega, show 132 * (tb (lvsG g i) - tb g) + 132 * B1 ≤ 132 * B by omega⟩) hS (fun H locs hH hS => ?_)
          obtain ⟨ad, hF, hH⟩ := hH
          have hl : lv_has ls 5 [(4, .ref (ad (2, i, 0))), (0, .ref (ad (0, 0, 0))), (1, .ref (ad (0, 2, 0))), (2, .int (nI 12)), (3, .int (nI i))] := by rw [hF (2, i, 0) (by simp) ⟨c17, rfl⟩, hF (0, 0, 0) (by simp) ⟨by decide, rfl⟩, hF (0, 2, 0) (by simp) ⟨by decide, rfl⟩]; exact hl
          refine W.eq (g2 := F0 m 50 ls []) rfl ?_
          have hE := hE.tr (Gr.lvs i) hF
          refine lv_iinc (v := nI (i + 1)) (lv' := [(3, .int (nI (i + 1))), (4, .ref (ad (2, i, 0))), (0, .ref (ad (0, 0, 0))), (1, .ref (ad (0, 2, 0))), (2, .int (nI 12))]) hx hb dX4_leaveMastsThatAreNotOn_50 hl (k := 4) rfl (by rw [← nI_add]; rfl) (by decide) rfl (fun ls hl => ?_)
          refine lv_goto (tgt := 10) hx hb dX4_leaveMastsThatAreNotOn_53 (by decide) ?_
          exact ih H locs _ _ ls ⟨by omega, by omega, ad, hE, by rw [h9]; exact hH, hS, lv_sub hl [2, 3, 4, 0] rfl⟩
    · skip
      refine W.eq (g2 := F0 m 18 ls [.null]) (by simp [phO, c17, va_rf]) ?_
      refine lv_astoreN (lv' := [(4, .null), (0, .ref (ad (0, 0, 0))), (1, .ref (ad (0, 2, 0))), (2, .int (nI 12)), (3, .int (nI i))]) hx hb dX4_leaveMastsThatAreNotOn_18 hl (by decide) rfl (fun ls hl => ?_)
      refine lv_aloadN hx hb dX4_leaveMastsThatAreNotOn_20 (lv_at hl 0 rfl) ?_
      refine lv_ifnullN (tgt := 50) hx hb dX4_leaveMastsThatAreNotOn_22 (by decide) ?_
      refine lv_iinc (v := nI (i + 1)) (lv' := [(3, .int (nI (i + 1))), (4, .null), (0, .ref (ad (0, 0, 0))), (1, .ref (ad (0, 2, 0))), (2, .int (nI 12))]) hx hb dX4_leaveMastsThatAreNotOn_50 hl (k := 4) rfl (by rw [← nI_add]; rfl) (by decide) rfl (fun ls hl => ?_)
      refine lv_goto (tgt := 10) hx hb dX4_leaveMastsThatAreNotOn_53 (by decide) ?_
      have h9 : lvsG g (i + 1) = lvsG g i := by simp [lvsG, c17]
      exact ih H locs _ _ ls ⟨by rw [h9], by rw [h9], ad, hE, by rw [h9]; exact hH, hS, lv_sub hl [2, 3, 4, 0] rfl⟩
  · skip
    obtain ⟨rfl, rfl, ad, hE, hH, hS, hl⟩ := hJ0
    have t0 := tb_lvs hI 0 12
    rw [Nat.zero_add, show lvsG g 0 = g from rfl] at t0
    refine lv_iload_n hx hb dX4_leaveMastsThatAreNotOn_10 rfl (lv_at hl 3 rfl) ?_
    refine lv_iload_n hx hb dX4_leaveMastsThatAreNotOn_11 rfl (lv_at hl 2 rfl) ?_
    refine lv_icmp_ge (tgt := 56) hx hb dX4_leaveMastsThatAreNotOn_12 (by decide) (fun c12 => ?_) (fun c12 => absurd (nI_le (Nat.le_refl _) (by decide)) c12)
    exact e_wv hx hb hr hlocks hS ⟨ad, hE, by exact hH⟩ (show 3 * (tb (lvsG g 12) - tb g) ≤ 3 * B by omega) (show 132 * (tb (lvsG g 12) - tb g) ≤ 132 * B by omega) dX4_leaveMastsThatAreNotOn_56
