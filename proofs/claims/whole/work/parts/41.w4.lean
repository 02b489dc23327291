/-! the law: its switch, its loop -/
set_option maxHeartbeats 4000000 in
set_option maxRecDepth 100000 in
theorem LB_holes {p : Program} {e : Env} {s : State} {m : MethodId} {below : List Frame} {meth : Method} {c : Code} {l : Launch} (hlf : l.stackTraces = false) {sb L : Nat} {xs : Nat → Int32} (hL : L ≤ 4096) (C0 : lw_At p s m meth c sb L xs) {D : va_G} {k : Nat → ClassId} (hC : Cs D k s.heap.size s) {i : Nat} (hi : 8 * i + 8 ≤ L) {H : Heap} {locs : List Loc} {cells slots : Nat} {ls : Array Slot} (hV : LV D k s sb i (nI (8 * i)) H locs cells slots ls) (kk : ∀ (H : Heap) (locs : List Loc) (cells slots : Nat) (ls : Array Slot), LV D k s sb (i + 1) (nI (8 * i)) H locs cells slots ls → W p l e room_1 s m #[Value.ref sb] below meth c H locs cells slots (lw_Z below #[Value.ref sb] s) (F0 m 1049 ls [])) : W p l e room_1 s m #[Value.ref sb] below meth c H locs cells slots (lw_Z below #[Value.ref sb] s) (F0 m 1036 ls []) := by
  obtain ⟨hx, hb, hr, hml, hown, hts, hX, hbl, hlocks, hgv⟩ := id C0
  have hown : s.vm.findClass RL = some m.cls := hown
  have ha : ∀ w ∈ AW, w.before #[Value.ref sb] s = true := fun w h => hts w (List.mem_filter.mp h).1
  obtain ⟨ad, g, M, o, hH, hS, hI, hc, hs, hl⟩ := hV
  have htb := tb_le hI.1.2.1
  refine lv_aload_n hx hb dL_law_1036 rfl (lv_at hl 1 rfl) ?_
  refine k_r (va_runV (As := []) (rest := []) ⟨hx, hb, hml, hown, ha⟩ (mX4_holes l) ⟨cb_of ha wk_X4_holes wi_X4 wm_L_113 sd_X4_holes rfl rfl ⟨Nat.le_of_ble_eq_true rfl, Nat.le_of_ble_eq_true rfl⟩, ha _ wv_X4_holes, ha _ wl_X4_holes⟩ (P0.preV hC hS hH (Hp.recv hC.1 hH (0, 0, 0) ⟨by decide, rfl⟩ rfl rfl)) rfl rfl hl.1 rfl (lv_room (Nat.le_of_ble_eq_true rfl)) dL_law_1037 ⟨show cells + 0 ≤ 601024 by omega, show slots + 0 ≤ 7293034 by omega⟩) ?_
  refine W.eq (g2 := F0 m 1040 ls [.int (hlI g 100)]) rfl ?_
  refine lv_aload_n hx hb dL_law_1040 rfl (lv_at hl 2 rfl) ?_
  refine k_w (va_runV (As := []) (rest := [.int (hlI g 100)]) ⟨hx, hb, hml, hown, ha⟩ (mX5_holes l hI.RI) ⟨cb_of ha wk_X5_holes wi_X5 wm_L_116 sd_X5_holes rfl rfl ⟨Nat.le_of_ble_eq_true rfl, Nat.le_of_ble_eq_true rfl⟩, ha _ wv_X5_holes, ha _ wl_X5_holes⟩ (P0.preV hC hS hH (Hp.recv hC.1 hH (7, 0, 0) ⟨rfl, rfl⟩ rfl rfl)) rfl rfl hl.1 rfl (lv_room (Nat.le_of_ble_eq_true rfl)) dL_law_1041 ⟨show cells + 0 ≤ 601024 by omega, show slots + 0 ≤ 7293034 by omega⟩) hS (fun H1 locs1 hH hS => ?_)
  refine W.eq (g2 := F0 m 1044 ls [.int (hlI g 100), .int (hlI g 100)]) (by rw [← V_holes hI]; rfl) ?_
  refine lv_icmp_eq (tgt := 1049) hx hb dL_law_1044 (by decide) (fun _ => ?_) (fun cq => absurd rfl cq)
  exact kk H1 locs1 _ _ ls ⟨ad, g, rT M, o, hH, hS, hI.T, by omega, by omega, hl⟩

set_option maxHeartbeats 4000000 in
set_option maxRecDepth 100000 in
theorem law_switch {p : Program} {e : Env} {s : State} {m : MethodId} {below : List Frame} {meth : Method} {c : Code} {l : Launch} (hlf : l.stackTraces = false) {sb L : Nat} {xs : Nat → Int32} (hL : L ≤ 4096) (C0 : lw_At p s m meth c sb L xs) {D : va_G} {k : Nat → ClassId} (hC : Cs D k s.heap.size s) {i : Nat} (hi : 8 * i + 8 ≤ L) {H : Heap} {locs : List Loc} {cells slots : Nat} {ls : Array Slot} (hV : LV D k s sb i (nI (8 * i)) H locs cells slots ls) (kk : ∀ (H : Heap) (locs : List Loc) (cells slots : Nat) (ls : Array Slot), LV D k s sb (i + 1) (nI (8 * i)) H locs cells slots ls → W p l e room_1 s m #[Value.ref sb] below meth c H locs cells slots (lw_Z below #[Value.ref sb] s) (F0 m 1049 ls [])) {x : Int32} : W p l e room_1 s m #[Value.ref sb] below meth c H locs cells slots (lw_Z below #[Value.ref sb] s) (F0 m 45 ls [.int x]) := by
  have hx := C0.1
  have hb := C0.2.1
  by_cases c0 : x = nI 0
  · subst c0; exact lv_tableIn (tgt := 116) (off := 71) hx hb dL_law_45 (by decide) (by decide) (by decide) (by decide) (LB_mast hlf hL C0 hC hi hV kk)
  by_cases c1 : x = nI 1
  · subst c1; exact lv_tableIn (tgt := 250) (off := 205) hx hb dL_law_45 (by decide) (by decide) (by decide) (by decide) (LB_lease hlf hL C0 hC hi hV kk)
  by_cases c2 : x = nI 2
  · subst c2; exact lv_tableIn (tgt := 362) (off := 317) hx hb dL_law_45 (by decide) (by decide) (by decide) (by decide) (LB_sun hlf hL C0 hC hi hV kk)
  by_cases c3 : x = nI 3
  · subst c3; exact lv_tableIn (tgt := 418) (off := 373) hx hb dL_law_45 (by decide) (by decide) (by decide) (by decide) (LB_phone hlf hL C0 hC hi hV kk)
  by_cases c4 : x = nI 4
  · subst c4; exact lv_tableIn (tgt := 474) (off := 429) hx hb dL_law_45 (by decide) (by decide) (by decide) (by decide) (LB_call hlf hL C0 hC hi hV kk)
  by_cases c5 : x = nI 5
  · subst c5; exact lv_tableIn (tgt := 530) (off := 485) hx hb dL_law_45 (by decide) (by decide) (by decide) (by decide) (LB_end hlf hL C0 hC hi hV kk)
  by_cases c6 : x = nI 6
  · subst c6; exact lv_tableIn (tgt := 586) (off := 541) hx hb dL_law_45 (by decide) (by decide) (by decide) (by decide) (LB_move hlf hL C0 hC hi hV kk)
  by_cases c7 : x = nI 7
  · subst c7; exact lv_tableIn (tgt := 654) (off := 609) hx hb dL_law_45 (by decide) (by decide) (by decide) (by decide) (LB_pass hlf hL C0 hC hi hV kk)
  by_cases c8 : x = nI 8
  · subst c8; exact lv_tableIn (tgt := 710) (off := 665) hx hb dL_law_45 (by decide) (by decide) (by decide) (by decide) (LB_ofMast hlf hL C0 hC hi hV kk)
  by_cases c9 : x = nI 9
  · subst c9; exact lv_tableIn (tgt := 778) (off := 733) hx hb dL_law_45 (by decide) (by decide) (by decide) (by decide) (LB_trafficAnew hlf hL C0 hC hi hV kk)
  by_cases c10 : x = nI 10
  · subst c10; exact lv_tableIn (tgt := 834) (off := 789) hx hb dL_law_45 (by decide) (by decide) (by decide) (by decide) (LB_ofPhone hlf hL C0 hC hi hV kk)
  by_cases c11 : x = nI 11
  · subst c11; exact lv_tableIn (tgt := 902) (off := 857) hx hb dL_law_45 (by decide) (by decide) (by decide) (by decide) (LB_strength hlf hL C0 hC hi hV kk)
  by_cases c12 : x = nI 12
  · subst c12; exact lv_tableIn (tgt := 980) (off := 935) hx hb dL_law_45 (by decide) (by decide) (by decide) (by decide) (LB_paid hlf hL C0 hC hi hV kk)
  by_cases c13 : x = nI 13
  · subst c13; exact lv_tableIn (tgt := 1036) (off := 991) hx hb dL_law_45 (by decide) (by decide) (by decide) (by decide) (LB_holes hlf hL C0 hC hi hV kk)
  refine lv_tableOut (tgt := 1049) hx hb dL_law_45 ?_ (by decide) ?_
  · by_cases d0 : x.toInt < 0
    · exact Or.inl d0
    · right
      refine Decidable.byContradiction fun d1 => ?_
      obtain ⟨j, hj, rfl⟩ := nI_of (x := x) (by rw [Int32.lt_iff_toInt_lt, Int32.toInt_zero]; exact d0)
      rw [nI_toInt hj] at d1
      have hj13 : j ≤ 13 := by omega
      rcases (show j = 0 ∨ j = 1 ∨ j = 2 ∨ j = 3 ∨ j = 4 ∨ j = 5 ∨ j = 6 ∨ j = 7 ∨ j = 8 ∨ j = 9 ∨ j = 10 ∨ j = 11 ∨ j = 12 ∨ j = 13 by omega) with rfl | rfl | rfl | rfl | rfl | rfl | rfl | rfl | rfl | rfl | rfl | rfl | rfl | rfl
      · exact c0 rfl
      · exact c1 rfl
      · exact c2 rfl
      · exact c3 rfl
      · exact c4 rfl
      · exact c5 rfl
      · exact c6 rfl
      · exact c7 rfl
      · exact c8 rfl
      · exact c9 rfl
      · exact c10 rfl
      · exact c11 rfl
      · exact c12 rfl
      · exact c13 rfl
  · obtain ⟨ad, g, M, o, h1, h2, h3, h4, h5, h6⟩ := hV
    exact kk H locs cells slots ls ⟨ad, g, M, o, h1, h2, h3, by omega, by omega, h6⟩

theorem le_of_gt {L i : Nat} (hL : L ≤ 4096) (hi : i ≤ L) (h : ¬ Int32.ofNat L - nI 8 < nI i) : i + 8 ≤ L := by
  have e : Int32.ofNat L = nI L := rfl
  rw [e] at h
  by_cases c : 8 ≤ L
  · rw [nI_sub c, nI_ltI (by omega) (by omega)] at h
    omega
  · have e2 : nI L - nI 8 = -(nI (8 - L)) := by rw [← nI_sub (by omega : L ≤ 8)]; grind
    rw [e2] at h
    refine absurd ?_ h
    rw [Int32.lt_iff_toInt_lt, Int32.toInt_neg, nI_toInt (by omega), nI_toInt (by omega), Int.bmod_eq_of_le (by omega) (by omega)]
    omega

set_option maxHeartbeats 4000000 in
set_option maxRecDepth 100000 in
theorem law_loop {p : Program} {e : Env} {s : State} {m : MethodId} {below : List Frame} {meth : Method} {c : Code} {l : Launch} (hlf : l.stackTraces = false) {sb L : Nat} {xs : Nat → Int32} (hL : L ≤ 4096) (C0 : lw_At p s m meth c sb L xs) {D : va_G} {k : Nat → ClassId} (hC : Cs D k s.heap.size s) : ∀ (n i : Nat), 8 * i ≤ L → L < 8 * i + 8 * n → ∀ (H : Heap) (locs : List Loc) (cells slots : Nat) (ls : Array Slot), LV D k s sb i (nI (8 * i)) H locs cells slots ls → W p l e room_1 s m #[Value.ref sb] below meth c H locs cells slots (lw_Z below #[Value.ref sb] s) (F0 m 28 ls []) := by
  obtain ⟨hx, hb, hr, hml, hown, hts, hX, hbl, hlocks, hgv⟩ := id C0
  have hbA : ¬ Fb s.heap.size sb := Nat.not_le.mpr hbl
  intro n
  induction n with
  | zero => intro i h1 h2; exact absurd h2 (by omega)
  | succ n ih =>
    intro i hi hn H locs cells slots ls hV
    obtain ⟨ad, g, M, o, hH, hS, hI, hc, hs, hl⟩ := id hV
    have htb := tb_le hI.1.2.1
    refine lv_iload hx hb dL_law_28 (lv_at hl 5 rfl) ?_
    refine lv_aload_n hx hb dL_law_30 rfl (lv_at hl 0 rfl) ?_
    refine va_slen hx hb hX hbl hbA hS dL_law_31 ?_
    refine lv_bipush (v := nI 8) hx hb dL_law_32 (by decide) ?_
    refine lv_isub hx hb dL_law_34 ?_
    refine lv_icmp_gt (tgt := 1055) hx hb dL_law_35 (by decide) (fun cg => ?_) (fun cg => ?_)
    · refine lv_iconst (v := 1) hx hb dL_law_1055 (by decide) ?_
      refine va_forget (fun q hq => hS.2.2 q hq) ?_
      have hh := hI.1.2.1.1
      refine W.widen (k := 601024) (n := 7293034) (by omega) (by omega) ?_
      exact w_end hx hb hr hlocks dL_law_1056
    · have hlt : 8 * i + 8 ≤ L := le_of_gt hL (by omega) cg
      refine lv_aload_n hx hb dL_law_38 rfl (lv_at hl 0 rfl) ?_
      refine lv_iload hx hb dL_law_39 (lv_at hl 5 rfl) ?_
      refine va_sld hx hb hX hbl hbA hS (vp_in_nI (by omega) (by omega)) dL_law_41 ?_
      refine lv_bipush (v := nI 15) hx hb dL_law_42 (by decide) ?_
      refine lv_iand hx hb dL_law_44 ?_
      refine law_switch hlf hL C0 hC hlt hV (fun H locs cells slots ls hV => ?_)
      obtain ⟨ad, g, M, o, hH, hS, hI, hc, hs, hl⟩ := hV
      refine lv_iinc (v := nI (8 * (i + 1))) (lv' := [(5, .int (nI (8 * (i + 1)))), (0, .ref sb), (1, .ref (ad (0, 0, 0))), (2, .ref (ad (7, 0, 0))), (3, .ref (ad (9, 0, 0))), (4, .ref (ad (9, 1, 0)))]) hx hb dL_law_1049 hl (k := 5) rfl (by rw [show 8 * (i + 1) = 8 * i + 8 by omega, ← nI_add]; rfl) (by decide) rfl (fun ls hl => ?_)
      refine lv_goto (tgt := 28) hx hb dL_law_1052 (by decide) ?_
      exact ih (i + 1) (by omega) (by omega) H locs cells slots ls ⟨ad, g, M, o, hH, hS, hI, hc, hs, lv_sub hl [1, 2, 3, 4, 5, 0] rfl⟩
