/-! NEW OBJECTS: the class's, the reference's, with their arrays -/
def fI (j : Nat) (ad : Tg → Nat) : List Value := (List.range 27).map (fun f => if f < 3 ∨ f = 19 ∨ f = 26 then .int 0 else if f < j then .ref (ad (8, f, 0)) else .null)
def LI (L : Tg → Prop) (j : Nat) : Tg → Prop := fun u => L u ∨ (u.1 = 8 ∧ u.2.2 = 0 ∧ 2 < u.2.1 ∧ u.2.1 < j ∧ u.2.1 ≠ 19)
def wI (k : Nat → ClassId) (w : Tg → va_E) (j : Nat) (ad : Tg → Nat) : Tg → va_E := fun u => if u = (7, 0, 0) then .inr (5, fI j ad) else if u.1 = 8 then .inl (if u.2.1 = 8 ∨ u.2.1 = 10 then k 1 else k 0, rl u.2.1, .inl (fun _ => 0)) else w u
theorem fI_set {f : Nat} {ad ad1 : Tg → Nat} (h3 : 2 < f) (h26 : f < 26) (h19 : f ≠ 19) (hA : ∀ u : Tg, u ≠ (8, f, 0) → ad1 u = ad u) : (fI f ad).set f (.ref (ad1 (8, f, 0))) = fI (f + 1) ad1 := by
  refine List.ext_getElem (by simp [fI]) (fun i h1 h2 => ?_)
  rw [List.getElem_set]
  by_cases e : f = i
  · subst e
    rw [if_pos rfl]
    simp only [fI, List.getElem_map, List.getElem_range]
    rw [if_neg (by omega), if_pos (by omega)]
  · rw [if_neg e]
    simp only [fI, List.getElem_map, List.getElem_range]
    by_cases c : i < 3 ∨ i = 19 ∨ i = 26
    · rw [if_pos c, if_pos c]
    · rw [if_neg c, if_neg c]
      by_cases c2 : i < f
      · rw [if_pos c2, if_pos (by omega), hA _ (by simp; omega)]
      · rw [if_neg c2, if_neg (by omega)]
theorem fI_19 {ad : Tg → Nat} : fI 19 ad = fI 20 ad := by
  refine List.ext_getElem (by simp [fI]) (fun i h1 h2 => ?_)
  simp only [fI, List.getElem_map, List.getElem_range]
  by_cases c : i < 3 ∨ i = 19 ∨ i = 26
  · rw [if_pos c, if_pos c]
  · rw [if_neg c, if_neg c]
    by_cases c2 : i < 19
    · rw [if_pos c2, if_pos (by omega)]
    · rw [if_neg c2, if_neg (by omega)]
theorem fI_26 {ad : Tg → Nat} : (fI 26 ad).set 26 (.int 0) = fI 26 ad := by
  refine List.ext_getElem (by simp [fI]) (fun i h1 h2 => ?_)
  rw [List.getElem_set]
  by_cases e : 26 = i
  · subst e
    rw [if_pos rfl]
    simp [fI]
  · rw [if_neg e]
theorem wI_7 {k : Nat → ClassId} {w : Tg → va_E} {j : Nat} {ad : Tg → Nat} : wI k w j ad (7, 0, 0) = .inr (5, fI j ad) := by unfold wI; rw [if_pos rfl]
theorem stI {D : va_G} {k : Nat → ClassId} {b : Nat} {L : Tg → Prop} {ad : Tg → Nat} {w : Tg → va_E} {H : Heap} {f z : Nat} (h3 : 2 < f) (h26 : f < 26) (h19 : f ≠ 19) (hL8 : ∀ u, L u → u.1 ≠ 8)
    (h : Hp D b (fun u => LI L f u ∨ u = (8, f, 0)) (uA ad (8, f, 0) z) (uE (uE (wI k w f ad) (8, f, 0) (.inl (if f = 8 ∨ f = 10 then k 1 else k 0, rl f, .inl (fun _ => 0)))) (7, 0, 0) (.inr (5, (fI f ad).set f (.ref (uA ad (8, f, 0) z (8, f, 0)))))) H) : Hp D b (LI L (f + 1)) (uA ad (8, f, 0) z) (wI k w (f + 1) (uA ad (8, f, 0) z)) H := by
  refine h.mono fun u hu => ⟨?_, rfl, ?_⟩
  · rcases hu with hu | ⟨a1, a2, a3, a4, a5⟩
    · exact Or.inl (Or.inl hu)
    · by_cases e : u.2.1 = f
      · right
        obtain ⟨x, y, v⟩ := u
        simp only at a1 a2 e
        subst a1 a2 e
        rfl
      · exact Or.inl (Or.inr ⟨a1, a2, a3, by omega, a5⟩)
  · by_cases e7 : u = (7, 0, 0)
    · subst e7
      rw [uE_s, wI_7, fI_set h3 h26 h19 (fun u hu => uA_n hu)]
    · rw [uE_n e7]
      by_cases e8 : u = (8, f, 0)
      · subst e8
        rw [uE_s]
        unfold wI
        rw [if_neg e7, if_pos rfl]
      · rw [uE_n e8]
        unfold wI
        rw [if_neg e7, if_neg e7]
theorem stI19 {D : va_G} {k : Nat → ClassId} {b : Nat} {L : Tg → Prop} {ad : Tg → Nat} {w : Tg → va_E} {H : Heap} (h : Hp D b (LI L 19) ad (wI k w 19 ad) H) : Hp D b (LI L 20) ad (wI k w 20 ad) H := by
  refine h.mono fun u hu => ⟨?_, rfl, ?_⟩
  · rcases hu with hu | ⟨a1, a2, a3, a4, a5⟩
    · exact Or.inl hu
    · exact Or.inr ⟨a1, a2, a3, by omega, a5⟩
  · unfold wI
    rw [fI_19]
theorem stI0 {D : va_G} {k : Nat → ClassId} {b : Nat} {L : Tg → Prop} {ad : Tg → Nat} {w : Tg → va_E} {H : Heap} (hL8 : ∀ u, L u → u.1 ≠ 8) (h7 : w (7, 0, 0) = .inr (5, fI 3 ad)) (h : Hp D b L ad w H) : Hp D b (LI L 3) ad (wI k w 3 ad) H := by
  refine h.mono fun u hu => ?_
  rcases hu with hu | ⟨a1, a2, a3, a4, a5⟩
  · refine ⟨hu, rfl, ?_⟩
    unfold wI
    by_cases e : u = (7, 0, 0)
    · subst e; rw [if_pos rfl, h7]
    · rw [if_neg e, if_neg (hL8 u hu)]
  · omega
theorem stI26 {D : va_G} {k : Nat → ClassId} {b : Nat} {L : Tg → Prop} {ad : Tg → Nat} {w : Tg → va_E} {H : Heap} (h : Hp D b (LI L 26) ad (uE (wI k w 26 ad) (7, 0, 0) (.inr (5, (fI 26 ad).set 26 (.int 0)))) H) : Hp D b (LI L 26) ad (wI k w 26 ad) H := by
  rw [fI_26] at h
  refine h.cg fun u hu => ?_
  by_cases e : u = (7, 0, 0)
  · subst e; rw [uE_s, wI_7]
  · rw [uE_n e]
set_option maxHeartbeats 4000000 in
set_option maxRecDepth 100000 in
theorem mX5_init (l : Launch) {D : va_G} {k : Nat → ClassId} {b : Nat} {L : Tg → Prop} {ad : Tg → Nat} {w : Tg → va_E} (h0 : L (7, 0, 0)) (hL8 : ∀ u, L u → u.1 ≠ 8) (h7 : w (7, 0, 0) = .inr (5, fI 3 ad)) : Met l yX5_init (WS yX5_init cX5_init 1 none) ({ frames := 1, cells := 22, slots := 194, locals := 13 }) (P0 D k b (Hp D b L ad w) [.ref (ad (7, 0, 0))]) (Qw b none (fun H => ∃ ad2 : Tg → Nat, (∀ u : Tg, u.1 ≠ 8 → ad2 u = ad u) ∧ Hp D b (LI L 26) ad2 (wI k w 26 ad2) H)) 22 194 (Fb b) := by
  refine Met0 (by decide +kernel) (Nat.le_of_ble_eq_true rfl) (fun p e s m below meth c ls hx hb hr hts hown hml hlocks hnm hC hH hl => ?_)
  have hS : va_S (Fb b) s.heap s.heap [] := va_S.rf
  have hl : lv_has ls 1 [(0, .ref (ad (7, 0, 0)))] := hl
  have hH : Hp D b (LI L 3) ad (wI k w 3 ad) s.heap := stI0 hL8 h7 hH
  have hA : ∀ u : Tg, u.1 ≠ 8 → ad u = ad u := fun u _ => rfl
  refine lv_aload_n hx hb dX5_init_0 rfl (lv_at hl 0 rfl) ?_
  refine W.objInit hx hb hown (hts _ wm_X5_1) (hts _ wv_Obj) (hts _ wk_Obj) rfl (by rw [hml]; exact hl.1) rfl dX5_init_1 (Nat.le_of_ble_eq_true rfl) (Nat.le_of_ble_eq_true rfl) ?_
  refine W.eq (g2 := F0 m 4 ls []) rfl ?_
  refine lv_aload_n hx hb dX5_init_4 rfl (lv_at hl 0 rfl) ?_
  refine lv_bipush (v := 8) hx hb dX5_init_5 (by decide) ?_
  refine r_newa hx hb hts hC hH hS (8, 3, 0) (atype := .int) 0 rfl wa_int (fun _ _ h => h) (8, .inl (fun _ => 0)) (fun _ => rfl) (by decide) (by decide) (by decide) (Nat.le_of_ble_eq_true rfl) (Nat.le_of_ble_eq_true rfl) dX5_init_7 (fun H1 hH hS => ?_)
  obtain ⟨z3, hz3⟩ : ∃ z, z = (s.heap).size := ⟨_, rfl⟩
  rw [← hz3] at hH
  refine W.eq (g2 := F0 m 9 ls [.ref (uA ad (8, 3, 0) z3 (8, 3, 0)), .ref (uA ad (8, 3, 0) z3 (7, 0, 0))]) (by rw [uA_s, uA_n (by simp), hz3]) ?_
  refine r_putF hx hb hts hown hnm hC hH hS (7, 0, 0) (Or.inl (Or.inl h0)) (fs := fI 3 ad) (by rw [uE_n (by simp), wI_7]) rfl inX5 tyX5 tyX5_ok nmX5 3 (by decide) rfl rfl wf_X5_7 rfl rfl (by simp [fI]) dX5_init_9 (fun H locs hH hS => ?_)
  have hH := stI (f := 3) (by decide) (by decide) (by decide) hL8 hH
  obtain ⟨ad3, had3⟩ : ∃ y, y = uA ad (8, 3, 0) z3 := ⟨_, rfl⟩
  rw [← had3] at hH
  have hl : lv_has ls 1 [(0, .ref (ad3 (7, 0, 0)))] := by rw [had3, uA_n (by simp)]; exact hl
  have hA : ∀ u : Tg, u.1 ≠ 8 → ad3 u = ad u := fun u h => (by rw [had3]; exact uA_n (fun q => h (by rw [q])) : ad3 u = ad u).trans (hA u h)
  refine W.eq (g2 := F0 m 12 ls []) rfl ?_
  refine lv_aload_n hx hb dX5_init_12 rfl (lv_at hl 0 rfl) ?_
  refine lv_bipush (v := 8) hx hb dX5_init_13 (by decide) ?_
  refine r_newa hx hb hts hC hH hS (8, 4, 0) (atype := .int) 0 rfl wa_int (fun _ _ h => h) (8, .inl (fun _ => 0)) (fun _ => rfl) (by decide) (by decide) (by decide) (Nat.le_of_ble_eq_true rfl) (Nat.le_of_ble_eq_true rfl) dX5_init_15 (fun H1 hH hS => ?_)
  obtain ⟨z4, hz4⟩ : ∃ z, z = (H).size := ⟨_, rfl⟩
  rw [← hz4] at hH
  refine W.eq (g2 := F0 m 17 ls [.ref (uA ad3 (8, 4, 0) z4 (8, 4, 0)), .ref (uA ad3 (8, 4, 0) z4 (7, 0, 0))]) (by rw [uA_s, uA_n (by simp), hz4]) ?_
  refine r_putF hx hb hts hown hnm hC hH hS (7, 0, 0) (Or.inl (Or.inl h0)) (fs := fI 4 ad3) (by rw [uE_n (by simp), wI_7]) rfl inX5 tyX5 tyX5_ok nmX5 4 (by decide) rfl rfl wf_X5_13 rfl rfl (by simp [fI]) dX5_init_17 (fun H locs hH hS => ?_)
  have hH := stI (f := 4) (by decide) (by decide) (by decide) hL8 hH
  obtain ⟨ad4, had4⟩ : ∃ y, y = uA ad3 (8, 4, 0) z4 := ⟨_, rfl⟩
  rw [← had4] at hH
  have hl : lv_has ls 1 [(0, .ref (ad4 (7, 0, 0)))] := by rw [had4, uA_n (by simp)]; exact hl
  have hA : ∀ u : Tg, u.1 ≠ 8 → ad4 u = ad u := fun u h => (by rw [had4]; exact uA_n (fun q => h (by rw [q])) : ad4 u = ad3 u).trans (hA u h)
  refine W.eq (g2 := F0 m 20 ls []) rfl ?_
  refine lv_aload_n hx hb dX5_init_20 rfl (lv_at hl 0 rfl) ?_
  refine lv_bipush (v := 8) hx hb dX5_init_21 (by decide) ?_
  refine r_newa hx hb hts hC hH hS (8, 5, 0) (atype := .int) 0 rfl wa_int (fun _ _ h => h) (8, .inl (fun _ => 0)) (fun _ => rfl) (by decide) (by decide) (by decide) (Nat.le_of_ble_eq_true rfl) (Nat.le_of_ble_eq_true rfl) dX5_init_23 (fun H1 hH hS => ?_)
  obtain ⟨z5, hz5⟩ : ∃ z, z = (H).size := ⟨_, rfl⟩
  rw [← hz5] at hH
  refine W.eq (g2 := F0 m 25 ls [.ref (uA ad4 (8, 5, 0) z5 (8, 5, 0)), .ref (uA ad4 (8, 5, 0) z5 (7, 0, 0))]) (by rw [uA_s, uA_n (by simp), hz5]) ?_
  refine r_putF hx hb hts hown hnm hC hH hS (7, 0, 0) (Or.inl (Or.inl h0)) (fs := fI 5 ad4) (by rw [uE_n (by simp), wI_7]) rfl inX5 tyX5 tyX5_ok nmX5 5 (by decide) rfl rfl wf_X5_16 rfl rfl (by simp [fI]) dX5_init_25 (fun H locs hH hS => ?_)
  have hH := stI (f := 5) (by decide) (by decide) (by decide) hL8 hH
  obtain ⟨ad5, had5⟩ : ∃ y, y = uA ad4 (8, 5, 0) z5 := ⟨_, rfl⟩
  rw [← had5] at hH
  have hl : lv_has ls 1 [(0, .ref (ad5 (7, 0, 0)))] := by rw [had5, uA_n (by simp)]; exact hl
  have hA : ∀ u : Tg, u.1 ≠ 8 → ad5 u = ad u := fun u h => (by rw [had5]; exact uA_n (fun q => h (by rw [q])) : ad5 u = ad4 u).trans (hA u h)
  refine W.eq (g2 := F0 m 28 ls []) rfl ?_
  refine lv_aload_n hx hb dX5_init_28 rfl (lv_at hl 0 rfl) ?_
  refine lv_bipush (v := 8) hx hb dX5_init_29 (by decide) ?_
  refine r_newa hx hb hts hC hH hS (8, 6, 0) (atype := .int) 0 rfl wa_int (fun _ _ h => h) (8, .inl (fun _ => 0)) (fun _ => rfl) (by decide) (by decide) (by decide) (Nat.le_of_ble_eq_true rfl) (Nat.le_of_ble_eq_true rfl) dX5_init_31 (fun H1 hH hS => ?_)
  obtain ⟨z6, hz6⟩ : ∃ z, z = (H).size := ⟨_, rfl⟩
  rw [← hz6] at hH
  refine W.eq (g2 := F0 m 33 ls [.ref (uA ad5 (8, 6, 0) z6 (8, 6, 0)), .ref (uA ad5 (8, 6, 0) z6 (7, 0, 0))]) (by rw [uA_s, uA_n (by simp), hz6]) ?_
  refine r_putF hx hb hts hown hnm hC hH hS (7, 0, 0) (Or.inl (Or.inl h0)) (fs := fI 6 ad5) (by rw [uE_n (by simp), wI_7]) rfl inX5 tyX5 tyX5_ok nmX5 6 (by decide) rfl rfl wf_X5_19 rfl rfl (by simp [fI]) dX5_init_33 (fun H locs hH hS => ?_)
  have hH := stI (f := 6) (by decide) (by decide) (by decide) hL8 hH
  obtain ⟨ad6, had6⟩ : ∃ y, y = uA ad5 (8, 6, 0) z6 := ⟨_, rfl⟩
  rw [← had6] at hH
  have hl : lv_has ls 1 [(0, .ref (ad6 (7, 0, 0)))] := by rw [had6, uA_n (by simp)]; exact hl
  have hA : ∀ u : Tg, u.1 ≠ 8 → ad6 u = ad u := fun u h => (by rw [had6]; exact uA_n (fun q => h (by rw [q])) : ad6 u = ad5 u).trans (hA u h)
  refine W.eq (g2 := F0 m 36 ls []) rfl ?_
  refine lv_aload_n hx hb dX5_init_36 rfl (lv_at hl 0 rfl) ?_
  refine lv_bipush (v := 8) hx hb dX5_init_37 (by decide) ?_
  refine r_newa hx hb hts hC hH hS (8, 7, 0) (atype := .int) 0 rfl wa_int (fun _ _ h => h) (8, .inl (fun _ => 0)) (fun _ => rfl) (by decide) (by decide) (by decide) (Nat.le_of_ble_eq_true rfl) (Nat.le_of_ble_eq_true rfl) dX5_init_39 (fun H1 hH hS => ?_)
  obtain ⟨z7, hz7⟩ : ∃ z, z = (H).size := ⟨_, rfl⟩
  rw [← hz7] at hH
  refine W.eq (g2 := F0 m 41 ls [.ref (uA ad6 (8, 7, 0) z7 (8, 7, 0)), .ref (uA ad6 (8, 7, 0) z7 (7, 0, 0))]) (by rw [uA_s, uA_n (by simp), hz7]) ?_
  refine r_putF hx hb hts hown hnm hC hH hS (7, 0, 0) (Or.inl (Or.inl h0)) (fs := fI 7 ad6) (by rw [uE_n (by simp), wI_7]) rfl inX5 tyX5 tyX5_ok nmX5 7 (by decide) rfl rfl wf_X5_22 rfl rfl (by simp [fI]) dX5_init_41 (fun H locs hH hS => ?_)
  have hH := stI (f := 7) (by decide) (by decide) (by decide) hL8 hH
  obtain ⟨ad7, had7⟩ : ∃ y, y = uA ad6 (8, 7, 0) z7 := ⟨_, rfl⟩
  rw [← had7] at hH
  have hl : lv_has ls 1 [(0, .ref (ad7 (7, 0, 0)))] := by rw [had7, uA_n (by simp)]; exact hl
  have hA : ∀ u : Tg, u.1 ≠ 8 → ad7 u = ad u := fun u h => (by rw [had7]; exact uA_n (fun q => h (by rw [q])) : ad7 u = ad6 u).trans (hA u h)
  refine W.eq (g2 := F0 m 44 ls []) rfl ?_
  refine lv_aload_n hx hb dX5_init_44 rfl (lv_at hl 0 rfl) ?_
  refine lv_bipush (v := 8) hx hb dX5_init_45 (by decide) ?_
  refine r_newa hx hb hts hC hH hS (8, 8, 0) (atype := .boolean) 1 rfl wa_boolean (fun _ _ h => h) (8, .inl (fun _ => 0)) (fun _ => rfl) (by decide) (by decide) (by decide) (Nat.le_of_ble_eq_true rfl) (Nat.le_of_ble_eq_true rfl) dX5_init_47 (fun H1 hH hS => ?_)
  obtain ⟨z8, hz8⟩ : ∃ z, z = (H).size := ⟨_, rfl⟩
  rw [← hz8] at hH
  refine W.eq (g2 := F0 m 49 ls [.ref (uA ad7 (8, 8, 0) z8 (8, 8, 0)), .ref (uA ad7 (8, 8, 0) z8 (7, 0, 0))]) (by rw [uA_s, uA_n (by simp), hz8]) ?_
  refine r_putF hx hb hts hown hnm hC hH hS (7, 0, 0) (Or.inl (Or.inl h0)) (fs := fI 8 ad7) (by rw [uE_n (by simp), wI_7]) rfl inX5 tyX5 tyX5_ok nmX5 8 (by decide) rfl rfl wf_X5_25 rfl rfl (by simp [fI]) dX5_init_49 (fun H locs hH hS => ?_)
  have hH := stI (f := 8) (by decide) (by decide) (by decide) hL8 hH
  obtain ⟨ad8, had8⟩ : ∃ y, y = uA ad7 (8, 8, 0) z8 := ⟨_, rfl⟩
  rw [← had8] at hH
  have hl : lv_has ls 1 [(0, .ref (ad8 (7, 0, 0)))] := by rw [had8, uA_n (by simp)]; exact hl
  have hA : ∀ u : Tg, u.1 ≠ 8 → ad8 u = ad u := fun u h => (by rw [had8]; exact uA_n (fun q => h (by rw [q])) : ad8 u = ad7 u).trans (hA u h)
  refine W.eq (g2 := F0 m 52 ls []) rfl ?_
  refine lv_aload_n hx hb dX5_init_52 rfl (lv_at hl 0 rfl) ?_
  refine lv_bipush (v := 8) hx hb dX5_init_53 (by decide) ?_
  refine r_newa hx hb hts hC hH hS (8, 9, 0) (atype := .int) 0 rfl wa_int (fun _ _ h => h) (8, .inl (fun _ => 0)) (fun _ => rfl) (by decide) (by decide) (by decide) (Nat.le_of_ble_eq_true rfl) (Nat.le_of_ble_eq_true rfl) dX5_init_55 (fun H1 hH hS => ?_)
  obtain ⟨z9, hz9⟩ : ∃ z, z = (H).size := ⟨_, rfl⟩
  rw [← hz9] at hH
  refine W.eq (g2 := F0 m 57 ls [.ref (uA ad8 (8, 9, 0) z9 (8, 9, 0)), .ref (uA ad8 (8, 9, 0) z9 (7, 0, 0))]) (by rw [uA_s, uA_n (by simp), hz9]) ?_
  refine r_putF hx hb hts hown hnm hC hH hS (7, 0, 0) (Or.inl (Or.inl h0)) (fs := fI 9 ad8) (by rw [uE_n (by simp), wI_7]) rfl inX5 tyX5 tyX5_ok nmX5 9 (by decide) rfl rfl wf_X5_29 rfl rfl (by simp [fI]) dX5_init_57 (fun H locs hH hS => ?_)
  have hH := stI (f := 9) (by decide) (by decide) (by decide) hL8 hH
  obtain ⟨ad9, had9⟩ : ∃ y, y = uA ad8 (8, 9, 0) z9 := ⟨_, rfl⟩
  rw [← had9] at hH
  have hl : lv_has ls 1 [(0, .ref (ad9 (7, 0, 0)))] := by rw [had9, uA_n (by simp)]; exact hl
  have hA : ∀ u : Tg, u.1 ≠ 8 → ad9 u = ad u := fun u h => (by rw [had9]; exact uA_n (fun q => h (by rw [q])) : ad9 u = ad8 u).trans (hA u h)
  refine W.eq (g2 := F0 m 60 ls []) rfl ?_
  refine lv_aload_n hx hb dX5_init_60 rfl (lv_at hl 0 rfl) ?_
  refine lv_bipush (v := 8) hx hb dX5_init_61 (by decide) ?_
  refine r_newa hx hb hts hC hH hS (8, 10, 0) (atype := .boolean) 1 rfl wa_boolean (fun _ _ h => h) (8, .inl (fun _ => 0)) (fun _ => rfl) (by decide) (by decide) (by decide) (Nat.le_of_ble_eq_true rfl) (Nat.le_of_ble_eq_true rfl) dX5_init_63 (fun H1 hH hS => ?_)
  obtain ⟨z10, hz10⟩ : ∃ z, z = (H).size := ⟨_, rfl⟩
  rw [← hz10] at hH
  refine W.eq (g2 := F0 m 65 ls [.ref (uA ad9 (8, 10, 0) z10 (8, 10, 0)), .ref (uA ad9 (8, 10, 0) z10 (7, 0, 0))]) (by rw [uA_s, uA_n (by simp), hz10]) ?_
  refine r_putF hx hb hts hown hnm hC hH hS (7, 0, 0) (Or.inl (Or.inl h0)) (fs := fI 10 ad9) (by rw [uE_n (by simp), wI_7]) rfl inX5 tyX5 tyX5_ok nmX5 10 (by decide) rfl rfl wf_X5_32 rfl rfl (by simp [fI]) dX5_init_65 (fun H locs hH hS => ?_)
  have hH := stI (f := 10) (by decide) (by decide) (by decide) hL8 hH
  obtain ⟨ad10, had10⟩ : ∃ y, y = uA ad9 (8, 10, 0) z10 := ⟨_, rfl⟩
  rw [← had10] at hH
  have hl : lv_has ls 1 [(0, .ref (ad10 (7, 0, 0)))] := by rw [had10, uA_n (by simp)]; exact hl
  have hA : ∀ u : Tg, u.1 ≠ 8 → ad10 u = ad u := fun u h => (by rw [had10]; exact uA_n (fun q => h (by rw [q])) : ad10 u = ad9 u).trans (hA u h)
  refine W.eq (g2 := F0 m 68 ls []) rfl ?_
  refine lv_aload_n hx hb dX5_init_68 rfl (lv_at hl 0 rfl) ?_
  refine lv_bipush (v := 8) hx hb dX5_init_69 (by decide) ?_
  refine r_newa hx hb hts hC hH hS (8, 11, 0) (atype := .int) 0 rfl wa_int (fun _ _ h => h) (8, .inl (fun _ => 0)) (fun _ => rfl) (by decide) (by decide) (by decide) (Nat.le_of_ble_eq_true rfl) (Nat.le_of_ble_eq_true rfl) dX5_init_71 (fun H1 hH hS => ?_)
  obtain ⟨z11, hz11⟩ : ∃ z, z = (H).size := ⟨_, rfl⟩
  rw [← hz11] at hH
  refine W.eq (g2 := F0 m 73 ls [.ref (uA ad10 (8, 11, 0) z11 (8, 11, 0)), .ref (uA ad10 (8, 11, 0) z11 (7, 0, 0))]) (by rw [uA_s, uA_n (by simp), hz11]) ?_
  refine r_putF hx hb hts hown hnm hC hH hS (7, 0, 0) (Or.inl (Or.inl h0)) (fs := fI 11 ad10) (by rw [uE_n (by simp), wI_7]) rfl inX5 tyX5 tyX5_ok nmX5 11 (by decide) rfl rfl wf_X5_35 rfl rfl (by simp [fI]) dX5_init_73 (fun H locs hH hS => ?_)
  have hH := stI (f := 11) (by decide) (by decide) (by decide) hL8 hH
  obtain ⟨ad11, had11⟩ : ∃ y, y = uA ad10 (8, 11, 0) z11 := ⟨_, rfl⟩
  rw [← had11] at hH
  have hl : lv_has ls 1 [(0, .ref (ad11 (7, 0, 0)))] := by rw [had11, uA_n (by simp)]; exact hl
  have hA : ∀ u : Tg, u.1 ≠ 8 → ad11 u = ad u := fun u h => (by rw [had11]; exact uA_n (fun q => h (by rw [q])) : ad11 u = ad10 u).trans (hA u h)
  refine W.eq (g2 := F0 m 76 ls []) rfl ?_
  refine lv_aload_n hx hb dX5_init_76 rfl (lv_at hl 0 rfl) ?_
  refine lv_bipush (v := 8) hx hb dX5_init_77 (by decide) ?_
  refine r_newa hx hb hts hC hH hS (8, 12, 0) (atype := .int) 0 rfl wa_int (fun _ _ h => h) (8, .inl (fun _ => 0)) (fun _ => rfl) (by decide) (by decide) (by decide) (Nat.le_of_ble_eq_true rfl) (Nat.le_of_ble_eq_true rfl) dX5_init_79 (fun H1 hH hS => ?_)
  obtain ⟨z12, hz12⟩ : ∃ z, z = (H).size := ⟨_, rfl⟩
  rw [← hz12] at hH
  refine W.eq (g2 := F0 m 81 ls [.ref (uA ad11 (8, 12, 0) z12 (8, 12, 0)), .ref (uA ad11 (8, 12, 0) z12 (7, 0, 0))]) (by rw [uA_s, uA_n (by simp), hz12]) ?_
  refine r_putF hx hb hts hown hnm hC hH hS (7, 0, 0) (Or.inl (Or.inl h0)) (fs := fI 12 ad11) (by rw [uE_n (by simp), wI_7]) rfl inX5 tyX5 tyX5_ok nmX5 12 (by decide) rfl rfl wf_X5_38 rfl rfl (by simp [fI]) dX5_init_81 (fun H locs hH hS => ?_)
  have hH := stI (f := 12) (by decide) (by decide) (by decide) hL8 hH
  obtain ⟨ad12, had12⟩ : ∃ y, y = uA ad11 (8, 12, 0) z12 := ⟨_, rfl⟩
  rw [← had12] at hH
  have hl : lv_has ls 1 [(0, .ref (ad12 (7, 0, 0)))] := by rw [had12, uA_n (by simp)]; exact hl
  have hA : ∀ u : Tg, u.1 ≠ 8 → ad12 u = ad u := fun u h => (by rw [had12]; exact uA_n (fun q => h (by rw [q])) : ad12 u = ad11 u).trans (hA u h)
  refine W.eq (g2 := F0 m 84 ls []) rfl ?_
  refine lv_aload_n hx hb dX5_init_84 rfl (lv_at hl 0 rfl) ?_
  refine lv_bipush (v := 8) hx hb dX5_init_85 (by decide) ?_
  refine r_newa hx hb hts hC hH hS (8, 13, 0) (atype := .int) 0 rfl wa_int (fun _ _ h => h) (8, .inl (fun _ => 0)) (fun _ => rfl) (by decide) (by decide) (by decide) (Nat.le_of_ble_eq_true rfl) (Nat.le_of_ble_eq_true rfl) dX5_init_87 (fun H1 hH hS => ?_)
  obtain ⟨z13, hz13⟩ : ∃ z, z = (H).size := ⟨_, rfl⟩
  rw [← hz13] at hH
  refine W.eq (g2 := F0 m 89 ls [.ref (uA ad12 (8, 13, 0) z13 (8, 13, 0)), .ref (uA ad12 (8, 13, 0) z13 (7, 0, 0))]) (by rw [uA_s, uA_n (by simp), hz13]) ?_
  refine r_putF hx hb hts hown hnm hC hH hS (7, 0, 0) (Or.inl (Or.inl h0)) (fs := fI 13 ad12) (by rw [uE_n (by simp), wI_7]) rfl inX5 tyX5 tyX5_ok nmX5 13 (by decide) rfl rfl wf_X5_41 rfl rfl (by simp [fI]) dX5_init_89 (fun H locs hH hS => ?_)
  have hH := stI (f := 13) (by decide) (by decide) (by decide) hL8 hH
  obtain ⟨ad13, had13⟩ : ∃ y, y = uA ad12 (8, 13, 0) z13 := ⟨_, rfl⟩
  rw [← had13] at hH
  have hl : lv_has ls 1 [(0, .ref (ad13 (7, 0, 0)))] := by rw [had13, uA_n (by simp)]; exact hl
  have hA : ∀ u : Tg, u.1 ≠ 8 → ad13 u = ad u := fun u h => (by rw [had13]; exact uA_n (fun q => h (by rw [q])) : ad13 u = ad12 u).trans (hA u h)
  refine W.eq (g2 := F0 m 92 ls []) rfl ?_
  refine lv_aload_n hx hb dX5_init_92 rfl (lv_at hl 0 rfl) ?_
  refine lv_bipush (v := 8) hx hb dX5_init_93 (by decide) ?_
  refine r_newa hx hb hts hC hH hS (8, 14, 0) (atype := .int) 0 rfl wa_int (fun _ _ h => h) (8, .inl (fun _ => 0)) (fun _ => rfl) (by decide) (by decide) (by decide) (Nat.le_of_ble_eq_true rfl) (Nat.le_of_ble_eq_true rfl) dX5_init_95 (fun H1 hH hS => ?_)
  obtain ⟨z14, hz14⟩ : ∃ z, z = (H).size := ⟨_, rfl⟩
  rw [← hz14] at hH
  refine W.eq (g2 := F0 m 97 ls [.ref (uA ad13 (8, 14, 0) z14 (8, 14, 0)), .ref (uA ad13 (8, 14, 0) z14 (7, 0, 0))]) (by rw [uA_s, uA_n (by simp), hz14]) ?_
  refine r_putF hx hb hts hown hnm hC hH hS (7, 0, 0) (Or.inl (Or.inl h0)) (fs := fI 14 ad13) (by rw [uE_n (by simp), wI_7]) rfl inX5 tyX5 tyX5_ok nmX5 14 (by decide) rfl rfl wf_X5_44 rfl rfl (by simp [fI]) dX5_init_97 (fun H locs hH hS => ?_)
  have hH := stI (f := 14) (by decide) (by decide) (by decide) hL8 hH
  obtain ⟨ad14, had14⟩ : ∃ y, y = uA ad13 (8, 14, 0) z14 := ⟨_, rfl⟩
  rw [← had14] at hH
  have hl : lv_has ls 1 [(0, .ref (ad14 (7, 0, 0)))] := by rw [had14, uA_n (by simp)]; exact hl
  have hA : ∀ u : Tg, u.1 ≠ 8 → ad14 u = ad u := fun u h => (by rw [had14]; exact uA_n (fun q => h (by rw [q])) : ad14 u = ad13 u).trans (hA u h)
  refine W.eq (g2 := F0 m 100 ls []) rfl ?_
  refine lv_aload_n hx hb dX5_init_100 rfl (lv_at hl 0 rfl) ?_
  refine lv_bipush (v := 8) hx hb dX5_init_101 (by decide) ?_
  refine r_newa hx hb hts hC hH hS (8, 15, 0) (atype := .int) 0 rfl wa_int (fun _ _ h => h) (8, .inl (fun _ => 0)) (fun _ => rfl) (by decide) (by decide) (by decide) (Nat.le_of_ble_eq_true rfl) (Nat.le_of_ble_eq_true rfl) dX5_init_103 (fun H1 hH hS => ?_)
  obtain ⟨z15, hz15⟩ : ∃ z, z = (H).size := ⟨_, rfl⟩
  rw [← hz15] at hH
  refine W.eq (g2 := F0 m 105 ls [.ref (uA ad14 (8, 15, 0) z15 (8, 15, 0)), .ref (uA ad14 (8, 15, 0) z15 (7, 0, 0))]) (by rw [uA_s, uA_n (by simp), hz15]) ?_
  refine r_putF hx hb hts hown hnm hC hH hS (7, 0, 0) (Or.inl (Or.inl h0)) (fs := fI 15 ad14) (by rw [uE_n (by simp), wI_7]) rfl inX5 tyX5 tyX5_ok nmX5 15 (by decide) rfl rfl wf_X5_47 rfl rfl (by simp [fI]) dX5_init_105 (fun H locs hH hS => ?_)
  have hH := stI (f := 15) (by decide) (by decide) (by decide) hL8 hH
  obtain ⟨ad15, had15⟩ : ∃ y, y = uA ad14 (8, 15, 0) z15 := ⟨_, rfl⟩
  rw [← had15] at hH
  have hl : lv_has ls 1 [(0, .ref (ad15 (7, 0, 0)))] := by rw [had15, uA_n (by simp)]; exact hl
  have hA : ∀ u : Tg, u.1 ≠ 8 → ad15 u = ad u := fun u h => (by rw [had15]; exact uA_n (fun q => h (by rw [q])) : ad15 u = ad14 u).trans (hA u h)
  refine W.eq (g2 := F0 m 108 ls []) rfl ?_
  refine lv_aload_n hx hb dX5_init_108 rfl (lv_at hl 0 rfl) ?_
  refine lv_bipush (v := 8) hx hb dX5_init_109 (by decide) ?_
  refine r_newa hx hb hts hC hH hS (8, 16, 0) (atype := .int) 0 rfl wa_int (fun _ _ h => h) (8, .inl (fun _ => 0)) (fun _ => rfl) (by decide) (by decide) (by decide) (Nat.le_of_ble_eq_true rfl) (Nat.le_of_ble_eq_true rfl) dX5_init_111 (fun H1 hH hS => ?_)
  obtain ⟨z16, hz16⟩ : ∃ z, z = (H).size := ⟨_, rfl⟩
  rw [← hz16] at hH
  refine W.eq (g2 := F0 m 113 ls [.ref (uA ad15 (8, 16, 0) z16 (8, 16, 0)), .ref (uA ad15 (8, 16, 0) z16 (7, 0, 0))]) (by rw [uA_s, uA_n (by simp), hz16]) ?_
  refine r_putF hx hb hts hown hnm hC hH hS (7, 0, 0) (Or.inl (Or.inl h0)) (fs := fI 16 ad15) (by rw [uE_n (by simp), wI_7]) rfl inX5 tyX5 tyX5_ok nmX5 16 (by decide) rfl rfl wf_X5_50 rfl rfl (by simp [fI]) dX5_init_113 (fun H locs hH hS => ?_)
  have hH := stI (f := 16) (by decide) (by decide) (by decide) hL8 hH
  obtain ⟨ad16, had16⟩ : ∃ y, y = uA ad15 (8, 16, 0) z16 := ⟨_, rfl⟩
  rw [← had16] at hH
  have hl : lv_has ls 1 [(0, .ref (ad16 (7, 0, 0)))] := by rw [had16, uA_n (by simp)]; exact hl
  have hA : ∀ u : Tg, u.1 ≠ 8 → ad16 u = ad u := fun u h => (by rw [had16]; exact uA_n (fun q => h (by rw [q])) : ad16 u = ad15 u).trans (hA u h)
  refine W.eq (g2 := F0 m 116 ls []) rfl ?_
  refine lv_aload_n hx hb dX5_init_116 rfl (lv_at hl 0 rfl) ?_
  refine lv_bipush (v := 8) hx hb dX5_init_117 (by decide) ?_
  refine r_newa hx hb hts hC hH hS (8, 17, 0) (atype := .int) 0 rfl wa_int (fun _ _ h => h) (8, .inl (fun _ => 0)) (fun _ => rfl) (by decide) (by decide) (by decide) (Nat.le_of_ble_eq_true rfl) (Nat.le_of_ble_eq_true rfl) dX5_init_119 (fun H1 hH hS => ?_)
  obtain ⟨z17, hz17⟩ : ∃ z, z = (H).size := ⟨_, rfl⟩
  rw [← hz17] at hH
  refine W.eq (g2 := F0 m 121 ls [.ref (uA ad16 (8, 17, 0) z17 (8, 17, 0)), .ref (uA ad16 (8, 17, 0) z17 (7, 0, 0))]) (by rw [uA_s, uA_n (by simp), hz17]) ?_
  refine r_putF hx hb hts hown hnm hC hH hS (7, 0, 0) (Or.inl (Or.inl h0)) (fs := fI 17 ad16) (by rw [uE_n (by simp), wI_7]) rfl inX5 tyX5 tyX5_ok nmX5 17 (by decide) rfl rfl wf_X5_53 rfl rfl (by simp [fI]) dX5_init_121 (fun H locs hH hS => ?_)
  have hH := stI (f := 17) (by decide) (by decide) (by decide) hL8 hH
  obtain ⟨ad17, had17⟩ : ∃ y, y = uA ad16 (8, 17, 0) z17 := ⟨_, rfl⟩
  rw [← had17] at hH
  have hl : lv_has ls 1 [(0, .ref (ad17 (7, 0, 0)))] := by rw [had17, uA_n (by simp)]; exact hl
  have hA : ∀ u : Tg, u.1 ≠ 8 → ad17 u = ad u := fun u h => (by rw [had17]; exact uA_n (fun q => h (by rw [q])) : ad17 u = ad16 u).trans (hA u h)
  refine W.eq (g2 := F0 m 124 ls []) rfl ?_
  refine lv_aload_n hx hb dX5_init_124 rfl (lv_at hl 0 rfl) ?_
  refine lv_bipush (v := 8) hx hb dX5_init_125 (by decide) ?_
  refine r_newa hx hb hts hC hH hS (8, 18, 0) (atype := .int) 0 rfl wa_int (fun _ _ h => h) (8, .inl (fun _ => 0)) (fun _ => rfl) (by decide) (by decide) (by decide) (Nat.le_of_ble_eq_true rfl) (Nat.le_of_ble_eq_true rfl) dX5_init_127 (fun H1 hH hS => ?_)
  obtain ⟨z18, hz18⟩ : ∃ z, z = (H).size := ⟨_, rfl⟩
  rw [← hz18] at hH
  refine W.eq (g2 := F0 m 129 ls [.ref (uA ad17 (8, 18, 0) z18 (8, 18, 0)), .ref (uA ad17 (8, 18, 0) z18 (7, 0, 0))]) (by rw [uA_s, uA_n (by simp), hz18]) ?_
  refine r_putF hx hb hts hown hnm hC hH hS (7, 0, 0) (Or.inl (Or.inl h0)) (fs := fI 18 ad17) (by rw [uE_n (by simp), wI_7]) rfl inX5 tyX5 tyX5_ok nmX5 18 (by decide) rfl rfl wf_X5_56 rfl rfl (by simp [fI]) dX5_init_129 (fun H locs hH hS => ?_)
  have hH := stI (f := 18) (by decide) (by decide) (by decide) hL8 hH
  obtain ⟨ad18, had18⟩ : ∃ y, y = uA ad17 (8, 18, 0) z18 := ⟨_, rfl⟩
  rw [← had18] at hH
  have hl : lv_has ls 1 [(0, .ref (ad18 (7, 0, 0)))] := by rw [had18, uA_n (by simp)]; exact hl
  have hA : ∀ u : Tg, u.1 ≠ 8 → ad18 u = ad u := fun u h => (by rw [had18]; exact uA_n (fun q => h (by rw [q])) : ad18 u = ad17 u).trans (hA u h)
  refine W.eq (g2 := F0 m 132 ls []) rfl ?_
  have hH := stI19 hH
  refine lv_aload_n hx hb dX5_init_132 rfl (lv_at hl 0 rfl) ?_
  refine lv_bipush (v := 12) hx hb dX5_init_133 (by decide) ?_
  refine r_newa hx hb hts hC hH hS (8, 20, 0) (atype := .int) 0 rfl wa_int (fun _ _ h => h) (12, .inl (fun _ => 0)) (fun _ => rfl) (by decide) (by decide) (by decide) (Nat.le_of_ble_eq_true rfl) (Nat.le_of_ble_eq_true rfl) dX5_init_135 (fun H1 hH hS => ?_)
  obtain ⟨z20, hz20⟩ : ∃ z, z = (H).size := ⟨_, rfl⟩
  rw [← hz20] at hH
  refine W.eq (g2 := F0 m 137 ls [.ref (uA ad18 (8, 20, 0) z20 (8, 20, 0)), .ref (uA ad18 (8, 20, 0) z20 (7, 0, 0))]) (by rw [uA_s, uA_n (by simp), hz20]) ?_
  refine r_putF hx hb hts hown hnm hC hH hS (7, 0, 0) (Or.inl (Or.inl h0)) (fs := fI 20 ad18) (by rw [uE_n (by simp), wI_7]) rfl inX5 tyX5 tyX5_ok nmX5 20 (by decide) rfl rfl wf_X5_59 rfl rfl (by simp [fI]) dX5_init_137 (fun H locs hH hS => ?_)
  have hH := stI (f := 20) (by decide) (by decide) (by decide) hL8 hH
  obtain ⟨ad20, had20⟩ : ∃ y, y = uA ad18 (8, 20, 0) z20 := ⟨_, rfl⟩
  rw [← had20] at hH
  have hl : lv_has ls 1 [(0, .ref (ad20 (7, 0, 0)))] := by rw [had20, uA_n (by simp)]; exact hl
  have hA : ∀ u : Tg, u.1 ≠ 8 → ad20 u = ad u := fun u h => (by rw [had20]; exact uA_n (fun q => h (by rw [q])) : ad20 u = ad18 u).trans (hA u h)
  refine W.eq (g2 := F0 m 140 ls []) rfl ?_
  refine lv_aload_n hx hb dX5_init_140 rfl (lv_at hl 0 rfl) ?_
  refine lv_bipush (v := 12) hx hb dX5_init_141 (by decide) ?_
  refine r_newa hx hb hts hC hH hS (8, 21, 0) (atype := .int) 0 rfl wa_int (fun _ _ h => h) (12, .inl (fun _ => 0)) (fun _ => rfl) (by decide) (by decide) (by decide) (Nat.le_of_ble_eq_true rfl) (Nat.le_of_ble_eq_true rfl) dX5_init_143 (fun H1 hH hS => ?_)
  obtain ⟨z21, hz21⟩ : ∃ z, z = (H).size := ⟨_, rfl⟩
  rw [← hz21] at hH
  refine W.eq (g2 := F0 m 145 ls [.ref (uA ad20 (8, 21, 0) z21 (8, 21, 0)), .ref (uA ad20 (8, 21, 0) z21 (7, 0, 0))]) (by rw [uA_s, uA_n (by simp), hz21]) ?_
  refine r_putF hx hb hts hown hnm hC hH hS (7, 0, 0) (Or.inl (Or.inl h0)) (fs := fI 21 ad20) (by rw [uE_n (by simp), wI_7]) rfl inX5 tyX5 tyX5_ok nmX5 21 (by decide) rfl rfl wf_X5_62 rfl rfl (by simp [fI]) dX5_init_145 (fun H locs hH hS => ?_)
  have hH := stI (f := 21) (by decide) (by decide) (by decide) hL8 hH
  obtain ⟨ad21, had21⟩ : ∃ y, y = uA ad20 (8, 21, 0) z21 := ⟨_, rfl⟩
  rw [← had21] at hH
  have hl : lv_has ls 1 [(0, .ref (ad21 (7, 0, 0)))] := by rw [had21, uA_n (by simp)]; exact hl
  have hA : ∀ u : Tg, u.1 ≠ 8 → ad21 u = ad u := fun u h => (by rw [had21]; exact uA_n (fun q => h (by rw [q])) : ad21 u = ad20 u).trans (hA u h)
  refine W.eq (g2 := F0 m 148 ls []) rfl ?_
  refine lv_aload_n hx hb dX5_init_148 rfl (lv_at hl 0 rfl) ?_
  refine lv_bipush (v := 12) hx hb dX5_init_149 (by decide) ?_
  refine r_newa hx hb hts hC hH hS (8, 22, 0) (atype := .int) 0 rfl wa_int (fun _ _ h => h) (12, .inl (fun _ => 0)) (fun _ => rfl) (by decide) (by decide) (by decide) (Nat.le_of_ble_eq_true rfl) (Nat.le_of_ble_eq_true rfl) dX5_init_151 (fun H1 hH hS => ?_)
  obtain ⟨z22, hz22⟩ : ∃ z, z = (H).size := ⟨_, rfl⟩
  rw [← hz22] at hH
  refine W.eq (g2 := F0 m 153 ls [.ref (uA ad21 (8, 22, 0) z22 (8, 22, 0)), .ref (uA ad21 (8, 22, 0) z22 (7, 0, 0))]) (by rw [uA_s, uA_n (by simp), hz22]) ?_
  refine r_putF hx hb hts hown hnm hC hH hS (7, 0, 0) (Or.inl (Or.inl h0)) (fs := fI 22 ad21) (by rw [uE_n (by simp), wI_7]) rfl inX5 tyX5 tyX5_ok nmX5 22 (by decide) rfl rfl wf_X5_65 rfl rfl (by simp [fI]) dX5_init_153 (fun H locs hH hS => ?_)
  have hH := stI (f := 22) (by decide) (by decide) (by decide) hL8 hH
  obtain ⟨ad22, had22⟩ : ∃ y, y = uA ad21 (8, 22, 0) z22 := ⟨_, rfl⟩
  rw [← had22] at hH
  have hl : lv_has ls 1 [(0, .ref (ad22 (7, 0, 0)))] := by rw [had22, uA_n (by simp)]; exact hl
  have hA : ∀ u : Tg, u.1 ≠ 8 → ad22 u = ad u := fun u h => (by rw [had22]; exact uA_n (fun q => h (by rw [q])) : ad22 u = ad21 u).trans (hA u h)
  refine W.eq (g2 := F0 m 156 ls []) rfl ?_
  refine lv_aload_n hx hb dX5_init_156 rfl (lv_at hl 0 rfl) ?_
  refine lv_bipush (v := 12) hx hb dX5_init_157 (by decide) ?_
  refine r_newa hx hb hts hC hH hS (8, 23, 0) (atype := .int) 0 rfl wa_int (fun _ _ h => h) (12, .inl (fun _ => 0)) (fun _ => rfl) (by decide) (by decide) (by decide) (Nat.le_of_ble_eq_true rfl) (Nat.le_of_ble_eq_true rfl) dX5_init_159 (fun H1 hH hS => ?_)
  obtain ⟨z23, hz23⟩ : ∃ z, z = (H).size := ⟨_, rfl⟩
  rw [← hz23] at hH
  refine W.eq (g2 := F0 m 161 ls [.ref (uA ad22 (8, 23, 0) z23 (8, 23, 0)), .ref (uA ad22 (8, 23, 0) z23 (7, 0, 0))]) (by rw [uA_s, uA_n (by simp), hz23]) ?_
  refine r_putF hx hb hts hown hnm hC hH hS (7, 0, 0) (Or.inl (Or.inl h0)) (fs := fI 23 ad22) (by rw [uE_n (by simp), wI_7]) rfl inX5 tyX5 tyX5_ok nmX5 23 (by decide) rfl rfl wf_X5_68 rfl rfl (by simp [fI]) dX5_init_161 (fun H locs hH hS => ?_)
  have hH := stI (f := 23) (by decide) (by decide) (by decide) hL8 hH
  obtain ⟨ad23, had23⟩ : ∃ y, y = uA ad22 (8, 23, 0) z23 := ⟨_, rfl⟩
  rw [← had23] at hH
  have hl : lv_has ls 1 [(0, .ref (ad23 (7, 0, 0)))] := by rw [had23, uA_n (by simp)]; exact hl
  have hA : ∀ u : Tg, u.1 ≠ 8 → ad23 u = ad u := fun u h => (by rw [had23]; exact uA_n (fun q => h (by rw [q])) : ad23 u = ad22 u).trans (hA u h)
  refine W.eq (g2 := F0 m 164 ls []) rfl ?_
  refine lv_aload_n hx hb dX5_init_164 rfl (lv_at hl 0 rfl) ?_
  refine lv_bipush (v := 12) hx hb dX5_init_165 (by decide) ?_
  refine r_newa hx hb hts hC hH hS (8, 24, 0) (atype := .int) 0 rfl wa_int (fun _ _ h => h) (12, .inl (fun _ => 0)) (fun _ => rfl) (by decide) (by decide) (by decide) (Nat.le_of_ble_eq_true rfl) (Nat.le_of_ble_eq_true rfl) dX5_init_167 (fun H1 hH hS => ?_)
  obtain ⟨z24, hz24⟩ : ∃ z, z = (H).size := ⟨_, rfl⟩
  rw [← hz24] at hH
  refine W.eq (g2 := F0 m 169 ls [.ref (uA ad23 (8, 24, 0) z24 (8, 24, 0)), .ref (uA ad23 (8, 24, 0) z24 (7, 0, 0))]) (by rw [uA_s, uA_n (by simp), hz24]) ?_
  refine r_putF hx hb hts hown hnm hC hH hS (7, 0, 0) (Or.inl (Or.inl h0)) (fs := fI 24 ad23) (by rw [uE_n (by simp), wI_7]) rfl inX5 tyX5 tyX5_ok nmX5 24 (by decide) rfl rfl wf_X5_71 rfl rfl (by simp [fI]) dX5_init_169 (fun H locs hH hS => ?_)
  have hH := stI (f := 24) (by decide) (by decide) (by decide) hL8 hH
  obtain ⟨ad24, had24⟩ : ∃ y, y = uA ad23 (8, 24, 0) z24 := ⟨_, rfl⟩
  rw [← had24] at hH
  have hl : lv_has ls 1 [(0, .ref (ad24 (7, 0, 0)))] := by rw [had24, uA_n (by simp)]; exact hl
  have hA : ∀ u : Tg, u.1 ≠ 8 → ad24 u = ad u := fun u h => (by rw [had24]; exact uA_n (fun q => h (by rw [q])) : ad24 u = ad23 u).trans (hA u h)
  refine W.eq (g2 := F0 m 172 ls []) rfl ?_
  refine lv_aload_n hx hb dX5_init_172 rfl (lv_at hl 0 rfl) ?_
  refine lv_bipush (v := 6) hx hb dX5_init_173 (by decide) ?_
  refine r_newa hx hb hts hC hH hS (8, 25, 0) (atype := .int) 0 rfl wa_int (fun _ _ h => h) (6, .inl (fun _ => 0)) (fun _ => rfl) (by decide) (by decide) (by decide) (Nat.le_of_ble_eq_true rfl) (Nat.le_of_ble_eq_true rfl) dX5_init_175 (fun H1 hH hS => ?_)
  obtain ⟨z25, hz25⟩ : ∃ z, z = (H).size := ⟨_, rfl⟩
  rw [← hz25] at hH
  refine W.eq (g2 := F0 m 177 ls [.ref (uA ad24 (8, 25, 0) z25 (8, 25, 0)), .ref (uA ad24 (8, 25, 0) z25 (7, 0, 0))]) (by rw [uA_s, uA_n (by simp), hz25]) ?_
  refine r_putF hx hb hts hown hnm hC hH hS (7, 0, 0) (Or.inl (Or.inl h0)) (fs := fI 25 ad24) (by rw [uE_n (by simp), wI_7]) rfl inX5 tyX5 tyX5_ok nmX5 25 (by decide) rfl rfl wf_X5_74 rfl rfl (by simp [fI]) dX5_init_177 (fun H locs hH hS => ?_)
  have hH := stI (f := 25) (by decide) (by decide) (by decide) hL8 hH
  obtain ⟨ad25, had25⟩ : ∃ y, y = uA ad24 (8, 25, 0) z25 := ⟨_, rfl⟩
  rw [← had25] at hH
  have hl : lv_has ls 1 [(0, .ref (ad25 (7, 0, 0)))] := by rw [had25, uA_n (by simp)]; exact hl
  have hA : ∀ u : Tg, u.1 ≠ 8 → ad25 u = ad u := fun u h => (by rw [had25]; exact uA_n (fun q => h (by rw [q])) : ad25 u = ad24 u).trans (hA u h)
  refine W.eq (g2 := F0 m 180 ls []) rfl ?_
  refine lv_aload_n hx hb dX5_init_180 rfl (lv_at hl 0 rfl) ?_
  refine lv_iconst (v := 0) hx hb dX5_init_181 (by decide) ?_
  refine r_put hx hb hts hown hC hH hS (7, 0, 0) (Or.inl h0) (fs := fI 26 ad25) wI_7 rfl inX5 tyX5 tyX5_ok nmX5 26 (by decide) rfl wf_X5_77 rfl rfl (by simp [fI]) dX5_init_182 (fun H locs hH hS => ?_)
  have hH := stI26 hH
  exact e_wv hx hb hr hlocks hS ⟨ad25, hA, hH⟩ (Nat.le_of_ble_eq_true rfl) (Nat.le_of_ble_eq_true rfl) dX5_init_185

def LJ (L : Tg → Prop) : Tg → Prop := fun u => L u ∨ (u.1 = 0 ∧ (0 < u.2.1 ∧ u.2.1 < 4) ∧ u.2.2 = 0)
def wJ (k : Nat → ClassId) (w : Tg → va_E) (ad : Tg → Nat) : Tg → va_E := fun u => if u = (0, 0, 0) then .inr (4, [.ref (ad (0, 1, 0)), .ref (ad (0, 2, 0)), .ref (ad (0, 3, 0)), .int 0, .int 0]) else if u = (0, 1, 0) then .inl (k 4, 8, .inr (.inr (.inr (.inr (fun _ => none))))) else if u = (0, 2, 0) then .inl (k 5, 12, .inr (.inr (.inr (.inr (fun _ => none))))) else if u = (0, 3, 0) then .inl (k 0, 6, .inl (fun _ => 0)) else w u
set_option maxHeartbeats 4000000 in
set_option maxRecDepth 100000 in
theorem mX4_init (l : Launch) {D : va_G} {k : Nat → ClassId} {b : Nat} {L : Tg → Prop} {ad : Tg → Nat} {w : Tg → va_E} (h0 : L (0, 0, 0)) (e0 : w (0, 0, 0) = .inr (4, [.null, .null, .null, .int 0, .int 0])) : Met l yX4_init (WS yX4_init cX4_init 1 none) ({ frames := 1, cells := 3, slots := 26, locals := 13 }) (P0 D k b (Hp D b L ad w) [.ref (ad (0, 0, 0))]) (Qw b none (fun H => ∃ ad2 : Tg → Nat, (∀ u : Tg, ¬ (u.1 = 0 ∧ (0 < u.2.1 ∧ u.2.1 < 4) ∧ u.2.2 = 0) → ad2 u = ad u) ∧ Hp D b (LJ L) ad2 (wJ k w ad2) H)) 3 26 (Fb b) := by
  refine Met0 (by decide +kernel) (Nat.le_of_ble_eq_true rfl) (fun p e s m below meth c ls hx hb hr hts hown hml hlocks hnm hC hH hl => ?_)
  have hS : va_S (Fb b) s.heap s.heap [] := va_S.rf
  have hl : lv_has ls 1 [(0, .ref (ad (0, 0, 0)))] := hl
  refine lv_aload_n hx hb dX4_init_0 rfl (lv_at hl 0 rfl) ?_
  refine W.objInit hx hb hown (hts _ wm_X4_1) (hts _ wv_Obj) (hts _ wk_Obj) rfl (by rw [hml]; exact hl.1) rfl dX4_init_1 (Nat.le_of_ble_eq_true rfl) (Nat.le_of_ble_eq_true rfl) ?_
  refine W.eq (g2 := F0 m 4 ls []) rfl ?_
  refine lv_aload_n hx hb dX4_init_4 rfl (lv_at hl 0 rfl) ?_
  refine lv_bipush (v := 8) hx hb dX4_init_5 (by decide) ?_
  refine r_newq (N' := 8) hx hb hts hown hC hH hS (0, 1, 0) 4 rfl wc_X4_9 wo_X2 (by decide) (by decide) (by decide) (Nat.le_of_ble_eq_true rfl) (Nat.le_of_ble_eq_true rfl) dX4_init_7 (fun H1 hH hS => ?_)
  obtain ⟨ad1, had1⟩ : ∃ y, y = uA ad (0, 1, 0) (s.heap).size := ⟨_, rfl⟩
  have ea0 : ∀ u : Tg, u ≠ (0, 1, 0) → ad1 u = ad u := fun u h => by rw [had1]; exact uA_n h
  have eb0 : ad1 (0, 1, 0) = (s.heap).size := by rw [had1]; exact uA_s
  rw [← had1] at hH
  refine W.eq (g2 := F0 m 10 ls [.ref (ad1 (0, 1, 0)), .ref (ad1 (0, 0, 0))]) (by rw [eb0, ea0 (0, 0, 0) (by simp)]) ?_
  refine r_putF hx hb hts hown hnm hC hH hS (0, 0, 0) (Or.inl h0) (fs := [.null, .null, .null, .int 0, .int 0]) (by rw [uE_n (by simp)]; exact e0) rfl inX4 tyX4 tyX4_ok nmX4 0 (by decide) rfl rfl wf_X4_11 rfl rfl (by simp) dX4_init_10 (fun H locs hH hS => ?_)
  refine W.eq (g2 := F0 m 13 ls []) rfl ?_
  have hl : lv_has ls 1 [(0, .ref (ad1 (0, 0, 0)))] := by rw [ea0 _ (by simp)]; exact hl
  refine lv_aload_n hx hb dX4_init_13 rfl (lv_at hl 0 rfl) ?_
  refine lv_bipush (v := 12) hx hb dX4_init_14 (by decide) ?_
  refine r_newq (N' := 12) hx hb hts hown hC hH hS (0, 2, 0) 5 rfl wc_X4_15 wo_X3 (by decide) (by decide) (by decide) (Nat.le_of_ble_eq_true rfl) (Nat.le_of_ble_eq_true rfl) dX4_init_16 (fun H1 hH hS => ?_)
  obtain ⟨ad2, had2⟩ : ∃ y, y = uA ad1 (0, 2, 0) (H).size := ⟨_, rfl⟩
  have ea1 : ∀ u : Tg, u ≠ (0, 2, 0) → ad2 u = ad1 u := fun u h => by rw [had2]; exact uA_n h
  have eb1 : ad2 (0, 2, 0) = (H).size := by rw [had2]; exact uA_s
  rw [← had2] at hH
  refine W.eq (g2 := F0 m 19 ls [.ref (ad2 (0, 2, 0)), .ref (ad2 (0, 0, 0))]) (by rw [eb1, ea1 (0, 0, 0) (by simp), ea0 (0, 0, 0) (by simp)]) ?_
  refine r_putF hx hb hts hown hnm hC hH hS (0, 0, 0) (Or.inl (Or.inl h0)) (fs := [.ref (ad1 (0, 1, 0)), .null, .null, .int 0, .int 0]) (by rw [uE_n (by simp)]; exact uE_s) rfl inX4 tyX4 tyX4_ok nmX4 1 (by decide) rfl rfl wf_X4_17 rfl rfl (by simp) dX4_init_19 (fun H locs hH hS => ?_)
  refine W.eq (g2 := F0 m 22 ls []) rfl ?_
  have hl : lv_has ls 1 [(0, .ref (ad2 (0, 0, 0)))] := by rw [ea1 _ (by simp)]; exact hl
  refine lv_aload_n hx hb dX4_init_22 rfl (lv_at hl 0 rfl) ?_
  refine lv_bipush (v := 6) hx hb dX4_init_23 (by decide) ?_
  refine r_newa hx hb hts hC hH hS (0, 3, 0) (atype := .int) 0 rfl wa_int (fun _ _ h => h) (6, .inl (fun _ => 0)) (fun _ => rfl) (by decide) (by decide) (by decide) (Nat.le_of_ble_eq_true rfl) (Nat.le_of_ble_eq_true rfl) dX4_init_25 (fun H1 hH hS => ?_)
  obtain ⟨ad3, had3⟩ : ∃ y, y = uA ad2 (0, 3, 0) (H).size := ⟨_, rfl⟩
  have ea2 : ∀ u : Tg, u ≠ (0, 3, 0) → ad3 u = ad2 u := fun u h => by rw [had3]; exact uA_n h
  have eb2 : ad3 (0, 3, 0) = (H).size := by rw [had3]; exact uA_s
  rw [← had3] at hH
  refine W.eq (g2 := F0 m 27 ls [.ref (ad3 (0, 3, 0)), .ref (ad3 (0, 0, 0))]) (by rw [eb2, ea2 (0, 0, 0) (by simp), ea1 (0, 0, 0) (by simp), ea0 (0, 0, 0) (by simp)]) ?_
  refine r_putF hx hb hts hown hnm hC hH hS (0, 0, 0) (Or.inl (Or.inl (Or.inl h0))) (fs := [.ref (ad1 (0, 1, 0)), .ref (ad2 (0, 2, 0)), .null, .int 0, .int 0]) (by rw [uE_n (by simp)]; exact uE_s) rfl inX4 tyX4 tyX4_ok nmX4 2 (by decide) rfl rfl wf_X4_21 rfl rfl (by simp) dX4_init_27 (fun H locs hH hS => ?_)
  refine W.eq (g2 := F0 m 30 ls []) rfl ?_
  have hl : lv_has ls 1 [(0, .ref (ad3 (0, 0, 0)))] := by rw [ea2 _ (by simp)]; exact hl
  refine e_wv hx hb hr hlocks hS ⟨ad3, fun u h => ?_, hH.mono fun u hu => ?_⟩ (Nat.le_refl _) (Nat.le_refl _) dX4_init_30
  · rw [ea2 u (fun q => h (by rw [q]; simp)), ea1 u (fun q => h (by rw [q]; simp)), ea0 u (fun q => h (by rw [q]; simp))]
  · refine ⟨?_, rfl, ?_⟩
    · rcases hu with hu | ⟨a1, a2, a3⟩
      · exact Or.inl (Or.inl (Or.inl hu))
      · obtain ⟨x, y, v⟩ := u
        simp only at a1 a2 a3
        subst a1 a3
        rcases (show y = 1 ∨ y = 2 ∨ y = 3 by omega) with rfl | rfl | rfl
        · exact Or.inl (Or.inl (Or.inr rfl))
        · exact Or.inl (Or.inr rfl)
        · exact Or.inr rfl
    · unfold wJ
      by_cases c0 : u = (0, 0, 0)
      · subst c0
        rw [if_pos rfl, uE_s, ea2 (0, 1, 0) (by simp), ea1 (0, 1, 0) (by simp), ea2 (0, 2, 0) (by simp)]; rfl
      · rw [if_neg c0, uE_n c0]
        by_cases c3 : u = (0, 3, 0)
        · subst c3; rw [if_neg (by simp), if_neg (by simp), if_pos rfl, uE_s]
        · rw [uE_n c3, uE_n c0]
          by_cases c2 : u = (0, 2, 0)
          · subst c2; rw [if_neg (by simp), if_pos rfl, uE_s]
          · rw [uE_n c2, uE_n c0]
            by_cases c1 : u = (0, 1, 0)
            · subst c1; rw [if_pos rfl, uE_s]
            · rw [if_neg c1, if_neg c2, if_neg c3, uE_n c1]
