/-! THE LAW, from its entry -/
def o00 : OF := (fun _ => 0, fun _ => 0)
theorem fI_3 {ad ad' : Tg → Nat} : fI 3 ad = fI 3 ad' := rfl
theorem fI_cg {j : Nat} {ad ad' : Tg → Nat} (h : ∀ f, ad' (8, f, 0) = ad (8, f, 0)) : fI j ad' = fI j ad := by
  unfold fI
  simp only [h]
theorem fR_0 {ad : Tg → Nat} : fR M00 ad = fI 26 ad := rfl
theorem Wo_0 {D : va_G} {k : Nat → ClassId} {b : Nat} {ad2 ad4 ad6 : Tg → Nat} {H : Heap} {w0 : Tg → va_E} {z7 : va_E} (h : Hp D b (fun u => (LI (fun u => LJ (fun u => False ∨ u = (0, 0, 0)) u ∨ u = (7, 0, 0)) 26 u ∨ u = (9, 0, 0)) ∨ u = (9, 1, 0)) ad6 (uE (uE (wI k (uE (wJ k w0 ad2) (7, 0, 0) z7) 26 ad4) (9, 0, 0) (.inl (k 2, 1, .inr (.inl (fun _ => 0))))) (9, 1, 0) (.inl (k 3, 1, .inr (.inr (.inr (.inl (fun _ => 0))))))) H) (h0 : ∀ u : Tg, u.1 = 0 → ad6 u = ad2 u) (h8 : ∀ f, ad6 (8, f, 0) = ad4 (8, f, 0)) : Wo D k b ad6 g00 M00 o00 H := by
  refine h.mono (tg_all ?_ ?_ ?_ ?_ ?_ ?_ ?_ ?_ ?_ ?_ ?_)
  · rintro i j ⟨hi, rfl⟩
    rw [uE_n (by simp), uE_n (by simp)]
    rcases (show i = 0 ∨ i = 1 ∨ i = 2 ∨ i = 3 by omega) with rfl | rfl | rfl | rfl
    · refine ⟨Or.inl (Or.inl (Or.inl (Or.inl (Or.inl (Or.inr rfl))))), rfl, ?_⟩
      unfold wI
      rw [if_neg (by simp), if_neg (by simp), uE_n (by simp)]
      unfold wJ
      rw [if_pos rfl]
      show Sum.inr (4, fX g00 ad6) = _
      unfold fX
      rw [h0 (0, 1, 0) rfl, h0 (0, 2, 0) rfl, h0 (0, 3, 0) rfl]
      rfl
    · refine ⟨Or.inl (Or.inl (Or.inl (Or.inl (Or.inr ⟨rfl, ⟨by decide, by decide⟩, rfl⟩)))), rfl, ?_⟩
      unfold wI
      rw [if_neg (by simp), if_neg (by simp), uE_n (by simp)]
      unfold wJ
      rw [if_neg (by simp), if_pos rfl]
      show (.inl (k 4, 8, .inr (.inr (.inr (.inr (maO g00 ad6))))) : va_E) = _
      rw [show maO g00 ad6 = fun _ => none from funext fun x => if_neg (Nat.not_lt_zero x)]
    · refine ⟨Or.inl (Or.inl (Or.inl (Or.inl (Or.inr ⟨rfl, ⟨by decide, by decide⟩, rfl⟩)))), rfl, ?_⟩
      unfold wI
      rw [if_neg (by simp), if_neg (by simp), uE_n (by simp)]
      unfold wJ
      rw [if_neg (by simp), if_neg (by simp), if_pos rfl]
      show (.inl (k 5, 12, .inr (.inr (.inr (.inr (phO g00 ad6))))) : va_E) = _
      rw [show phO g00 ad6 = fun _ => none from funext fun x => if_neg (Nat.not_lt_zero x)]
    · refine ⟨Or.inl (Or.inl (Or.inl (Or.inl (Or.inr ⟨rfl, ⟨by decide, by decide⟩, rfl⟩)))), rfl, ?_⟩
      unfold wI
      rw [if_neg (by simp), if_neg (by simp), uE_n (by simp)]
      unfold wJ
      rw [if_neg (by simp), if_neg (by simp), if_neg (by simp), if_pos rfl]
      rfl
  · rintro i j ⟨hi, -⟩; exact absurd hi (Nat.not_lt_zero _)
  · rintro i j ⟨hi, -⟩; exact absurd hi (Nat.not_lt_zero _)
  · rintro i j ⟨⟨hi, -⟩, -⟩; exact absurd hi (Nat.not_lt_zero _)
  · rintro i j ⟨hi, -⟩; exact absurd hi (Nat.not_lt_zero _)
  · rintro i j ⟨hi, -⟩; exact absurd hi (Nat.not_lt_zero _)
  · rintro i j ⟨hi, -⟩; exact absurd hi (Nat.not_lt_zero _)
  · rintro i j ⟨rfl, rfl⟩
    refine ⟨Or.inl (Or.inl (Or.inl (Or.inr rfl))), rfl, ?_⟩
    rw [uE_n (by simp), uE_n (by simp), wI_7, ← fI_cg h8]
    rfl
  · rintro i j ⟨⟨a1, a2, a3⟩, rfl⟩
    refine ⟨Or.inl (Or.inl (Or.inr ⟨rfl, rfl, a1, a2, a3⟩)), rfl, ?_⟩
    rw [uE_n (by simp), uE_n (by simp)]
    unfold wI
    rw [if_neg (by simp), if_pos rfl]
    rfl
  · rintro i j ⟨hi, rfl⟩
    rcases (show i = 0 ∨ i = 1 by omega) with rfl | rfl
    · refine ⟨Or.inl (Or.inr rfl), rfl, ?_⟩
      rw [uE_n (by simp), uE_s]
      rfl
    · refine ⟨Or.inr rfl, rfl, ?_⟩
      rw [uE_s]
      rfl
  · rintro a i j h; exact h.elim
set_option maxHeartbeats 4000000 in
set_option maxRecDepth 100000 in
theorem whole_start {p : Program} {e : Env} {s : State} {m : MethodId} {below : List Frame} {meth : Method} {c : Code} (l : Launch) (hflags : l.flags = flags0) {b L : Nat} {xs : Nat → Int32} (hL : L ≤ 4096) (C0 : lw_At p s m meth c b L xs) : W p l e room_1 s m #[Value.ref b] below meth c s.heap [] 0 0 (lw_Z below #[Value.ref b] s) (entryFrame m ([Value.ref b] : List Value).toArray 8) := by
  obtain ⟨hx, hb, hr, hml, hown, hts, hX, hbl, hlocks, hgv⟩ := id C0
  have hown : s.vm.findClass RL = some m.cls := hown
  have ha : ∀ w ∈ AW, w.before #[Value.ref b] s = true := fun w h => hts w (List.mem_filter.mp h).1
  obtain ⟨D, k, hC⟩ := st_cs hts hgv
  have hlf := st_fl hflags
  have hS : va_S (Fb s.heap.size) s.heap s.heap [] := va_S.rf
  have hl := lv_entry ([.ref b]) (n := 8) (Nat.le_of_ble_eq_true rfl)
  rw [lg_entry_eq]
  generalize (lg_sl ([.ref b]) ++ List.replicate (8 - (lg_sl ([.ref b])).length) Slot.unset).toArray = ls at hl ⊢
  have hl : lv_has ls 8 [(0, .ref b)] := hl
  have hH : Hp D s.heap.size (fun _ => False) (fun _ => 0) (fun _ => .inr (0, [])) s.heap := ⟨fun _ h => h.elim, fun _ _ h => h.elim, fun _ h => h.elim, Nat.le_refl _⟩
  refine r_new hx hb ha hown hC hH hS (Nat.le_refl _) (0, 0, 0) (ci := 4) rfl inX4 tyX4 tyX4_ok wc_L_8 wn_X4 wi_X4 [.null, .null, .null, .int 0, .int 0] (fun j hj => by rcases (show j = 0 ∨ j = 1 ∨ j = 2 ∨ j = 3 ∨ j = 4 by omega) with rfl | rfl | rfl | rfl | rfl <;> rfl) (Nat.le_of_ble_eq_true rfl) (Nat.le_of_ble_eq_true rfl) dL_law_0 (fun H hH hS => ?_)
  obtain ⟨ad1, e1⟩ : ∃ y, y = uA (fun _ => 0) (0, 0, 0) s.heap.size := ⟨_, rfl⟩
  rw [← e1] at hH
  refine W.eq (g2 := F0 m 3 ls [.ref (ad1 (0, 0, 0))]) (by rw [e1, uA_s]) ?_
  refine lv_dup hx hb dL_law_3 rfl ?_
  refine k_w (va_runI (As := []) (rest := [.ref (ad1 (0, 0, 0))]) ⟨hx, hb, hml, hown, ha⟩ (mX4_init l (Or.inr rfl) uE_s) ⟨cb_of ha wk_X4_init wi_X4 wm_L_59 sd_X4_init rfl rfl ⟨Nat.le_of_ble_eq_true rfl, Nat.le_of_ble_eq_true rfl⟩, rfl, ha _ wv_X4_init⟩ (P0.pre hC hS hH) rfl rfl hl.1 rfl (lv_room (Nat.le_of_ble_eq_true rfl)) dL_law_4 ⟨Nat.le_of_ble_eq_true rfl, Nat.le_of_ble_eq_true rfl⟩) hS (fun H locs hH hS => ?_)
  obtain ⟨ad2, e2, hH⟩ := hH
  refine W.eq (g2 := F0 m 7 ls [.ref (ad2 (0, 0, 0))]) (by rw [e2 (0, 0, 0) (by simp)]; rfl) ?_
  refine lv_astore_n (lv' := [(1, .ref (ad2 (0, 0, 0))), (0, .ref b)]) hx hb dL_law_7 rfl hl (by decide) rfl (fun ls hl => ?_)
  refine r_new hx hb ha hown hC hH hS (Nat.le_refl _) (7, 0, 0) (ci := 5) rfl inX5 tyX5 tyX5_ok wc_L_60 wn_X5 wi_X5 (fI 3 ad2) (fun j hj => by rcases (show j = 0 ∨ j = 1 ∨ j = 2 ∨ j = 3 ∨ j = 4 ∨ j = 5 ∨ j = 6 ∨ j = 7 ∨ j = 8 ∨ j = 9 ∨ j = 10 ∨ j = 11 ∨ j = 12 ∨ j = 13 ∨ j = 14 ∨ j = 15 ∨ j = 16 ∨ j = 17 ∨ j = 18 ∨ j = 19 ∨ j = 20 ∨ j = 21 ∨ j = 22 ∨ j = 23 ∨ j = 24 ∨ j = 25 ∨ j = 26 by omega) with rfl | rfl | rfl | rfl | rfl | rfl | rfl | rfl | rfl | rfl | rfl | rfl | rfl | rfl | rfl | rfl | rfl | rfl | rfl | rfl | rfl | rfl | rfl | rfl | rfl | rfl | rfl <;> rfl) (Nat.le_of_ble_eq_true rfl) (Nat.le_of_ble_eq_true rfl) dL_law_8 (fun H3 hH hS => ?_)
  obtain ⟨ad3, e3⟩ : ∃ y, y = uA ad2 (7, 0, 0) H.size := ⟨_, rfl⟩
  rw [← e3] at hH
  refine W.eq (g2 := F0 m 11 ls [.ref (ad3 (7, 0, 0))]) (by rw [e3, uA_s]) ?_
  refine lv_dup hx hb dL_law_11 rfl ?_
  refine k_w (va_runI (As := []) (rest := [.ref (ad3 (7, 0, 0))]) ⟨hx, hb, hml, hown, ha⟩ (mX5_init l (Or.inr rfl) (fun u hu => ?_) (uE_s.trans (by rw [fI_3 (ad := ad2) (ad' := ad3)]))) ⟨cb_of ha wk_X5_init wi_X5 wm_L_62 sd_X5_init rfl rfl ⟨Nat.le_of_ble_eq_true rfl, Nat.le_of_ble_eq_true rfl⟩, rfl, ha _ wv_X5_init⟩ (P0.pre hC hS hH) rfl rfl hl.1 rfl (lv_room (Nat.le_of_ble_eq_true rfl)) dL_law_12 ⟨Nat.le_of_ble_eq_true rfl, Nat.le_of_ble_eq_true rfl⟩) hS (fun H4 locs4 hH hS => ?_)
  · rcases hu with ((h | rfl) | h) | rfl
    · exact h.elim
    · decide
    · rw [h.1]; decide
    · decide
  obtain ⟨ad4, e4, hH⟩ := hH
  refine W.eq (g2 := F0 m 15 ls [.ref (ad4 (7, 0, 0))]) (by rw [e4 (7, 0, 0) (by simp)]; rfl) ?_
  refine lv_astore_n (lv' := [(2, .ref (ad4 (7, 0, 0))), (1, .ref (ad2 (0, 0, 0))), (0, .ref b)]) hx hb dL_law_15 rfl hl (by decide) rfl (fun ls hl => ?_)
  refine lv_iconst (v := 1) hx hb dL_law_16 (by decide) ?_
  refine r_newa hx hb ha hC hH hS (9, 0, 0) (atype := .long) 2 rfl wa_long (fun _ _ h => h) (1, .inr (.inl (fun _ => 0))) (fun _ => rfl) (by decide) (by decide) (by decide) (Nat.le_of_ble_eq_true rfl) (Nat.le_of_ble_eq_true rfl) dL_law_17 (fun H5 hH hS => ?_)
  obtain ⟨ad5, e5⟩ : ∃ y, y = uA ad4 (9, 0, 0) H4.size := ⟨_, rfl⟩
  rw [← e5] at hH
  refine W.eq (g2 := F0 m 19 ls [.ref (ad5 (9, 0, 0))]) (by rw [e5, uA_s]) ?_
  refine lv_astore_n (lv' := [(3, .ref (ad5 (9, 0, 0))), (2, .ref (ad4 (7, 0, 0))), (1, .ref (ad2 (0, 0, 0))), (0, .ref b)]) hx hb dL_law_19 rfl hl (by decide) rfl (fun ls hl => ?_)
  refine lv_iconst (v := 1) hx hb dL_law_20 (by decide) ?_
  refine r_newa hx hb ha hC hH hS (9, 1, 0) (atype := .double) 3 rfl wa_double (fun _ _ h => h) (1, .inr (.inr (.inr (.inl (fun _ => 0))))) (fun _ => rfl) (by decide) (by decide) (by decide) (Nat.le_of_ble_eq_true rfl) (Nat.le_of_ble_eq_true rfl) dL_law_21 (fun H6 hH hS => ?_)
  obtain ⟨ad6, e6⟩ : ∃ y, y = uA ad5 (9, 1, 0) H5.size := ⟨_, rfl⟩
  rw [← e6] at hH
  refine W.eq (g2 := F0 m 23 ls [.ref (ad6 (9, 1, 0))]) (by rw [e6, uA_s]) ?_
  refine lv_astore (lv' := [(4, .ref (ad6 (9, 1, 0))), (3, .ref (ad5 (9, 0, 0))), (2, .ref (ad4 (7, 0, 0))), (1, .ref (ad2 (0, 0, 0))), (0, .ref b)]) hx hb dL_law_23 hl (by decide) rfl (fun ls hl => ?_)
  refine lv_iconst (v := nI (8 * 0)) hx hb dL_law_25 (by decide) ?_
  refine lv_istore (lv' := [(5, .int (nI (8 * 0))), (4, .ref (ad6 (9, 1, 0))), (3, .ref (ad5 (9, 0, 0))), (2, .ref (ad4 (7, 0, 0))), (1, .ref (ad2 (0, 0, 0))), (0, .ref b)]) hx hb dL_law_26 hl (by decide) rfl (fun ls hl => ?_)
  have a65 : ∀ u : Tg, u ≠ (9, 1, 0) → ad6 u = ad5 u := fun u h => by rw [e6]; exact uA_n h
  have a54 : ∀ u : Tg, u ≠ (9, 0, 0) → ad5 u = ad4 u := fun u h => by rw [e5]; exact uA_n h
  have a32 : ∀ u : Tg, u ≠ (7, 0, 0) → ad3 u = ad2 u := fun u h => by rw [e3]; exact uA_n h
  have a0 : ∀ u : Tg, u.1 = 0 → ad6 u = ad2 u := fun u h => by rw [a65 u (fun q => by rw [q] at h; exact absurd h (by decide)), a54 u (fun q => by rw [q] at h; exact absurd h (by decide)), e4 u (by rw [h]; decide), a32 u (fun q => by rw [q] at h; exact absurd h (by decide))]
  have hW : Wo D k s.heap.size ad6 g00 M00 o00 H6 := Wo_0 hH a0 (fun f => by rw [a65 _ (by simp), a54 _ (by simp)])
  rw [← a0 (0, 0, 0) rfl, ← a54 (7, 0, 0) (by simp), ← a65 (7, 0, 0) (by simp), ← a65 (9, 0, 0) (by simp)] at hl
  exact law_loop hlf hL C0 hC 513 0 (Nat.zero_le _) (by omega) H6 _ _ _ ls ⟨ad6, g00, M00, o00, hW, hS, SI_0, by rw [tb_00]; exact Nat.le_of_ble_eq_true rfl, by rw [tb_00]; exact Nat.le_of_ble_eq_true rfl, lv_sub hl [5, 4, 3, 2, 1, 0] rfl⟩
