/-! THE REFERENCE: small facts -/
theorem cdI_s (n : Nat) : cdI (n + 1) = nI n := by unfold cdI; rw [if_neg (by omega), Nat.add_sub_cancel]
theorem cdI_0 : cdI 0 = -1 := rfl
theorem nI_ne (n : Nat) (h : n < 2 ^ 31) : ¬ nI n = -1 := fun q => by
  have h1 := nI_toInt h
  rw [q] at h1
  have h2 : (-1 : Int32).toInt = -1 := by decide
  omega
theorem cdI_m {r : Nat} (h : r ≤ 2 ^ 31) : cdI r = -1 ↔ r = 0 := by
  constructor
  · intro q
    cases r with
    | zero => rfl
    | succ n => rw [cdI_s] at q; exact absurd q (nI_ne n (by omega))
  · rintro rfl; rfl
theorem cdI_n {r : Nat} (h : ¬ r = 0) : cdI r = nI (r - 1) := by unfold cdI; rw [if_neg h]
theorem mf_le (M : MF) (p : Int32) : ∀ j, mf M p j ≤ j
  | 0 => Nat.le_refl _
  | j + 1 => by
    unfold mf
    split
    · exact Nat.le_refl _
    · exact Nat.le_succ_of_le (mf_le M p j)
theorem RI.of {M M' : MF} (h : RI M) (h2 : M' 2 0 = M 2 0) (h19 : M' 19 0 = M 19 0) (h21 : ∀ q, M' 21 q = M 21 q) (h12 : ∀ i, M' 12 i = M 12 i) (h13 : ∀ i, M' 13 i = M 13 i) : RI M' := by
  have a : mN M' = mN M := by unfold mN; rw [h2]
  have c : pN M' = pN M := by unfold pN; rw [h19]
  unfold RI
  rw [a, c, h2, h19]
  exact ⟨h.1, h.2.1, h.2.2.1, h.2.2.2.1, fun q hq => by rw [h21]; exact h.2.2.2.2.1 q hq, fun i hi => by rw [h12, h13]; exact h.2.2.2.2.2 i hi⟩
theorem RI.put {M : MF} (h : RI M) {f i : Nat} {v : Int32} (h2 : f ≠ 2) (h19 : f ≠ 19) (h21 : f ≠ 21) (h12 : f ≠ 12) (h13 : f ≠ 13) : RI (up M f i v) :=
  h.of (up_f h2.symm) (up_f h19.symm) (fun _ => up_f h21.symm) (fun _ => up_f h12.symm) (fun _ => up_f h13.symm)
theorem RI.ca {M : MF} (h : RI M) {q r : Nat} (hr : r ≤ mN M) : RI (up M 21 q (cdI r)) := by
  have a : mN (up M 21 q (cdI r)) = mN M := rfl
  have c : pN (up M 21 q (cdI r)) = pN M := rfl
  unfold RI
  rw [a, c]
  refine ⟨h.1, h.2.1, h.2.2.1, h.2.2.2.1, fun z hz => ?_, h.2.2.2.2.2⟩
  by_cases e : z = q
  · subst e; exact ⟨r, hr, up_s⟩
  · rw [up_i e]; exact h.2.2.2.2.1 z hz
theorem RI.no {M : MF} (h : RI M) {q : Nat} : RI (up M 21 q (-1)) := h.ca (r := 0) (Nat.zero_le _)
/-- the mast of a call -/
theorem RI.at {M : MF} (h : RI M) {q : Nat} (hq : q < pN M) (hn : ¬ M 21 q = -1) : M 21 q = nI (M 21 q).toNatClampNeg ∧ (M 21 q).toNatClampNeg < mN M := by
  obtain ⟨r, hr, e⟩ := h.2.2.2.2.1 q hq
  have h8 := h.1
  cases r with
  | zero => exact absurd e hn
  | succ n =>
    rw [cdI_s] at e
    rw [e, nI_clamp (by omega)]
    exact ⟨rfl, by omega⟩
theorem rhA_n {M : MF} {q : Nat} {f i : Nat} (h : f ≠ 21) : rhA M q f i = M f i := by unfold rhA; rw [up_f h, up_f h]
theorem rhG_n {M : MF} {q : Nat} {f i : Nat} (h : f ≠ 21) (h3 : f ≠ 23) (h4 : f ≠ 24) : rhG M q f i = M f i := by
  unfold rhG
  split
  · rw [up_f h3, rhA_n h]
  · rw [up_f h4, rhA_n h]
theorem RI.hoA {M : MF} (h : RI M) (q : Nat) : RI (rhA M q) := (h.no (q := q)).ca (mf_le _ _ _)
theorem RI.ho {M : MF} (h : RI M) (q : Nat) : RI (rhG M q) := by
  unfold rhG
  split
  · exact (h.hoA q).put (by decide) (by decide) (by decide) (by decide) (by decide)
  · exact (h.hoA q).put (by decide) (by decide) (by decide) (by decide) (by decide)
theorem rctG_o {M : MF} {f j : Nat} (h : f ≠ 18) : ∀ i, rctG M i f j = M f j
  | 0 => rfl
  | i + 1 => by unfold rctG; rw [up_f h, rctG_o h i]
theorem rpA_o {M : MF} {i f j : Nat} (h : f ≠ 25) : rpA M i f j = M f j := up_f h
theorem rpG_o {M : MF} {i f j : Nat} (h : f ≠ 25) : rpG M i f j = M f j := by
  unfold rpG
  split
  · exact rpA_o h
  · rw [up_f h, rpA_o h]
theorem rprG_o {M : MF} {f j : Nat} (h : f ≠ 25) : ∀ i, rprG M i f j = M f j
  | 0 => rfl
  | i + 1 => by
    unfold rprG
    split
    · rw [rpG_o h, rprG_o h i]
    · exact rprG_o h i
theorem rwG_o {M : MF} {i f j : Nat} (h9 : f ≠ 9) (h10 : f ≠ 10) (h17 : f ≠ 17) : rwG M i f j = M f j := by unfold rwG; rw [up_f h9, up_f h17, up_f h10]
theorem rpwG_o {M : MF} {f j : Nat} (h9 : f ≠ 9) (h10 : f ≠ 10) (h17 : f ≠ 17) : ∀ i, rpwG M i f j = M f j
  | 0 => rfl
  | i + 1 => by
    unfold rpwG
    split
    · rw [rwG_o h9 h10 h17, rpwG_o h9 h10 h17 i]
    · rw [up_f h10, rpwG_o h9 h10 h17 i]
theorem relG_o {M : MF} {f j : Nat} (h : f ≠ 11) : ∀ i, relG M i f j = M f j
  | 0 => rfl
  | i + 1 => by unfold relG; rw [up_f h, relG_o h i]
theorem rlvG_o {M : MF} {f j : Nat} (h : f ≠ 21) (h3 : f ≠ 23) (h4 : f ≠ 24) : ∀ q, rlvG M q f j = M f j
  | 0 => rfl
  | q + 1 => by
    unfold rlvG
    split
    · rw [rhG_n h h3 h4, rlvG_o h h3 h4 q]
    · exact rlvG_o h h3 h4 q
theorem RI.ct {M : MF} (h : RI M) (i : Nat) : RI (rctG M i) := h.of (rctG_o (by decide) i) (rctG_o (by decide) i) (fun _ => rctG_o (by decide) i) (fun _ => rctG_o (by decide) i) (fun _ => rctG_o (by decide) i)
theorem RI.pr {M : MF} (h : RI M) (i : Nat) : RI (rprG M i) := h.of (rprG_o (by decide) i) (rprG_o (by decide) i) (fun _ => rprG_o (by decide) i) (fun _ => rprG_o (by decide) i) (fun _ => rprG_o (by decide) i)
theorem RI.pw {M : MF} (h : RI M) (i : Nat) : RI (rpwG M i) := h.of (rpwG_o (by decide) (by decide) (by decide) i) (rpwG_o (by decide) (by decide) (by decide) i) (fun _ => rpwG_o (by decide) (by decide) (by decide) i) (fun _ => rpwG_o (by decide) (by decide) (by decide) i) (fun _ => rpwG_o (by decide) (by decide) (by decide) i)
theorem RI.tk {M : MF} (h : RI M) : RI (rtkG M) := h.put (by decide) (by decide) (by decide) (by decide) (by decide)
theorem RI.el {M : MF} (h : RI M) (i : Nat) : RI (relG M i) := h.of (relG_o (by decide) i) (relG_o (by decide) i) (fun _ => relG_o (by decide) i) (fun _ => relG_o (by decide) i) (fun _ => relG_o (by decide) i)
theorem RI.lv {M : MF} (h : RI M) : ∀ q, RI (rlvG M q)
  | 0 => h
  | q + 1 => by
    unfold rlvG
    split
    · exact (RI.lv h q).ho q
    · exact RI.lv h q
theorem mN_of {M M' : MF} (h : M' 2 0 = M 2 0) : mN M' = mN M := by unfold mN; rw [h]
theorem pN_of {M M' : MF} (h : M' 19 0 = M 19 0) : pN M' = pN M := by unfold pN; rw [h]
theorem rhrA_o {M : MF} {f j : Nat} (h9 : f ≠ 9) (h10 : f ≠ 10) (h17 : f ≠ 17) (h18 : f ≠ 18) (h25 : f ≠ 25) : rhrA M f j = M f j := by unfold rhrA; rw [rpwG_o h9 h10 h17, rprG_o h25, rctG_o h18]
theorem rhrG_o {M : MF} {f j : Nat} (h0 : f ≠ 0) (h9 : f ≠ 9) (h10 : f ≠ 10) (h11 : f ≠ 11) (h17 : f ≠ 17) (h18 : f ≠ 18) (h21 : f ≠ 21) (h23 : f ≠ 23) (h24 : f ≠ 24) (h25 : f ≠ 25) : rhrG M f j = M f j := by
  unfold rhrG
  rw [rlvG_o h21 h23 h24, relG_o h11, show rtkG (rhrA M) f j = rhrA M f j from up_f h0, rhrA_o h9 h10 h17 h18 h25]
theorem rhrsG_o {M : MF} {f j : Nat} (h0 : f ≠ 0) (h9 : f ≠ 9) (h10 : f ≠ 10) (h11 : f ≠ 11) (h17 : f ≠ 17) (h18 : f ≠ 18) (h21 : f ≠ 21) (h23 : f ≠ 23) (h24 : f ≠ 24) (h25 : f ≠ 25) : ∀ z, rhrsG M z f j = M f j
  | 0 => rfl
  | z + 1 => by
    show rhrG (rhrsG M z) f j = M f j
    rw [rhrG_o h0 h9 h10 h11 h17 h18 h21 h23 h24 h25, rhrsG_o h0 h9 h10 h11 h17 h18 h21 h23 h24 h25 z]
theorem RI.hrA {M : MF} (h : RI M) : RI (rhrA M) := ((h.ct _).pr _).pw _
theorem RI.hr {M : MF} (h : RI M) : RI (rhrG M) := ((h.hrA).tk.el _).lv _
theorem RI.hrs {M : MF} (h : RI M) : ∀ j, RI (rhrsG M j)
  | 0 => h
  | j + 1 => (RI.hrs h j).hr
theorem isMB_n {M : MF} (h : RI M) {a : Int32} (hb : isMB M a = true) : a.toNatClampNeg < mN M ∧ a = nI a.toNatClampNeg := by
  have h8 := h.1
  unfold isMB at hb
  rw [h.2.1] at hb
  cases e : mN M with
  | zero =>
    rw [e] at hb
    simp only [inB, Bool.and_eq_true, decide_eq_true_eq] at hb
    have := Int32.le_trans hb.1 hb.2
    exact absurd this (by decide)
  | succ n =>
    rw [e, nI_pred] at hb
    obtain ⟨j, hj, rfl⟩ := inB_nI rfl (by omega) hb
    rw [nI_clamp (by omega)]
    exact ⟨by omega, rfl⟩
theorem isPB_n {M : MF} (h : RI M) {a : Int32} (hb : isPB M a = true) : a.toNatClampNeg < pN M ∧ a = nI a.toNatClampNeg := by
  have h8 := h.2.2.1
  unfold isPB at hb
  rw [h.2.2.2.1] at hb
  cases e : pN M with
  | zero =>
    rw [e] at hb
    simp only [inB, Bool.and_eq_true, decide_eq_true_eq] at hb
    have := Int32.le_trans hb.1 hb.2
    exact absurd this (by decide)
  | succ n =>
    rw [e, nI_pred] at hb
    obtain ⟨j, hj, rfl⟩ := inB_nI rfl (by omega) hb
    rw [nI_clamp (by omega)]
    exact ⟨by omega, rfl⟩
set_option maxHeartbeats 4000000 in
set_option maxRecDepth 100000 in
theorem mX5_in (l : Launch) {D : va_G} {k : Nat → ClassId} {b : Nat} {B : Heap → Prop} (a0 a1 a2 : Int32) : Met l yX5_in (WS yX5_in cX5_in 3 (some .boolean)) ({ frames := 0, cells := 0, slots := 0, locals := 0 }) (P0 D k b (B) [.int a0, .int a1, .int a2]) (Qr (some (.int (b2 (inB a0 a1 a2))))) 0 0 (fun _ => False) := by
  refine Met0 (by decide +kernel) (Nat.le_of_ble_eq_true rfl) (fun p e s m below meth c ls hx hb hr hts hown hml hlocks hnm hC hH hl => ?_)
  have hS : va_S (Fb b) s.heap s.heap [] := va_S.rf
  have hl : lv_has ls 3 [(0, .int a0), (1, .int a1), (2, .int a2)] := hl
  refine lv_iload_n hx hb dX5_in_0 rfl (lv_at hl 0 rfl) ?_
  refine lv_iload_n hx hb dX5_in_1 rfl (lv_at hl 1 rfl) ?_
  refine lv_icmp_lt (tgt := 14) hx hb dX5_in_2 (by decide) (fun c2 => ?_) (fun c2 => ?_)
  · skip
    have c2x := Int32.not_le.mpr c2
    refine lv_iconst (v := 0) hx hb dX5_in_14 (by decide) ?_
    exact e_z hx hb hr hlocks (by simp [inB, b2, c2, c2x]) rfl dX5_in_15
  · skip
    have c2x := Int32.not_lt.mp c2
    refine lv_iload_n hx hb dX5_in_5 rfl (lv_at hl 0 rfl) ?_
    refine lv_iload_n hx hb dX5_in_6 rfl (lv_at hl 2 rfl) ?_
    refine lv_icmp_gt (tgt := 14) hx hb dX5_in_7 (by decide) (fun c7 => ?_) (fun c7 => ?_)
    · skip
      have c7x := Int32.not_le.mpr c7
      refine lv_iconst (v := 0) hx hb dX5_in_14 (by decide) ?_
      exact e_z hx hb hr hlocks (by simp [inB, b2, c2, c2x, c7, c7x]) rfl dX5_in_15
    · skip
      have c7x := Int32.not_lt.mp c7
      refine lv_iconst (v := 1) hx hb dX5_in_10 (by decide) ?_
      refine lv_goto (tgt := 15) hx hb dX5_in_11 (by decide) ?_
      exact e_z hx hb hr hlocks (by simp [inB, b2, c2, c2x, c7, c7x]) rfl dX5_in_15

set_option maxHeartbeats 4000000 in
set_option maxRecDepth 100000 in
theorem mX5_isFarmer (l : Launch) {D : va_G} {k : Nat → ClassId} {b : Nat} {B : Heap → Prop} (a0 : Int32) : Met l yX5_isFarmer (WS yX5_isFarmer cX5_isFarmer 1 (some .boolean)) ({ frames := 1, cells := 0, slots := 0, locals := 22 }) (P0 D k b (B) [.int a0]) (Qr (some (.int (b2 (inB a0 0 5))))) 0 0 (fun _ => False) := by
  refine Met0 (by decide +kernel) (Nat.le_of_ble_eq_true rfl) (fun p e s m below meth c ls hx hb hr hts hown hml hlocks hnm hC hH hl => ?_)
  have hS : va_S (Fb b) s.heap s.heap [] := va_S.rf
  have hl : lv_has ls 1 [(0, .int a0)] := hl
  refine lv_iload_n hx hb dX5_isFarmer_0 rfl (lv_at hl 0 rfl) ?_
  refine lv_iconst (v := 0) hx hb dX5_isFarmer_1 (by decide) ?_
  refine lv_iconst (v := 5) hx hb dX5_isFarmer_2 (by decide) ?_
  refine k_r (va_runS (As := [.int a0, .int 0, .int 5]) (rest := []) ⟨hx, hb, hml, hown, hts⟩ (mX5_in l a0 0 5) ⟨cb_of hts wk_X5_in wi_X5 wm_X5_84 sd_X5_in rfl rfl ⟨Nat.le_of_ble_eq_true rfl, Nat.le_of_ble_eq_true rfl⟩, hts _ wz_X5_in⟩ (P0.pre hC hS hH) rfl rfl hl.1 rfl (lv_room (Nat.le_of_ble_eq_true rfl)) dX5_isFarmer_3 ⟨Nat.le_of_ble_eq_true rfl, Nat.le_of_ble_eq_true rfl⟩) ?_
  refine W.eq (g2 := F0 m 6 ls [.int (b2 (inB a0 0 5))]) rfl ?_
  exact e_z hx hb hr hlocks rfl b2_z dX5_isFarmer_6

set_option maxHeartbeats 4000000 in
set_option maxRecDepth 100000 in
theorem mX5_isMast (l : Launch) {D : va_G} {k : Nat → ClassId} {b : Nat} {ad : Tg → Nat} {g : XS} {M : MF} {o : OF} (a0 : Int32) : Met l yX5_isMast (WS yX5_isMast cX5_isMast 2 (some .boolean)) ({ frames := 1, cells := 0, slots := 0, locals := 22 }) (P0 D k b (Wo D k b ad g M o) [.ref (ad (7, 0, 0)), .int a0]) (Qr (some (.int (b2 (isMB M a0))))) 0 0 (fun _ => False) := by
  refine Met0 (by decide +kernel) (Nat.le_of_ble_eq_true rfl) (fun p e s m below meth c ls hx hb hr hts hown hml hlocks hnm hC hH hl => ?_)
  have hS : va_S (Fb b) s.heap s.heap [] := va_S.rf
  have hl : lv_has ls 2 [(0, .ref (ad (7, 0, 0))), (1, .int a0)] := hl
  refine lv_iload_n hx hb dX5_isMast_0 rfl (lv_at hl 1 rfl) ?_
  refine lv_iconst (v := 0) hx hb dX5_isMast_1 (by decide) ?_
  refine lv_aload_n hx hb dX5_isMast_2 rfl (lv_at hl 0 rfl) ?_
  refine g5 hx hb hts hown hC hH 2 (by decide) wf_X5_81 (v := .int (M 2 0)) rfl dX5_isMast_3 ?_
  refine lv_iconst (v := 1) hx hb dX5_isMast_6 (by decide) ?_
  refine lv_isub hx hb dX5_isMast_7 ?_
  refine k_r (va_runS (As := [.int a0, .int 0, .int ((M 2 0) - 1)]) (rest := []) ⟨hx, hb, hml, hown, hts⟩ (mX5_in l a0 0 ((M 2 0) - 1)) ⟨cb_of hts wk_X5_in wi_X5 wm_X5_84 sd_X5_in rfl rfl ⟨Nat.le_of_ble_eq_true rfl, Nat.le_of_ble_eq_true rfl⟩, hts _ wz_X5_in⟩ (P0.pre hC hS hH) rfl rfl hl.1 rfl (lv_room (Nat.le_of_ble_eq_true rfl)) dX5_isMast_8 ⟨Nat.le_of_ble_eq_true rfl, Nat.le_of_ble_eq_true rfl⟩) ?_
  refine W.eq (g2 := F0 m 11 ls [.int (b2 (inB a0 0 ((M 2 0) - 1)))]) rfl ?_
  exact e_z hx hb hr hlocks rfl b2_z dX5_isMast_11

set_option maxHeartbeats 4000000 in
set_option maxRecDepth 100000 in
theorem mX5_isPhone (l : Launch) {D : va_G} {k : Nat → ClassId} {b : Nat} {ad : Tg → Nat} {g : XS} {M : MF} {o : OF} (a0 : Int32) : Met l yX5_isPhone (WS yX5_isPhone cX5_isPhone 2 (some .boolean)) ({ frames := 1, cells := 0, slots := 0, locals := 22 }) (P0 D k b (Wo D k b ad g M o) [.ref (ad (7, 0, 0)), .int a0]) (Qr (some (.int (b2 (isPB M a0))))) 0 0 (fun _ => False) := by
  refine Met0 (by decide +kernel) (Nat.le_of_ble_eq_true rfl) (fun p e s m below meth c ls hx hb hr hts hown hml hlocks hnm hC hH hl => ?_)
  have hS : va_S (Fb b) s.heap s.heap [] := va_S.rf
  have hl : lv_has ls 2 [(0, .ref (ad (7, 0, 0))), (1, .int a0)] := hl
  refine lv_iload_n hx hb dX5_isPhone_0 rfl (lv_at hl 1 rfl) ?_
  refine lv_iconst (v := 0) hx hb dX5_isPhone_1 (by decide) ?_
  refine lv_aload_n hx hb dX5_isPhone_2 rfl (lv_at hl 0 rfl) ?_
  refine g5 hx hb hts hown hC hH 19 (by decide) wf_X5_88 (v := .int (M 19 0)) rfl dX5_isPhone_3 ?_
  refine lv_iconst (v := 1) hx hb dX5_isPhone_6 (by decide) ?_
  refine lv_isub hx hb dX5_isPhone_7 ?_
  refine k_r (va_runS (As := [.int a0, .int 0, .int ((M 19 0) - 1)]) (rest := []) ⟨hx, hb, hml, hown, hts⟩ (mX5_in l a0 0 ((M 19 0) - 1)) ⟨cb_of hts wk_X5_in wi_X5 wm_X5_84 sd_X5_in rfl rfl ⟨Nat.le_of_ble_eq_true rfl, Nat.le_of_ble_eq_true rfl⟩, hts _ wz_X5_in⟩ (P0.pre hC hS hH) rfl rfl hl.1 rfl (lv_room (Nat.le_of_ble_eq_true rfl)) dX5_isPhone_8 ⟨Nat.le_of_ble_eq_true rfl, Nat.le_of_ble_eq_true rfl⟩) ?_
  refine W.eq (g2 := F0 m 11 ls [.int (b2 (inB a0 0 ((M 19 0) - 1)))]) rfl ?_
  exact e_z hx hb hr hlocks rfl b2_z dX5_isPhone_11

set_option maxHeartbeats 4000000 in
set_option maxRecDepth 100000 in
theorem mX5_thrown (l : Launch) {D : va_G} {k : Nat → ClassId} {b : Nat} {ad : Tg → Nat} {g : XS} {M : MF} {o : OF}  : Met l yX5_thrown (WS yX5_thrown cX5_thrown 1 (some .int)) ({ frames := 0, cells := 0, slots := 0, locals := 0 }) (P0 D k b (Wo D k b ad g M o) [.ref (ad (7, 0, 0))]) (Qr (some (.int (M 26 0)))) 0 0 (fun _ => False) := by
  refine Met0 (by decide +kernel) (Nat.le_of_ble_eq_true rfl) (fun p e s m below meth c ls hx hb hr hts hown hml hlocks hnm hC hH hl => ?_)
  have hS : va_S (Fb b) s.heap s.heap [] := va_S.rf
  have hl : lv_has ls 1 [(0, .ref (ad (7, 0, 0)))] := hl
  refine lv_aload_n hx hb dX5_thrown_0 rfl (lv_at hl 0 rfl) ?_
  refine g5 hx hb hts hown hC hH 26 (by decide) wf_X5_77 (v := .int (M 26 0)) rfl dX5_thrown_1 ?_
  exact e_i hx hb hr hlocks rfl dX5_thrown_4

set_option maxHeartbeats 4000000 in
set_option maxRecDepth 100000 in
theorem mX5_isLeased (l : Launch) {D : va_G} {k : Nat → ClassId} {b : Nat} {ad : Tg → Nat} {g : XS} {M : MF} {o : OF} (i : Nat) (hi : i < 8) : Met l yX5_isLeased (WS yX5_isLeased cX5_isLeased 2 (some .boolean)) ({ frames := 0, cells := 0, slots := 0, locals := 0 }) (P0 D k b (Wo D k b ad g M o) [.ref (ad (7, 0, 0)), .int (nI i)]) (Qr (some (.int (b2 (rlB M i))))) 0 0 (fun _ => False) := by
  refine Met0 (by decide +kernel) (Nat.le_of_ble_eq_true rfl) (fun p e s m below meth c ls hx hb hr hts hown hml hlocks hnm hC hH hl => ?_)
  have hS : va_S (Fb b) s.heap s.heap [] := va_S.rf
  have hl : lv_has ls 2 [(0, .ref (ad (7, 0, 0))), (1, .int (nI i))] := hl
  refine lv_aload_n hx hb dX5_isLeased_0 rfl (lv_at hl 0 rfl) ?_
  refine g5 hx hb hts hown hC hH 11 (by decide) wf_X5_35 (v := .ref (ad (8, 11, 0))) rfl dX5_isLeased_1 ?_
  refine lv_iload_n hx hb dX5_isLeased_4 rfl (lv_at hl 1 rfl) ?_
  refine rLdN hx hb hC hH 11 (by decide) (by decide) (i := i) (show i < 8 by omega) dX5_isLeased_5 ?_
  refine lv_iconst (v := (-1)) hx hb dX5_isLeased_6 (by decide) ?_
  refine lv_icmp_eq (tgt := 14) hx hb dX5_isLeased_7 (by decide) (fun c7 => ?_) (fun c7 => ?_)
  · skip
    refine lv_iconst (v := 0) hx hb dX5_isLeased_14 (by decide) ?_
    exact e_z hx hb hr hlocks (by simp [rlB, b2, c7]) rfl dX5_isLeased_15
  · skip
    refine lv_iconst (v := 1) hx hb dX5_isLeased_10 (by decide) ?_
    refine lv_goto (tgt := 15) hx hb dX5_isLeased_11 (by decide) ?_
    exact e_z hx hb hr hlocks (by simp [rlB, b2, c7]) rfl dX5_isLeased_15

set_option maxHeartbeats 4000000 in
set_option maxRecDepth 100000 in
theorem mX5_isOn (l : Launch) {D : va_G} {k : Nat → ClassId} {b : Nat} {ad : Tg → Nat} {g : XS} {M : MF} {o : OF} (i : Nat) (hi : i < 8) : Met l yX5_isOn (WS yX5_isOn cX5_isOn 2 (some .boolean)) ({ frames := 1, cells := 0, slots := 0, locals := 21 }) (P0 D k b (Wo D k b ad g M o) [.ref (ad (7, 0, 0)), .int (nI i)]) (Qr (some (.int (b2 (roB M i))))) 0 0 (fun _ => False) := by
  refine Met0 (by decide +kernel) (Nat.le_of_ble_eq_true rfl) (fun p e s m below meth c ls hx hb hr hts hown hml hlocks hnm hC hH hl => ?_)
  have hS : va_S (Fb b) s.heap s.heap [] := va_S.rf
  have hl : lv_has ls 2 [(0, .ref (ad (7, 0, 0))), (1, .int (nI i))] := hl
  refine lv_aload_n hx hb dX5_isOn_0 rfl (lv_at hl 0 rfl) ?_
  refine lv_iload_n hx hb dX5_isOn_1 rfl (lv_at hl 1 rfl) ?_
  refine k_r (va_runV (As := [.int (nI i)]) (rest := []) ⟨hx, hb, hml, hown, hts⟩ (mX5_isLeased l (M := M) i (by omega)) ⟨cb_of hts wk_X5_isLeased wi_X5 wm_X5_91 sd_X5_isLeased rfl rfl ⟨Nat.le_of_ble_eq_true rfl, Nat.le_of_ble_eq_true rfl⟩, hts _ wv_X5_isLeased, hts _ wl_X5_isLeased⟩ (P0.preV hC hS hH (Hp.recv hC.1 hH (7, 0, 0) ⟨rfl, rfl⟩ rfl rfl)) rfl rfl hl.1 rfl (lv_room (Nat.le_of_ble_eq_true rfl)) dX5_isOn_2 ⟨Nat.le_of_ble_eq_true rfl, Nat.le_of_ble_eq_true rfl⟩) ?_
  refine W.eq (g2 := F0 m 5 ls [.int (b2 (rlB M i))]) rfl ?_
  refine lv_if_eq (tgt := 21) hx hb dX5_isOn_5 (by decide) (fun c5 => ?_) (fun c5 => ?_)
  · skip
    have c5 := b2_0.mp c5
    refine lv_iconst (v := 0) hx hb dX5_isOn_21 (by decide) ?_
    exact e_z hx hb hr hlocks (by simp [roB, b2, c5]) rfl dX5_isOn_22
  · skip
    have c5 := b2_n0.mp c5
    refine lv_aload_n hx hb dX5_isOn_8 rfl (lv_at hl 0 rfl) ?_
    refine g5 hx hb hts hown hC hH 10 (by decide) wf_X5_32 (v := .ref (ad (8, 10, 0))) rfl dX5_isOn_9 ?_
    refine lv_iload_n hx hb dX5_isOn_12 rfl (lv_at hl 1 rfl) ?_
    refine rLzN hx hb hC hH 10 (by decide) (by decide) (i := i) (show i < 8 by omega) dX5_isOn_13 ?_
    refine lv_if_ne (tgt := 21) hx hb dX5_isOn_14 (by decide) (fun c14 => ?_) (fun c14 => ?_)
    · skip
      refine lv_iconst (v := 0) hx hb dX5_isOn_21 (by decide) ?_
      exact e_z hx hb hr hlocks (by simp [roB, b2, c5, c14]) rfl dX5_isOn_22
    · skip
      refine lv_iconst (v := 1) hx hb dX5_isOn_17 (by decide) ?_
      refine lv_goto (tgt := 22) hx hb dX5_isOn_18 (by decide) ?_
      exact e_z hx hb hr hlocks (by simp [roB, b2, c5, c14]) rfl dX5_isOn_22

set_option maxHeartbeats 4000000 in
set_option maxRecDepth 100000 in
theorem mX5_apart (l : Launch) {D : va_G} {k : Nat → ClassId} {b : Nat} {ad : Tg → Nat} {g : XS} {M : MF} {o : OF} (i : Nat) (hi : i < 8) (a0 : Int32) : Met l yX5_apart (WS yX5_apart cX5_apart 4 (some .int)) ({ frames := 0, cells := 0, slots := 0, locals := 0 }) (P0 D k b (Wo D k b ad g M o) [.ref (ad (7, 0, 0)), .int (nI i), .int a0]) (Qr (some (.int (apI M i a0)))) 0 0 (fun _ => False) := by
  refine Met0 (by decide +kernel) (Nat.le_of_ble_eq_true rfl) (fun p e s m below meth c ls hx hb hr hts hown hml hlocks hnm hC hH hl => ?_)
  have hS : va_S (Fb b) s.heap s.heap [] := va_S.rf
  have hl : lv_has ls 4 [(0, .ref (ad (7, 0, 0))), (1, .int (nI i)), (2, .int a0)] := hl
  refine lv_aload_n hx hb dX5_apart_0 rfl (lv_at hl 0 rfl) ?_
  refine g5 hx hb hts hown hC hH 3 (by decide) wf_X5_7 (v := .ref (ad (8, 3, 0))) rfl dX5_apart_1 ?_
  refine lv_iload_n hx hb dX5_apart_4 rfl (lv_at hl 1 rfl) ?_
  refine rLdN hx hb hC hH 3 (by decide) (by decide) (i := i) (show i < 8 by omega) dX5_apart_5 ?_
  refine lv_iload_n hx hb dX5_apart_6 rfl (lv_at hl 2 rfl) ?_
  refine lv_isub hx hb dX5_apart_7 ?_
  refine lv_istore_n (lv' := [(3, .int ((M 3 i) - a0)), (0, .ref (ad (7, 0, 0))), (1, .int (nI i)), (2, .int a0)]) hx hb dX5_apart_8 rfl hl (by decide) rfl (fun ls hl => ?_)
  refine lv_iload_n hx hb dX5_apart_9 rfl (lv_at hl 0 rfl) ?_
  refine lv_if_ge (tgt := 18) hx hb dX5_apart_10 (by decide) (fun c10 => ?_) (fun c10 => ?_)
  · skip
    have c10x := Int32.not_lt.mpr c10
    refine lv_iload_n hx hb dX5_apart_18 rfl (lv_at hl 0 rfl) ?_
    exact e_i hx hb hr hlocks (by simp [apI, c10, c10x]) dX5_apart_19
  · skip
    have c10x := Int32.not_le.mp c10
    refine lv_iload_n hx hb dX5_apart_13 rfl (lv_at hl 0 rfl) ?_
    refine lv_ineg hx hb dX5_apart_14 ?_
    refine lv_goto (tgt := 19) hx hb dX5_apart_15 (by decide) ?_
    exact e_i hx hb hr hlocks (by simp [apI, c10, c10x]) dX5_apart_19

set_option maxHeartbeats 4000000 in
set_option maxRecDepth 100000 in
theorem mX5_covers (l : Launch) {D : va_G} {k : Nat → ClassId} {b : Nat} {ad : Tg → Nat} {g : XS} {M : MF} {o : OF} (i : Nat) (hi : i < 8) (a0 : Int32) : Met l yX5_covers (WS yX5_covers cX5_covers 3 (some .boolean)) ({ frames := 1, cells := 0, slots := 0, locals := 23 }) (P0 D k b (Wo D k b ad g M o) [.ref (ad (7, 0, 0)), .int (nI i), .int a0]) (Qr (some (.int (b2 (rcB M i a0))))) 0 0 (fun _ => False) := by
  refine Met0 (by decide +kernel) (Nat.le_of_ble_eq_true rfl) (fun p e s m below meth c ls hx hb hr hts hown hml hlocks hnm hC hH hl => ?_)
  have hS : va_S (Fb b) s.heap s.heap [] := va_S.rf
  have hl : lv_has ls 3 [(0, .ref (ad (7, 0, 0))), (1, .int (nI i)), (2, .int a0)] := hl
  refine lv_aload_n hx hb dX5_covers_0 rfl (lv_at hl 0 rfl) ?_
  refine lv_iload_n hx hb dX5_covers_1 rfl (lv_at hl 1 rfl) ?_
  refine lv_iload_n hx hb dX5_covers_2 rfl (lv_at hl 2 rfl) ?_
  refine k_r (va_runV (As := [.int (nI i), .int a0]) (rest := []) ⟨hx, hb, hml, hown, hts⟩ (mX5_apart l (M := M) i (by omega) a0) ⟨cb_of hts wk_X5_apart wi_X5 wm_X5_95 sd_X5_apart rfl rfl ⟨Nat.le_of_ble_eq_true rfl, Nat.le_of_ble_eq_true rfl⟩, hts _ wv_X5_apart, hts _ wl_X5_apart⟩ (P0.preV hC hS hH (Hp.recv hC.1 hH (7, 0, 0) ⟨rfl, rfl⟩ rfl rfl)) rfl rfl hl.1 rfl (lv_room (Nat.le_of_ble_eq_true rfl)) dX5_covers_3 ⟨Nat.le_of_ble_eq_true rfl, Nat.le_of_ble_eq_true rfl⟩) ?_
  refine W.eq (g2 := F0 m 6 ls [.int (apI M i a0)]) rfl ?_
  refine lv_aload_n hx hb dX5_covers_6 rfl (lv_at hl 0 rfl) ?_
  refine g5 hx hb hts hown hC hH 4 (by decide) wf_X5_13 (v := .ref (ad (8, 4, 0))) rfl dX5_covers_7 ?_
  refine lv_iload_n hx hb dX5_covers_10 rfl (lv_at hl 1 rfl) ?_
  refine rLdN hx hb hC hH 4 (by decide) (by decide) (i := i) (show i < 8 by omega) dX5_covers_11 ?_
  refine lv_icmp_gt (tgt := 19) hx hb dX5_covers_12 (by decide) (fun c12 => ?_) (fun c12 => ?_)
  · skip
    have c12x := Int32.not_le.mpr c12
    refine lv_iconst (v := 0) hx hb dX5_covers_19 (by decide) ?_
    exact e_z hx hb hr hlocks (by simp [rcB, b2, c12, c12x]) rfl dX5_covers_20
  · skip
    have c12x := Int32.not_lt.mp c12
    refine lv_iconst (v := 1) hx hb dX5_covers_15 (by decide) ?_
    refine lv_goto (tgt := 20) hx hb dX5_covers_16 (by decide) ?_
    exact e_z hx hb hr hlocks (by simp [rcB, b2, c12, c12x]) rfl dX5_covers_20

set_option maxHeartbeats 4000000 in
set_option maxRecDepth 100000 in
theorem mX5_carries (l : Launch) {D : va_G} {k : Nat → ClassId} {b : Nat} {ad : Tg → Nat} {g : XS} {M : MF} {o : OF} (hR : RI M) (a0 : Int32) : Met l yX5_carries (WS yX5_carries cX5_carries 4 (some .int)) ({ frames := 0, cells := 0, slots := 0, locals := 0 }) (P0 D k b (Wo D k b ad g M o) [.ref (ad (7, 0, 0)), .int a0]) (Qr (some (.int (caI M a0 (pN M))))) 0 0 (fun _ => False) := by
  refine Met0 (by decide +kernel) (Nat.le_of_ble_eq_true rfl) (fun p e s m below meth c ls hx hb hr hts hown hml hlocks hnm hC hH hl => ?_)
  have hS : va_S (Fb b) s.heap s.heap [] := va_S.rf
  have hl : lv_has ls 4 [(0, .ref (ad (7, 0, 0))), (1, .int a0)] := hl
  have h12 := hR.2.2.1
  refine lv_iconst (v := 0) hx hb dX5_carries_0 (by decide) ?_
  refine lv_istore_n (lv' := [(2, .int 0), (0, .ref (ad (7, 0, 0))), (1, .int a0)]) hx hb dX5_carries_1 rfl hl (by decide) rfl (fun ls hl => ?_)
  refine lv_iconst (v := nI 0) hx hb dX5_carries_2 (by decide) ?_
  refine lv_istore_n (lv' := [(3, .int (nI 0)), (2, .int 0), (0, .ref (ad (7, 0, 0))), (1, .int a0)]) hx hb dX5_carries_3 rfl hl (by decide) rfl (fun ls hl => ?_)
  refine loop_r (pN M) (fun i ls => lv_has ls 4 [(0, .ref (ad (7, 0, 0))), (1, .int a0), (2, .int (caI M a0 i)), (3, .int (nI i))]) (fun i hi ls hJ0 ih => ?_) (fun ls hJ0 => ?_) (lv_sub hl [2, 3, 1, 0] rfl)
  · skip
    have hl := hJ0
    refine lv_iload_n hx hb dX5_carries_4 rfl (lv_at hl 3 rfl) ?_
    refine lv_aload_n hx hb dX5_carries_5 rfl (lv_at hl 0 rfl) ?_
    refine g5 hx hb hts hown hC hH 19 (by decide) wf_X5_88 (v := .int (M 19 0)) rfl dX5_carries_6 ?_
    refine W.eq (g2 := F0 m 9 ls [.int (nI (pN M)), .int (nI i)]) (by rw [show M 19 0 = _ from hR.2.2.2.1]) ?_
    refine lv_icmp_ge (tgt := 36) hx hb dX5_carries_9 (by decide) (fun c9 => absurd c9 (nI_ge hi (by omega))) (fun c9 => ?_)
    refine lv_iload_n hx hb dX5_carries_12 rfl (lv_at hl 2 rfl) ?_
    refine lv_aload_n hx hb dX5_carries_13 rfl (lv_at hl 0 rfl) ?_
    refine g5 hx hb hts hown hC hH 21 (by decide) wf_X5_62 (v := .ref (ad (8, 21, 0))) rfl dX5_carries_14 ?_
    refine lv_iload_n hx hb dX5_carries_17 rfl (lv_at hl 3 rfl) ?_
    refine rLdN hx hb hC hH 21 (by decide) (by decide) (i := i) (show i < 12 by omega) dX5_carries_18 ?_
    refine lv_iload_n hx hb dX5_carries_19 rfl (lv_at hl 1 rfl) ?_
    refine lv_icmp_ne (tgt := 27) hx hb dX5_carries_20 (by decide) (fun c20 => ?_) (fun c20 => ?_)
    · skip
      refine lv_iconst (v := 0) hx hb dX5_carries_27 (by decide) ?_
      refine lv_iadd hx hb dX5_carries_28 ?_
      refine lv_istore_n (lv' := [(2, .int ((caI M a0 i) + 0)), (0, .ref (ad (7, 0, 0))), (1, .int a0), (3, .int (nI i))]) hx hb dX5_carries_29 rfl hl (by decide) rfl (fun ls hl => ?_)
      refine lv_iinc (v := nI (i + 1)) (lv' := [(3, .int (nI (i + 1))), (2, .int ((caI M a0 i) + 0)), (0, .ref (ad (7, 0, 0))), (1, .int a0)]) hx hb dX5_carries_30 hl (k := 3) rfl (by rw [← nI_add]; rfl) (by decide) rfl (fun ls hl => ?_)
      refine lv_goto (tgt := 4) hx hb dX5_carries_33 (by decide) ?_
      refine ih ls ?_
      have h9 : caI M a0 (i + 1) = (caI M a0 i) + 0 := by simp [caI, c20]
      rw [h9]
      exact lv_sub hl [2, 3, 1, 0] rfl
    · skip
      refine lv_iconst (v := 1) hx hb dX5_carries_23 (by decide) ?_
      refine lv_goto (tgt := 28) hx hb dX5_carries_24 (by decide) ?_
      refine lv_iadd hx hb dX5_carries_28 ?_
      refine lv_istore_n (lv' := [(2, .int ((caI M a0 i) + 1)), (0, .ref (ad (7, 0, 0))), (1, .int a0), (3, .int (nI i))]) hx hb dX5_carries_29 rfl hl (by decide) rfl (fun ls hl => ?_)
      refine lv_iinc (v := nI (i + 1)) (lv' := [(3, .int (nI (i + 1))), (2, .int ((caI M a0 i) + 1)), (0, .ref (ad (7, 0, 0))), (1, .int a0)]) hx hb dX5_carries_30 hl (k := 3) rfl (by rw [← nI_add]; rfl) (by decide) rfl (fun ls hl => ?_)
      refine lv_goto (tgt := 4) hx hb dX5_carries_33 (by decide) ?_
      refine ih ls ?_
      have h9 : caI M a0 (i + 1) = (caI M a0 i) + 1 := by simp [caI, c20]
      rw [h9]
      exact lv_sub hl [2, 3, 1, 0] rfl
  · skip
    have hl := hJ0
    refine lv_iload_n hx hb dX5_carries_4 rfl (lv_at hl 3 rfl) ?_
    refine lv_aload_n hx hb dX5_carries_5 rfl (lv_at hl 0 rfl) ?_
    refine g5 hx hb hts hown hC hH 19 (by decide) wf_X5_88 (v := .int (M 19 0)) rfl dX5_carries_6 ?_
    refine W.eq (g2 := F0 m 9 ls [.int (nI (pN M)), .int (nI (pN M))]) (by rw [show M 19 0 = _ from hR.2.2.2.1]) ?_
    refine lv_icmp_ge (tgt := 36) hx hb dX5_carries_9 (by decide) (fun c9 => ?_) (fun c9 => absurd (nI_le (Nat.le_refl _) (by omega)) c9)
    refine lv_iload_n hx hb dX5_carries_36 rfl (lv_at hl 2 rfl) ?_
    exact e_i hx hb hr hlocks rfl dX5_carries_37

set_option maxHeartbeats 4000000 in
set_option maxRecDepth 100000 in
theorem mX5_mastFor (l : Launch) {D : va_G} {k : Nat → ClassId} {b : Nat} {ad : Tg → Nat} {g : XS} {M : MF} {o : OF} (hR : RI M) (a0 : Int32) : Met l yX5_mastFor (WS yX5_mastFor cX5_mastFor 5 (some .int)) ({ frames := 2, cells := 0, slots := 0, locals := 45 }) (P0 D k b (Wo D k b ad g M o) [.ref (ad (7, 0, 0)), .int a0]) (Qr (some (.int (cdI (mf M a0 (mN M)))))) 0 0 (fun _ => False) := by
  refine Met0 (by decide +kernel) (Nat.le_of_ble_eq_true rfl) (fun p e s m below meth c ls hx hb hr hts hown hml hlocks hnm hC hH hl => ?_)
  have hS : va_S (Fb b) s.heap s.heap [] := va_S.rf
  have hl : lv_has ls 5 [(0, .ref (ad (7, 0, 0))), (1, .int a0)] := hl
  have h8 := hR.1
  refine lv_iconst (v := (-1)) hx hb dX5_mastFor_0 (by decide) ?_
  refine lv_istore_n (lv' := [(2, .int (-1)), (0, .ref (ad (7, 0, 0))), (1, .int a0)]) hx hb dX5_mastFor_1 rfl hl (by decide) rfl (fun ls hl => ?_)
  refine lv_iconst (v := nI 0) hx hb dX5_mastFor_2 (by decide) ?_
  refine lv_istore_n (lv' := [(3, .int (nI 0)), (2, .int (-1)), (0, .ref (ad (7, 0, 0))), (1, .int a0)]) hx hb dX5_mastFor_3 rfl hl (by decide) rfl (fun ls hl => ?_)
  refine loop_r (mN M) (fun i ls => lv_has ls 5 [(0, .ref (ad (7, 0, 0))), (1, .int a0), (2, .int (cdI (mf M a0 i))), (3, .int (nI i))]) (fun i hi ls hJ0 ih => ?_) (fun ls hJ0 => ?_) (lv_sub hl [2, 3, 1, 0] rfl)
  · skip
    have hl := hJ0
    have h7 := mf_le M a0 i
    refine lv_iload_n hx hb dX5_mastFor_4 rfl (lv_at hl 3 rfl) ?_
    refine lv_aload_n hx hb dX5_mastFor_5 rfl (lv_at hl 0 rfl) ?_
    refine g5 hx hb hts hown hC hH 2 (by decide) wf_X5_81 (v := .int (M 2 0)) rfl dX5_mastFor_6 ?_
    refine W.eq (g2 := F0 m 9 ls [.int (nI (mN M)), .int (nI i)]) (by rw [show M 2 0 = _ from hR.2.1]) ?_
    refine lv_icmp_ge (tgt := 87) hx hb dX5_mastFor_9 (by decide) (fun c9 => absurd c9 (nI_ge hi (by omega))) (fun c9 => ?_)
    refine lv_aload_n hx hb dX5_mastFor_12 rfl (lv_at hl 0 rfl) ?_
    refine lv_iload_n hx hb dX5_mastFor_13 rfl (lv_at hl 3 rfl) ?_
    refine k_r (va_runV (As := [.int (nI i)]) (rest := []) ⟨hx, hb, hml, hown, hts⟩ (mX5_isOn l (M := M) i (by omega)) ⟨cb_of hts wk_X5_isOn wi_X5 wm_X5_111 sd_X5_isOn rfl rfl ⟨Nat.le_of_ble_eq_true rfl, Nat.le_of_ble_eq_true rfl⟩, hts _ wv_X5_isOn, hts _ wl_X5_isOn⟩ (P0.preV hC hS hH (Hp.recv hC.1 hH (7, 0, 0) ⟨rfl, rfl⟩ rfl rfl)) rfl rfl hl.1 rfl (lv_room (Nat.le_of_ble_eq_true rfl)) dX5_mastFor_14 ⟨Nat.le_of_ble_eq_true rfl, Nat.le_of_ble_eq_true rfl⟩) ?_
    refine W.eq (g2 := F0 m 17 ls [.int (b2 (roB M i))]) rfl ?_
    refine lv_if_eq (tgt := 47) hx hb dX5_mastFor_17 (by decide) (fun c17 => ?_) (fun c17 => ?_)
    · skip
      have c17 := b2_0.mp c17
      refine lv_iconst (v := 0) hx hb dX5_mastFor_47 (by decide) ?_
      refine lv_istore (lv' := [(4, .int 0), (0, .ref (ad (7, 0, 0))), (1, .int a0), (2, .int (cdI (mf M a0 i))), (3, .int (nI i))]) hx hb dX5_mastFor_48 hl (by decide) rfl (fun ls hl => ?_)
      refine lv_iload hx hb dX5_mastFor_50 (lv_at hl 0 rfl) ?_
      refine lv_if_eq (tgt := 79) hx hb dX5_mastFor_52 (by decide) (fun _ => ?_) (fun c => absurd c (by decide))
      refine lv_iload_n hx hb dX5_mastFor_79 rfl (lv_at hl 3 rfl) ?_
      refine lv_istore_n (lv' := [(2, .int (cdI (mf M a0 i))), (4, .int 0), (0, .ref (ad (7, 0, 0))), (1, .int a0), (3, .int (nI i))]) hx hb dX5_mastFor_80 rfl hl (by decide) rfl (fun ls hl => ?_)
      refine lv_iinc (v := nI (i + 1)) (lv' := [(3, .int (nI (i + 1))), (2, .int (cdI (mf M a0 i))), (4, .int 0), (0, .ref (ad (7, 0, 0))), (1, .int a0)]) hx hb dX5_mastFor_81 hl (k := 4) rfl (by rw [← nI_add]; rfl) (by decide) rfl (fun ls hl => ?_)
      refine lv_goto (tgt := 4) hx hb dX5_mastFor_84 (by decide) ?_
      refine ih ls ?_
      have h9 : mf M a0 (i + 1) = mf M a0 i := by simp [mf, fitB, c17]
      rw [h9]
      exact lv_sub hl [3, 4, 1, 0] rfl
    · skip
      have c17 := b2_n0.mp c17
      refine lv_aload_n hx hb dX5_mastFor_20 rfl (lv_at hl 0 rfl) ?_
      refine lv_iload_n hx hb dX5_mastFor_21 rfl (lv_at hl 3 rfl) ?_
      refine lv_iload_n hx hb dX5_mastFor_22 rfl (lv_at hl 1 rfl) ?_
      refine k_r (va_runV (As := [.int (nI i), .int a0]) (rest := []) ⟨hx, hb, hml, hown, hts⟩ (mX5_covers l (M := M) i (by omega) a0) ⟨cb_of hts wk_X5_covers wi_X5 wm_X5_114 sd_X5_covers rfl rfl ⟨Nat.le_of_ble_eq_true rfl, Nat.le_of_ble_eq_true rfl⟩, hts _ wv_X5_covers, hts _ wl_X5_covers⟩ (P0.preV hC hS hH (Hp.recv hC.1 hH (7, 0, 0) ⟨rfl, rfl⟩ rfl rfl)) rfl rfl hl.1 rfl (lv_room (Nat.le_of_ble_eq_true rfl)) dX5_mastFor_23 ⟨Nat.le_of_ble_eq_true rfl, Nat.le_of_ble_eq_true rfl⟩) ?_
      refine W.eq (g2 := F0 m 26 ls [.int (b2 (rcB M i a0))]) rfl ?_
      refine lv_if_eq (tgt := 47) hx hb dX5_mastFor_26 (by decide) (fun c26 => ?_) (fun c26 => ?_)
      · skip
        have c26 := b2_0.mp c26
        refine lv_iconst (v := 0) hx hb dX5_mastFor_47 (by decide) ?_
        refine lv_istore (lv' := [(4, .int 0), (0, .ref (ad (7, 0, 0))), (1, .int a0), (2, .int (cdI (mf M a0 i))), (3, .int (nI i))]) hx hb dX5_mastFor_48 hl (by decide) rfl (fun ls hl => ?_)
        refine lv_iload hx hb dX5_mastFor_50 (lv_at hl 0 rfl) ?_
        refine lv_if_eq (tgt := 79) hx hb dX5_mastFor_52 (by decide) (fun _ => ?_) (fun c => absurd c (by decide))
        refine lv_iload_n hx hb dX5_mastFor_79 rfl (lv_at hl 3 rfl) ?_
        refine lv_istore_n (lv' := [(2, .int (cdI (mf M a0 i))), (4, .int 0), (0, .ref (ad (7, 0, 0))), (1, .int a0), (3, .int (nI i))]) hx hb dX5_mastFor_80 rfl hl (by decide) rfl (fun ls hl => ?_)
        refine lv_iinc (v := nI (i + 1)) (lv' := [(3, .int (nI (i + 1))), (2, .int (cdI (mf M a0 i))), (4, .int 0), (0, .ref (ad (7, 0, 0))), (1, .int a0)]) hx hb dX5_mastFor_81 hl (k := 4) rfl (by rw [← nI_add]; rfl) (by decide) rfl (fun ls hl => ?_)
        refine lv_goto (tgt := 4) hx hb dX5_mastFor_84 (by decide) ?_
        refine ih ls ?_
        have h9 : mf M a0 (i + 1) = mf M a0 i := by simp [mf, fitB, c17, c26]
        rw [h9]
        exact lv_sub hl [3, 4, 1, 0] rfl
      · skip
        have c26 := b2_n0.mp c26
        refine lv_aload_n hx hb dX5_mastFor_29 rfl (lv_at hl 0 rfl) ?_
        refine lv_iload_n hx hb dX5_mastFor_30 rfl (lv_at hl 3 rfl) ?_
        refine k_r (va_runV (As := [.int (nI i)]) (rest := []) ⟨hx, hb, hml, hown, hts⟩ (mX5_carries l (M := M) hR (nI i)) ⟨cb_of hts wk_X5_carries wi_X5 wm_X5_118 sd_X5_carries rfl rfl ⟨Nat.le_of_ble_eq_true rfl, Nat.le_of_ble_eq_true rfl⟩, hts _ wv_X5_carries, hts _ wl_X5_carries⟩ (P0.preV hC hS hH (Hp.recv hC.1 hH (7, 0, 0) ⟨rfl, rfl⟩ rfl rfl)) rfl rfl hl.1 rfl (lv_room (Nat.le_of_ble_eq_true rfl)) dX5_mastFor_31 ⟨Nat.le_of_ble_eq_true rfl, Nat.le_of_ble_eq_true rfl⟩) ?_
        refine W.eq (g2 := F0 m 34 ls [.int (caI M (nI i) (pN M))]) rfl ?_
        refine lv_aload_n hx hb dX5_mastFor_34 rfl (lv_at hl 0 rfl) ?_
        refine g5 hx hb hts hown hC hH 5 (by decide) wf_X5_16 (v := .ref (ad (8, 5, 0))) rfl dX5_mastFor_35 ?_
        refine lv_iload_n hx hb dX5_mastFor_38 rfl (lv_at hl 3 rfl) ?_
        refine rLdN hx hb hC hH 5 (by decide) (by decide) (i := i) (show i < 8 by omega) dX5_mastFor_39 ?_
        refine lv_icmp_ge (tgt := 47) hx hb dX5_mastFor_40 (by decide) (fun c40 => ?_) (fun c40 => ?_)
        · skip
          have c40x := Int32.not_lt.mpr c40
          refine lv_iconst (v := 0) hx hb dX5_mastFor_47 (by decide) ?_
          refine lv_istore (lv' := [(4, .int 0), (0, .ref (ad (7, 0, 0))), (1, .int a0), (2, .int (cdI (mf M a0 i))), (3, .int (nI i))]) hx hb dX5_mastFor_48 hl (by decide) rfl (fun ls hl => ?_)
          refine lv_iload hx hb dX5_mastFor_50 (lv_at hl 0 rfl) ?_
          refine lv_if_eq (tgt := 79) hx hb dX5_mastFor_52 (by decide) (fun _ => ?_) (fun c => absurd c (by decide))
          refine lv_iload_n hx hb dX5_mastFor_79 rfl (lv_at hl 3 rfl) ?_
          refine lv_istore_n (lv' := [(2, .int (cdI (mf M a0 i))), (4, .int 0), (0, .ref (ad (7, 0, 0))), (1, .int a0), (3, .int (nI i))]) hx hb dX5_mastFor_80 rfl hl (by decide) rfl (fun ls hl => ?_)
          refine lv_iinc (v := nI (i + 1)) (lv' := [(3, .int (nI (i + 1))), (2, .int (cdI (mf M a0 i))), (4, .int 0), (0, .ref (ad (7, 0, 0))), (1, .int a0)]) hx hb dX5_mastFor_81 hl (k := 4) rfl (by rw [← nI_add]; rfl) (by decide) rfl (fun ls hl => ?_)
          refine lv_goto (tgt := 4) hx hb dX5_mastFor_84 (by decide) ?_
          refine ih ls ?_
          have h9 : mf M a0 (i + 1) = mf M a0 i := by simp [mf, fitB, c17, c26, c40, c40x]
          rw [h9]
          exact lv_sub hl [3, 4, 1, 0] rfl
        · skip
          have c40x := Int32.not_le.mp c40
          refine lv_iconst (v := 1) hx hb dX5_mastFor_43 (by decide) ?_
          refine lv_goto (tgt := 48) hx hb dX5_mastFor_44 (by decide) ?_
          refine lv_istore (lv' := [(4, .int 1), (0, .ref (ad (7, 0, 0))), (1, .int a0), (2, .int (cdI (mf M a0 i))), (3, .int (nI i))]) hx hb dX5_mastFor_48 hl (by decide) rfl (fun ls hl => ?_)
          refine lv_iload hx hb dX5_mastFor_50 (lv_at hl 0 rfl) ?_
          refine lv_if_eq (tgt := 79) hx hb dX5_mastFor_52 (by decide) (fun c => absurd c (by decide)) (fun _ => ?_)
          refine lv_iload_n hx hb dX5_mastFor_55 rfl (lv_at hl 3 rfl) ?_
          refine lv_iconst (v := (-1)) hx hb dX5_mastFor_56 (by decide) ?_
          refine lv_icmp_eq (tgt := 75) hx hb dX5_mastFor_57 (by decide) (fun c57 => ?_) (fun c57 => ?_)
          · skip
            rw [cdI_m (by omega)] at c57
            refine lv_iload_n hx hb dX5_mastFor_75 rfl (lv_at hl 4 rfl) ?_
            refine lv_goto (tgt := 80) hx hb dX5_mastFor_76 (by decide) ?_
            refine lv_istore_n (lv' := [(2, .int (nI i)), (4, .int 1), (0, .ref (ad (7, 0, 0))), (1, .int a0), (3, .int (nI i))]) hx hb dX5_mastFor_80 rfl hl (by decide) rfl (fun ls hl => ?_)
            refine lv_iinc (v := nI (i + 1)) (lv' := [(3, .int (nI (i + 1))), (2, .int (nI i)), (4, .int 1), (0, .ref (ad (7, 0, 0))), (1, .int a0)]) hx hb dX5_mastFor_81 hl (k := 4) rfl (by rw [← nI_add]; rfl) (by decide) rfl (fun ls hl => ?_)
            refine lv_goto (tgt := 4) hx hb dX5_mastFor_84 (by decide) ?_
            refine ih ls ?_
            have h9 : mf M a0 (i + 1) = i + 1 := by simp [mf, fitB, c17, c26, c40, c40x, c57]
            rw [h9, cdI_s]
            exact lv_sub hl [3, 4, 1, 0] rfl
          · skip
            rw [cdI_m (by omega)] at c57
            refine lv_aload_n hx hb dX5_mastFor_60 rfl (lv_at hl 1 rfl) ?_
            refine lv_iload_n hx hb dX5_mastFor_61 rfl (lv_at hl 4 rfl) ?_
            refine lv_iload_n hx hb dX5_mastFor_62 rfl (lv_at hl 2 rfl) ?_
            refine k_r (va_runV (As := [.int (nI i), .int a0]) (rest := []) ⟨hx, hb, hml, hown, hts⟩ (mX5_apart l (M := M) i (by omega) a0) ⟨cb_of hts wk_X5_apart wi_X5 wm_X5_95 sd_X5_apart rfl rfl ⟨Nat.le_of_ble_eq_true rfl, Nat.le_of_ble_eq_true rfl⟩, hts _ wv_X5_apart, hts _ wl_X5_apart⟩ (P0.preV hC hS hH (Hp.recv hC.1 hH (7, 0, 0) ⟨rfl, rfl⟩ rfl rfl)) rfl rfl hl.1 rfl (lv_room (Nat.le_of_ble_eq_true rfl)) dX5_mastFor_63 ⟨Nat.le_of_ble_eq_true rfl, Nat.le_of_ble_eq_true rfl⟩) ?_
            refine W.eq (g2 := F0 m 66 ls [.int (apI M i a0)]) rfl ?_
            refine lv_aload_n hx hb dX5_mastFor_66 rfl (lv_at hl 1 rfl) ?_
            refine lv_iload_n hx hb dX5_mastFor_67 rfl (lv_at hl 3 rfl) ?_
            refine W.eq (g2 := F0 m 68 ls [.int (nI (mf M a0 i - 1)), .ref (ad (7, 0, 0)), .int (apI M i a0)]) (by rw [cdI_n c57]) ?_
            refine lv_iload_n hx hb dX5_mastFor_68 rfl (lv_at hl 2 rfl) ?_
            refine k_r (va_runV (As := [.int (nI (mf M a0 i - 1)), .int a0]) (rest := [.int (apI M i a0)]) ⟨hx, hb, hml, hown, hts⟩ (mX5_apart l (M := M) (mf M a0 i - 1) (by omega) a0) ⟨cb_of hts wk_X5_apart wi_X5 wm_X5_95 sd_X5_apart rfl rfl ⟨Nat.le_of_ble_eq_true rfl, Nat.le_of_ble_eq_true rfl⟩, hts _ wv_X5_apart, hts _ wl_X5_apart⟩ (P0.preV hC hS hH (Hp.recv hC.1 hH (7, 0, 0) ⟨rfl, rfl⟩ rfl rfl)) rfl rfl hl.1 rfl (lv_room (Nat.le_of_ble_eq_true rfl)) dX5_mastFor_69 ⟨Nat.le_of_ble_eq_true rfl, Nat.le_of_ble_eq_true rfl⟩) ?_
            refine W.eq (g2 := F0 m 72 ls [.int (apI M (mf M a0 i - 1) a0), .int (apI M i a0)]) rfl ?_
            refine lv_icmp_ge (tgt := 79) hx hb dX5_mastFor_72 (by decide) (fun c72 => ?_) (fun c72 => ?_)
            · skip
              have c72x := Int32.not_lt.mpr c72
              refine lv_iload_n hx hb dX5_mastFor_79 rfl (lv_at hl 3 rfl) ?_
              refine lv_istore_n (lv' := [(2, .int (cdI (mf M a0 i))), (4, .int 1), (0, .ref (ad (7, 0, 0))), (1, .int a0), (3, .int (nI i))]) hx hb dX5_mastFor_80 rfl hl (by decide) rfl (fun ls hl => ?_)
              refine lv_iinc (v := nI (i + 1)) (lv' := [(3, .int (nI (i + 1))), (2, .int (cdI (mf M a0 i))), (4, .int 1), (0, .ref (ad (7, 0, 0))), (1, .int a0)]) hx hb dX5_mastFor_81 hl (k := 4) rfl (by rw [← nI_add]; rfl) (by decide) rfl (fun ls hl => ?_)
              refine lv_goto (tgt := 4) hx hb dX5_mastFor_84 (by decide) ?_
              refine ih ls ?_
              have h9 : mf M a0 (i + 1) = mf M a0 i := by simp [mf, fitB, c17, c26, c40, c40x, c57, c72, c72x]
              rw [h9]
              exact lv_sub hl [3, 4, 1, 0] rfl
            · skip
              have c72x := Int32.not_le.mp c72
              refine lv_iload_n hx hb dX5_mastFor_75 rfl (lv_at hl 4 rfl) ?_
              refine lv_goto (tgt := 80) hx hb dX5_mastFor_76 (by decide) ?_
              refine lv_istore_n (lv' := [(2, .int (nI i)), (4, .int 1), (0, .ref (ad (7, 0, 0))), (1, .int a0), (3, .int (nI i))]) hx hb dX5_mastFor_80 rfl hl (by decide) rfl (fun ls hl => ?_)
              refine lv_iinc (v := nI (i + 1)) (lv' := [(3, .int (nI (i + 1))), (2, .int (nI i)), (4, .int 1), (0, .ref (ad (7, 0, 0))), (1, .int a0)]) hx hb dX5_mastFor_81 hl (k := 4) rfl (by rw [← nI_add]; rfl) (by decide) rfl (fun ls hl => ?_)
              refine lv_goto (tgt := 4) hx hb dX5_mastFor_84 (by decide) ?_
              refine ih ls ?_
              have h9 : mf M a0 (i + 1) = i + 1 := by simp [mf, fitB, c17, c26, c40, c40x, c57, c72, c72x]
              rw [h9, cdI_s]
              exact lv_sub hl [3, 4, 1, 0] rfl
  · skip
    have hl := hJ0
    refine lv_iload_n hx hb dX5_mastFor_4 rfl (lv_at hl 3 rfl) ?_
    refine lv_aload_n hx hb dX5_mastFor_5 rfl (lv_at hl 0 rfl) ?_
    refine g5 hx hb hts hown hC hH 2 (by decide) wf_X5_81 (v := .int (M 2 0)) rfl dX5_mastFor_6 ?_
    refine W.eq (g2 := F0 m 9 ls [.int (nI (mN M)), .int (nI (mN M))]) (by rw [show M 2 0 = _ from hR.2.1]) ?_
    refine lv_icmp_ge (tgt := 87) hx hb dX5_mastFor_9 (by decide) (fun c9 => ?_) (fun c9 => absurd (nI_le (Nat.le_refl _) (by omega)) c9)
    refine lv_iload_n hx hb dX5_mastFor_87 rfl (lv_at hl 2 rfl) ?_
    exact e_i hx hb hr hlocks rfl dX5_mastFor_88
