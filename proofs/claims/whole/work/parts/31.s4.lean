/-! an hour, second: counts, rents, power, leases -/
theorem ctrG_x {g : XS} {f j : Nat} (h : f ≠ 12) : ∀ i, (ctrG g i).1 f j = g.1 f j
  | 0 => rfl
  | i + 1 => by
    unfold ctrG
    split
    · rw [show ∀ y : XS, ∀ v, (sx y 12 i v).1 f j = y.1 f j from fun y v => up_f (x := y.1) (v := v) h]; exact ctrG_x h i
    · exact ctrG_x h i
theorem prsG_x {g : XS} {f j : Nat} (h : f ≠ 42) : ∀ i, (prsG g i).1 f j = g.1 f j
  | 0 => rfl
  | i + 1 => by
    unfold prsG
    split
    · rw [prnG_x h]; exact prsG_x h i
    · exact prsG_x h i
theorem sx_n {g : XS} {f i a j : Nat} {v : Int32} (h : a ≠ f) : (sx g f i v).1 a j = g.1 a j := up_f h
theorem tkpG_x {g : XS} {i : Nat} {s : Int32} {f j : Nat} (h8 : f ≠ 8) (h10 : f ≠ 10) (h11 : f ≠ 11) : (tkpG g i s).1 f j = g.1 f j := by
  unfold tkpG
  split
  · exact sx_n h8
  · split
    · rw [sx_n h10, sx_n h8]
    · split
      · rw [sx_n h10, sx_n h8, sx_n h8]
      · rw [sx_n h10, sx_n h11, sx_n h8]
theorem pwsG_x {g : XS} {f j : Nat} (h8 : f ≠ 8) (h10 : f ≠ 10) (h11 : f ≠ 11) : ∀ i, (pwsG g i).1 f j = g.1 f j
  | 0 => rfl
  | i + 1 => by
    unfold pwsG
    split
    · rw [tkpG_x h8 h10 h11]; exact pwsG_x h8 h10 h11 i
    · exact pwsG_x h8 h10 h11 i
theorem tkG_x {g : XS} {f j : Nat} (h : f ≠ 40) : (tkG g).1 f j = g.1 f j := sx_n h
theorem Cr.of {g g' : XS} (h : Cr g) (h2 : g'.2.1 = g.2.1) (h9 : ∀ i, g'.1 9 i = g.1 9 i) : Cr g' := by
  intro i hi
  rw [h2] at hi
  rw [h9, h i hi]
  exact (caG_cg (by rw [h2]) (fun q _ => by rw [h2]) 12).symm
/-- a mast that is off carries nothing -/
def Z9 (g : XS) : Prop := ∀ i, i < g.2.1 0 0 → onB g i = false → g.1 9 i = 0
theorem caG_no {g : XS} {i : Nat} (h : ∀ q, q < g.2.1 1 0 → ¬ g.2.1 3 q = i + 1) : ∀ n, caG g i n = 0
  | 0 => rfl
  | n + 1 => by rw [caG, caG_no h n, if_neg (fun x => h n x.1 x.2)]; rfl
theorem Z9_of {g : XS} (hC : Cr g) (hG : CG g) : Z9 g := by
  intro i hi ho
  rw [hC i hi]
  refine caG_no (fun q hq e => ?_) 12
  have := (hG q hq).1 (by omega)
  rw [e, Nat.add_sub_cancel, ho] at this
  exact absurd this (by decide)
theorem Z9.of {g g' : XS} (h : Z9 g) (h2 : g'.2.1 = g.2.1) (h9 : ∀ i, g'.1 9 i = g.1 9 i) (h8 : ∀ i, g'.1 8 i = g.1 8 i) : Z9 g' := by
  intro i hi ho
  rw [h2] at hi
  rw [onB_cg (by rw [h2]) (h8 i)] at ho
  rw [h9]
  exact h i hi ho
theorem ctr_Rg {g : XS} {M : MF} (hX : XI g) (hC : Cr g) (hR : Rg g M) : ∀ i, Rg (ctrG g i) (rctG M (min i (g.2.1 0 0)))
  | 0 => by rw [Nat.zero_min]; exact hR
  | i + 1 => by
    have ih := ctr_Rg hX hC hR i
    by_cases hi : i < g.2.1 0 0
    · rw [Nat.min_eq_left (by omega)] at ih ⊢
      have hX1 := hX.ctr i
      have hC1 := hC.of (g' := ctrG g i) (ctrG_n i) (fun j => ctrG_x (by decide) i)
      have hi1 : i < (ctrG g i).2.1 0 0 := by rw [ctrG_n]; exact hi
      unfold ctrG rctG
      generalize ctrG g i = g1 at ih hX1 hC1 hi1
      generalize rctG M i = M1 at ih
      rw [on_eq ih hi1, ca_eq ih hX1 hC1 hi1]
      have e18 := (ih.2.2.1 i hi1).2.2.2
      by_cases c : onB g1 i = true
      · rw [if_pos ⟨hi1, c⟩, if_pos c]
        exact ih.mast (by simp) hi1 (by rw [e18])
      · rw [if_neg (fun x => c x.2), if_neg c, up_id (by simp)]
        exact ih
    · rw [Nat.min_eq_right (by omega)] at ih ⊢
      unfold ctrG
      rw [if_neg (fun x => hi (by have := x.1; rwa [ctrG_n] at this))]
      exact ih
theorem ctr_12 {g : XS} {j : Nat} (hj : j < g.2.1 0 0) : ∀ i, (ctrG g i).1 12 j = if j < i ∧ onB g j = true then g.1 12 j + g.1 9 j else g.1 12 j
  | 0 => by rw [if_neg (by omega)]; rfl
  | i + 1 => by
    have ih := ctr_12 hj i
    unfold ctrG
    by_cases e : j = i
    · subst e
      rw [if_neg (by omega)] at ih
      rw [ctrG_n, onB_cg (g := g) (by rw [ctrG_n]) (ctrG_x (by decide) j)]
      by_cases c : onB g j = true
      · rw [if_pos ⟨hj, c⟩, if_pos ⟨by omega, c⟩]
        show up _ 12 j _ 12 j = _
        rw [up_s, ih, ctrG_x (by decide)]
      · rw [if_neg (fun x => c x.2), if_neg (fun x => c x.2)]
        exact ih
    · have e2 : ∀ (y : XS) v, (sx y 12 i v).1 12 j = y.1 12 j := fun y v => up_i e
      have e3 : (j < i + 1 ∧ onB g j = true) ↔ (j < i ∧ onB g j = true) := by constructor <;> (intro x; exact ⟨by omega, x.2⟩)
      rw [← (by simp only [e3] : (if j < i + 1 ∧ onB g j = true then g.1 12 j + g.1 9 j else g.1 12 j) = if j < i ∧ onB g j = true then g.1 12 j + g.1 9 j else g.1 12 j)] at ih
      split
      · rw [e2]; exact ih
      · exact ih
def GF (g : XS) : Prop := ∀ i, i < g.2.1 0 0 → ¬ g.2.1 2 i = 0 → inB (g.1 20 i) 0 5 = true ∧ (g.1 21 i = -1 ∨ inB (g.1 21 i) 0 5 = true)
theorem pay_Rg {g : XS} {M : MF} (hR : Rg g M) {f v w : Int32} (hf : inB f 0 5 = true) (hv : w = v) : Rg (payG g f v) (up M 25 f.toNatClampNeg (M 25 f.toNatClampNeg + w)) := by
  unfold payG
  rw [if_pos hf]
  obtain ⟨k, hk, rfl⟩ := inB_nI (n := 5) rfl (by decide) hf
  rw [nI_clamp (by omega)]
  exact hR.pay (by rw [hR.1.2.2.2.2 k (by omega), hv])
theorem prn_Rg {g : XS} {M : MF} (hX : XI g) (hC : Cr g) (hZ : Z9 g) (hF : GF g) (hR : Rg g M) {i : Nat} (hi : i < g.2.1 0 0) (hl : ¬ g.2.1 2 i = 0) : Rg (prnG g i (g.1 9 i)) (rpG M i) := by
  obtain ⟨f1, f2⟩ := hF i hi hl
  obtain ⟨l1, l2, l3, l4, l5, l6, l7⟩ := (hR.2.2.2.1 i hi).2 hl
  have hs : rsm M i = g.1 24 i + g.1 25 i * g.1 9 i := by
    unfold rsm
    rw [l6, l7, on_eq hR hi, ca_eq hR hX hC hi]
    by_cases c : onB g i = true
    · rw [if_pos c]
    · rw [if_neg c, hZ i hi (by simpa using c)]
  unfold rpG rpA prnG
  rw [hs, l3, l4, l5]
  have h1 := pay_Rg hR (v := (g.1 24 i + g.1 25 i * g.1 9 i) * g.1 22 i / 10) f1 rfl
  by_cases c : g.1 21 i = -1
  · rw [if_pos c, c]
    rw [payG, if_neg (by decide)]
    exact h1
  · rw [if_neg c]
    exact pay_Rg h1 (f2.resolve_left c) rfl
theorem prs_Rg {g : XS} {M : MF} (hX : XI g) (hC : Cr g) (hZ : Z9 g) (hF : GF g) (hR : Rg g M) : ∀ i, Rg (prsG g i) (rprG M (min i (g.2.1 0 0)))
  | 0 => by rw [Nat.zero_min]; exact hR
  | i + 1 => by
    have ih := prs_Rg hX hC hZ hF hR i
    by_cases hi : i < g.2.1 0 0
    · rw [Nat.min_eq_left (by omega)] at ih ⊢
      have hX1 := hX.prs i
      have hC1 := hC.of (g' := prsG g i) (prsG_n i) (fun j => prsG_x (by decide) i)
      have hZ1 := hZ.of (g' := prsG g i) (prsG_n i) (fun j => prsG_x (by decide) i) (fun j => prsG_x (by decide) i)
      have hF1 : GF (prsG g i) := fun j hj hl => by
        rw [prsG_n] at hj hl
        rw [prsG_x (by decide), prsG_x (by decide)]
        exact hF j hj hl
      have hi1 : i < (prsG g i).2.1 0 0 := by rw [prsG_n]; exact hi
      unfold prsG rprG
      generalize prsG g i = g1 at ih hX1 hC1 hi1 hZ1 hF1
      generalize rprG M i = M1 at ih
      by_cases c : g1.2.1 2 i = 0
      · rw [if_neg (fun x => x.2 c), if_neg (fun x => (rl_eq ih hi1).mp x c)]
        exact ih
      · rw [if_pos ⟨hi1, c⟩, if_pos ((rl_eq ih hi1).mpr c)]
        exact prn_Rg hX1 hC1 hZ1 hF1 ih hi1 c
    · rw [Nat.min_eq_right (by omega)] at ih ⊢
      unfold prsG
      rw [if_neg (fun x => hi (by have := x.1; rwa [prsG_n] at this))]
      exact ih
def GC (g : XS) : Prop := ∀ i, i < g.2.1 0 0 → ∃ z, z ≤ 100 ∧ g.1 5 i = nI z
theorem nlt_le {x y : Int32} : ¬ x < y ↔ y ≤ x := Int32.not_lt
theorem tkp_Rg {g : XS} {M : MF} (hX : XI g) (hC : Cr g) (hG : GC g) (hR : Rg g M) {i : Nat} (hi : i < g.2.1 0 0) : Rg (tkpG g i (g.1 41 0)) (if rlB M i = true then rwG M i else up M 10 i 0) := by
  by_cases c : g.2.1 2 i = 0
  · rw [if_neg (fun x => (rl_eq hR hi).mp x c)]
    unfold tkpG
    rw [if_pos c]
    exact hR.mast (by simp) hi rfl
  · rw [if_pos ((rl_eq hR hi).mpr c)]
    obtain ⟨s1, s2, s3, s4, s5, s6⟩ := hR.2.1 i hi
    obtain ⟨d1, d2, d3, d4⟩ := hR.2.2.1 i hi
    have hh : rhas M i = g.1 10 i + g.1 4 i * g.1 41 0 := by unfold rhas; rw [s4, d2, hR.1.2.2.2.1]; grind
    have hn : rnds M i = 2 + g.1 9 i := by unfold rnds; rw [ca_eq hR hX hC hi]
    unfold rwG rkp rwo tkpG
    rw [hh, hn, s5, s6, d3, if_neg c]
    generalize g.1 10 i + g.1 4 i * g.1 41 0 = has
    generalize 2 + g.1 9 i = ned
    by_cases c1 : ned ≤ has
    · rw [if_pos c1]
      have c2 : ¬ has < ned := nlt_le.mpr c1
      rw [show (decide (has < ned) && decide (g.1 6 i = 0)) = false by simp [c2], if_neg (c := has < ned ∧ ¬ g.1 6 i = 0) (fun x => c2 x.1), if_neg (c := false = true) (by decide), if_neg c2, b2_f]
      rw [up_id (f := 17) (by rw [up_f (by decide), d3]; simp)]
      exact (hR.mast (v := 0) (by simp) hi rfl).mast (by simp) hi rfl
    · rw [if_neg c1]
      have c2 : has < ned := Decidable.byContradiction (fun x => c1 (nlt_le.mp x))
      by_cases c6 : g.1 6 i = 0
      · rw [if_pos c6, show (decide (has < ned) && decide (g.1 6 i = 0)) = true by simp [c2, c6], if_neg (c := has < ned ∧ ¬ g.1 6 i = 0) (fun x => x.2 c6), if_pos (c := true = true) rfl, b2_t]
        rw [up_id (f := 17) (by rw [up_f (by decide), d3]; simp), show sx (sx g 8 i 0) 8 i 1 = sx g 8 i 1 by simp only [sx, up_up]]
        exact (hR.mast (v := 1) (by simp) hi rfl).mast (by simp) hi rfl
      · rw [if_neg c6, show (decide (has < ned) && decide (g.1 6 i = 0)) = false by simp [c6], if_pos (c := has < ned ∧ ¬ g.1 6 i = 0) ⟨c2, c6⟩, if_neg (c := false = true) (by decide), if_pos c2, b2_f]
        obtain ⟨z, hz, ez⟩ := hG i hi
        rw [if_neg (c := g.1 5 i < 0) (by rw [ez]; exact nI_pos (by omega))]
        exact ((hR.mast (v := 0) (by simp) hi rfl).mast (f := 17) (F := 11) (by simp) hi rfl).mast (by simp) hi rfl
theorem pws_Rg {g : XS} {M : MF} (hX : XI g) (hC : Cr g) (hG : GC g) (hR : Rg g M) : ∀ i, Rg (pwsG g i) (rpwG M (min i (g.2.1 0 0)))
  | 0 => by rw [Nat.zero_min]; exact hR
  | i + 1 => by
    have ih := pws_Rg hX hC hG hR i
    by_cases hi : i < g.2.1 0 0
    · rw [Nat.min_eq_left (by omega)] at ih ⊢
      have hX1 := hX.pws i
      have hC1 := hC.of (g' := pwsG g i) (pwsG_n i) (fun j => pwsG_x (by decide) (by decide) (by decide) i)
      have hG1 : GC (pwsG g i) := fun j hj => by
        rw [pwsG_n] at hj
        rw [pwsG_x (by decide) (by decide) (by decide)]
        exact hG j hj
      have hi1 : i < (pwsG g i).2.1 0 0 := by rw [pwsG_n]; exact hi
      unfold pwsG rpwG
      generalize pwsG g i = g1 at ih hX1 hC1 hi1 hG1
      generalize rpwG M i = M1 at ih
      rw [if_pos hi1]
      exact tkp_Rg hX1 hC1 hG1 ih hi1
    · rw [Nat.min_eq_right (by omega)] at ih ⊢
      unfold pwsG
      rw [if_neg (fun x => hi (by rwa [pwsG_n] at x))]
      exact ih
def GE (g : XS) : Prop := ∀ i, i < g.2.1 0 0 → ¬ g.2.1 2 i = 0 → g.1 40 0 ≤ g.1 23 i
theorem els_Rg {g : XS} {M : MF} (hE : GE g) (hR : Rg g M) : ∀ i, Rg (elsG g i) (relG M (min i (g.2.1 0 0))) ∧ GE (elsG g i)
  | 0 => by rw [Nat.zero_min]; exact ⟨hR, hE⟩
  | i + 1 => by
    obtain ⟨ih, hE1⟩ := els_Rg hE hR i
    by_cases hi : i < g.2.1 0 0
    · rw [Nat.min_eq_left (by omega)] at ih ⊢
      have hi1 : i < (elsG g i).2.1 0 0 := by rw [elsG_n (by decide)]; exact hi
      unfold elsG relG
      generalize elsG g i = g1 at ih hE1 hi1
      generalize relG M i = M1 at ih
      have hl := ih.2.2.2.1 i hi1
      have h0 := ih.1.2.2.1
      by_cases c : g1.2.1 2 i = 0
      · rw [if_neg (fun x => x.2.1 c), hl.1 c, up_id (by rw [hl.1 c]; split <;> rfl)]
        exact ⟨ih, hE1⟩
      · have hl2 := hl.2 c
        rw [hl2.1, h0]
        by_cases c2 : g1.1 23 i ≤ g1.1 40 0
        · rw [if_pos ⟨hi1, c, c2⟩, if_pos (Int32.le_antisymm c2 (hE1 i hi1 c))]
          refine ⟨ih.un, fun j hj hn => ?_⟩
          by_cases e : j = i
          · subst e; exact absurd up_s hn
          · exact hE1 j hj (fun x => hn (by rw [show (sn g1 2 i 0).2.1 2 j = g1.2.1 2 j from up_i e]; exact x))
        · rw [if_neg (fun x => c2 x.2.2), if_neg (fun x => c2 (by rw [x]; exact Int32.le_refl _)), up_id hl2.1]
          exact ⟨ih, hE1⟩
    · rw [Nat.min_eq_right (by omega)] at ih ⊢
      unfold elsG
      rw [if_neg (fun x => hi (by have := x.1; rwa [elsG_n (by decide)] at this))]
      exact ⟨ih, hE1⟩
theorem els_2 {g : XS} {j : Nat} (hj : j < g.2.1 0 0) : ∀ i, j < i → ¬ (elsG g i).2.1 2 j = 0 → ¬ g.2.1 2 j = 0 ∧ ¬ g.1 23 j ≤ g.1 40 0
  | 0, h, _ => absurd h (by omega)
  | i + 1, hi, h => by
    unfold elsG at h
    by_cases e : j = i
    · subst e
      split at h
      · exact absurd up_s h
      · next c =>
        have e2 : ∀ z, z ≤ j → (elsG g z).2.1 2 j = g.2.1 2 j := fun z => by
          induction z with
          | zero => exact fun _ => rfl
          | succ z ih =>
            intro hz
            unfold elsG
            split
            · rw [show (sn (elsG g z) 2 z 0).2.1 2 j = (elsG g z).2.1 2 j from up_i (by omega)]; exact ih (by omega)
            · exact ih (by omega)
        rw [e2 j (Nat.le_refl _)] at h
        refine ⟨h, fun x => c ⟨by rw [elsG_n (by decide)]; exact hj, by rw [e2 j (Nat.le_refl _)]; exact h, by rw [elsG_x]; exact x⟩⟩
    · refine els_2 hj i (by omega) ?_
      split at h
      · rwa [show (sn (elsG g i) 2 i 0).2.1 2 j = (elsG g i).2.1 2 j from up_i e] at h
      · exact h
