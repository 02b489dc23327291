/-! an hour, first: a call that is handed over -/
theorem up_co {α : Type} {x : Nat → Nat → α} {f i e j : Nat} {v w : α} (h : f ≠ e) : up (up x f i v) e j w = up (up x e j w) f i v := by
  funext a t
  unfold up
  by_cases c1 : a = e ∧ t = j
  · rw [if_pos c1, if_neg (fun c2 => h (c2.1.symm.trans c1.1)), if_pos c1]
  · rw [if_neg c1]
    by_cases c2 : a = f ∧ t = i
    · rw [if_pos c2, if_pos c2]
    · rw [if_neg c2, if_neg c2, if_neg c1]
theorem hndA_x {g : XS} {q r : Nat} {f j : Nat} (h9 : f ≠ 9) (h32 : f ≠ 32) (h34 : f ≠ 34) (h35 : f ≠ 35) : (hndA g q r).1 f j = g.1 f j := by
  unfold hndA
  split
  · exact up_f h34
  · rw [comG_1, if_neg (fun x => h9 x.1), if_neg (fun x => h32 x.1)]
    exact up_f h35
theorem hndG_x {g : XS} {q : Nat} {f j : Nat} (h9 : f ≠ 9) (h32 : f ≠ 32) (h34 : f ≠ 34) (h35 : f ≠ 35) : (hndG g q).1 f j = g.1 f j := by
  unfold hndG
  rw [hndA_x h9 h32 h34 h35, goG_x h9]
theorem hndA_3 {g : XS} {q r : Nat} {j : Nat} (h : g.2.1 3 q = 0) : (hndA g q r).2.1 3 j = if j = q then r else g.2.1 3 j := by
  unfold hndA
  by_cases c : r = 0
  · rw [if_pos c]
    by_cases e : j = q
    · subst e; rw [if_pos rfl, c]; exact h
    · rw [if_neg e]
  · rw [if_neg c, comG_3, Nat.sub_add_cancel (by omega)]
theorem onB_cg {g g' : XS} {i : Nat} (h2 : g'.2.1 2 i = g.2.1 2 i) (h8 : g'.1 8 i = g.1 8 i) : onB g' i = onB g i := by unfold onB; rw [h2, h8]
theorem cvB_cg {g g' : XS} {i : Nat} {p : Int32} (h1 : g'.1 1 i = g.1 1 i) (h2 : g'.1 2 i = g.1 2 i) : cvB g' i p = cvB g i p := by unfold cvB dsI; rw [h1, h2]
theorem onq_cg {g g' : XS} {q : Nat} (h : onq g q) (h3 : g'.2.1 3 q = g.2.1 3 q) (h2 : ∀ i, g'.2.1 2 i = g.2.1 2 i) (h8 : ∀ i, g'.1 8 i = g.1 8 i) : onq g' q := by
  unfold onq
  rw [h3, onB_cg (h2 _) (h8 _)]
  exact h
theorem cvq_cg {g g' : XS} {q : Nat} (h : cvq g q) (h3 : g'.2.1 3 q = g.2.1 3 q) (h1 : ∀ i, g'.1 1 i = g.1 1 i) (h2 : ∀ i, g'.1 2 i = g.1 2 i) (h30 : g'.1 30 q = g.1 30 q) : cvq g' q := by
  unfold cvq
  rw [h3, cvB_cg (h1 _) (h2 _), h30]
  exact h
theorem nf_ct {g : XS} {p : Int32} : ∀ j, ¬ nf g p j = 0 → ctB g (nf g p j - 1) p = true
  | 0, h => absurd rfl h
  | j + 1, h => by
    unfold nf at h ⊢
    split at h
    · next c => rw [if_pos c]; exact c.2.1
    · next c => rw [if_neg c]; exact nf_ct j h
theorem TI.sx {g : XS} (h : TI g) {f i : Nat} {v : Int32} (h40 : 40 ≠ f) (h32 : 32 ≠ f) (h9 : 9 ≠ f) (h12 : 12 ≠ f) : TI (sx g f i v) := h.of rfl rfl (fun _ => rfl) (fun _ => rfl) rfl (up_f (x := g.1) (v := v) h40) (fun _ _ => up_f (x := g.1) (v := v) h32) (fun _ _ => up_f (x := g.1) (v := v) h9) (fun _ _ => up_f (x := g.1) (v := v) h12)
theorem hnd_TI {g : XS} {q : Nat} (hX : XI g) (hT : TI g) (hq : q < g.2.1 1 0) (hn : ¬ g.2.1 3 q = 0) : TI (hndG g q) := by
  unfold hndG
  have hT1 := hT.go hX hq hn
  have hX1 := hX.go (h := g.1 40 0) hq hn
  have e3 : (goG g q (g.1 40 0)).2.1 3 q = 0 := by rw [goG_3, if_pos rfl]
  have hq1 : q < (goG g q (g.1 40 0)).2.1 1 0 := by rw [goG_n (by decide) (by decide)]; exact hq
  generalize goG g q (g.1 40 0) = g1 at hT1 hX1 e3 hq1
  have hl := nf_le g1 (g1.1 30 q) 8
  generalize nf g1 (g1.1 30 q) 8 = r at hl
  unfold hndA
  by_cases c : r = 0
  · rw [if_pos c]
    exact hT1.sx (by decide) (by decide) (by decide) (by decide)
  · rw [if_neg c]
    exact TI.com (g := sx g1 35 q (g1.1 35 q + 1)) (hT1.sx (by decide) (by decide) (by decide) (by decide)) (hX1.of rfl rfl) hq1 e3 (show r - 1 < g1.2.1 0 0 by omega)
theorem hnd_Rg {g : XS} {M : MF} {q : Nat} (hX : XI g) (hT : TI g) (hR : Rg g M) (hq : q < g.2.1 1 0) (hn : ¬ g.2.1 3 q = 0) : Rg (hndG g q) (rhG M q) := by
  have e20 : M 20 q = (goG g q (g.1 40 0)).1 30 q := by rw [goG_x (by decide)]; exact (hR.2.2.2.2.1 q hq).1
  have hmN : mN M = mN (up M 21 q (-1)) := (mN_of (up_f (by decide))).symm
  have e23 : M 23 q = (up M 21 q (-1)) 23 q := (up_f (by decide)).symm
  have e24 : M 24 q = (up M 21 q (-1)) 24 q := (up_f (by decide)).symm
  have e21 : (up M 21 q (-1)) 21 q = -1 := up_s
  unfold rhG rhA hndG
  rw [hmN, e20, e23, e24, up_up]
  have hT1 := hT.go hX hq hn
  have hX1 := hX.go (h := g.1 40 0) hq hn
  have hR1 := hR.go (q := q) (z := g.1 40 0)
  have hq1 : q < (goG g q (g.1 40 0)).2.1 1 0 := by rw [goG_n (by decide) (by decide)]; exact hq
  rw [← up_up (x := M) (f := 21) (i := q) (w := -1)]
  generalize goG g q (g.1 40 0) = g1 at hT1 hX1 hR1 hq1
  generalize up M 21 q (-1) = M1 at hR1 e21
  rw [nf_eq hR1 hX1 hT1.Cr]
  have hl := nf_le g1 (g1.1 30 q) 8
  have h8 := hX1.1
  generalize nf g1 (g1.1 30 q) 8 = r at hl
  obtain ⟨p1, p2, p3, p4, p5⟩ := hR1.2.2.2.2.1 q hq1
  rw [up_s]
  unfold hndA
  by_cases c : r = 0
  · rw [if_pos c, c, cdI_0, if_pos rfl, up_id e21]
    exact hR1.phone (f := 23) (F := 34) (by simp) hq1 (by rw [p4])
  · rw [if_neg c, if_neg (fun x => c ((cdI_m (by omega)).mp x)), up_co (by decide), cdI_n c]
    exact Rg.com (hR1.phone (f := 24) (F := 35) (by simp) hq1 (by rw [p5]))
theorem hnd_cv {g : XS} {q : Nat} (hX : XI g) (hq : q < g.2.1 1 0) (hn : ¬ g.2.1 3 q = 0) : onq (hndG g q) q ∧ cvq (hndG g q) q := by
  have hx : ∀ f j, f ≠ 9 → f ≠ 32 → f ≠ 34 → f ≠ 35 → (hndG g q).1 f j = (goG g q (g.1 40 0)).1 f j := fun f j h9 h32 h34 h35 => by unfold hndG; exact hndA_x h9 h32 h34 h35
  have h2 : ∀ j, (hndG g q).2.1 2 j = (goG g q (g.1 40 0)).2.1 2 j := fun j => by unfold hndG; exact hndA_n (by decide)
  have h3 : (hndG g q).2.1 3 q = nf (goG g q (g.1 40 0)) ((goG g q (g.1 40 0)).1 30 q) 8 := by
    unfold hndG
    rw [hndA_3 (by rw [goG_3, if_pos rfl]), if_pos rfl]
  unfold onq cvq
  rw [h3, onB_cg (h2 _) (hx 8 _ (by decide) (by decide) (by decide) (by decide)), cvB_cg (hx 1 _ (by decide) (by decide) (by decide) (by decide)) (hx 2 _ (by decide) (by decide) (by decide) (by decide)), hx 30 _ (by decide) (by decide) (by decide) (by decide)]
  refine ⟨fun h => ?_, fun h => ?_⟩
  · have := nf_ct 8 h
    unfold ctB at this
    simp only [Bool.and_eq_true] at this
    exact this.1.1
  · have := nf_ct 8 h
    unfold ctB at this
    simp only [Bool.and_eq_true] at this
    exact this.1.2
theorem hnd_3 {g : XS} {q j : Nat} (e : j ≠ q) : (hndG g q).2.1 3 j = g.2.1 3 j := by
  unfold hndG
  rw [hndA_3 (by rw [goG_3, if_pos rfl]), if_neg e, goG_3, if_neg e]
theorem lvsG_x {g : XS} {f j : Nat} (h9 : f ≠ 9) (h32 : f ≠ 32) (h34 : f ≠ 34) (h35 : f ≠ 35) : ∀ q, (lvsG g q).1 f j = g.1 f j
  | 0 => rfl
  | q + 1 => by
    unfold lvsG
    split
    · rw [hndG_x h9 h32 h34 h35]; exact lvsG_x h9 h32 h34 h35 q
    · exact lvsG_x h9 h32 h34 h35 q
theorem lvs_TI {g : XS} (hX : XI g) (hT : TI g) : ∀ q, TI (lvsG g q)
  | 0 => hT
  | q + 1 => by
    unfold lvsG
    split
    · next c => exact hnd_TI (hX.lvs q) (lvs_TI hX hT q) c.1 c.2.1
    · exact lvs_TI hX hT q
theorem lvs_cv {g : XS} (hX : XI g) (hC : ∀ j, j < g.2.1 1 0 → cvq g j) : ∀ q, (∀ j, j < g.2.1 1 0 → cvq (lvsG g q) j) ∧ ∀ j, j < q → j < g.2.1 1 0 → onq (lvsG g q) j
  | 0 => ⟨hC, fun _ h => absurd h (by omega)⟩
  | q + 1 => by
    obtain ⟨h1, h2⟩ := lvs_cv hX hC q
    unfold lvsG
    split
    · next c =>
      obtain ⟨d1, d2⟩ := hnd_cv (hX.lvs q) c.1 c.2.1
      refine ⟨fun j hj => ?_, fun j hjq hj => ?_⟩
      · by_cases e : j = q
        · subst e; exact d2
        · exact cvq_cg (h1 j hj) (hnd_3 e) (fun i => hndG_x (by decide) (by decide) (by decide) (by decide)) (fun i => hndG_x (by decide) (by decide) (by decide) (by decide)) (hndG_x (by decide) (by decide) (by decide) (by decide))
      · by_cases e : j = q
        · subst e; exact d1
        · exact onq_cg (h2 j (by omega) hj) (hnd_3 e) (fun i => hndG_n (by decide) (by decide)) (fun i => hndG_x (by decide) (by decide) (by decide) (by decide))
    · next c =>
      refine ⟨h1, fun j hjq hj => ?_⟩
      by_cases e : j = q
      · subst e
        intro h3
        cases h : onB (lvsG g j) ((lvsG g j).2.1 3 j - 1)
        · exact absurd ⟨by rw [lvsG_n (by decide) (by decide)]; exact hj, h3, h⟩ c
        · rfl
      · exact h2 j (by omega) hj
theorem lvs_Rg {g : XS} {M : MF} (hX : XI g) (hT : TI g) (hR : Rg g M) : ∀ q, Rg (lvsG g q) (rlvG M (min q (g.2.1 1 0)))
  | 0 => by rw [Nat.zero_min]; exact hR
  | q + 1 => by
    have ih := lvs_Rg hX hT hR q
    by_cases hq : q < g.2.1 1 0
    · rw [Nat.min_eq_left (by omega)] at ih ⊢
      have hX1 := hX.lvs q
      have hT1 := lvs_TI hX hT q
      have hq1 : q < (lvsG g q).2.1 1 0 := by rw [lvsG_n (by decide) (by decide)]; exact hq
      unfold lvsG rlvG
      generalize lvsG g q = g1 at ih hX1 hT1 hq1
      generalize rlvG M q = M1 at ih
      have p2 := (ih.2.2.2.2.1 q hq1).2.1
      have hr := hX1.2.2.1 q hq1
      have h8 := hX1.1
      rw [p2]
      by_cases c3 : g1.2.1 3 q = 0
      · rw [c3, cdI_0, if_neg (fun x => x.2.1 rfl), if_neg (fun x => x.1 rfl)]
        exact ih
      · rw [cdI_n c3, nI_clamp (by omega), on_eq ih (by omega)]
        by_cases c : onB g1 (g1.2.1 3 q - 1) = false
        · rw [if_pos ⟨hq1, c3, c⟩, if_pos ⟨nI_ne _ (by omega), c⟩]
          exact hnd_Rg hX1 hT1 ih hq1 c3
        · rw [if_neg (fun x => c x.2.2), if_neg (fun x => c x.2)]
          exact ih
    · rw [Nat.min_eq_right (by omega)] at ih ⊢
      unfold lvsG
      rw [if_neg (fun x => hq (by have := x.1; rwa [lvsG_n (by decide) (by decide)] at this))]
      exact ih
