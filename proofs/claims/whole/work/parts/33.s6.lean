/-! each call, both sides: what holds before, holds after; the answers are the same -/
def R12 (M : MF) : Prop := ∀ i, i < 8 → vp_in (M 12 i) 6 ∧ (M 13 i = -1 ∨ vp_in (M 13 i) 6)
def SI (g : XS) (M : MF) : Prop := Ok g ∧ Rg g M ∧ R12 M
theorem R12.of {M M' : MF} (h : R12 M) (h12 : ∀ i, M' 12 i = M 12 i) (h13 : ∀ i, M' 13 i = M 13 i) : R12 M' := fun i hi => by rw [h12, h13]; exact h i hi
theorem SI.RI {g : XS} {M : MF} (h : SI g M) : RI M := by
  obtain ⟨hO, hR, h12⟩ := h
  have hX := hO.1
  have hm := mN_Rg hR hX
  have hp := pN_Rg hR hX
  refine ⟨by rw [hm]; exact hX.1, by rw [hm]; exact hR.1.1, by rw [hp]; exact hX.2.1, by rw [hp]; exact hR.1.2.1, fun q hq => ?_, h12⟩
  rw [hp] at hq
  rw [hm]
  exact ⟨g.2.1 3 q, hX.2.2.1 q hq, (hR.2.2.2.2.1 q hq).2.1⟩
theorem SI.T {g : XS} {M : MF} (h : SI g M) {v : Int32} : SI g (up M 26 0 v) := ⟨h.1, h.2.1.T, h.2.2.of (fun _ => up_f (by decide)) (fun _ => up_f (by decide))⟩
theorem SI_gO {g G : XS} {M N : MF} {C : Nat} (h : SI g M) (h0 : C = 0 → SI G N) : SI (gO C G g) (rO M C N) := by
  unfold gO
  by_cases c : C = 0
  · rw [if_pos c, rO_0 c]; exact h0 c
  · rw [if_neg c, rO_n c]; exact h.T
theorem inB_m1 {a : Int32} : inB a 0 (-1) = false := by
  cases h : inB a 0 (-1)
  · rfl
  · simp only [inB, Bool.and_eq_true, decide_eq_true_eq] at h
    exact absurd (Int32.le_trans h.1 h.2) (by decide)
theorem is_of {a z : Int32} {n : Nat} (hz : z = nI n) (hn : n < 2 ^ 31) : inB a 0 (z - 1) = true ↔ ∃ j, j < n ∧ a = nI j := by
  subst hz
  cases n with
  | zero =>
    rw [show nI 0 - 1 = -1 by decide +kernel, inB_m1]
    exact ⟨fun h => absurd h (by decide), fun ⟨j, hj, _⟩ => absurd hj (by omega)⟩
  | succ n =>
    rw [nI_pred]
    constructor
    · intro h
      obtain ⟨j, hj, e⟩ := inB_nI (n := n) rfl (by omega) h
      exact ⟨j, by omega, e⟩
    · rintro ⟨j, hj, rfl⟩
      exact inB_of rfl (by omega) (by omega)
theorem pI_is {g : XS} {M : MF} (h : SI g M) {a : Int32} : isPB M a = true ↔ ¬ pI g a = 0 := by
  have h12 := h.1.1.2.1
  unfold isPB
  rw [is_of h.2.1.1.2.1 (by omega)]
  constructor
  · rintro ⟨j, hj, rfl⟩
    rw [pI_1 hj (by omega)]; omega
  · intro c
    obtain ⟨c1, c2, c3⟩ := pI_n c
    exact ⟨_, c1, c3⟩
theorem mI_is {g : XS} {M : MF} (h : SI g M) {a : Int32} : isMB M a = true ↔ ¬ mI g a = 0 := by
  have h8 := h.1.1.1
  unfold isMB
  rw [is_of h.2.1.1.1 (by omega)]
  constructor
  · rintro ⟨j, hj, rfl⟩
    rw [mI_1 hj (by omega)]; omega
  · intro c
    obtain ⟨c1, c2, c3⟩ := mI_n c
    exact ⟨_, c1, c3⟩
theorem pI_q {g : XS} {M : MF} (h : SI g M) {a : Int32} (hb : isPB M a = true) : pI g a - 1 < pN M ∧ a = nI (pI g a - 1) := by
  obtain ⟨c1, c2, c3⟩ := pI_n ((pI_is h).mp hb)
  exact ⟨by rw [pN_Rg h.2.1 h.1.1]; exact c1, c3⟩
theorem mI_q {g : XS} {M : MF} (h : SI g M) {a : Int32} (hb : isMB M a = true) : mI g a - 1 < mN M ∧ a = nI (mI g a - 1) := by
  obtain ⟨c1, c2, c3⟩ := mI_n ((mI_is h).mp hb)
  exact ⟨by rw [mN_Rg h.2.1 h.1.1]; exact c1, c3⟩
theorem pI_f {g : XS} {M : MF} (h : SI g M) {a : Int32} : isPB M a = false ↔ pI g a = 0 := by
  have := pI_is h (a := a)
  cases c : isPB M a <;> simp_all
theorem mI_f {g : XS} {M : MF} (h : SI g M) {a : Int32} : isMB M a = false ↔ mI g a = 0 := by
  have := mI_is h (a := a)
  cases c : isMB M a <;> simp_all
/-- what does not look at the hour's numbers stays -/
theorem Ok.sx {g : XS} (h : Ok g) {f i : Nat} {v : Int32} (hf : 40 < f ∨ f = 33 ∨ f = 34 ∨ f = 35) : Ok (sx g f i v) := by
  obtain ⟨hX, hT, hM, hP, hL, hG⟩ := h
  refine ⟨hX.of rfl rfl, hT.sx (by omega) (by omega) (by omega) (by omega), fun j hj => ?_, fun j hj => ?_, fun j hj hl => ?_, fun j hj => ?_⟩
  · rw [sx_n (by omega), sx_n (by omega), sx_n (by omega), sx_n (by omega)]; exact hM j hj
  · rw [sx_n (by omega)]; exact hP j hj
  · rw [sx_n (by omega), sx_n (by omega), sx_n (by omega), sx_n (by omega)]; exact hL j hj hl
  · exact ⟨onq_cg (hG j hj).1 rfl (fun _ => rfl) (fun _ => sx_n (by omega)), cvq_cg (hG j hj).2 rfl (fun _ => sx_n (by omega)) (fun _ => sx_n (by omega)) (sx_n (by omega))⟩
theorem rT_o {M : MF} {f i : Nat} (h : f ≠ 26) : rT M f i = M f i := up_f h
/-- sun, paid -/
theorem S_sun {g : XS} {M : MF} (h : SI g M) (a0 : Int32) : SI (gO (sunC a0) (sx g 41 0 a0) g) (rO M (sunC a0) (up (rT M) 1 0 a0)) ∧ M 1 0 = g.1 41 0 :=
  ⟨SI_gO h (fun _ => ⟨h.1.sx (by simp), h.2.1.T.sun, h.2.2.of (fun _ => by rw [up_f (by decide), rT_o (by decide)]) (fun _ => by rw [up_f (by decide), rT_o (by decide)])⟩), h.2.1.1.2.2.2.1⟩
theorem S_paid {g : XS} {M : MF} (h : SI g M) (a0 : Int32) : SI (gO (pdC a0) g g) (rO M (pdC a0) (rT M)) ∧ (pdC a0 = 0 → M 25 a0.toNatClampNeg = g.1 42 a0.toNatClampNeg) := by
  refine ⟨SI_gO h (fun _ => h.T), fun c => ?_⟩
  unfold pdC at c
  cases e : inB a0 0 5
  · rw [e] at c; exact absurd c (by decide)
  · obtain ⟨j, hj, rfl⟩ := inB_nI (n := 5) rfl (by decide) e
    rw [nI_clamp (by omega)]
    exact h.2.1.1.2.2.2.2 j (by omega)
/-- a phone's call -/
theorem onq_0 {g : XS} {q : Nat} (h : g.2.1 3 q = 0) : onq g q ∧ cvq g q := ⟨fun c => absurd h c, fun c => absurd h c⟩
theorem Ok.go {g : XS} (h : Ok g) {q : Nat} (hq : q < g.2.1 1 0) (hn : ¬ g.2.1 3 q = 0) : Ok (goG g q (g.1 40 0)) := by
  obtain ⟨hX, hT, hM, hP, hL, hG⟩ := h
  refine ⟨hX.go hq hn, hT.go hX hq hn, fun j hj => ?_, fun j hj => ?_, fun j hj hl => ?_, fun j hj => ?_⟩
  · rw [goG_n (by decide) (by decide)] at hj
    rw [goG_x (by decide), goG_x (by decide), goG_x (by decide), goG_x (by decide)]; exact hM j hj
  · rw [goG_n (by decide) (by decide)] at hj
    rw [goG_x (by decide)]; exact hP j hj
  · rw [goG_n (by decide) (by decide)] at hj hl
    rw [goG_x (by decide), goG_x (by decide), goG_x (by decide), goG_x (by decide)]; exact hL j hj hl
  · rw [goG_n (by decide) (by decide)] at hj
    by_cases e : j = q
    · subst e; exact onq_0 (by rw [goG_3, if_pos rfl])
    · exact ⟨onq_cg (hG j hj).1 (by rw [goG_3, if_neg e]) (fun _ => goG_n (by decide) (by decide)) (fun _ => goG_x (by decide)), cvq_cg (hG j hj).2 (by rw [goG_3, if_neg e]) (fun _ => goG_x (by decide)) (fun _ => goG_x (by decide)) (goG_x (by decide))⟩
theorem comG_x {g : XS} {q i : Nat} {h : Int32} {f j : Nat} (h9 : f ≠ 9) (h32 : f ≠ 32) : (comG g q i h).1 f j = g.1 f j := by
  rw [comG_1, if_neg (fun x => h9 x.1), if_neg (fun x => h32 x.1)]
theorem Ok.com {g : XS} (h : Ok g) {q i : Nat} (hq : q < g.2.1 1 0) (hn : g.2.1 3 q = 0) (hi : i < g.2.1 0 0) (hc : ctB g i (g.1 30 q) = true) : Ok (comG g q i (g.1 40 0)) := by
  obtain ⟨hX, hT, hM, hP, hL, hG⟩ := h
  refine ⟨hX.com hi, hT.com hX hq hn hi, fun j hj => ?_, fun j hj => ?_, fun j hj hl => ?_, fun j hj => ?_⟩
  · rw [comG_n (by decide)] at hj
    rw [comG_x (by decide) (by decide), comG_x (by decide) (by decide), comG_x (by decide) (by decide), comG_x (by decide) (by decide)]; exact hM j hj
  · rw [comG_n (by decide)] at hj
    rw [comG_x (by decide) (by decide)]; exact hP j hj
  · rw [comG_n (by decide)] at hj hl
    rw [comG_x (by decide) (by decide), comG_x (by decide) (by decide), comG_x (by decide) (by decide), comG_x (by decide) (by decide)]; exact hL j hj hl
  · rw [comG_n (by decide)] at hj
    by_cases e : j = q
    · subst e
      unfold ctB at hc
      simp only [Bool.and_eq_true] at hc
      unfold onq cvq
      rw [comG_3, if_pos rfl, Nat.add_sub_cancel, onB_cg (g := g) (comG_n (by decide)) (comG_x (by decide) (by decide)), cvB_cg (g := g) (comG_x (by decide) (by decide)) (comG_x (by decide) (by decide)), comG_x (by decide) (by decide)]
      exact ⟨fun _ => hc.1.1, fun _ => hc.1.2⟩
    · exact ⟨onq_cg (hG j hj).1 (by rw [comG_3, if_neg e]) (fun _ => comG_n (by decide)) (fun _ => comG_x (by decide) (by decide)), cvq_cg (hG j hj).2 (by rw [comG_3, if_neg e]) (fun _ => comG_x (by decide) (by decide)) (fun _ => comG_x (by decide) (by decide)) (comG_x (by decide) (by decide))⟩
theorem clC_eq {g : XS} {M : MF} (h : SI g M) (a0 : Int32) : rclC M a0 (pI g a0 - 1) = clC g a0 := by
  unfold rclC clC
  by_cases c : pI g a0 = 0
  · rw [if_pos c, if_pos ((pI_f h).mpr c)]
  · rw [if_neg c, if_neg (fun x => c ((pI_f h).mp x))]
    have hq := (pI_n c).1
    have hr := h.1.1.2.2.1 _ hq
    have h8 := h.1.1.1
    rw [(h.2.1.2.2.2.2.1 _ hq).2.1]
    have := cdI_m (r := g.2.1 3 (pI g a0 - 1)) (by omega)
    by_cases c3 : g.2.1 3 (pI g a0 - 1) = 0
    · rw [if_pos c3, if_pos (this.mpr c3)]
    · rw [if_neg c3, if_neg (fun x => c3 (this.mp x))]
theorem enC_eq {g : XS} {M : MF} (h : SI g M) (a0 : Int32) : renC M a0 (pI g a0 - 1) = enC g a0 := by
  unfold renC enC
  by_cases c : pI g a0 = 0
  · rw [if_pos c, if_pos ((pI_f h).mpr c)]
  · rw [if_neg c, if_neg (fun x => c ((pI_f h).mp x))]
    have hq := (pI_n c).1
    have hr := h.1.1.2.2.1 _ hq
    have h8 := h.1.1.1
    rw [(h.2.1.2.2.2.2.1 _ hq).2.1]
    have := cdI_m (r := g.2.1 3 (pI g a0 - 1)) (by omega)
    by_cases c3 : g.2.1 3 (pI g a0 - 1) = 0
    · rw [if_pos c3, if_pos (this.mpr c3)]
    · rw [if_neg c3, if_neg (fun x => c3 (this.mp x))]
theorem cn_eq {g : XS} {M : MF} (hX : XI g) (hM : GM g) (hR : Rg g M) {q : Nat} (hq : q < g.2.1 1 0) : M 21 q = cnI g q := by
  rw [(hR.2.2.2.2.1 q hq).2.1]
  unfold cdI cnI
  by_cases c : g.2.1 3 q = 0
  · rw [if_pos c, if_pos c]
  · have := hX.2.2.1 q hq
    rw [if_neg c, if_neg c, (hM _ (by omega)).1]
theorem S_call {g : XS} {M : MF} (h : SI g M) (a0 : Int32) : SI (gO (clC g a0) (clG g (pI g a0 - 1)) g) (rO M (clC g a0) (rclG (rT M) (pI g a0 - 1))) ∧ (clC g a0 = 0 → rclG (rT M) (pI g a0 - 1) 21 (pI g a0 - 1) = clV g (pI g a0 - 1)) := by
  suffices K : clC g a0 = 0 → SI (clG g (pI g a0 - 1)) (rclG (rT M) (pI g a0 - 1)) ∧ rclG (rT M) (pI g a0 - 1) 21 (pI g a0 - 1) = clV g (pI g a0 - 1) from ⟨SI_gO h (fun c => (K c).1), fun c => (K c).2⟩
  intro c
  unfold clC at c
  have c1 : ¬ pI g a0 = 0 := fun x => by rw [if_pos x] at c; exact absurd c (by decide)
  rw [if_neg c1] at c
  have c2 : g.2.1 3 (pI g a0 - 1) = 0 := Decidable.byContradiction (fun x => by rw [if_neg x] at c; exact absurd c (by decide))
  have hq := (pI_n c1).1
  have hT : SI g (rT M) := h.T
  generalize rT M = M1 at hT ⊢
  generalize pI g a0 - 1 = q at c2 hq
  obtain ⟨hO, hR, h12⟩ := hT
  have hX := hO.1
  have e := nf_eq hR hX hO.2.1.Cr (g.1 30 q)
  obtain ⟨p1, p2, p3, p4, p5⟩ := hR.2.2.2.2.1 q hq
  have hl := nf_le g (g.1 30 q) 8
  have hct := nf_ct (g := g) (p := g.1 30 q) 8
  have h8 := hX.1
  refine ⟨⟨?_, ?_, h12.of (fun _ => by unfold rclG; rw [up_f (by decide), up_f (by decide)]) (fun _ => by unfold rclG; rw [up_f (by decide), up_f (by decide)])⟩, ?_⟩
  · unfold clG
    by_cases c3 : nf g (g.1 30 q) 8 = 0
    · rw [if_pos c3]; exact hO.sx (by simp)
    · rw [if_neg c3]; exact hO.com hq c2 (by omega) (hct c3)
  · unfold rclG clG
    rw [p1, e]
    by_cases c3 : nf g (g.1 30 q) 8 = 0
    · rw [if_pos c3, c3, cdI_0, if_pos rfl, up_id (f := 21) (by rw [p2, c2, cdI_0])]
      exact hR.phone (by simp) hq (by rw [p3])
    · rw [if_neg c3, if_neg (fun x => c3 ((cdI_m (by omega)).mp x)), up_id (f := 22) (by rw [up_f (by decide)]; simp), cdI_n c3]
      exact hR.com
  · unfold rclG clV clG
    rw [up_f (by decide), up_s, p1, e]
    by_cases c3 : nf g (g.1 30 q) 8 = 0
    · rw [if_pos c3, c3, cdI_0]
    · rw [if_neg c3, if_neg c3, comG_x (by decide) (by decide), (hO.2.2.1 _ (by omega)).1, cdI_n c3]
theorem S_end {g : XS} {M : MF} (h : SI g M) (a0 : Int32) : SI (gO (enC g a0) (goG g (pI g a0 - 1) (g.1 40 0)) g) (rO M (enC g a0) (up (rT M) 21 (pI g a0 - 1) (-1))) ∧ (enC g a0 = 0 → M 21 (pI g a0 - 1) = cnI g (pI g a0 - 1)) := by
  suffices K : enC g a0 = 0 → SI (goG g (pI g a0 - 1) (g.1 40 0)) (up (rT M) 21 (pI g a0 - 1) (-1)) ∧ M 21 (pI g a0 - 1) = cnI g (pI g a0 - 1) from ⟨SI_gO h (fun c => (K c).1), fun c => (K c).2⟩
  intro c
  unfold enC at c
  have c1 : ¬ pI g a0 = 0 := fun x => by rw [if_pos x] at c; exact absurd c (by decide)
  rw [if_neg c1] at c
  have c2 : ¬ g.2.1 3 (pI g a0 - 1) = 0 := fun x => by rw [if_pos x] at c; exact absurd c (by decide)
  have hq := (pI_n c1).1
  refine ⟨⟨h.1.go hq c2, h.T.2.1.go, h.2.2.of (fun _ => by rw [up_f (by decide), rT_o (by decide)]) (fun _ => by rw [up_f (by decide), rT_o (by decide)])⟩, cn_eq h.1.1 h.1.2.2.1 h.2.1 hq⟩
