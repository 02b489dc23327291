/-! each call, both sides, second -/
theorem Ok_hnd {g : XS} (hX : XI g) (hT : TI g) (hM : GM g) (hP : GP g) (hL : GL g) {q : Nat} (hq : q < g.2.1 1 0) (hn : ¬ g.2.1 3 q = 0) (hG : ∀ j, j < g.2.1 1 0 → j ≠ q → onq g j ∧ cvq g j) : Ok (hndG g q) := by
  refine ⟨hX.hnd hq hn, hnd_TI hX hT hq hn, fun j hj => ?_, fun j hj => ?_, fun j hj hl => ?_, fun j hj => ?_⟩
  · rw [hndG_n (by decide) (by decide)] at hj
    rw [hndG_x (by decide) (by decide) (by decide) (by decide), hndG_x (by decide) (by decide) (by decide) (by decide), hndG_x (by decide) (by decide) (by decide) (by decide), hndG_x (by decide) (by decide) (by decide) (by decide)]; exact hM j hj
  · rw [hndG_n (by decide) (by decide)] at hj
    rw [hndG_x (by decide) (by decide) (by decide) (by decide)]; exact hP j hj
  · rw [hndG_n (by decide) (by decide)] at hj hl
    rw [hndG_x (by decide) (by decide) (by decide) (by decide), hndG_x (by decide) (by decide) (by decide) (by decide), hndG_x (by decide) (by decide) (by decide) (by decide), hndG_x (by decide) (by decide) (by decide) (by decide)]; exact hL j hj hl
  · rw [hndG_n (by decide) (by decide)] at hj
    by_cases e : j = q
    · subst e; exact hnd_cv hX hq hn
    · exact ⟨onq_cg (hG j hj e).1 (hnd_3 e) (fun _ => hndG_n (by decide) (by decide)) (fun _ => hndG_x (by decide) (by decide) (by decide) (by decide)), cvq_cg (hG j hj e).2 (hnd_3 e) (fun _ => hndG_x (by decide) (by decide) (by decide) (by decide)) (fun _ => hndG_x (by decide) (by decide) (by decide) (by decide)) (hndG_x (by decide) (by decide) (by decide) (by decide))⟩
theorem mvC_eq {g : XS} {M : MF} (h : SI g M) (a0 a1 : Int32) : rmvC M a0 a1 = mvC g a0 a1 := by
  unfold rmvC mvC
  by_cases c : pI g a0 = 0
  · rw [if_pos c, if_pos ((pI_f h).mpr c)]
  · rw [if_neg c, if_neg (fun x => c ((pI_f h).mp x))]
theorem S_move1 {g : XS} {M : MF} (h : SI g M) {q : Nat} (hq : q < g.2.1 1 0) {a1 : Int32} (ha : inB a1 0 99 = true) : SI (moveG g q a1) (rmvG M q a1) := by
  obtain ⟨hO, hR, h12⟩ := h
  obtain ⟨hX, hT, hM, hP, hL, hG⟩ := hO
  obtain ⟨z, hz, ez⟩ := inB_nI (n := 99) rfl (by decide) ha
  have hX1 : XI (sx g 30 q a1) := hX.of rfl rfl
  have hT1 : TI (sx g 30 q a1) := hT.sx (by decide) (by decide) (by decide) (by decide)
  have hM1 : GM (sx g 30 q a1) := fun j hj => by rw [sx_n (by decide), sx_n (by decide), sx_n (by decide), sx_n (by decide)]; exact hM j hj
  have hP1 : GP (sx g 30 q a1) := fun j hj => by
    by_cases e : j = q
    · subst e; rw [show (sx g 30 j a1).1 30 j = a1 from up_s]; exact ⟨z, hz, ez⟩
    · rw [show (sx g 30 q a1).1 30 j = g.1 30 j from up_i e]; exact hP j hj
  have hL1 : GL (sx g 30 q a1) := fun j hj hl => by rw [sx_n (by decide), sx_n (by decide), sx_n (by decide), sx_n (by decide)]; exact hL j hj hl
  have hG1 : ∀ j, j < (sx g 30 q a1).2.1 1 0 → j ≠ q → onq (sx g 30 q a1) j ∧ cvq (sx g 30 q a1) j := fun j hj e => ⟨onq_cg (hG j hj).1 rfl (fun _ => rfl) (fun _ => sx_n (by decide)), cvq_cg (hG j hj).2 rfl (fun _ => sx_n (by decide)) (fun _ => sx_n (by decide)) (up_i e)⟩
  have hR1 : Rg (sx g 30 q a1) (up M 20 q a1) := hR.phone (f := 20) (F := 30) (by simp) hq rfl
  have hq1 : q < (sx g 30 q a1).2.1 1 0 := hq
  have e3 : (sx g 30 q a1).2.1 3 q = g.2.1 3 q := rfl
  have ep : (sx g 30 q a1).1 30 q = a1 := up_s
  have onq1 : onq (sx g 30 q a1) q := onq_cg (hG q hq).1 rfl (fun _ => rfl) (fun _ => sx_n (by decide))
  have h8 := hX.1
  have hr := hX.2.2.1 q hq
  have p2 := (hR.2.2.2.2.1 q hq).2.1
  have h12' : R12 (up M 20 q a1) := h12.of (fun _ => up_f (by decide)) (fun _ => up_f (by decide))
  have n0 : (sx g 30 q a1).2.1 0 0 = g.2.1 0 0 := rfl
  unfold moveG rmvG
  rw [p2]
  generalize sx g 30 q a1 = g1 at *
  generalize up M 20 q a1 = M1 at *
  by_cases c3 : g.2.1 3 q = 0
  · rw [c3, if_neg (fun x => x.1 rfl), cdI_0, if_neg (fun x => x.1 rfl)]
    refine ⟨⟨hX1, hT1, hM1, hP1, hL1, fun j hj => ?_⟩, hR1, h12'⟩
    by_cases e : j = q
    · subst e; exact onq_0 (by rw [e3]; exact c3)
    · exact hG1 j hj e
  · rw [cdI_n c3, nI_clamp (by omega), cv_eq hR1 (by rw [n0]; omega)]
    by_cases c : cvB g1 (g.2.1 3 q - 1) a1 = false
    · rw [if_pos ⟨c3, c⟩, if_pos ⟨nI_ne _ (by omega), c⟩]
      exact ⟨Ok_hnd hX1 hT1 hM1 hP1 hL1 hq1 (by rw [e3]; exact c3) hG1, hnd_Rg hX1 hT1 hR1 hq1 (by rw [e3]; exact c3), h12'.of (fun _ => rhG_n (by decide) (by decide) (by decide)) (fun _ => rhG_n (by decide) (by decide) (by decide))⟩
    · rw [if_neg (fun x => c x.2), if_neg (fun x => c x.2)]
      refine ⟨⟨hX1, hT1, hM1, hP1, hL1, fun j hj => ?_⟩, hR1, h12'⟩
      by_cases e : j = q
      · subst e
        refine ⟨onq1, fun _ => ?_⟩
        rw [e3, ep]
        simpa using c
      · exact hG1 j hj e
theorem moveG_10 {g : XS} {q : Nat} {a1 : Int32} : (moveG g q a1).2.1 1 0 = g.2.1 1 0 := by
  unfold moveG
  split
  · rw [hndG_n (by decide) (by decide)]
  · rfl
theorem S_move {g : XS} {M : MF} (h : SI g M) (a0 a1 : Int32) : SI (gO (mvC g a0 a1) (moveG g (pI g a0 - 1) a1) g) (rO M (mvC g a0 a1) (rmvG (rT M) (pI g a0 - 1) a1)) ∧ (mvC g a0 a1 = 0 → rmvG (rT M) (pI g a0 - 1) a1 21 (pI g a0 - 1) = cnI (moveG g (pI g a0 - 1) a1) (pI g a0 - 1)) := by
  suffices K : mvC g a0 a1 = 0 → SI (moveG g (pI g a0 - 1) a1) (rmvG (rT M) (pI g a0 - 1) a1) ∧ rmvG (rT M) (pI g a0 - 1) a1 21 (pI g a0 - 1) = cnI (moveG g (pI g a0 - 1) a1) (pI g a0 - 1) from ⟨SI_gO h (fun c => (K c).1), fun c => (K c).2⟩
  intro c
  unfold mvC at c
  have c1 : ¬ pI g a0 = 0 := fun x => by rw [if_pos x] at c; exact absurd c (by decide)
  rw [if_neg c1] at c
  have c2 : inB a1 0 99 = true := by
    cases e : inB a1 0 99
    · rw [e] at c; exact absurd c (by decide)
    · rfl
  have hq := (pI_n c1).1
  have hT : SI g (rT M) := h.T
  have K := S_move1 hT hq c2
  exact ⟨K, cn_eq K.1.1 K.1.2.2.1 K.2.1 (by rw [moveG_10]; exact hq)⟩
/-- hours -/
theorem inB_100 {a0 : Int32} (h : inB a0 1 100 = true) : a0.toNatClampNeg ≤ 100 ∧ a0 = nI a0.toNatClampNeg := by
  obtain ⟨n, hn, rfl⟩ := inB_n1 (n := 100) (by decide) rfl (by decide) h
  rw [nI_clamp (by omega)]
  exact ⟨hn, rfl⟩
theorem paC_eq {g : XS} {M : MF} (h : SI g M) (a0 : Int32) : rpaC M a0 = paC g a0 := by
  unfold rpaC paC
  rw [h.2.1.1.2.2.1]
theorem paC_0 {g : XS} (h : Ok g) {a0 : Int32} (c : paC g a0 = 0) : hN g + a0.toNatClampNeg ≤ 10000 := by
  unfold paC at c
  cases e : inB a0 1 100
  · rw [e, if_pos rfl] at c; exact absurd c (by decide)
  · rw [if_neg (by rw [e]; decide)] at c
    obtain ⟨h1, h2⟩ := inB_100 e
    have h3 := h.2.1.1
    have c2 : g.1 40 0 + a0 ≤ 10000 := Decidable.byContradiction (fun x => by rw [if_neg x] at c; exact absurd c (by decide))
    rw [h3.1, h2, nI_add, show (10000 : Int32) = nI 10000 from rfl, nI_leI (by omega) (by omega)] at c2
    exact c2
theorem S_pass {g : XS} {M : MF} (h : SI g M) (a0 : Int32) : SI (gO (paC g a0) (hrsG g a0.toNatClampNeg) g) (rO M (paC g a0) (rhrsG (rT M) a0.toNatClampNeg)) ∧ (paC g a0 = 0 → rhrsG (rT M) a0.toNatClampNeg 0 0 = (hrsG g a0.toNatClampNeg).1 40 0) := by
  suffices K : paC g a0 = 0 → SI (hrsG g a0.toNatClampNeg) (rhrsG (rT M) a0.toNatClampNeg) ∧ rhrsG (rT M) a0.toNatClampNeg 0 0 = (hrsG g a0.toNatClampNeg).1 40 0 from ⟨SI_gO h (fun c => (K c).1), fun c => (K c).2⟩
  intro c
  have hT : SI g (rT M) := h.T
  have c2 := paC_0 h.1 c
  obtain ⟨o1, r1, e1⟩ := hrs_ok hT.1 hT.2.1 a0.toNatClampNeg c2
  exact ⟨⟨o1, r1, hT.2.2.of (fun _ => rhrsG_o (by decide) (by decide) (by decide) (by decide) (by decide) (by decide) (by decide) (by decide) (by decide) (by decide) _) (fun _ => rhrsG_o (by decide) (by decide) (by decide) (by decide) (by decide) (by decide) (by decide) (by decide) (by decide) (by decide) _)⟩, r1.1.2.2.1⟩
/-- readers -/
theorem omC_eq {g : XS} {M : MF} (h : SI g M) (a0 a1 : Int32) : romC M a0 a1 = omC g a0 a1 := by
  unfold romC omC
  by_cases c : mI g a0 = 0
  · rw [if_pos c, if_pos ((mI_f h).mpr c)]
  · rw [if_neg c, if_neg (fun x => c ((mI_f h).mp x))]
theorem taC_eq {g : XS} {M : MF} (h : SI g M) (a0 : Int32) : rtaC M a0 = taC g a0 := by
  unfold rtaC taC
  by_cases c : mI g a0 = 0
  · rw [if_pos c, if_pos ((mI_f h).mpr c)]
  · rw [if_neg c, if_neg (fun x => c ((mI_f h).mp x))]
theorem opC_eq {g : XS} {M : MF} (h : SI g M) (a0 a1 : Int32) : ropC M a0 a1 = opC g a0 a1 := by
  unfold ropC opC
  by_cases c : pI g a0 = 0
  · rw [if_pos c, if_pos ((pI_f h).mpr c)]
  · rw [if_neg c, if_neg (fun x => c ((pI_f h).mp x))]
theorem stC_eq {g : XS} {M : MF} (h : SI g M) (a0 : Int32) : rstC M a0 = stC g a0 := by
  unfold rstC stC
  by_cases c : pI g a0 = 0
  · rw [if_pos c, if_pos ((pI_f h).mpr c)]
  · rw [if_neg c, if_neg (fun x => c ((pI_f h).mp x))]
theorem SI_read {g : XS} {M : MF} (h : SI g M) (C : Nat) : SI (gO C g g) (rO M C (rT M)) := SI_gO h (fun _ => h.T)
theorem V_ofMast {g : XS} {M : MF} (h : SI g M) (a0 a1 : Int32) (c : omC g a0 a1 = 0) : rofMV (rT M) (mI g a0 - 1) a1 = ofMV g (mI g a0 - 1) a1 := by
  have c1 : ¬ mI g a0 = 0 := fun x => by rw [omC, if_pos x] at c; exact absurd c (by decide)
  have hi := (mI_n c1).1
  have hT : SI g (rT M) := h.T
  generalize rT M = M1 at hT
  generalize mI g a0 - 1 = i at hi
  obtain ⟨d1, d2, d3, d4⟩ := hT.2.1.2.2.1 i hi
  have l := hT.2.1.2.2.2.1 i hi
  unfold rofMV ofMV
  rw [on_eq hT.2.1 hi, ca_eq hT.2.1 hT.1.1 hT.1.2.1.Cr hi, d2, d3, d4]
  by_cases c2 : g.2.1 2 i = 0
  · rw [if_pos c2, l.1 c2]
  · rw [if_neg c2, (l.2 c2).1]
theorem V_ofPhone {g : XS} {M : MF} (h : SI g M) (a0 a1 : Int32) (c : opC g a0 a1 = 0) : rofPV (rT M) (pI g a0 - 1) a1 = ofPV g (pI g a0 - 1) a1 := by
  have c1 : ¬ pI g a0 = 0 := fun x => by rw [opC, if_pos x] at c; exact absurd c (by decide)
  have hi := (pI_n c1).1
  have hT : SI g (rT M) := h.T
  generalize rT M = M1 at hT
  generalize pI g a0 - 1 = q at hi
  obtain ⟨p1, p2, p3, p4, p5⟩ := hT.2.1.2.2.2.2.1 q hi
  unfold rofPV ofPV
  rw [p1, cn_eq hT.1.1 hT.1.2.2.1 hT.2.1 hi, p3, p4, p5]
theorem sumI_app {f : Nat → Int32} {a : Nat} : ∀ m, sumI f a + sumI (fun q => f (a + q)) m = sumI f (a + m)
  | 0 => by simp [sumI]
  | m + 1 => by
    rw [← Nat.add_assoc, sumI, sumI, ← sumI_app m]
    grind
theorem hb_s {g : XS} {i j : Nat} : sumI (fun q => g.2.2 1 i q - g.2.2 0 i q) (min (64 * j) (g.2.1 4 i)) + bsI g i j = sumI (fun q => g.2.2 1 i q - g.2.2 0 i q) (min (64 * (j + 1)) (g.2.1 4 i)) := by
  by_cases c : g.2.1 4 i ≤ 64 * j
  · rw [Nat.min_eq_right c, Nat.min_eq_right (by omega), bsI, show min 64 (g.2.1 4 i - 64 * j) = 0 by omega]
    simp [sumI]
  · rw [Nat.min_eq_left (by omega), show min (64 * (j + 1)) (g.2.1 4 i) = 64 * j + min 64 (g.2.1 4 i - 64 * j) by omega, ← sumI_app, bsI]
    congr 1
    exact sumI_cg _ (fun q hq => by unfold lcut; rw [if_pos (by omega), if_pos (by omega)])
theorem hb_t {g : XS} {i n : Nat} : ∀ t, t ≤ n → hbA g i n t + sumI (fun q => g.2.2 1 i q - g.2.2 0 i q) (min (64 * (n - t)) (g.2.1 4 i)) = sumI (fun q => g.2.2 1 i q - g.2.2 0 i q) (min (64 * n) (g.2.1 4 i))
  | 0, _ => by rw [Nat.sub_zero]; simp [hbA]
  | t + 1, h => by
    have ih := hb_t (g := g) (i := i) (n := n) t (by omega)
    have e := hb_s (g := g) (i := i) (j := n - (t + 1))
    rw [show n - (t + 1) + 1 = n - t by omega] at e
    rw [← ih, hbA, ← e]
    grind
theorem hb_eq {g : XS} {i : Nat} : hbA g i (nbk (g.2.1 4 i)) (nbk (g.2.1 4 i)) = hlS g i := by
  have := hb_t (g := g) (i := i) (n := nbk (g.2.1 4 i)) _ (Nat.le_refl _)
  rw [Nat.sub_self, Nat.mul_zero, Nat.zero_min, Nat.min_eq_right (by unfold nbk; omega)] at this
  rw [hlS, ← this]
  simp [sumI]
theorem V_trafficAnew {g : XS} {M : MF} (h : SI g M) (a0 : Int32) (c : taC g a0 = 0) : M 18 (mI g a0 - 1) = pnS g (mI g a0 - 1) 12 (hbA g (mI g a0 - 1) (nbk (g.2.1 4 (mI g a0 - 1))) (nbk (g.2.1 4 (mI g a0 - 1)))) := by
  have c1 : ¬ mI g a0 = 0 := fun x => by rw [taC, if_pos x] at c; exact absurd c (by decide)
  have hi := (mI_n c1).1
  rw [hb_eq, ← h.1.2.1.2.2.2.1 _ hi]
  exact (h.2.1.2.2.1 _ hi).2.2.2
theorem cvA_0 {g : XS} {M : MF} (hR : Rg g M) {p : Int32} : ∀ j, j ≤ g.2.1 0 0 → rcvA M p j = cvA g p j
  | 0, _ => rfl
  | j + 1, h => by
    rw [rcvA, cvA, cvA_0 hR j (by omega), on_eq hR (by omega), cv_eq hR (by omega)]
    simp [show j < g.2.1 0 0 by omega]
theorem cvA_1 {g : XS} {p : Int32} {n : Nat} (hn : g.2.1 0 0 = n) : ∀ z, cvA g p (n + z) = cvA g p n
  | 0 => rfl
  | z + 1 => by rw [← Nat.add_assoc, cvA, cvA_1 hn z]; simp [show ¬ n + z < g.2.1 0 0 by omega]
theorem hl_eq {g : XS} {M : MF} (hR : Rg g M) (hX : XI g) : ∀ n, rhlI M n = hlI g n
  | 0 => rfl
  | n + 1 => by
    have h8 := hX.1
    have e := cvA_1 (g := g) (p := nI n) rfl (8 - g.2.1 0 0)
    rw [show g.2.1 0 0 + (8 - g.2.1 0 0) = 8 by omega] at e
    rw [rhlI, hlI, hl_eq hR hX n, mN_Rg hR hX, cvA_0 hR _ (Nat.le_refl _), e]
    split <;> simp
theorem V_holes {g : XS} {M : MF} (h : SI g M) : rhlI (rT M) 100 = hlI g 100 := hl_eq h.2.1.T h.1.1 100
/-- strength: no NaN -/
theorem fp_all : ∀ r, r < 41 → ∀ d, d < 41 → 1 ≤ r → d ≤ r → vf_n32 (FP.fdiv (FP.i2f (nI d)) (FP.i2f (nI r))) ∧ vf_n32 (FP.fsub FP.fconst1 (FP.fdiv (FP.i2f (nI d)) (FP.i2f (nI r)))) ∧ vf_n64 (FP.f2d (FP.fsub FP.fconst1 (FP.fdiv (FP.i2f (nI d)) (FP.i2f (nI r))))) := by
  unfold vf_n32 vf_n64
  decide +kernel
theorem fp_0 : vf_n64 (FP.f2d FP.fconst0) := by
  unfold vf_n64
  decide +kernel
