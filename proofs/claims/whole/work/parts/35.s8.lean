/-! each call, both sides, third: strength, new masts, phones and leases -/
theorem nI_sub {a b : Nat} (h : b ≤ a) : nI a - nI b = nI (a - b) := by
  have := nI_add (a - b) b
  rw [show a - b + b = a by omega] at this
  rw [← this]
  exact Int32.add_sub_cancel _ _
theorem ds_nI {g : XS} {i y z : Nat} (h1 : g.1 1 i = nI y) (hy : y ≤ 99) (hz : z ≤ 99) : ∃ d, d ≤ 99 ∧ dsI g i (nI z) = nI d := by
  unfold dsI
  rw [h1]
  by_cases c : y ≤ z
  · rw [nI_sub c, if_pos (nI_pos' (by omega))]
    exact ⟨z - y, by omega, rfl⟩
  · have e : nI z - nI y = -(nI (y - z)) := by rw [← nI_sub (by omega : z ≤ y)]; grind
    rw [e, if_neg]
    · exact ⟨y - z, by omega, by grind⟩
    · rw [Int32.le_iff_toInt_le, Int32.toInt_neg, nI_toInt (by omega), Int32.toInt_zero, Int.bmod_eq_of_le (by omega) (by omega)]
      omega
theorem st_ok {g : XS} {q : Nat} (h : Ok g) (hq : q < g.2.1 1 0) (hn : ¬ g.2.1 3 q = 0) : ¬ g.1 2 (g.2.1 3 q - 1) < 1 ∧ vf_n32 (FP.fdiv (FP.i2f (dsI g (g.2.1 3 q - 1) (g.1 30 q))) (FP.i2f (g.1 2 (g.2.1 3 q - 1)))) ∧ vf_n32 (FP.fsub FP.fconst1 (FP.fdiv (FP.i2f (dsI g (g.2.1 3 q - 1) (g.1 30 q))) (FP.i2f (g.1 2 (g.2.1 3 q - 1))))) ∧ vf_n64 (FP.f2d (FP.fsub FP.fconst1 (FP.fdiv (FP.i2f (dsI g (g.2.1 3 q - 1) (g.1 30 q))) (FP.i2f (g.1 2 (g.2.1 3 q - 1)))))) := by
  obtain ⟨hX, hT, hM, hP, hL, hG⟩ := h
  have hr := hX.2.2.1 q hq
  obtain ⟨m0, ⟨y, hy, ey⟩, ⟨r, r1, r2, er⟩, _⟩ := hM (g.2.1 3 q - 1) (by omega)
  obtain ⟨z, hz, ez⟩ := hP q hq
  obtain ⟨d, hd, ed⟩ := ds_nI ey hy hz
  have hc := (hG q hq).2 hn
  unfold cvB at hc
  rw [ez, ed, er] at hc
  rw [ez, ed, er]
  have hdr : d ≤ r := by
    have := of_decide_eq_true hc
    rwa [nI_leI (by omega) (by omega)] at this
  refine ⟨?_, fp_all r (by omega) d (by omega) r1 hdr⟩
  rw [show (1 : Int32) = nI 1 from rfl, nI_ltI (by omega) (by omega)]
  omega
theorem V_nan {g : XS} {M : MF} (h : SI g M) (a0 : Int32) : (¬ pI g a0 = 0 → ¬ g.2.1 3 (pI g a0 - 1) = 0 → vf_n32 (FP.fdiv (FP.i2f (dsI g (g.2.1 3 (pI g a0 - 1) - 1) (g.1 30 (pI g a0 - 1)))) (FP.i2f (g.1 2 (g.2.1 3 (pI g a0 - 1) - 1)))) ∧ vf_n32 (FP.fsub FP.fconst1 (FP.fdiv (FP.i2f (dsI g (g.2.1 3 (pI g a0 - 1) - 1) (g.1 30 (pI g a0 - 1)))) (FP.i2f (g.1 2 (g.2.1 3 (pI g a0 - 1) - 1)))))) ∧ (stC g a0 = 0 → vf_n64 (FP.f2d (stV g (pI g a0 - 1)))) := by
  refine ⟨fun c c3 => ?_, fun c => ?_⟩
  · have := st_ok h.1 (pI_n c).1 c3
    exact ⟨this.2.1, this.2.2.1⟩
  · have c1 : ¬ pI g a0 = 0 := fun x => by rw [stC, if_pos x] at c; exact absurd c (by decide)
    unfold stV
    by_cases c3 : g.2.1 3 (pI g a0 - 1) = 0
    · rw [if_pos (Or.inl c3)]; exact fp_0
    · have := st_ok h.1 (pI_n c1).1 c3
      rw [if_neg (fun x => x.elim c3 this.1)]
      exact this.2.2.2
theorem V_rnan {g : XS} {M : MF} (h : SI g M) (a0 : Int32) : isPB M a0 = true → ¬ M 21 (pI g a0 - 1) = -1 → vf_n32 (FP.fdiv (FP.i2f (apI M (M 21 (pI g a0 - 1)).toNatClampNeg (M 20 (pI g a0 - 1)))) (FP.i2f (M 4 (M 21 (pI g a0 - 1)).toNatClampNeg))) ∧ vf_n32 (FP.fsub FP.fconst1 (FP.fdiv (FP.i2f (apI M (M 21 (pI g a0 - 1)).toNatClampNeg (M 20 (pI g a0 - 1)))) (FP.i2f (M 4 (M 21 (pI g a0 - 1)).toNatClampNeg)))) := by
  intro hb hn
  have c := (pI_is h).mp hb
  have hq := (pI_n c).1
  obtain ⟨p1, p2, p3, p4, p5⟩ := h.2.1.2.2.2.2.1 _ hq
  have h8 := h.1.1.1
  have hr := h.1.1.2.2.1 _ hq
  have c3 : ¬ g.2.1 3 (pI g a0 - 1) = 0 := fun x => hn (by rw [p2, x, cdI_0])
  have := st_ok h.1 hq c3
  rw [p2, cdI_n c3, nI_clamp (by omega), p1, ds_eq h.2.1 (by omega), (h.2.1.2.1 _ (by omega)).2.1]
  exact ⟨this.2.1, this.2.2.1⟩
theorem V_strength {g : XS} {M : MF} (h : SI g M) (a0 : Int32) (c : stC g a0 = 0) : rstV (rT M) (pI g a0 - 1) = stV g (pI g a0 - 1) := by
  have c1 : ¬ pI g a0 = 0 := fun x => by rw [stC, if_pos x] at c; exact absurd c (by decide)
  have hq := (pI_n c1).1
  have hT : SI g (rT M) := h.T
  generalize rT M = M1 at hT
  generalize pI g a0 - 1 = q at hq
  obtain ⟨p1, p2, p3, p4, p5⟩ := hT.2.1.2.2.2.2.1 q hq
  have h8 := h.1.1.1
  have hr := h.1.1.2.2.1 _ hq
  unfold rstV stV
  rw [p2, p1]
  by_cases c3 : g.2.1 3 q = 0
  · rw [if_pos (Or.inl c3), c3, cdI_0, if_pos rfl]
  · have := st_ok h.1 hq c3
    have hm : ¬ cdI (g.2.1 3 q) = -1 := fun x => c3 ((cdI_m (by omega)).mp x)
    rw [if_neg hm, if_neg (c := g.2.1 3 q = 0 ∨ g.1 2 (g.2.1 3 q - 1) < 1) (fun x => x.elim c3 this.1), cdI_n c3, nI_clamp (by omega), ds_eq hT.2.1 (by omega), (hT.2.1.2.1 _ (by omega)).2.1]
/-- a new mast -/
theorem pnS_no {g : XS} {i : Nat} {a : Int32} (h : ∀ q, q < g.2.1 1 0 → ¬ g.2.1 3 q = i + 1) : ∀ n, pnS g i n a = a
  | 0 => rfl
  | n + 1 => by rw [pnS, if_neg (fun x => h n x.1 x.2), pnS_no h n]
theorem nwM_1 {g : XS} {a : Nat → Int32} {f j : Nat} (h : ¬ j = g.2.1 0 0 ∨ 13 ≤ f) : (nwM g a).1 f j = g.1 f j := by
  unfold nwM
  exact if_neg (by omega)
theorem nwM_0 {g : XS} {a : Nat → Int32} {f : Nat} (h : f < 13) : (nwM g a).1 f (g.2.1 0 0) = a f := by
  unfold nwM
  exact if_pos ⟨rfl, h⟩
theorem nwM_00 {g : XS} {a : Nat → Int32} : (nwM g a).2.1 0 0 = g.2.1 0 0 + 1 := by
  unfold nwM
  show up g.2.1 0 0 (g.2.1 0 0 + 1) 0 0 = _
  rw [up_s]
theorem nwM_n {g : XS} {a : Nat → Int32} {f j : Nat} (h : f ≠ 0) : (nwM g a).2.1 f j = g.2.1 f j := by unfold nwM; exact up_f h
theorem rmC_eq {g : XS} {M : MF} (h : SI g M) (a0 a1 a2 a3 a4 : Int32) : rmC M a0 a1 a2 a3 a4 = mastC g a0 a1 a2 a3 a4 := by
  unfold rmC mastC
  have h8 := h.1.1.1
  have e : nI (g.2.1 0 0) = 8 ↔ g.2.1 0 0 = 8 := nI_eq (b := 8) (by omega) (by omega)
  rw [h.2.1.1.1]
  split
  · rfl
  · by_cases c : g.2.1 0 0 = 8
    · rw [if_pos (e.mpr c), if_neg (by omega)]
    · rw [if_neg (fun x => c (e.mp x)), if_pos (by omega)]
theorem nwM_Ok {g : XS} (h : Ok g) (h8 : g.2.1 0 0 < 8) {a : Nat → Int32} (b0 : a 0 = nI (g.2.1 0 0)) (b1 : ∃ z, z ≤ 99 ∧ a 1 = nI z) (b2 : ∃ z, 1 ≤ z ∧ z ≤ 40 ∧ a 2 = nI z) (b5 : ∃ z, z ≤ 100 ∧ a 5 = nI z) (b9 : a 9 = 0) (b12 : a 12 = 0) : Ok (nwM g a) := by
  obtain ⟨hX, hT, hM, hP, hL, hG⟩ := h
  obtain ⟨x1, x2, x3, x4, x5⟩ := hX
  obtain ⟨t1, t2, t3, t4, t5⟩ := hT
  have nc : ∀ q, q < g.2.1 1 0 → ¬ g.2.1 3 q = g.2.1 0 0 + 1 := fun q hq e => by have := x3 q hq; omega
  have h40 : (nwM g a).1 40 0 = g.1 40 0 := nwM_1 (by omega)
  have n1 : (nwM g a).2.1 1 0 = g.2.1 1 0 := nwM_n (by decide)
  have n3 : ∀ q, (nwM g a).2.1 3 q = g.2.1 3 q := fun q => nwM_n (by decide)
  have n4 : ∀ q, (nwM g a).2.1 4 q = g.2.1 4 q := fun q => nwM_n (by decide)
  have hh : hN (nwM g a) = hN g := by unfold hN; rw [h40]
  have x32 : ∀ q, (nwM g a).1 32 q = g.1 32 q := fun q => nwM_1 (by omega)
  have hl : ∀ i, hlS (nwM g a) i = hlS g i := fun i => hlS_cg (n4 i) (fun _ => rfl) (fun _ => rfl)
  refine ⟨⟨by rw [nwM_00]; omega, by rw [n1]; exact x2, fun q hq => ?_, fun i q hq => ?_, fun i hi => ?_⟩, ⟨⟨by rw [h40, hh]; exact t1.1, by rw [hh]; exact t1.2⟩, fun q hq hn => ?_, fun i hi => ?_, fun i hi => ?_, ?_⟩, fun i hi => ?_, fun q hq => ?_, fun i hi hn => ?_, fun q hq => ?_⟩
  · rw [n1] at hq
    rw [n3, nwM_00]
    have := x3 q hq
    omega
  · rw [n4] at hq
    exact x4 i q hq
  · rw [nwM_00] at hi
    rw [nwM_n (by decide), n4]
    exact x5 i (by omega)
  · rw [n1] at hq
    rw [n3] at hn
    rw [hh, x32]
    exact t2 q hq hn
  · rw [nwM_00] at hi
    rw [caG_cg n1 (fun q _ => n3 q)]
    by_cases e : i = g.2.1 0 0
    · subst e
      rw [nwM_0 (by decide), b9, caG_no nc]
    · rw [nwM_1 (Or.inl e)]
      exact t3 i (by omega)
  · rw [nwM_00] at hi
    rw [pnS_cg n1 (fun q _ => n3 q) h40 (fun q _ _ => x32 q), hl]
    by_cases e : i = g.2.1 0 0
    · subst e
      rw [nwM_0 (by decide), b12, pnS_no nc, hlS, (x5 _ (Nat.le_refl _)).2]
      rfl
    · rw [nwM_1 (Or.inl e)]
      exact t4 i (by omega)
  · rw [hh, nS_cg (f := g.2.1 4) 8 (fun j _ => n4 j), nS_cg (f := pdN g) 12 (fun j _ => pdN_cg n1 (n3 j) h40 (fun _ _ => x32 j))]
    exact t5
  · rw [nwM_00] at hi
    by_cases e : i = g.2.1 0 0
    · subst e
      rw [nwM_0 (by decide), nwM_0 (by decide), nwM_0 (by decide), nwM_0 (by decide)]
      exact ⟨b0, b1, b2, b5⟩
    · rw [nwM_1 (Or.inl e), nwM_1 (Or.inl e), nwM_1 (Or.inl e), nwM_1 (Or.inl e)]
      exact hM i (by omega)
  · rw [n1] at hq
    rw [nwM_1 (by omega)]
    exact hP q hq
  · rw [nwM_n (by decide)] at hn
    rw [nwM_00] at hi
    have hi2 : i < g.2.1 0 0 := Decidable.byContradiction (fun x => hn (x5 i (by omega)).1)
    rw [h40, nwM_1 (by omega), nwM_1 (by omega), nwM_1 (by omega)]
    exact hL i hi2 hn
  · rw [n1] at hq
    have hr := x3 q hq
    obtain ⟨g1, g2⟩ := hG q hq
    refine ⟨fun hn => ?_, fun hn => ?_⟩ <;> rw [n3] at hn ⊢
    · rw [onB_cg (g := g) (nwM_n (by decide)) (nwM_1 (by omega))]
      exact g1 hn
    · rw [cvB_cg (g := g) (nwM_1 (by omega)) (nwM_1 (by omega)), nwM_1 (by omega)]
      exact g2 hn
theorem nwM_Rg {g : XS} {M : MF} (h : Rg g M) (hX : XI g) (a0 a1 a2 a3 a4 a5 : Int32) : Rg (nwM g (l13 (nI (g.2.1 0 0)) a0 a1 a2 a3 a4 a5)) (rmG M a0 a1 a2 a3 a4 a5) := by
  have hm := mN_Rg h hX
  obtain ⟨hN, hS, hD, hL, hP, hZ⟩ := h
  obtain ⟨n1, n2, n3, n4, n5⟩ := hN
  have x5 := hX.2.2.2.2
  unfold rmG
  rw [hm]
  refine ⟨⟨?_, ?_, ?_, ?_, fun f hf => ?_⟩, fun i hi => ?_, fun i hi => ?_, fun i hi => ?_, fun q hq => ?_, fun i hi => ?_, fun q hq => ?_⟩
  · rw [nwM_00, up_s, n1, nI_1]
  · rw [nwM_n (by decide)]; simpa [up] using n2
  · rw [nwM_1 (by omega)]; simpa [up] using n3
  · rw [nwM_1 (by omega)]; simpa [up] using n4
  · rw [nwM_1 (by omega)]; simpa [up] using n5 f hf
  · rw [nwM_00] at hi
    by_cases e : i = g.2.1 0 0
    · subst e
      rw [nwM_0 (by decide), nwM_0 (by decide), nwM_0 (by decide), nwM_0 (by decide), nwM_0 (by decide), nwM_0 (by decide)]
      simp [up, l13]
    · rw [nwM_1 (Or.inl e), nwM_1 (Or.inl e), nwM_1 (Or.inl e), nwM_1 (Or.inl e), nwM_1 (Or.inl e), nwM_1 (Or.inl e)]
      simpa [up, e] using hS i (by omega)
  · rw [nwM_00] at hi
    by_cases e : i = g.2.1 0 0
    · subst e
      obtain ⟨z1, z2, z3, z4⟩ := hZ.1 _ (Nat.le_refl _)
      rw [nwM_0 (by decide), nwM_0 (by decide), nwM_0 (by decide), nwM_0 (by decide)]
      simp [up, l13, z1, z2, z3, z4]
    · rw [nwM_1 (Or.inl e), nwM_1 (Or.inl e), nwM_1 (Or.inl e), nwM_1 (Or.inl e)]
      simpa [up, e] using hD i (by omega)
  · rw [nwM_00] at hi
    rw [nwM_n (by decide), nwM_1 (by omega), nwM_1 (by omega), nwM_1 (by omega), nwM_1 (by omega), nwM_1 (by omega), nwM_1 (by omega)]
    by_cases e : i = g.2.1 0 0
    · subst e
      refine ⟨fun _ => by simp [up], fun hn => absurd (x5 _ (Nat.le_refl _)).1 hn⟩
    · simpa [up, e] using hL i (by omega)
  · rw [nwM_n (by decide)] at hq
    rw [nwM_n (by decide), nwM_1 (by omega), nwM_1 (by omega), nwM_1 (by omega), nwM_1 (by omega)]
    simpa [up] using hP q hq
  · rw [nwM_00] at hi
    simpa [up] using hZ.1 i (by omega)
  · rw [nwM_n (by decide)] at hq
    simpa [up] using hZ.2 q hq
theorem S_mast {g : XS} {M : MF} (h : SI g M) (a0 a1 a2 a3 a4 a5 : Int32) : SI (gO (mastC g a0 a1 a2 a3 a4) (nwM g (l13 (nI (g.2.1 0 0)) a0 a1 a2 a3 a4 a5)) g) (rO M (mastC g a0 a1 a2 a3 a4) (rmG (rT M) a0 a1 a2 a3 a4 a5)) ∧ mN M = g.2.1 0 0 := by
  refine ⟨SI_gO h (fun c => ?_), mN_Rg h.2.1 h.1.1⟩
  unfold mastC at c
  have c1 : (inB a0 0 99 && inB a1 1 40 && inB a2 1 10 && inB a3 0 10 && inB a4 0 100) = true := by
    cases e : (inB a0 0 99 && inB a1 1 40 && inB a2 1 10 && inB a3 0 10 && inB a4 0 100)
    · rw [e, if_pos rfl] at c; exact absurd c (by decide)
    · rfl
  rw [c1, if_neg (by decide)] at c
  have c2 : g.2.1 0 0 < 8 := Decidable.byContradiction (fun x => by rw [if_neg x] at c; exact absurd c (by decide))
  simp only [Bool.and_eq_true] at c1
  obtain ⟨⟨⟨⟨d0, d1⟩, d2⟩, d3⟩, d4⟩ := c1
  have hT : SI g (rT M) := h.T
  refine ⟨nwM_Ok h.1 c2 rfl ?_ ?_ ?_ rfl rfl, nwM_Rg hT.2.1 h.1.1 a0 a1 a2 a3 a4 a5, hT.2.2.of (fun _ => by simp [rmG, up]) (fun _ => by simp [rmG, up])⟩
  · exact inB_nI (n := 99) rfl (by decide) d0
  · obtain ⟨z, hz, rfl⟩ := inB_n1 (n := 40) (by decide) rfl (by decide) d1
    refine ⟨z, ?_, hz, rfl⟩
    simp only [inB, Bool.and_eq_true, decide_eq_true_eq] at d1
    have := d1.1
    rwa [show (1 : Int32) = nI 1 from rfl, nI_leI (by omega) (by omega)] at this
  · exact inB_nI (n := 100) rfl (by decide) d4
