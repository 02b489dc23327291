/-! each call, both sides, fourth: new phones, new leases; the beginning -/
theorem nwP_1 {g : XS} {p : Int32} {f j : Nat} (h : ¬ j = g.2.1 1 0 ∨ f < 30 ∨ 36 ≤ f) : (nwP g p).1 f j = g.1 f j := by
  unfold nwP
  exact if_neg (by omega)
theorem nwP_0 {g : XS} {p : Int32} {f : Nat} (h : 30 ≤ f) (h2 : f < 36) : (nwP g p).1 f (g.2.1 1 0) = if f = 30 then p else 0 := by
  unfold nwP
  exact if_pos ⟨rfl, h, h2⟩
theorem nwP_10 {g : XS} {p : Int32} : (nwP g p).2.1 1 0 = g.2.1 1 0 + 1 := by
  unfold nwP
  show up (up g.2.1 3 (g.2.1 1 0) 0) 1 0 (g.2.1 1 0 + 1) 1 0 = _
  rw [up_s]
theorem nwP_n {g : XS} {p : Int32} {f j : Nat} (h : f ≠ 1) (h3 : f ≠ 3) : (nwP g p).2.1 f j = g.2.1 f j := by
  unfold nwP
  show up (up g.2.1 3 (g.2.1 1 0) 0) 1 0 (g.2.1 1 0 + 1) f j = _
  rw [up_f h, up_f h3]
theorem nwP_3 {g : XS} {p : Int32} {j : Nat} : (nwP g p).2.1 3 j = if j = g.2.1 1 0 then 0 else g.2.1 3 j := by
  unfold nwP
  show up (up g.2.1 3 (g.2.1 1 0) 0) 1 0 (g.2.1 1 0 + 1) 3 j = _
  rw [up_f (by decide), up_is]
theorem nwP_c {g : XS} {p : Int32} {i q : Nat} : (q < (nwP g p).2.1 1 0 ∧ (nwP g p).2.1 3 q = i + 1) ↔ (q < g.2.1 1 0 ∧ g.2.1 3 q = i + 1) := by
  rw [nwP_10, nwP_3]
  by_cases e : q = g.2.1 1 0
  · rw [if_pos e]; omega
  · rw [if_neg e]; omega
theorem caG_nw {g : XS} {p : Int32} {i : Nat} : ∀ n, caG (nwP g p) i n = caG g i n
  | 0 => rfl
  | n + 1 => by
    unfold caG
    rw [caG_nw n]
    by_cases c : n < g.2.1 1 0 ∧ g.2.1 3 n = i + 1
    · rw [if_pos c, if_pos (nwP_c.mpr c)]
    · rw [if_neg c, if_neg (fun x => c (nwP_c.mp x))]
theorem pnS_nw {g : XS} {p : Int32} {i : Nat} {a : Int32} : ∀ n, pnS (nwP g p) i n a = pnS g i n a
  | 0 => rfl
  | n + 1 => by
    unfold pnS
    rw [pnS_nw n]
    by_cases c : n < g.2.1 1 0 ∧ g.2.1 3 n = i + 1
    · rw [if_pos c, if_pos (nwP_c.mpr c), nwP_1 (by omega), nwP_1 (Or.inl (by omega))]
    · rw [if_neg c, if_neg (fun x => c (nwP_c.mp x))]
theorem pdN_nw {g : XS} {p : Int32} {q : Nat} : pdN (nwP g p) q = pdN g q := by
  unfold pdN hN
  rw [nwP_1 (by omega), nwP_10, nwP_3]
  by_cases e : q = g.2.1 1 0
  · rw [if_pos e, if_neg (fun x => x.2 rfl), if_neg (by omega)]
  · rw [if_neg e, nwP_1 (Or.inl e)]
    by_cases c : q < g.2.1 1 0 ∧ ¬ g.2.1 3 q = 0
    · rw [if_pos c, if_pos ⟨by omega, c.2⟩]
    · rw [if_neg c, if_neg (by omega)]
theorem nwP_Ok {g : XS} (h : Ok g) (h12 : g.2.1 1 0 < 12) {p : Int32} (hp : inB p 0 99 = true) : Ok (nwP g p) := by
  obtain ⟨hX, hT, hM, hP, hL, hG⟩ := h
  obtain ⟨x1, x2, x3, x4, x5⟩ := hX
  obtain ⟨t1, t2, t3, t4, t5⟩ := hT
  have h40 : (nwP g p).1 40 0 = g.1 40 0 := nwP_1 (by omega)
  have n0 : (nwP g p).2.1 0 0 = g.2.1 0 0 := nwP_n (by decide) (by decide)
  have n4 : ∀ q, (nwP g p).2.1 4 q = g.2.1 4 q := fun q => nwP_n (by decide) (by decide)
  have hh : hN (nwP g p) = hN g := by unfold hN; rw [h40]
  have hl : ∀ i, hlS (nwP g p) i = hlS g i := fun i => hlS_cg (n4 i) (fun _ => rfl) (fun _ => rfl)
  refine ⟨⟨by rw [n0]; exact x1, by rw [nwP_10]; omega, fun q hq => ?_, fun i q hq => ?_, fun i hi => ?_⟩, ⟨⟨by rw [h40, hh]; exact t1.1, by rw [hh]; exact t1.2⟩, fun q hq hn => ?_, fun i hi => ?_, fun i hi => ?_, ?_⟩, fun i hi => ?_, fun q hq => ?_, fun i hi hn => ?_, fun q hq => ?_⟩
  · rw [nwP_10] at hq
    rw [nwP_3, n0]
    split
    · exact Nat.zero_le _
    · exact x3 q (by omega)
  · rw [n4] at hq
    exact x4 i q hq
  · rw [n0] at hi
    rw [nwP_n (by decide) (by decide), n4]
    exact x5 i hi
  · rw [nwP_10] at hq
    rw [nwP_3] at hn
    by_cases e : q = g.2.1 1 0
    · rw [if_pos e] at hn; exact absurd rfl hn
    · rw [if_neg e] at hn
      rw [hh, nwP_1 (Or.inl e)]
      exact t2 q (by omega) hn
  · rw [n0] at hi
    rw [caG_nw, nwP_1 (by omega)]
    exact t3 i hi
  · rw [n0] at hi
    rw [pnS_nw, hl, nwP_1 (by omega)]
    exact t4 i hi
  · rw [hh, nS_cg (f := g.2.1 4) 8 (fun j _ => n4 j), nS_cg (f := pdN g) 12 (fun j _ => pdN_nw)]
    exact t5
  · rw [n0] at hi
    rw [nwP_1 (by omega), nwP_1 (by omega), nwP_1 (by omega), nwP_1 (by omega)]
    exact hM i hi
  · rw [nwP_10] at hq
    by_cases e : q = g.2.1 1 0
    · subst e
      rw [nwP_0 (by decide) (by decide), if_pos rfl]
      exact inB_nI (n := 99) rfl (by decide) hp
    · rw [nwP_1 (Or.inl e)]
      exact hP q (by omega)
  · rw [n0] at hi
    rw [nwP_n (by decide) (by decide)] at hn
    rw [h40, nwP_1 (by omega), nwP_1 (by omega), nwP_1 (by omega)]
    exact hL i hi hn
  · rw [nwP_10] at hq
    by_cases e : q = g.2.1 1 0
    · exact onq_0 (by rw [nwP_3, if_pos e])
    · obtain ⟨g1, g2⟩ := hG q (by omega)
      exact ⟨onq_cg g1 (by rw [nwP_3, if_neg e]) (fun _ => nwP_n (by decide) (by decide)) (fun _ => nwP_1 (by omega)), cvq_cg g2 (by rw [nwP_3, if_neg e]) (fun _ => nwP_1 (by omega)) (fun _ => nwP_1 (by omega)) (nwP_1 (Or.inl e))⟩
theorem nwP_Rg {g : XS} {M : MF} (h : Rg g M) (hX : XI g) (p : Int32) : Rg (nwP g p) (rphG M p) := by
  have hm := pN_Rg h hX
  obtain ⟨hN, hS, hD, hL, hP, hZ⟩ := h
  obtain ⟨n1, n2, n3, n4, n5⟩ := hN
  have n0 : (nwP g p).2.1 0 0 = g.2.1 0 0 := nwP_n (by decide) (by decide)
  unfold rphG
  rw [hm]
  refine ⟨⟨?_, ?_, ?_, ?_, fun f hf => ?_⟩, fun i hi => ?_, fun i hi => ?_, fun i hi => ?_, fun q hq => ?_, fun i hi => ?_, fun q hq => ?_⟩
  · rw [n0]; simpa [up] using n1
  · rw [nwP_10, up_s, n2, nI_1]
  · rw [nwP_1 (by omega)]; simpa [up] using n3
  · rw [nwP_1 (by omega)]; simpa [up] using n4
  · rw [nwP_1 (by omega)]; simpa [up] using n5 f hf
  · rw [n0] at hi
    rw [nwP_1 (by omega), nwP_1 (by omega), nwP_1 (by omega), nwP_1 (by omega), nwP_1 (by omega), nwP_1 (by omega)]
    simpa [up] using hS i hi
  · rw [n0] at hi
    rw [nwP_1 (by omega), nwP_1 (by omega), nwP_1 (by omega), nwP_1 (by omega)]
    simpa [up] using hD i hi
  · rw [n0] at hi
    rw [nwP_n (by decide) (by decide), nwP_1 (by omega), nwP_1 (by omega), nwP_1 (by omega), nwP_1 (by omega), nwP_1 (by omega), nwP_1 (by omega)]
    simpa [up] using hL i hi
  · rw [nwP_10] at hq
    by_cases e : q = g.2.1 1 0
    · subst e
      obtain ⟨z1, z2, z3⟩ := hZ.2 _ (Nat.le_refl _)
      rw [nwP_3, nwP_0 (by decide) (by decide), nwP_0 (by decide) (by decide), nwP_0 (by decide) (by decide), nwP_0 (by decide) (by decide)]
      simp [up, z1, z2, z3, cdI_0]
    · rw [nwP_3, if_neg e, nwP_1 (Or.inl e), nwP_1 (Or.inl e), nwP_1 (Or.inl e), nwP_1 (Or.inl e)]
      simpa [up, e] using hP q (by omega)
  · rw [n0] at hi
    simpa [up] using hZ.1 i hi
  · rw [nwP_10] at hq
    simpa [up] using hZ.2 q (by omega)
theorem rphC_eq {g : XS} {M : MF} (h : SI g M) (a0 : Int32) : rphC M a0 = phC g a0 := by
  unfold rphC phC
  have h12 := h.1.1.2.1
  have e : nI (g.2.1 1 0) = 12 ↔ g.2.1 1 0 = 12 := nI_eq (b := 12) (by omega) (by omega)
  rw [h.2.1.1.2.1]
  split
  · rfl
  · by_cases c : g.2.1 1 0 = 12
    · rw [if_pos (e.mpr c), if_neg (by omega)]
    · rw [if_neg (fun x => c (e.mp x)), if_pos (by omega)]
theorem S_phone {g : XS} {M : MF} (h : SI g M) (a0 : Int32) : SI (gO (phC g a0) (nwP g a0) g) (rO M (phC g a0) (rphG (rT M) a0)) ∧ M 19 0 + 1 - 1 = nI (g.2.1 1 0) := by
  refine ⟨SI_gO h (fun c => ?_), by rw [h.2.1.1.2.1, Int32.add_sub_cancel]⟩
  unfold phC at c
  have c1 : inB a0 0 99 = true := by
    cases e : inB a0 0 99
    · rw [e, if_pos rfl] at c; exact absurd c (by decide)
    · rfl
  rw [c1, if_neg (by decide)] at c
  have c2 : g.2.1 1 0 < 12 := Decidable.byContradiction (fun x => by rw [if_neg x] at c; exact absurd c (by decide))
  have hT : SI g (rT M) := h.T
  exact ⟨nwP_Ok h.1 c2 c1, nwP_Rg hT.2.1 h.1.1 a0, hT.2.2.of (fun _ => by simp [rphG, up]) (fun _ => by simp [rphG, up])⟩
/-- a new lease -/
theorem nwL_1 {g : XS} {i : Nat} {a : Nat → Int32} {f j : Nat} (h : ¬ j = i ∨ f < 20 ∨ 26 ≤ f) : (nwL g i a).1 f j = g.1 f j := by
  unfold nwL
  exact if_neg (by omega)
theorem nwL_0 {g : XS} {i : Nat} {a : Nat → Int32} {f : Nat} (h : 20 ≤ f) (h2 : f < 26) : (nwL g i a).1 f i = a (f - 20) := by
  unfold nwL
  exact if_pos ⟨rfl, h, h2⟩
theorem nwL_n {g : XS} {i : Nat} {a : Nat → Int32} {f j : Nat} (h : f ≠ 2) : (nwL g i a).2.1 f j = g.2.1 f j := by
  unfold nwL
  show up g.2.1 2 i 1 f j = _
  rw [up_f h]
theorem nwL_2 {g : XS} {i : Nat} {a : Nat → Int32} {j : Nat} : (nwL g i a).2.1 2 j = if j = i then 1 else g.2.1 2 j := by
  unfold nwL
  exact up_is (x := g.2.1) (v := 1)
theorem nwL_Ok {g : XS} (h : Ok g) {i : Nat} (hi : i < g.2.1 0 0) (h2 : g.2.1 2 i = 0) {a : Nat → Int32} (b0 : inB (a 0) 0 5 = true) (b1 : a 1 = -1 ∨ inB (a 1) 0 5 = true) (b3 : g.1 40 0 < a 3) : Ok (nwL g i a) := by
  obtain ⟨hX, hT, hM, hP, hL, hG⟩ := h
  have n0 : (nwL g i a).2.1 0 0 = g.2.1 0 0 := nwL_n (by decide)
  have n1 : (nwL g i a).2.1 1 0 = g.2.1 1 0 := nwL_n (by decide)
  refine ⟨?_, hT.of n0 n1 (fun _ => nwL_n (by decide)) (fun _ => nwL_n (by decide)) rfl (nwL_1 (by omega)) (fun _ _ => nwL_1 (by omega)) (fun _ _ => nwL_1 (by omega)) (fun _ _ => nwL_1 (by omega)), fun j hj => ?_, fun q hq => ?_, fun j hj hn => ?_, fun q hq => ?_⟩
  · obtain ⟨x1, x2, x3, x4, x5⟩ := hX
    refine ⟨by rw [n0]; exact x1, by rw [n1]; exact x2, fun q hq => ?_, fun j q hq => ?_, fun j hj => ?_⟩
    · rw [n1] at hq
      rw [n0, nwL_n (by decide)]
      exact x3 q hq
    · rw [nwL_n (by decide)] at hq
      exact x4 j q hq
    · rw [n0] at hj
      rw [nwL_2, if_neg (by omega), nwL_n (by decide)]
      exact x5 j hj
  · rw [n0] at hj
    rw [nwL_1 (by omega), nwL_1 (by omega), nwL_1 (by omega), nwL_1 (by omega)]
    exact hM j hj
  · rw [n1] at hq
    rw [nwL_1 (by omega)]
    exact hP q hq
  · rw [n0] at hj
    by_cases e : j = i
    · subst e
      rw [nwL_1 (by omega), nwL_0 (by decide) (by decide), nwL_0 (by decide) (by decide), nwL_0 (by decide) (by decide)]
      exact ⟨b3, b0, b1⟩
    · rw [nwL_2, if_neg e] at hn
      rw [nwL_1 (by omega), nwL_1 (Or.inl e), nwL_1 (Or.inl e), nwL_1 (Or.inl e)]
      exact hL j hj hn
  · rw [n1] at hq
    obtain ⟨g1, g2⟩ := hG q hq
    refine ⟨fun hn => ?_, cvq_cg g2 (nwL_n (by decide)) (fun _ => nwL_1 (by omega)) (fun _ => nwL_1 (by omega)) (nwL_1 (by omega))⟩
    rw [nwL_n (by decide)] at hn ⊢
    have hon := g1 hn
    by_cases e : g.2.1 3 q - 1 = i
    · rw [e] at hon
      unfold onB at hon
      rw [h2] at hon
      simp at hon
    · rw [onB_cg (g := g) (by rw [nwL_2, if_neg e]) (nwL_1 (by omega))]
      exact hon
theorem nwL_Rg {g : XS} {M : MF} (h : Rg g M) {i : Nat} {a1 a2 a3 a4 a5 a6 : Int32} (b3 : ¬ a4 = -1) : Rg (nwL g i (l6 a1 a2 a3 a4 a5 a6)) (rlG M i a1 a2 a3 a4 a5 a6) := by
  obtain ⟨hN, hS, hD, hL, hP, hZ⟩ := h
  obtain ⟨n1, n2, n3, n4, n5⟩ := hN
  have m0 : (nwL g i (l6 a1 a2 a3 a4 a5 a6)).2.1 0 0 = g.2.1 0 0 := nwL_n (by decide)
  have m1 : (nwL g i (l6 a1 a2 a3 a4 a5 a6)).2.1 1 0 = g.2.1 1 0 := nwL_n (by decide)
  unfold rlG
  refine ⟨⟨?_, ?_, ?_, ?_, fun f hf => ?_⟩, fun j hj => ?_, fun j hj => ?_, fun j hj => ?_, fun q hq => ?_, fun j hj => ?_, fun q hq => ?_⟩
  · rw [m0]; simpa [up] using n1
  · rw [m1]; simpa [up] using n2
  · rw [nwL_1 (by omega)]; simpa [up] using n3
  · rw [nwL_1 (by omega)]; simpa [up] using n4
  · rw [nwL_1 (by omega)]; simpa [up] using n5 f hf
  · rw [m0] at hj
    rw [nwL_1 (by omega), nwL_1 (by omega), nwL_1 (by omega), nwL_1 (by omega), nwL_1 (by omega), nwL_1 (by omega)]
    simpa [up] using hS j hj
  · rw [m0] at hj
    rw [nwL_1 (by omega), nwL_1 (by omega), nwL_1 (by omega), nwL_1 (by omega)]
    simpa [up] using hD j hj
  · rw [m0] at hj
    rw [nwL_2]
    by_cases e : j = i
    · subst e
      rw [if_pos rfl, nwL_0 (by decide) (by decide), nwL_0 (by decide) (by decide), nwL_0 (by decide) (by decide), nwL_0 (by decide) (by decide), nwL_0 (by decide) (by decide), nwL_0 (by decide) (by decide)]
      simp [up, l6, b3]
    · rw [if_neg e, nwL_1 (Or.inl e), nwL_1 (Or.inl e), nwL_1 (Or.inl e), nwL_1 (Or.inl e), nwL_1 (Or.inl e), nwL_1 (Or.inl e)]
      simpa [up, e] using hL j hj
  · rw [m1] at hq
    rw [nwL_n (by decide), nwL_1 (by omega), nwL_1 (by omega), nwL_1 (by omega), nwL_1 (by omega)]
    simpa [up] using hP q hq
  · rw [m0] at hj
    simpa [up] using hZ.1 j hj
  · rw [m1] at hq
    simpa [up] using hZ.2 q hq
theorem rlC_eq {g : XS} {M : MF} (h : SI g M) (a0 a1 a2 a3 a4 a5 a6 : Int32) : rlC M a0 a1 a2 a3 a4 a5 a6 = leaseC g a0 a1 a2 a3 a4 a5 a6 := by
  unfold rlC leaseC
  rw [h.2.1.1.2.2.1]
  by_cases c : mI g a0 = 0
  · rw [(mI_f h).mpr c, if_pos (Or.inl c)]
    rfl
  · rw [(mI_is h).mpr c]
    obtain ⟨c1, c2, c3⟩ := mI_n c
    have et : a0.toNatClampNeg = mI g a0 - 1 := by
      have := nI_clamp (n := mI g a0 - 1) (by omega)
      rwa [← c3] at this
    have er := rl_eq h.2.1 c1
    rw [et]
    have e1 : ((true && inB a1 0 5 && (decide (a2 = -1) || inB a2 0 5)) = false) ↔ (mI g a0 = 0 ∨ inB a1 0 5 = false ∨ (¬ a2 = -1 ∧ inB a2 0 5 = false)) := by
      by_cases d : a2 = -1 <;> cases inB a1 0 5 <;> cases inB a2 0 5 <;> simp [c, d]
    have e2 : ((decide (¬ a1 = a2) && inB a3 (if a2 = -1 then 10 else 0) 10 && inB a4 (g.1 40 0 + 1) 10000 && inB a5 0 1000 && inB a6 0 100) = false) ↔ (a1 = a2 ∨ inB a3 (if a2 = -1 then 10 else 0) 10 = false ∨ inB a4 (g.1 40 0 + 1) 10000 = false ∨ inB a5 0 1000 = false ∨ inB a6 0 100 = false) := by
      generalize inB a3 (if a2 = -1 then 10 else 0) 10 = w1
      generalize inB a4 (g.1 40 0 + 1) 10000 = w2
      generalize inB a5 0 1000 = w3
      generalize inB a6 0 100 = w4
      by_cases d : a1 = a2 <;> cases w1 <;> cases w2 <;> cases w3 <;> cases w4 <;> simp [d]
    by_cases k1 : mI g a0 = 0 ∨ inB a1 0 5 = false ∨ (¬ a2 = -1 ∧ inB a2 0 5 = false)
    · rw [if_pos k1, if_pos (e1.mpr k1)]
    · rw [if_neg k1, if_neg (fun x => k1 (e1.mp x))]
      by_cases k2 : a1 = a2 ∨ inB a3 (if a2 = -1 then 10 else 0) 10 = false ∨ inB a4 (g.1 40 0 + 1) 10000 = false ∨ inB a5 0 1000 = false ∨ inB a6 0 100 = false
      · rw [if_pos k2, if_pos (e2.mpr k2)]
      · rw [if_neg k2, if_neg (fun x => k2 (e2.mp x))]
        by_cases k3 : g.2.1 2 (mI g a0 - 1) = 0
        · rw [if_neg (fun x => er.mp x k3), if_neg (fun x => x k3)]
        · rw [if_pos (er.mpr k3), if_pos k3]
theorem S_lease {g : XS} {M : MF} (h : SI g M) (a0 a1 a2 a3 a4 a5 a6 : Int32) : SI (gO (leaseC g a0 a1 a2 a3 a4 a5 a6) (nwL g (mI g a0 - 1) (l6 a1 a2 a3 a4 a5 a6)) g) (rO M (leaseC g a0 a1 a2 a3 a4 a5 a6) (rlG (rT M) (mI g a0 - 1) a1 a2 a3 a4 a5 a6)) := by
  refine SI_gO h (fun c => ?_)
  unfold leaseC at c
  have k1 : ¬ (mI g a0 = 0 ∨ inB a1 0 5 = false ∨ (¬ a2 = -1 ∧ inB a2 0 5 = false)) := fun x => by rw [if_pos x] at c; exact absurd c (by decide)
  rw [if_neg k1] at c
  have k2 : ¬ (a1 = a2 ∨ inB a3 (if a2 = -1 then 10 else 0) 10 = false ∨ inB a4 (g.1 40 0 + 1) 10000 = false ∨ inB a5 0 1000 = false ∨ inB a6 0 100 = false) := fun x => by rw [if_pos x] at c; exact absurd c (by decide)
  rw [if_neg k2] at c
  have k3 : g.2.1 2 (mI g a0 - 1) = 0 := Decidable.byContradiction (fun x => by rw [if_pos x] at c; exact absurd c (by decide))
  have hi := (mI_n (fun x => k1 (Or.inl x))).1
  have hb1 : inB a1 0 5 = true := by
    cases e : inB a1 0 5
    · exact absurd (Or.inr (Or.inl e)) k1
    · rfl
  have hb2 : a2 = -1 ∨ inB a2 0 5 = true := by
    by_cases d : a2 = -1
    · exact Or.inl d
    · right
      cases e : inB a2 0 5
      · exact absurd (Or.inr (Or.inr ⟨d, e⟩)) k1
      · rfl
  have hb4 : inB a4 (g.1 40 0 + 1) 10000 = true := by
    cases e : inB a4 (g.1 40 0 + 1) 10000
    · exact absurd (Or.inr (Or.inr (Or.inl e))) k2
    · rfl
  obtain ⟨t1, t2⟩ := h.1.2.1.1
  have hlt : (hN g : Int) < a4.toInt := by
    simp only [inB, Bool.and_eq_true, decide_eq_true_eq] at hb4
    have := hb4.1
    rw [t1, nI_1, Int32.le_iff_toInt_le, nI_toInt (by omega)] at this
    omega
  have hlt2 : g.1 40 0 < a4 := by
    rw [t1, Int32.lt_iff_toInt_lt, nI_toInt (by omega)]
    exact hlt
  have hne : ¬ a4 = -1 := fun x => by
    rw [x, show (-1 : Int32).toInt = -1 by decide] at hlt
    omega
  have hT : SI g (rT M) := h.T
  refine ⟨nwL_Ok h.1 hi k3 hb1 hb2 hlt2, nwL_Rg hT.2.1 hne, fun j hj => ?_⟩
  have := hT.2.2 j hj
  unfold rlG
  by_cases e : j = mI g a0 - 1
  · subst e
    refine ⟨?_, ?_⟩
    · rw [show up (up (up (up (up (up (rT M) 11 _ a4) 12 _ a1) 13 _ a2) 14 _ a3) 15 _ a5) 16 _ a6 12 (mI g a0 - 1) = a1 by simp [up]]
      exact inB_vp hb1
    · rw [show up (up (up (up (up (up (rT M) 11 _ a4) 12 _ a1) 13 _ a2) 14 _ a3) 15 _ a5) 16 _ a6 13 (mI g a0 - 1) = a2 by simp [up]]
      exact hb2.imp id inB_vp
  · simpa [up, e] using this
/-- the beginning -/
def g00 : XS := (fun _ _ => 0, fun _ _ => 0, fun _ _ _ => 0)
def M00 : MF := fun _ _ => 0
theorem SI_0 : SI g00 M00 := by
  have e0 : (0 : Int32) = nI 0 := rfl
  refine ⟨⟨⟨Nat.zero_le _, Nat.zero_le _, fun q hq => absurd hq (Nat.not_lt_zero _), fun _ _ _ => ⟨rfl, rfl⟩, fun _ _ => ⟨rfl, rfl⟩⟩, ⟨⟨rfl, Nat.zero_le _⟩, fun q hq => absurd hq (Nat.not_lt_zero _), fun q hq => absurd hq (Nat.not_lt_zero _), fun q hq => absurd hq (Nat.not_lt_zero _), ?_⟩, fun q hq => absurd hq (Nat.not_lt_zero _), fun q hq => absurd hq (Nat.not_lt_zero _), fun q hq => absurd hq (Nat.not_lt_zero _), fun q hq => absurd hq (Nat.not_lt_zero _)⟩, ⟨⟨rfl, rfl, rfl, rfl, fun _ _ => rfl⟩, fun q hq => absurd hq (Nat.not_lt_zero _), fun q hq => absurd hq (Nat.not_lt_zero _), fun q hq => absurd hq (Nat.not_lt_zero _), fun q hq => absurd hq (Nat.not_lt_zero _), fun _ _ => ⟨rfl, rfl, rfl, rfl⟩, fun _ _ => ⟨rfl, rfl, rfl⟩⟩, fun i hi => ?_⟩
  · have e1 : nS (g00.2.1 4) 8 = 0 := by simp [nS, g00]
    have e2 : nS (pdN g00) 12 = 0 := by simp [nS, pdN, g00]
    omega
  · exact ⟨vp_in_nI (n := 0) (by omega) (by decide), Or.inr (vp_in_nI (n := 0) (by omega) (by decide))⟩
theorem tb_00 : tb g00 = 0 := by simp [tb, tbA, nbk, g00]
