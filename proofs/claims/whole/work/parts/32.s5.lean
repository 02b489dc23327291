/-! an hour, whole -/
def Ok (g : XS) : Prop := XI g ∧ TI g ∧ GM g ∧ GP g ∧ GL g ∧ CG g
def hrE (g : XS) : XS := elsG (tkG (pwsG (prsG (ctrG g 8) 8) 8)) 8
theorem hrG_E {g : XS} : hrG g = lvsG (hrE g) 12 := by rw [hrG, hrE]
theorem tkG_l {g : XS} : (tkG g).2.2 = g.2.2 := rfl
theorem tkG_40 {g : XS} : (tkG g).1 40 0 = g.1 40 0 + 1 := by
  unfold tkG
  show up g.1 40 0 (g.1 40 0 + 1) 40 0 = _
  rw [up_s]
theorem hrD_x {g : XS} {f j : Nat} (h8 : f ≠ 8) (h10 : f ≠ 10) (h11 : f ≠ 11) (h12 : f ≠ 12) (h40 : f ≠ 40) (h42 : f ≠ 42) : (tkG (pwsG (prsG (ctrG g 8) 8) 8)).1 f j = g.1 f j := by
  rw [tkG_x h40, pwsG_x h8 h10 h11, prsG_x h42, ctrG_x h12]
theorem hrD_n {g : XS} : (tkG (pwsG (prsG (ctrG g 8) 8) 8)).2.1 = g.2.1 := by rw [tkG_n, pwsG_n, prsG_n, ctrG_n]
theorem hrD_l {g : XS} : (tkG (pwsG (prsG (ctrG g 8) 8) 8)).2.2 = g.2.2 := by
  rw [tkG_l, pwsG_l, prsG_l, ctrG_l]
theorem hrD_40 {g : XS} : (tkG (pwsG (prsG (ctrG g 8) 8) 8)).1 40 0 = g.1 40 0 + 1 := by
  rw [tkG_40, pwsG_x (by decide) (by decide) (by decide), prsG_x (by decide), ctrG_x (by decide)]
theorem hrE_x {g : XS} {f j : Nat} (h8 : f ≠ 8) (h10 : f ≠ 10) (h11 : f ≠ 11) (h12 : f ≠ 12) (h40 : f ≠ 40) (h42 : f ≠ 42) : (hrE g).1 f j = g.1 f j := by
  rw [hrE, elsG_x, hrD_x h8 h10 h11 h12 h40 h42]
theorem hrE_n {g : XS} {f j : Nat} (h : f ≠ 2) : (hrE g).2.1 f j = g.2.1 f j := by rw [hrE, elsG_n h, hrD_n]
theorem hrE_l {g : XS} : (hrE g).2.2 = g.2.2 := by rw [hrE, elsG_l, hrD_l]
theorem hrE_40 {g : XS} : (hrE g).1 40 0 = g.1 40 0 + 1 := by rw [hrE, elsG_x, hrD_40]
theorem hrE_12 {g : XS} {j : Nat} (hZ : Z9 g) (hj : j < g.2.1 0 0) (h8 : g.2.1 0 0 ≤ 8) : (hrE g).1 12 j = g.1 12 j + g.1 9 j := by
  rw [hrE, elsG_x, tkG_x (by decide), pwsG_x (by decide) (by decide) (by decide), prsG_x (by decide), ctr_12 hj]
  by_cases c : onB g j = true
  · rw [if_pos ⟨by omega, c⟩]
  · rw [if_neg (fun x => c x.2), hZ j hj (by simpa using c)]
    simp
theorem hrE_TI {g : XS} (hX : XI g) (hT : TI g) (hZ : Z9 g) (hh : hN g + 1 ≤ 10000) : TI (hrE g) ∧ hN (hrE g) = hN g + 1 := by
  obtain ⟨⟨a1, a2⟩, a3, a4, a5, a6⟩ := hT
  have e40 : (hrE g).1 40 0 = nI (hN g + 1) := by rw [hrE_40, a1, nI_1]
  have eh : hN (hrE g) = hN g + 1 := by show ((hrE g).1 40 0).toNatClampNeg = _; rw [e40, nI_clamp (by omega)]
  have x32 : ∀ q, (hrE g).1 32 q = g.1 32 q := fun q => hrE_x (by decide) (by decide) (by decide) (by decide) (by decide) (by decide)
  have x9 : ∀ q, (hrE g).1 9 q = g.1 9 q := fun q => hrE_x (by decide) (by decide) (by decide) (by decide) (by decide) (by decide)
  have n0 : (hrE g).2.1 0 0 = g.2.1 0 0 := hrE_n (by decide)
  have n1 : (hrE g).2.1 1 0 = g.2.1 1 0 := hrE_n (by decide)
  have n3 : ∀ q, (hrE g).2.1 3 q = g.2.1 3 q := fun q => hrE_n (by decide)
  have n4 : ∀ q, (hrE g).2.1 4 q = g.2.1 4 q := fun q => hrE_n (by decide)
  refine ⟨⟨⟨by rw [eh, e40], by rw [eh]; exact hh⟩, fun q hq hn => ?_, fun i hi => ?_, fun i hi => ?_, ?_⟩, eh⟩
  · rw [n1] at hq
    rw [n3] at hn
    obtain ⟨s, hs, es⟩ := a3 q hq hn
    exact ⟨s, by omega, by rw [x32, es]⟩
  · rw [n0] at hi
    rw [x9, caG_cg n1 (fun q _ => n3 q)]
    exact a4 i hi
  · rw [n0] at hi
    rw [hrE_12 hZ hi hX.1, pnS_tk (g := g) n1 n3 hrE_40 x32, hlS_cg (g := g) (n4 i) (fun q => by rw [hrE_l]) (fun q => by rw [hrE_l]), a5 i hi, a4 i hi]
  · rw [eh, nS_cg (f := g.2.1 4) 8 (fun j _ => n4 j)]
    have := nS_le (f := pdN g) (f' := pdN (hrE g)) 12 (fun j _ => by
      unfold pdN
      rw [n1, n3, eh, x32]
      split
      · omega
      · exact Nat.zero_le _)
    omega
theorem hrE_Rg {g : XS} {M : MF} (hO : Ok g) (hR : Rg g M) (hh : hN g + 1 ≤ 10000) : Rg (hrE g) (relG (rtkG (rhrA M)) (mN M)) := by
  obtain ⟨hX, hT, hM, hP, hL, hG⟩ := hO
  have hC := hT.Cr
  have hZ := Z9_of hC hG
  have h8 := hX.1
  have hm := mN_Rg hR hX
  unfold hrE rhrA rtkG
  rw [hm]
  have R1 := ctr_Rg hX hC hR 8
  rw [Nat.min_eq_right h8] at R1
  have X1 := hX.ctr 8
  have C1 := hC.of (g' := ctrG g 8) (ctrG_n 8) (fun j => ctrG_x (by decide) 8)
  have Z1 := hZ.of (g' := ctrG g 8) (ctrG_n 8) (fun j => ctrG_x (by decide) 8) (fun j => ctrG_x (by decide) 8)
  have F1 : GF (ctrG g 8) := fun j hj hl => by
    rw [ctrG_n] at hj hl
    rw [ctrG_x (by decide), ctrG_x (by decide)]
    exact (hL j hj hl).2
  have R2 := prs_Rg X1 C1 Z1 F1 R1 8
  rw [ctrG_n, Nat.min_eq_right h8] at R2
  have X2 := X1.prs 8
  have C2 := C1.of (g' := prsG (ctrG g 8) 8) (prsG_n 8) (fun j => prsG_x (by decide) 8)
  have G2 : GC (prsG (ctrG g 8) 8) := fun j hj => by
    rw [prsG_n, ctrG_n] at hj
    rw [prsG_x (by decide), ctrG_x (by decide)]
    exact (hM j hj).2.2.2
  have R3 := pws_Rg X2 C2 G2 R2 8
  rw [prsG_n, ctrG_n, Nat.min_eq_right h8] at R3
  have R4 : Rg (tkG (pwsG (prsG (ctrG g 8) 8) 8)) (up (rpwG (rprG (rctG M (g.2.1 0 0)) (g.2.1 0 0)) (g.2.1 0 0)) 0 0 (rpwG (rprG (rctG M (g.2.1 0 0)) (g.2.1 0 0)) (g.2.1 0 0) 0 0 + 1)) := R3.hour (by rw [R3.1.2.2.1])
  have E4 : GE (tkG (pwsG (prsG (ctrG g 8) 8) 8)) := fun j hj hl => by
    rw [hrD_n] at hj hl
    have a1 := hT.1.1
    have h1 := (hL j hj hl).1
    rw [hrD_40, hrD_x (by decide) (by decide) (by decide) (by decide) (by decide) (by decide), a1, nI_1]
    rw [a1] at h1
    rw [Int32.lt_iff_toInt_lt, nI_toInt (by omega)] at h1
    rw [Int32.le_iff_toInt_le, nI_toInt (by omega)]
    omega
  have R5 := (els_Rg E4 R4 8).1
  rw [hrD_n, Nat.min_eq_right h8] at R5
  exact R5
theorem hr_ok {g : XS} {M : MF} (hO : Ok g) (hR : Rg g M) (hh : hN g + 1 ≤ 10000) : Ok (hrG g) ∧ Rg (hrG g) (rhrG M) ∧ hN (hrG g) = hN g + 1 := by
  have R5 := hrE_Rg hO hR hh
  obtain ⟨hX, hT, hM, hP, hL, hG⟩ := hO
  have hC := hT.Cr
  have hZ := Z9_of hC hG
  have h8 := hX.1
  have h12 := hX.2.1
  obtain ⟨T5, h5⟩ := hrE_TI hX hT hZ hh
  have X5 : XI (hrE g) := by rw [hrE]; exact XI.els (XI.tk (XI.pws (XI.prs (XI.ctr hX 8) 8) 8)) 8
  have R6 := lvs_Rg X5 T5 R5 12
  have n1 : (hrE g).2.1 1 0 = g.2.1 1 0 := hrE_n (by decide)
  rw [n1, Nat.min_eq_right h12] at R6
  have C5 : ∀ j, j < (hrE g).2.1 1 0 → cvq (hrE g) j := fun j hj => by
    rw [n1] at hj
    exact cvq_cg (hG j hj).2 (hrE_n (by decide)) (fun i => hrE_x (by decide) (by decide) (by decide) (by decide) (by decide) (by decide)) (fun i => hrE_x (by decide) (by decide) (by decide) (by decide) (by decide) (by decide)) (hrE_x (by decide) (by decide) (by decide) (by decide) (by decide) (by decide))
  obtain ⟨K1, K2⟩ := lvs_cv X5 C5 12
  have hx : ∀ f j, f ≠ 8 → f ≠ 9 → f ≠ 10 → f ≠ 11 → f ≠ 12 → f ≠ 32 → f ≠ 34 → f ≠ 35 → f ≠ 40 → f ≠ 42 → (hrG g).1 f j = g.1 f j := fun f j b1 b2 b3 b4 b5 b6 b7 b8 b9 b10 => by
    rw [hrG_E, lvsG_x b2 b6 b7 b8, hrE_x b1 b3 b4 b5 b9 b10]
  have hn : ∀ f j, f ≠ 2 → f ≠ 3 → f ≠ 4 → (hrG g).2.1 f j = g.2.1 f j := fun f j b1 b2 b3 => by rw [hrG_E, lvsG_n b2 b3, hrE_n b1]
  refine ⟨⟨hX.hr, by rw [hrG_E]; exact lvs_TI X5 T5 12, fun i hi => ?_, fun q hq => ?_, fun i hi hl => ?_, fun q hq => ?_⟩, ?_, ?_⟩
  · rw [hn 0 0 (by decide) (by decide) (by decide)] at hi
    rw [hx 0 i (by decide) (by decide) (by decide) (by decide) (by decide) (by decide) (by decide) (by decide) (by decide) (by decide), hx 1 i (by decide) (by decide) (by decide) (by decide) (by decide) (by decide) (by decide) (by decide) (by decide) (by decide), hx 2 i (by decide) (by decide) (by decide) (by decide) (by decide) (by decide) (by decide) (by decide) (by decide) (by decide), hx 5 i (by decide) (by decide) (by decide) (by decide) (by decide) (by decide) (by decide) (by decide) (by decide) (by decide)]
    exact hM i hi
  · rw [hn 1 0 (by decide) (by decide) (by decide)] at hq
    rw [hx 30 q (by decide) (by decide) (by decide) (by decide) (by decide) (by decide) (by decide) (by decide) (by decide) (by decide)]
    exact hP q hq
  · rw [hn 0 0 (by decide) (by decide) (by decide)] at hi
    rw [hx 20 i (by decide) (by decide) (by decide) (by decide) (by decide) (by decide) (by decide) (by decide) (by decide) (by decide), hx 21 i (by decide) (by decide) (by decide) (by decide) (by decide) (by decide) (by decide) (by decide) (by decide) (by decide), hx 23 i (by decide) (by decide) (by decide) (by decide) (by decide) (by decide) (by decide) (by decide) (by decide) (by decide)]
    rw [hrG_E, lvsG_n (by decide) (by decide), hrE] at hl
    obtain ⟨l1, l2⟩ := els_2 (g := tkG (pwsG (prsG (ctrG g 8) 8) 8)) (by rw [hrD_n]; exact hi) 8 (by omega) hl
    rw [hrD_n] at l1
    rw [hrD_x (by decide) (by decide) (by decide) (by decide) (by decide) (by decide), hrD_40] at l2
    rw [hrG_E, lvsG_x (by decide) (by decide) (by decide) (by decide), hrE_40]
    exact ⟨Int32.not_le.mp l2, (hL i hi l1).2⟩
  · rw [hn 1 0 (by decide) (by decide) (by decide)] at hq
    rw [hrG_E]
    exact ⟨K2 q (by omega) (by rw [n1]; exact hq), K1 q (by rw [n1]; exact hq)⟩
  · rw [hrG_E]
    unfold rhrG
    rw [pN_Rg hR hX]
    exact R6
  · rw [hrG_E]
    show ((lvsG (hrE g) 12).1 40 0).toNatClampNeg = _
    rw [lvsG_x (by decide) (by decide) (by decide) (by decide)]
    exact h5
theorem hrs_ok {g : XS} {M : MF} (hO : Ok g) (hR : Rg g M) : ∀ j, hN g + j ≤ 10000 → Ok (hrsG g j) ∧ Rg (hrsG g j) (rhrsG M j) ∧ hN (hrsG g j) = hN g + j
  | 0, _ => ⟨hO, hR, rfl⟩
  | j + 1, h => by
    obtain ⟨o1, r1, e1⟩ := hrs_ok hO hR j (by omega)
    obtain ⟨o2, r2, e2⟩ := hr_ok o1 r1 (by omega)
    exact ⟨o2, r2, by show hN (hrG (hrsG g j)) = _; omega⟩
