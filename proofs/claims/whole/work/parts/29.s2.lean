/-! the class's numbers and the reference's: what is the same -/
def GM (g : XS) : Prop := ∀ i, i < g.2.1 0 0 → g.1 0 i = nI i ∧ (∃ z, z ≤ 99 ∧ g.1 1 i = nI z) ∧ (∃ z, 1 ≤ z ∧ z ≤ 40 ∧ g.1 2 i = nI z) ∧ ∃ z, z ≤ 100 ∧ g.1 5 i = nI z
def GP (g : XS) : Prop := ∀ q, q < g.2.1 1 0 → ∃ z, z ≤ 99 ∧ g.1 30 q = nI z
def GL (g : XS) : Prop := ∀ i, i < g.2.1 0 0 → ¬ g.2.1 2 i = 0 → g.1 40 0 < g.1 23 i ∧ inB (g.1 20 i) 0 5 = true ∧ (g.1 21 i = -1 ∨ inB (g.1 21 i) 0 5 = true)
def onq (g : XS) (q : Nat) : Prop := ¬ g.2.1 3 q = 0 → onB g (g.2.1 3 q - 1) = true
def cvq (g : XS) (q : Nat) : Prop := ¬ g.2.1 3 q = 0 → cvB g (g.2.1 3 q - 1) (g.1 30 q) = true
def CG (g : XS) : Prop := ∀ q, q < g.2.1 1 0 → onq g q ∧ cvq g q
def RN (g : XS) (M : MF) : Prop := M 2 0 = nI (g.2.1 0 0) ∧ M 19 0 = nI (g.2.1 1 0) ∧ M 0 0 = g.1 40 0 ∧ M 1 0 = g.1 41 0 ∧ ∀ f, f < 6 → M 25 f = g.1 42 f
def RS (g : XS) (M : MF) : Prop := ∀ i, i < g.2.1 0 0 → M 3 i = g.1 1 i ∧ M 4 i = g.1 2 i ∧ M 5 i = g.1 3 i ∧ M 6 i = g.1 4 i ∧ M 7 i = g.1 5 i ∧ M 8 i = g.1 6 i
def RD (g : XS) (M : MF) : Prop := ∀ i, i < g.2.1 0 0 → M 10 i = g.1 8 i ∧ M 9 i = g.1 10 i ∧ M 17 i = g.1 11 i ∧ M 18 i = g.1 12 i
def RE (g : XS) (M : MF) : Prop := ∀ i, i < g.2.1 0 0 → (g.2.1 2 i = 0 → M 11 i = -1) ∧ (¬ g.2.1 2 i = 0 → M 11 i = g.1 23 i ∧ ¬ g.1 23 i = -1 ∧ M 12 i = g.1 20 i ∧ M 13 i = g.1 21 i ∧ M 14 i = g.1 22 i ∧ M 15 i = g.1 24 i ∧ M 16 i = g.1 25 i)
def RP (g : XS) (M : MF) : Prop := ∀ q, q < g.2.1 1 0 → M 20 q = g.1 30 q ∧ M 21 q = cdI (g.2.1 3 q) ∧ M 22 q = g.1 33 q ∧ M 23 q = g.1 34 q ∧ M 24 q = g.1 35 q
def RZ (g : XS) (M : MF) : Prop := (∀ i, g.2.1 0 0 ≤ i → M 9 i = 0 ∧ M 10 i = 0 ∧ M 17 i = 0 ∧ M 18 i = 0) ∧ ∀ q, g.2.1 1 0 ≤ q → M 22 q = 0 ∧ M 23 q = 0 ∧ M 24 q = 0
def Rg (g : XS) (M : MF) : Prop := RN g M ∧ RS g M ∧ RD g M ∧ RE g M ∧ RP g M ∧ RZ g M
theorem up_id {α : Type} {x : Nat → Nat → α} {f i : Nat} {v : α} (h : x f i = v) : up x f i v = x := by
  funext a j
  unfold up
  split
  · next c => rw [c.1, c.2, h]
  · rfl
theorem up_up {α : Type} {x : Nat → Nat → α} {f i : Nat} {v w : α} : up (up x f i w) f i v = up x f i v := by
  funext a j
  unfold up
  split <;> rfl
theorem up_is {α : Type} {x : Nat → Nat → α} {f i j : Nat} {v : α} : up x f i v f j = if j = i then v else x f j := by simp [up]
theorem Rg.mast {g : XS} {M : MF} (h : Rg g M) {f F i : Nat} {v w : Int32} (hF : (f = 9 ∧ F = 10) ∨ (f = 10 ∧ F = 8) ∨ (f = 17 ∧ F = 11) ∨ (f = 18 ∧ F = 12)) (hi : i < g.2.1 0 0) (hv : w = v) : Rg (sx g F i v) (up M f i w) := by
  subst hv
  obtain ⟨hN, hS, hD, hL, hP, hZ⟩ := h
  rcases hF with ⟨rfl, rfl⟩ | ⟨rfl, rfl⟩ | ⟨rfl, rfl⟩ | ⟨rfl, rfl⟩ <;> refine ⟨by simpa [RN, up] using hN, by simpa [RS, up] using hS, fun j hj => ?_, by simpa [RE, up] using hL, by simpa [RP, up] using hP, fun j hj => ?_, by simpa [RZ, up] using hZ.2⟩
  all_goals first
    | (obtain ⟨b1, b2, b3, b4⟩ := hD j hj
       by_cases e : j = i
       · subst e; simp [up, b1, b2, b3, b4]
       · simp [up, e, b1, b2, b3, b4])
    | (have hj' : g.2.1 0 0 ≤ j := hj
       have e : ¬ j = i := by omega
       have := hZ.1 j hj
       simpa [up, e] using this)
theorem Rg.phone {g : XS} {M : MF} (h : Rg g M) {f F q : Nat} {v w : Int32} (hF : (f = 20 ∧ F = 30) ∨ (f = 22 ∧ F = 33) ∨ (f = 23 ∧ F = 34) ∨ (f = 24 ∧ F = 35)) (hq : q < g.2.1 1 0) (hv : w = v) : Rg (sx g F q v) (up M f q w) := by
  subst hv
  obtain ⟨hN, hS, hD, hL, hP, hZ⟩ := h
  rcases hF with ⟨rfl, rfl⟩ | ⟨rfl, rfl⟩ | ⟨rfl, rfl⟩ | ⟨rfl, rfl⟩ <;> refine ⟨by simpa [RN, up] using hN, by simpa [RS, up] using hS, by simpa [RD, up] using hD, by simpa [RE, up] using hL, fun j hj => ?_, by simpa [RZ, up] using hZ.1, fun j hj => ?_⟩
  all_goals first
    | (obtain ⟨b1, b2, b3, b4, b5⟩ := hP j hj
       by_cases e : j = q
       · subst e; simp [up, b1, b2, b3, b4, b5]
       · simp [up, e, b1, b2, b3, b4, b5])
    | (have hj' : g.2.1 1 0 ≤ j := hj
       have e : ¬ j = q := by omega
       have := hZ.2 j hj
       simpa [up, e] using this)
theorem Rg.call {g : XS} {M : MF} (h : Rg g M) {q r : Nat} {w : Int32} (hv : w = cdI r) : Rg (sn g 3 q r) (up M 21 q w) := by
  subst hv
  obtain ⟨hN, hS, hD, hL, hP, hZ⟩ := h
  refine ⟨by simpa [RN, up] using hN, by simpa [RS, up] using hS, by simpa [RD, up] using hD, by simpa [RE, up] using hL, fun j hj => ?_, by simpa [RZ, up] using hZ⟩
  obtain ⟨b1, b2, b3, b4, b5⟩ := hP j (by simpa [up] using hj)
  by_cases e : j = q
  · subst e; simp [up, b1, b2, b3, b4, b5]
  · simp [up, e, b1, b2, b3, b4, b5]
theorem Rg.hour {g : XS} {M : MF} (h : Rg g M) {v w : Int32} (hv : w = v) : Rg (sx g 40 0 v) (up M 0 0 w) := by
  subst hv
  obtain ⟨hN, hS, hD, hL, hP, hZ⟩ := h
  exact ⟨by obtain ⟨b1, b2, b3, b4, b5⟩ := hN; simpa [RN, up] using ⟨b1, b2, b4, b5⟩, by simpa [RS, up] using hS, by simpa [RD, up] using hD, by simpa [RE, up] using hL, by simpa [RP, up] using hP, by simpa [RZ, up] using hZ⟩
theorem Rg.sun {g : XS} {M : MF} (h : Rg g M) {v : Int32} : Rg (sx g 41 0 v) (up M 1 0 v) := by
  obtain ⟨hN, hS, hD, hL, hP, hZ⟩ := h
  exact ⟨by obtain ⟨b1, b2, b3, b4, b5⟩ := hN; simpa [RN, up] using ⟨b1, b2, b3, b5⟩, by simpa [RS, up] using hS, by simpa [RD, up] using hD, by simpa [RE, up] using hL, by simpa [RP, up] using hP, by simpa [RZ, up] using hZ⟩
theorem Rg.pay {g : XS} {M : MF} (h : Rg g M) {f : Nat} {v w : Int32} (hv : w = v) : Rg (sx g 42 f v) (up M 25 f w) := by
  subst hv
  obtain ⟨hN, hS, hD, hL, hP, hZ⟩ := h
  refine ⟨?_, by simpa [RS, up] using hS, by simpa [RD, up] using hD, by simpa [RE, up] using hL, by simpa [RP, up] using hP, by simpa [RZ, up] using hZ⟩
  obtain ⟨b1, b2, b3, b4, b5⟩ := hN
  refine ⟨by simpa [up] using b1, by simpa [up] using b2, by simpa [up] using b3, by simpa [up] using b4, fun j hj => ?_⟩
  by_cases e : j = f
  · simp [up, e]
  · simpa [up, e] using b5 j hj
theorem Rg.c9 {g : XS} {M : MF} (h : Rg g M) {f i : Nat} {v : Int32} (hf : f = 9 ∨ f = 32) : Rg (sx g f i v) M := by
  obtain ⟨hN, hS, hD, hL, hP, hZ⟩ := h
  rcases hf with rfl | rfl <;> exact ⟨by simpa [RN, up] using hN, by simpa [RS, up] using hS, by simpa [RD, up] using hD, by simpa [RE, up] using hL, by simpa [RP, up] using hP, hZ⟩
theorem Rg.T {g : XS} {M : MF} (h : Rg g M) {v : Int32} : Rg g (up M 26 0 v) := by
  obtain ⟨hN, hS, hD, hL, hP, hZ⟩ := h
  exact ⟨by simpa [RN, up] using hN, by simpa [RS, up] using hS, by simpa [RD, up] using hD, by simpa [RE, up] using hL, by simpa [RP, up] using hP, by simpa [RZ, up] using hZ⟩
theorem Rg.cg {g g' : XS} {M : MF} (h : Rg g M) (h1 : g'.1 = g.1) (h0 : g'.2.1 0 0 = g.2.1 0 0) (h10 : g'.2.1 1 0 = g.2.1 1 0) (h2 : ∀ i, g'.2.1 2 i = g.2.1 2 i) (h3 : ∀ i, g'.2.1 3 i = g.2.1 3 i) : Rg g' M := by
  obtain ⟨hN, hS, hD, hL, hP, hZ⟩ := h
  unfold RN RS RD RE RP RZ at *
  unfold Rg RN RS RD RE RP RZ
  simp only [h1, h0, h10, h2, h3]
  exact ⟨hN, hS, hD, hL, hP, hZ⟩
theorem Rg.log {g : XS} {M : MF} (h : Rg g M) {i : Nat} {a z : Int32} : Rg (logG g i a z) M := h.cg logG_x (logG_n (by decide)) (logG_n (by decide)) (fun _ => logG_n (by decide)) (fun _ => logG_n (by decide))
theorem Rg.un {g : XS} {M : MF} (h : Rg g M) {i : Nat} : Rg (sn g 2 i 0) (up M 11 i (-1)) := by
  obtain ⟨hN, hS, hD, hL, hP, hZ⟩ := h
  refine ⟨by simpa [RN, up] using hN, by simpa [RS, up] using hS, by simpa [RD, up] using hD, fun j hj => ?_, by simpa [RP, up] using hP, by simpa [RZ, up] using hZ⟩
  have := hL j (by simpa [up] using hj)
  by_cases e : j = i
  · subst e; simp [up]
  · simpa [up, e] using this
theorem Rg.go {g : XS} {M : MF} (h : Rg g M) {q : Nat} {z : Int32} : Rg (goG g q z) (up M 21 q (-1)) := by
  unfold goG
  exact Rg.call (Rg.log (Rg.c9 h (Or.inl rfl))) rfl
theorem Rg.com {g : XS} {M : MF} (h : Rg g M) {q i : Nat} {z : Int32} : Rg (comG g q i z) (up M 21 q (nI i)) := by
  unfold comG
  exact Rg.c9 (Rg.c9 (Rg.call h (cdI_s i).symm) (Or.inr rfl)) (Or.inl rfl)
theorem mN_Rg {g : XS} {M : MF} (h : Rg g M) (hX : XI g) : mN M = g.2.1 0 0 := by
  unfold mN
  rw [h.1.1, nI_clamp (by have := hX.1; omega)]
theorem pN_Rg {g : XS} {M : MF} (h : Rg g M) (hX : XI g) : pN M = g.2.1 1 0 := by
  unfold pN
  rw [h.1.2.1, nI_clamp (by have := hX.2.1; omega)]
/-- the calls that a mast carries -/
theorem ca_0 {g : XS} {M : MF} (h : Rg g M) (hX : XI g) {i : Nat} (hi : i < g.2.1 0 0) : ∀ n, n ≤ g.2.1 1 0 → caI M (nI i) n = caG g i n
  | 0, _ => rfl
  | q + 1, hq => by
    unfold caI caG
    rw [ca_0 h hX hi q (by omega), (h.2.2.2.2.1 q (by omega)).2.1]
    have h8 := hX.1
    have hr := hX.2.2.1 q (by omega)
    congr 1
    by_cases c : g.2.1 3 q = i + 1
    · rw [c, cdI_s, if_pos rfl, if_pos ⟨by omega, rfl⟩]
    · rw [if_neg (c := q < g.2.1 1 0 ∧ g.2.1 3 q = i + 1) (fun x => c x.2), if_neg]
      by_cases c0 : g.2.1 3 q = 0
      · rw [c0, cdI_0]
        exact fun x => nI_ne i (by omega) x.symm
      · rw [cdI_n c0, nI_eq (by omega) (by omega)]
        omega
theorem ca_1 {g : XS} {i : Nat} : ∀ z, caG g i (g.2.1 1 0 + z) = caG g i (g.2.1 1 0)
  | 0 => rfl
  | z + 1 => by
    rw [← Nat.add_assoc]
    rw [caG, ca_1 z, if_neg (by omega)]
    simp
def Cr (g : XS) : Prop := ∀ i, i < g.2.1 0 0 → g.1 9 i = caG g i 12
theorem ca_eq {g : XS} {M : MF} (h : Rg g M) (hX : XI g) (hC : Cr g) {i : Nat} (hi : i < g.2.1 0 0) : caI M (nI i) (pN M) = g.1 9 i := by
  rw [hC i hi, pN_Rg h hX, ca_0 h hX hi _ (Nat.le_refl _)]
  have h12 := hX.2.1
  have := ca_1 (g := g) (i := i) (12 - g.2.1 1 0)
  rw [show g.2.1 1 0 + (12 - g.2.1 1 0) = 12 by omega] at this
  exact this.symm
theorem on_eq {g : XS} {M : MF} (h : Rg g M) {i : Nat} (hi : i < g.2.1 0 0) : roB M i = onB g i := by
  unfold roB onB rlB
  rw [(h.2.2.1 i hi).1]
  congr 1
  have := h.2.2.2.1 i hi
  by_cases c : g.2.1 2 i = 0
  · rw [this.1 c]; simp [c]
  · rw [(this.2 c).1]; simp [c, (this.2 c).2.1]
theorem rl_eq {g : XS} {M : MF} (h : Rg g M) {i : Nat} (hi : i < g.2.1 0 0) : rlB M i = true ↔ ¬ g.2.1 2 i = 0 := by
  unfold rlB
  have := h.2.2.2.1 i hi
  by_cases c : g.2.1 2 i = 0
  · rw [this.1 c]; simp [c]
  · rw [(this.2 c).1]; simp [c, (this.2 c).2.1]
theorem ab_eq (x y : Int32) : (if 0 ≤ y - x then y - x else 0 - (y - x)) = if x - y < 0 then -(x - y) else x - y := by
  have e : x - y = -(y - x) := by grind
  rw [e]
  generalize y - x = t
  rw [Int32.neg_neg]
  by_cases h0 : t = 0
  · subst h0; decide
  by_cases hm : t = Int32.minValue
  · subst hm; decide
  have hb : t.toInt ≠ -2 ^ 31 := fun q => hm (Int32.toInt_inj.mp (by rw [q]; decide))
  have hz : t.toInt ≠ 0 := fun q => h0 (Int32.toInt_inj.mp (by rw [q]; decide))
  have hl := Int32.le_toInt t
  have hu := Int32.toInt_lt t
  have en : (-t).toInt = - t.toInt := by
    rw [Int32.toInt_neg]
    exact Int.bmod_eq_of_le (by omega) (by omega)
  simp only [Int32.le_iff_toInt_le, Int32.lt_iff_toInt_lt, en, Int32.toInt_zero]
  by_cases c : 0 ≤ t.toInt
  · rw [if_pos c, if_pos (by omega)]
  · rw [if_neg c, if_neg (by omega)]
    grind
theorem ds_eq {g : XS} {M : MF} (h : Rg g M) {i : Nat} (hi : i < g.2.1 0 0) (p : Int32) : apI M i p = dsI g i p := by
  unfold apI dsI
  rw [(h.2.1 i hi).1, ab_eq]
theorem cv_eq {g : XS} {M : MF} (h : Rg g M) {i : Nat} (hi : i < g.2.1 0 0) (p : Int32) : rcB M i p = cvB g i p := by
  unfold rcB cvB
  rw [ds_eq h hi, (h.2.1 i hi).2.1]
theorem fit_eq {g : XS} {M : MF} (h : Rg g M) (hX : XI g) (hC : Cr g) {i : Nat} (hi : i < g.2.1 0 0) (p : Int32) : fitB M i p = ctB g i p := by
  unfold fitB ctB
  rw [on_eq h hi, cv_eq h hi, ca_eq h hX hC hi, (h.2.1 i hi).2.2.1]
theorem nf_0 {g : XS} {M : MF} (h : Rg g M) (hX : XI g) (hC : Cr g) (p : Int32) : ∀ j, j ≤ g.2.1 0 0 → mf M p j = nf g p j
  | 0, _ => rfl
  | j + 1, hj => by
    have ih := nf_0 h hX hC p j (by omega)
    unfold mf nf
    rw [ih, fit_eq h hX hC (by omega), ds_eq h (by omega)]
    by_cases c0 : nf g p j = 0
    · simp [c0, show j < g.2.1 0 0 by omega]
    · have := (nf_le g p j).2 c0
      rw [ds_eq h (by omega)]
      simp [show j < g.2.1 0 0 by omega]
theorem nf_1 {g : XS} {p : Int32} {n : Nat} (hn : g.2.1 0 0 = n) : ∀ z, nf g p (n + z) = nf g p n
  | 0 => rfl
  | z + 1 => by
    rw [← Nat.add_assoc]
    rw [nf, if_neg (by omega), nf_1 hn z]
theorem nf_eq {g : XS} {M : MF} (h : Rg g M) (hX : XI g) (hC : Cr g) (p : Int32) : mf M p (mN M) = nf g p 8 := by
  rw [mN_Rg h hX, nf_0 h hX hC p _ (Nat.le_refl _)]
  have h8 := hX.1
  have := nf_1 (g := g) (p := p) rfl (8 - g.2.1 0 0)
  rw [show g.2.1 0 0 + (8 - g.2.1 0 0) = 8 by omega] at this
  exact this.symm
theorem TI.Cr {g : XS} (h : TI g) : Cr g := h.2.2.1
