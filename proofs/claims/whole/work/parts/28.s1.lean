/-! WHAT STAYS TRUE OF THE CLASS'S NUMBERS, first: sums over the phones and over the logs -/
def hN (g : XS) : Nat := (g.1 40 0).toNatClampNeg
def caG (g : XS) (i : Nat) : Nat → Int32
  | 0 => 0
  | q + 1 => caG g i q + (if q < g.2.1 1 0 ∧ g.2.1 3 q = i + 1 then 1 else 0)
def nS (f : Nat → Nat) : Nat → Nat
  | 0 => 0
  | i + 1 => nS f i + f i
def pdN (g : XS) (q : Nat) : Nat := if q < g.2.1 1 0 ∧ ¬ g.2.1 3 q = 0 then hN g - (g.1 32 q).toNatClampNeg else 0
theorem caG_cg {g g' : XS} {i : Nat} (h1 : g'.2.1 1 0 = g.2.1 1 0) (h3 : ∀ q, q < g.2.1 1 0 → g'.2.1 3 q = g.2.1 3 q) : ∀ n, caG g' i n = caG g i n
  | 0 => rfl
  | q + 1 => by
    unfold caG
    rw [caG_cg h1 h3 q, h1]
    by_cases c : q < g.2.1 1 0
    · rw [h3 q c]
    · rw [if_neg (fun x => c x.1), if_neg (fun x => c x.1)]
theorem caG_up {g g' : XS} {i q : Nat} (h1 : g'.2.1 1 0 = g.2.1 1 0) (h3 : ∀ j, j ≠ q → g'.2.1 3 j = g.2.1 3 j) : ∀ n, caG g' i n + (if q < n ∧ q < g.2.1 1 0 ∧ g.2.1 3 q = i + 1 then 1 else 0) = caG g i n + (if q < n ∧ q < g.2.1 1 0 ∧ g'.2.1 3 q = i + 1 then 1 else 0)
  | 0 => by simp [caG]
  | j + 1 => by
    have ih := caG_up (i := i) h1 h3 j
    unfold caG
    rw [h1]
    by_cases e : j = q
    · subst e
      rw [if_neg (by omega), if_neg (by omega)] at ih
      have : caG g' i j = caG g i j := by simpa using ih
      rw [this]
      by_cases c : j < g.2.1 1 0
      · simp only [c, Nat.lt_succ_self, true_and]
        split <;> split <;> simp
      · simp [c]
    · rw [h3 j e]
      have e1 : (q < j + 1) = (q < j) := by simp; omega
      simp only [e1]
      grind
theorem pnS_add {g : XS} {i : Nat} {a c : Int32} : ∀ n, pnS g i n (a + c) = pnS g i n a + c
  | 0 => rfl
  | q + 1 => by
    unfold pnS
    rw [pnS_add q]
    split <;> grind
theorem pnS_cg {g g' : XS} {i : Nat} (h1 : g'.2.1 1 0 = g.2.1 1 0) (h3 : ∀ q, q < g.2.1 1 0 → g'.2.1 3 q = g.2.1 3 q) (h40 : g'.1 40 0 = g.1 40 0) (h32 : ∀ q, q < g.2.1 1 0 → ¬ g.2.1 3 q = 0 → g'.1 32 q = g.1 32 q) {a : Int32} : ∀ n, pnS g' i n a = pnS g i n a
  | 0 => rfl
  | q + 1 => by
    unfold pnS
    rw [pnS_cg h1 h3 h40 h32 q, h1, h40]
    by_cases c : q < g.2.1 1 0
    · rw [h3 q c]
      by_cases c3 : g.2.1 3 q = i + 1
      · rw [h32 q c (by omega)]
      · rw [if_neg (fun x => c3 x.2), if_neg (fun x => c3 x.2)]
    · rw [if_neg (fun x => c x.1), if_neg (fun x => c x.1)]
/-- a call ends -/
theorem pnS_go {g g' : XS} {i q : Nat} (h1 : g'.2.1 1 0 = g.2.1 1 0) (h3 : ∀ j, j ≠ q → g'.2.1 3 j = g.2.1 3 j) (h0 : g'.2.1 3 q = 0) (h40 : g'.1 40 0 = g.1 40 0) (h32 : ∀ j, g'.1 32 j = g.1 32 j) {a : Int32} : ∀ n, pnS g' i n a + (if q < n ∧ q < g.2.1 1 0 ∧ g.2.1 3 q = i + 1 then g.1 40 0 - g.1 32 q else 0) = pnS g i n a
  | 0 => by simp [pnS]
  | j + 1 => by
    have ih := pnS_go (i := i) (a := a) h1 h3 h0 h40 h32 j
    unfold pnS
    rw [h1, h40, h32 j]
    by_cases e : j = q
    · subst e
      rw [if_neg (by omega)] at ih
      have : pnS g' i j a = pnS g i j a := by simpa using ih
      rw [this, h0, if_neg (by omega)]
      by_cases c : j < g.2.1 1 0 ∧ g.2.1 3 j = i + 1
      · rw [if_pos ⟨Nat.lt_succ_self _, c⟩, if_pos c]
      · rw [if_neg (fun x => c x.2), if_neg c]; simp
    · rw [h3 j e]
      have e1 : (q < j + 1) = (q < j) := by simp; omega
      simp only [e1]
      grind
/-- a call begins at this hour -/
theorem pnS_com {g g' : XS} {i q : Nat} (h1 : g'.2.1 1 0 = g.2.1 1 0) (h3 : ∀ j, j ≠ q → g'.2.1 3 j = g.2.1 3 j) (h0 : g.2.1 3 q = 0) (h40 : g'.1 40 0 = g.1 40 0) (h32 : ∀ j, j ≠ q → g'.1 32 j = g.1 32 j) (hq : g'.1 32 q = g.1 40 0) {a : Int32} : ∀ n, pnS g' i n a = pnS g i n a
  | 0 => rfl
  | j + 1 => by
    unfold pnS
    rw [pnS_com h1 h3 h0 h40 h32 hq j, h1, h40]
    by_cases e : j = q
    · subst e
      rw [h0, hq, if_neg (c := j < g.2.1 1 0 ∧ 0 = i + 1) (by omega)]
      split
      · simp
      · rfl
    · rw [h3 j e, h32 j e]
/-- an hour -/
theorem pnS_tk {g g' : XS} {i : Nat} (h1 : g'.2.1 1 0 = g.2.1 1 0) (h3 : ∀ q, g'.2.1 3 q = g.2.1 3 q) (h40 : g'.1 40 0 = g.1 40 0 + 1) (h32 : ∀ q, g'.1 32 q = g.1 32 q) {a : Int32} : ∀ n, pnS g' i n a = pnS g i n a + caG g i n
  | 0 => by simp [pnS, caG]
  | q + 1 => by
    unfold pnS caG
    rw [pnS_tk h1 h3 h40 h32 q, h1, h40, h3, h32]
    split <;> grind
theorem sumI_cg {f f' : Nat → Int32} : ∀ n, (∀ j, j < n → f' j = f j) → sumI f' n = sumI f n
  | 0, _ => rfl
  | n + 1, h => by unfold sumI; rw [sumI_cg n (fun j hj => h j (by omega)), h n (by omega)]
theorem nS_cg {f f' : Nat → Nat} : ∀ n, (∀ j, j < n → f' j = f j) → nS f' n = nS f n
  | 0, _ => rfl
  | n + 1, h => by unfold nS; rw [nS_cg n (fun j hj => h j (by omega)), h n (by omega)]
theorem nS_le {f f' : Nat → Nat} : ∀ n, (∀ j, j < n → f' j ≤ f j + 1) → nS f' n ≤ nS f n + n
  | 0, _ => Nat.le_refl _
  | n + 1, h => by have h1 := nS_le n (fun j hj => h j (by omega)); have h2 := h n (by omega); simp only [nS]; omega
theorem nS_at {f f' : Nat → Nat} {i : Nat} : ∀ n, i < n → (∀ j, j ≠ i → f' j = f j) → nS f' n + f i = nS f n + f' i
  | 0, h, _ => absurd h (by omega)
  | n + 1, h, hh => by
    simp only [nS]
    by_cases e : i = n
    · subst e
      rw [nS_cg i (fun j hj => hh j (by omega))]; omega
    · have := nS_at n (by omega : i < n) hh
      rw [hh n (by omega)]; omega
theorem hlS_cg {g g' : XS} {i : Nat} (h4 : g'.2.1 4 i = g.2.1 4 i) (h : ∀ q, g'.2.2 0 i q = g.2.2 0 i q) (h' : ∀ q, g'.2.2 1 i q = g.2.2 1 i q) : hlS g' i = hlS g i := by
  unfold hlS
  rw [h4]
  exact sumI_cg _ (fun j _ => by rw [h, h'])
theorem logG_4 {g : XS} {i : Nat} {a z : Int32} {j : Nat} : (logG g i a z).2.1 4 j = if j = i ∧ ¬ z ≤ a then g.2.1 4 j + 1 else g.2.1 4 j := by
  unfold logG
  by_cases c : z ≤ a
  · rw [if_pos c, if_neg (fun x => x.2 c)]
  · rw [if_neg c]
    by_cases e : j = i
    · subst e; rw [if_pos ⟨rfl, c⟩]; exact up_s
    · rw [if_neg (fun x => e x.1)]; exact up_i e
theorem hlS_log {g : XS} {i : Nat} {a z : Int32} {j : Nat} : hlS (logG g i a z) j = hlS g j + if j = i ∧ ¬ z ≤ a then z - a else 0 := by
  unfold logG
  by_cases c : z ≤ a
  · rw [if_pos c, if_neg (fun x => x.2 c)]; simp
  · rw [if_neg c]
    by_cases e : j = i
    · subst e
      rw [if_pos ⟨rfl, c⟩]
      unfold hlS
      show sumI _ (up g.2.1 4 j (g.2.1 4 j + 1) 4 j) = _
      rw [up_s, sumI]
      congr 1
      · exact sumI_cg _ (fun t ht => by simp [ul, show ¬ t = g.2.1 4 j by omega])
      · simp [ul]
    · rw [if_neg (fun x => e x.1), hlS_cg (g := g) (up_i e) (fun q => by simp [ul, e]) (fun q => by simp [ul, e])]
      simp
/-- the invariant of hours and counts -/
def TI (g : XS) : Prop := (g.1 40 0 = nI (hN g) ∧ hN g ≤ 10000) ∧ (∀ q, q < g.2.1 1 0 → ¬ g.2.1 3 q = 0 → ∃ s, s ≤ hN g ∧ g.1 32 q = nI s) ∧ (∀ i, i < g.2.1 0 0 → g.1 9 i = caG g i 12) ∧ (∀ i, i < g.2.1 0 0 → g.1 12 i = pnS g i 12 (hlS g i)) ∧ nS (g.2.1 4) 8 + nS (pdN g) 12 ≤ 12 * hN g
theorem pdN_cg {g g' : XS} {q : Nat} (h1 : g'.2.1 1 0 = g.2.1 1 0) (h3 : g'.2.1 3 q = g.2.1 3 q) (h40 : g'.1 40 0 = g.1 40 0) (h32 : q < g.2.1 1 0 → ¬ g.2.1 3 q = 0 → g'.1 32 q = g.1 32 q) : pdN g' q = pdN g q := by
  unfold pdN hN
  rw [h1, h3, h40]
  by_cases c : q < g.2.1 1 0 ∧ ¬ g.2.1 3 q = 0
  · rw [if_pos c, if_pos c, h32 c.1 c.2]
  · rw [if_neg c, if_neg c]
theorem TI.of {g g' : XS} (h : TI g) (h0 : g'.2.1 0 0 = g.2.1 0 0) (h1 : g'.2.1 1 0 = g.2.1 1 0) (h3 : ∀ q, g'.2.1 3 q = g.2.1 3 q) (h4 : ∀ i, g'.2.1 4 i = g.2.1 4 i) (hl : g'.2.2 = g.2.2) (x40 : g'.1 40 0 = g.1 40 0) (x32 : ∀ q, q < g.2.1 1 0 → g'.1 32 q = g.1 32 q) (x9 : ∀ i, i < g.2.1 0 0 → g'.1 9 i = g.1 9 i) (x12 : ∀ i, i < g.2.1 0 0 → g'.1 12 i = g.1 12 i) : TI g' := by
  obtain ⟨⟨a1, a2⟩, a3, a4, a5, a6⟩ := h
  have hh : hN g' = hN g := by unfold hN; rw [x40]
  refine ⟨⟨by rw [x40, hh]; exact a1, by rw [hh]; exact a2⟩, fun q hq hn => ?_, fun i hi => ?_, fun i hi => ?_, ?_⟩
  · rw [h1] at hq
    rw [h3] at hn
    rw [hh, x32 q hq]
    exact a3 q hq hn
  · rw [h0] at hi
    rw [x9 i hi, caG_cg h1 (fun q _ => h3 q)]
    exact a4 i hi
  · rw [h0] at hi
    rw [x12 i hi, pnS_cg h1 (fun q _ => h3 q) x40 (fun q hq _ => x32 q hq), hlS_cg (h4 i) (fun q => by rw [hl]) (fun q => by rw [hl])]
    exact a5 i hi
  · rw [hh, nS_cg (f := g.2.1 4) 8 (fun j _ => h4 j), nS_cg (f := pdN g) 12 (fun j _ => pdN_cg h1 (h3 j) x40 (fun hj _ => x32 j hj))]
    exact a6
theorem goG_1 {g : XS} {q : Nat} {h : Int32} {f j : Nat} : (goG g q h).1 f j = if f = 9 ∧ j = g.2.1 3 q - 1 then g.1 9 (g.2.1 3 q - 1) - 1 else g.1 f j := by
  unfold goG
  show (logG _ _ _ _).1 f j = _
  rw [logG_x]
  rfl
theorem goG_3 {g : XS} {q : Nat} {h : Int32} {j : Nat} : (goG g q h).2.1 3 j = if j = q then 0 else g.2.1 3 j := by
  unfold goG
  by_cases e : j = q
  · subst e; rw [if_pos rfl]; exact up_s
  · rw [if_neg e]
    show up _ 3 q 0 3 j = _
    rw [up_i e, logG_n (by decide)]
theorem goG_4 {g : XS} {q : Nat} {h : Int32} {j : Nat} : (goG g q h).2.1 4 j = if j = g.2.1 3 q - 1 ∧ ¬ h ≤ g.1 32 q then g.2.1 4 j + 1 else g.2.1 4 j := by
  unfold goG
  rw [show ∀ y : XS, (sn y 3 q 0).2.1 4 j = y.2.1 4 j from fun y => (up_f (x := y.2.1) (f := 3) (a := 4) (i := q) (j := j) (v := 0) (by decide)), logG_4]
theorem hlS_sn {g : XS} {q v j : Nat} : hlS (sn g 3 q v) j = hlS g j := hlS_cg (g := g) (g' := sn g 3 q v) (up_f (x := g.2.1) (f := 3) (a := 4) (i := q) (v := v) (by decide)) (fun _ => rfl) (fun _ => rfl)
theorem hlS_go {g : XS} {q : Nat} {h : Int32} {j : Nat} : hlS (goG g q h) j = hlS g j + if j = g.2.1 3 q - 1 ∧ ¬ h ≤ g.1 32 q then h - g.1 32 q else 0 := by
  unfold goG
  rw [hlS_sn, hlS_log]
  rfl
theorem TI.go {g : XS} {q : Nat} (h : TI g) (hX : XI g) (hq : q < g.2.1 1 0) (hn : ¬ g.2.1 3 q = 0) : TI (goG g q (g.1 40 0)) := by
  obtain ⟨⟨a1, a2⟩, a3, a4, a5, a6⟩ := h
  obtain ⟨s, hs, es⟩ := a3 q hq hn
  have hr := hX.2.2.1 q hq
  have h8 := hX.1
  have h12 := hX.2.1
  have x40 : (goG g q (g.1 40 0)).1 40 0 = g.1 40 0 := by rw [goG_1, if_neg (by simp)]
  have x32 : ∀ j, (goG g q (g.1 40 0)).1 32 j = g.1 32 j := fun j => by rw [goG_1, if_neg (by simp)]
  have x12 : ∀ j, (goG g q (g.1 40 0)).1 12 j = g.1 12 j := fun j => by rw [goG_1, if_neg (by simp)]
  have n0 : (goG g q (g.1 40 0)).2.1 0 0 = g.2.1 0 0 := goG_n (by decide) (by decide)
  have n1 : (goG g q (g.1 40 0)).2.1 1 0 = g.2.1 1 0 := goG_n (by decide) (by decide)
  have n3 : ∀ j, j ≠ q → (goG g q (g.1 40 0)).2.1 3 j = g.2.1 3 j := fun j hj => by rw [goG_3, if_neg hj]
  have n30 : (goG g q (g.1 40 0)).2.1 3 q = 0 := by rw [goG_3, if_pos rfl]
  have hh : hN (goG g q (g.1 40 0)) = hN g := by unfold hN; rw [x40]
  have hle : (g.1 40 0 ≤ g.1 32 q) ↔ hN g = s := by rw [a1, es, nI_leI (by omega) (by omega)]; omega
  refine ⟨⟨by rw [x40, hh]; exact a1, by rw [hh]; exact a2⟩, fun j hj hm => ?_, fun i hi => ?_, fun i hi => ?_, ?_⟩
  · rw [n1] at hj
    rw [hh, x32]
    by_cases e : j = q
    · subst e; exact absurd n30 hm
    · rw [n3 j e] at hm; exact a3 j hj hm
  · rw [n0] at hi
    have e := caG_up (i := i) n1 n3 12
    have b4 := a4 i hi
    rw [n30, if_neg (c := q < 12 ∧ q < g.2.1 1 0 ∧ 0 = i + 1) (by omega)] at e
    rw [goG_1]
    by_cases c : g.2.1 3 q = i + 1
    · rw [if_pos ⟨by omega, hq, c⟩] at e
      rw [if_pos ⟨rfl, by omega⟩, show g.2.1 3 q - 1 = i by omega]
      grind
    · rw [if_neg (fun x => c x.2.2)] at e
      rw [if_neg (by omega)]
      grind
  · rw [n0] at hi
    have e := pnS_go (i := i) (a := hlS g i) n1 n3 n30 x40 x32 12
    have b5 := a5 i hi
    rw [x12, hlS_go, pnS_add]
    by_cases c : g.2.1 3 q = i + 1
    · rw [if_pos ⟨by omega, hq, c⟩] at e
      by_cases c2 : g.1 40 0 ≤ g.1 32 q
      · rw [if_neg (fun x => x.2 c2)]
        have : g.1 40 0 = g.1 32 q := by rw [a1, es, hle.mp c2]
        grind
      · rw [if_pos ⟨by omega, c2⟩]
        grind
    · rw [if_neg (fun x => c x.2.2)] at e
      rw [if_neg (by omega)]
      grind
  · rw [hh]
    have e4 := nS_at (f := g.2.1 4) (f' := (goG g q (g.1 40 0)).2.1 4) (i := g.2.1 3 q - 1) 8 (by omega) (fun j hj => by rw [goG_4, if_neg (fun x => hj x.1)])
    have e3 := nS_at (f := pdN g) (f' := pdN (goG g q (g.1 40 0))) (i := q) 12 (by omega) (fun j hj => pdN_cg n1 (n3 j hj) x40 (fun _ _ => x32 j))
    have e5 : pdN (goG g q (g.1 40 0)) q = 0 := by unfold pdN; rw [n30, if_neg (fun x => x.2 rfl)]
    have e6 : pdN g q = hN g - s := by unfold pdN; rw [if_pos ⟨hq, hn⟩, es, nI_clamp (by omega)]
    rw [goG_4] at e4
    split at e4
    · next c => have := c.2; rw [hle] at this; omega
    · omega
theorem comG_1 {g : XS} {q i : Nat} {h : Int32} {f j : Nat} : (comG g q i h).1 f j = if f = 9 ∧ j = i then g.1 9 i + 1 else if f = 32 ∧ j = q then h else g.1 f j := rfl
theorem comG_3 {g : XS} {q i : Nat} {h : Int32} {j : Nat} : (comG g q i h).2.1 3 j = if j = q then i + 1 else g.2.1 3 j := by
  by_cases e : j = q
  · subst e; rw [if_pos rfl]; exact up_s
  · rw [if_neg e]; exact up_i e
theorem TI.com {g : XS} {q i : Nat} (h : TI g) (hX : XI g) (hq : q < g.2.1 1 0) (hn : g.2.1 3 q = 0) (hi : i < g.2.1 0 0) : TI (comG g q i (g.1 40 0)) := by
  obtain ⟨⟨a1, a2⟩, a3, a4, a5, a6⟩ := h
  have h12 := hX.2.1
  have x40 : (comG g q i (g.1 40 0)).1 40 0 = g.1 40 0 := by rw [comG_1, if_neg (by simp), if_neg (by simp)]
  have x32 : ∀ j, j ≠ q → (comG g q i (g.1 40 0)).1 32 j = g.1 32 j := fun j hj => by rw [comG_1, if_neg (by simp), if_neg (by simp [hj])]
  have x32q : (comG g q i (g.1 40 0)).1 32 q = g.1 40 0 := by rw [comG_1, if_neg (by simp), if_pos ⟨rfl, rfl⟩]
  have x12 : ∀ j, (comG g q i (g.1 40 0)).1 12 j = g.1 12 j := fun j => by rw [comG_1, if_neg (by simp), if_neg (by simp)]
  have n3 : ∀ j, j ≠ q → (comG g q i (g.1 40 0)).2.1 3 j = g.2.1 3 j := fun j hj => by rw [comG_3, if_neg hj]
  have n3q : (comG g q i (g.1 40 0)).2.1 3 q = i + 1 := by rw [comG_3, if_pos rfl]
  have n1 : (comG g q i (g.1 40 0)).2.1 1 0 = g.2.1 1 0 := comG_n (by decide)
  have n0 : (comG g q i (g.1 40 0)).2.1 0 0 = g.2.1 0 0 := comG_n (by decide)
  have n4 : ∀ j, (comG g q i (g.1 40 0)).2.1 4 j = g.2.1 4 j := fun j => comG_n (by decide)
  have hh : hN (comG g q i (g.1 40 0)) = hN g := by unfold hN; rw [x40]
  refine ⟨⟨by rw [x40, hh]; exact a1, by rw [hh]; exact a2⟩, fun j hj hm => ?_, fun t ht => ?_, fun t ht => ?_, ?_⟩
  · rw [n1] at hj
    rw [hh]
    by_cases e : j = q
    · subst e; rw [x32q]; exact ⟨hN g, Nat.le_refl _, a1⟩
    · rw [n3 j e] at hm; rw [x32 j e]; exact a3 j hj hm
  · rw [n0] at ht
    have e := caG_up (i := t) n1 n3 12
    have b4 := a4 t ht
    rw [n3q, hn, if_neg (c := q < 12 ∧ q < g.2.1 1 0 ∧ 0 = t + 1) (by omega)] at e
    rw [comG_1]
    by_cases c : t = i
    · subst c
      rw [if_pos ⟨by omega, hq, rfl⟩] at e
      rw [if_pos ⟨rfl, rfl⟩]
      grind
    · rw [if_neg (by omega)] at e
      rw [if_neg (by omega), if_neg (by omega)]
      grind
  · rw [n0] at ht
    rw [x12, pnS_com (g := g) n1 n3 hn x40 x32 x32q, hlS_cg (g := g) (n4 t) (fun _ => rfl) (fun _ => rfl)]
    exact a5 t ht
  · rw [hh, nS_cg (f := g.2.1 4) 8 (fun j _ => n4 j)]
    have e3 := nS_at (f := pdN g) (f' := pdN (comG g q i (g.1 40 0))) (i := q) 12 (by omega) (fun j hj => pdN_cg n1 (n3 j hj) x40 (fun _ _ => x32 j hj))
    have e5 : pdN (comG g q i (g.1 40 0)) q = 0 := by
      unfold pdN
      rw [x32q, hh]
      split
      · rw [show (g.1 40 0).toNatClampNeg = hN g from rfl, Nat.sub_self]
      · rfl
    omega
theorem tb_le {g : XS} (h : TI g) : tb g ≤ 1883 := by
  obtain ⟨⟨a1, a2⟩, a3, a4, a5, a6⟩ := h
  simp only [tb, tbA, nbk, nS] at a6 ⊢
  omega
