/-! WORLD: what the class holds (numbers, counts, logs), what the reference holds, and the cells that hold them -/
abbrev XF : Type := Nat → Nat → Int32
abbrev NF : Type := Nat → Nat → Nat
abbrev LF : Type := Nat → Nat → Nat → Int32
abbrev XS : Type := XF × NF × LF
abbrev OF : Type := (Nat → Int64) × (Nat → UInt64)
def up {α : Type} (x : Nat → Nat → α) (f i : Nat) (v : α) : Nat → Nat → α := fun a j => if a = f ∧ j = i then v else x a j
theorem up_s {α : Type} {x : Nat → Nat → α} {f i : Nat} {v : α} : up x f i v f i = v := by simp [up]
theorem up_f {α : Type} {x : Nat → Nat → α} {f i a j : Nat} {v : α} (h : a ≠ f) : up x f i v a j = x a j := by simp [up, h]
theorem up_i {α : Type} {x : Nat → Nat → α} {f i a j : Nat} {v : α} (h : j ≠ i) : up x f i v a j = x a j := by simp [up, h]
theorem up_row {α : Type} {x : Nat → Nat → α} {f i a : Nat} {v : α} (h : a ≠ f) : up x f i v a = x a := by funext j; simp [up, h]
def b2 (b : Bool) : Int32 := if b then 1 else 0
theorem b2_0 {b : Bool} : b2 b = 0 ↔ b = false := by cases b <;> simp [b2]
theorem b2_n0 {b : Bool} : ¬ b2 b = 0 ↔ b = true := by cases b <;> simp [b2]
theorem b2_z {b : Bool} : narrow .boolean (.int (b2 b)) = .int (b2 b) := by cases b <;> rfl
theorem b2_t : b2 true = 1 := rfl
theorem b2_f : b2 false = 0 := rfl
def inB (a lo hi : Int32) : Bool := decide (lo ≤ a) && decide (a ≤ hi)
/-- an optional reference to a mast, a phone: none, or the number and one -/
def mrO (ad : Tg → Nat) (r : Nat) : Option Nat := if r = 0 then none else some (ad (1, r - 1, 0))
def prO (ad : Tg → Nat) (r : Nat) : Option Nat := if r = 0 then none else some (ad (2, r - 1, 0))
def lsO (ad : Tg → Nat) (i z : Nat) : Option Nat := if z = 0 then none else some (ad (3, i, 0))
def lgO (ad : Tg → Nat) (i z : Nat) : Option Nat := if z = 0 then none else some (ad (4, i, (z - 1) / 64))
def bfO (ad : Tg → Nat) (i j : Nat) : Option Nat := if j = 0 then none else some (ad (4, i, j - 1))
theorem mrO_0 {ad : Tg → Nat} {r : Nat} : mrO ad r = none ↔ r = 0 := by unfold mrO; split <;> simp [*]
theorem prO_0 {ad : Tg → Nat} {r : Nat} : prO ad r = none ↔ r = 0 := by unfold prO; split <;> simp [*]
theorem lsO_0 {ad : Tg → Nat} {i z : Nat} : lsO ad i z = none ↔ z = 0 := by unfold lsO; split <;> simp [*]
theorem lgO_0 {ad : Tg → Nat} {i z : Nat} : lgO ad i z = none ↔ z = 0 := by unfold lgO; split <;> simp [*]
theorem mrO_1 {ad : Tg → Nat} {r : Nat} (h : ¬ r = 0) : mrO ad r = some (ad (1, r - 1, 0)) := by simp [mrO, h]
theorem prO_1 {ad : Tg → Nat} {r : Nat} (h : ¬ r = 0) : prO ad r = some (ad (2, r - 1, 0)) := by simp [prO, h]
theorem lsO_1 {ad : Tg → Nat} {i z : Nat} (h : ¬ z = 0) : lsO ad i z = some (ad (3, i, 0)) := by simp [lsO, h]
theorem lgO_1 {ad : Tg → Nat} {i z : Nat} (h : ¬ z = 0) : lgO ad i z = some (ad (4, i, (z - 1) / 64)) := by simp [lgO, h]
/-- the fields of each kind of cell -/
def maO (g : XS) (ad : Tg → Nat) : Nat → Option Nat := fun i => if i < g.2.1 0 0 then some (ad (1, i, 0)) else none
def phO (g : XS) (ad : Tg → Nat) : Nat → Option Nat := fun q => if q < g.2.1 1 0 then some (ad (2, q, 0)) else none
def fX (g : XS) (ad : Tg → Nat) : List Value := [.ref (ad (0, 1, 0)), .ref (ad (0, 2, 0)), .ref (ad (0, 3, 0)), .int (g.1 40 0), .int (g.1 41 0)]
def fM (g : XS) (ad : Tg → Nat) (i : Nat) : List Value := [.int (g.1 0 i), .int (g.1 1 i), .int (g.1 2 i), .int (g.1 3 i), .int (g.1 4 i), .int (g.1 5 i), .int (g.1 6 i), va_rf (lsO ad i (g.2.1 2 i)), .int (g.1 8 i), .int (g.1 9 i), .int (g.1 10 i), .int (g.1 11 i), .int (g.1 12 i), va_rf (lgO ad i (g.2.1 4 i))]
def fP (g : XS) (ad : Tg → Nat) (q : Nat) : List Value := [.int (g.1 30 q), va_rf (mrO ad (g.2.1 3 q)), .int (g.1 32 q), .int (g.1 33 q), .int (g.1 34 q), .int (g.1 35 q)]
def fL (g : XS) (i : Nat) : List Value := [.int (g.1 20 i), .int (g.1 21 i), .int (g.1 22 i), .int (g.1 23 i), .int (g.1 24 i), .int (g.1 25 i)]
def fG (g : XS) (ad : Tg → Nat) (i j : Nat) : List Value := [.ref (ad (5, i, j)), .ref (ad (6, i, j)), va_rf (bfO ad i j), .int (nI (min 64 (g.2.1 4 i - 64 * j)))]
abbrev MF : Type := Nat → Nat → Int32
def fR (M : MF) (ad : Tg → Nat) : List Value := [.int (M 0 0), .int (M 1 0), .int (M 2 0), .ref (ad (8, 3, 0)), .ref (ad (8, 4, 0)), .ref (ad (8, 5, 0)), .ref (ad (8, 6, 0)), .ref (ad (8, 7, 0)), .ref (ad (8, 8, 0)), .ref (ad (8, 9, 0)), .ref (ad (8, 10, 0)), .ref (ad (8, 11, 0)), .ref (ad (8, 12, 0)), .ref (ad (8, 13, 0)), .ref (ad (8, 14, 0)), .ref (ad (8, 15, 0)), .ref (ad (8, 16, 0)), .ref (ad (8, 17, 0)), .ref (ad (8, 18, 0)), .int (M 19 0), .ref (ad (8, 20, 0)), .ref (ad (8, 21, 0)), .ref (ad (8, 22, 0)), .ref (ad (8, 23, 0)), .ref (ad (8, 24, 0)), .ref (ad (8, 25, 0)), .int (M 26 0)]
/-- a block of a log: 64 entries of it -/
def lcut (f : Nat → Int32) (j : Nat) : Nat → Int32 := fun q => if q < 64 then f (64 * j + q) else 0
/-- how long a row of the reference is -/
def rl (f : Nat) : Nat := if f < 19 then 8 else if f < 25 then 12 else 6
def eW (k : Nat → ClassId) (ad : Tg → Nat) (g : XS) (M : MF) (o : OF) : Tg → va_E
  | (0, 0, _) => .inr (4, fX g ad)
  | (0, 1, _) => .inl (k 4, 8, .inr (.inr (.inr (.inr (maO g ad)))))
  | (0, 2, _) => .inl (k 5, 12, .inr (.inr (.inr (.inr (phO g ad)))))
  | (0, _, _) => .inl (k 0, 6, .inl (g.1 42))
  | (1, i, _) => .inr (2, fM g ad i)
  | (2, q, _) => .inr (3, fP g ad q)
  | (3, i, _) => .inr (0, fL g i)
  | (4, i, j) => .inr (1, fG g ad i j)
  | (5, i, j) => .inl (k 0, 64, .inl (lcut (g.2.2 0 i) j))
  | (6, i, j) => .inl (k 0, 64, .inl (lcut (g.2.2 1 i) j))
  | (7, _, _) => .inr (5, fR M ad)
  | (8, f, _) => .inl (if f = 8 ∨ f = 10 then k 1 else k 0, rl f, .inl (M f))
  | (9, 0, _) => .inl (k 2, 1, .inr (.inl o.1))
  | _ => .inl (k 3, 1, .inr (.inr (.inr (.inl o.2))))
/-- the tags that are there -/
def LW (n : NF) : Tg → Prop
  | (0, i, j) => i < 4 ∧ j = 0
  | (1, i, j) => i < n 0 0 ∧ j = 0
  | (2, i, j) => i < n 1 0 ∧ j = 0
  | (3, i, j) => (i < n 0 0 ∧ n 2 i ≠ 0) ∧ j = 0
  | (4, i, j) => i < n 0 0 ∧ 64 * j < n 4 i
  | (5, i, j) => i < n 0 0 ∧ 64 * j < n 4 i
  | (6, i, j) => i < n 0 0 ∧ 64 * j < n 4 i
  | (7, i, j) => i = 0 ∧ j = 0
  | (8, i, j) => (2 < i ∧ i < 26 ∧ i ≠ 19) ∧ j = 0
  | (9, i, j) => i < 2 ∧ j = 0
  | _ => False
def Wo (D : va_G) (k : Nat → ClassId) (b : Nat) (ad : Tg → Nat) (g : XS) (M : MF) (o : OF) (H : Heap) : Prop := Hp D b (LW g.2.1) ad (eW k ad g M o) H
theorem tg_all {P : Tg → Prop} (h0 : ∀ i j, P (0, i, j)) (h1 : ∀ i j, P (1, i, j)) (h2 : ∀ i j, P (2, i, j)) (h3 : ∀ i j, P (3, i, j)) (h4 : ∀ i j, P (4, i, j)) (h5 : ∀ i j, P (5, i, j)) (h6 : ∀ i j, P (6, i, j)) (h7 : ∀ i j, P (7, i, j)) (h8 : ∀ i j, P (8, i, j)) (h9 : ∀ i j, P (9, i, j)) (hx : ∀ a i j, P (a + 10, i, j)) : ∀ t, P t := fun ⟨a, i, j⟩ => match a with
  | 0 => h0 i j
  | 1 => h1 i j
  | 2 => h2 i j
  | 3 => h3 i j
  | 4 => h4 i j
  | 5 => h5 i j
  | 6 => h6 i j
  | 7 => h7 i j
  | 8 => h8 i j
  | 9 => h9 i j
  | a + 10 => hx a i j
abbrev sx (g : XS) (f i : Nat) (v : Int32) : XS := (up g.1 f i v, g.2.1, g.2.2)
abbrev sn (g : XS) (f i v : Nat) : XS := (g.1, up g.2.1 f i v, g.2.2)
def ul (lg : LF) (z i q : Nat) (v : Int32) : LF := fun a j r => if a = z ∧ j = i ∧ r = q then v else lg a j r
/-- one field of one cell changes: the new world -/
theorem eW_M {k : Nat → ClassId} {ad : Tg → Nat} {g : XS} {M : MF} {o : OF} {i f : Nat} {v : Int32} (hf : f < 14) (hs : (fM g ad i).set f (.int v) = fM (sx g f i v) ad i) : ∀ t, LW g.2.1 t → eW k ad (sx g f i v) M o t = uE (eW k ad g M o) (1, i, 0) (.inr (2, (fM g ad i).set f (.int v))) t := by
  have h40 : (40 : Nat) ≠ f := by omega
  have h41 : (41 : Nat) ≠ f := by omega
  have h42 : (42 : Nat) ≠ f := by omega
  have hr : ∀ a j, a ≠ f → up g.1 f i v a j = g.1 a j := fun a j h => up_f h
  refine tg_all (fun a j h => ?_) (fun a j h => ?_) (fun a j h => ?_) (fun a j h => ?_) (fun a j h => ?_) (fun a j h => ?_) (fun a j h => ?_) (fun a j h => ?_) (fun a j h => ?_) (fun a j h => ?_) (fun a i j h => h.elim)
  · rw [uE_n (by simp)]
    match a with
    | 0 => simp only [eW, fX]; rw [hr 40 0 h40, hr 41 0 h41]
    | 1 => rfl
    | 2 => rfl
    | a + 3 => simp only [eW]; rw [up_row h42]
  · obtain ⟨-, rfl⟩ := h
    by_cases e : a = i
    · subst e
      rw [uE_s, hs]
      rfl
    · rw [uE_n (by simp [e])]
      simp only [eW, fM]
      simp only [up_i e]
  · rw [uE_n (by simp)]
    simp only [eW, fP]
    rw [hr 30 _ (by omega), hr 32 _ (by omega), hr 33 _ (by omega), hr 34 _ (by omega), hr 35 _ (by omega)]
  · rw [uE_n (by simp)]
    simp only [eW, fL]
    rw [hr 20 _ (by omega), hr 21 _ (by omega), hr 22 _ (by omega), hr 23 _ (by omega), hr 24 _ (by omega), hr 25 _ (by omega)]
  all_goals (rw [uE_n (by simp)]; first | rfl | (cases a <;> rfl))
theorem fM_int {g : XS} {ad : Tg → Nat} {i f : Nat} {v : Int32} (h : f = 8 ∨ f = 9 ∨ f = 10 ∨ f = 11 ∨ f = 12) : (fM g ad i).set f (.int v) = fM (sx g f i v) ad i := by
  rcases h with rfl | rfl | rfl | rfl | rfl <;> simp [fM, up]
theorem Wo_M {D : va_G} {k : Nat → ClassId} {b : Nat} {ad : Tg → Nat} {g : XS} {M : MF} {o : OF} {H : Heap} {i f : Nat} {v : Int32} (hf : f = 8 ∨ f = 9 ∨ f = 10 ∨ f = 11 ∨ f = 12) (h : Hp D b (LW g.2.1) ad (uE (eW k ad g M o) (1, i, 0) (.inr (2, (fM g ad i).set f (.int v)))) H) : Wo D k b ad (sx g f i v) M o H := Hp.cg h (eW_M (g := g) (by omega) (fM_int hf))
theorem eW_P {k : Nat → ClassId} {ad : Tg → Nat} {g : XS} {M : MF} {o : OF} {i f : Nat} {v : Int32} (hf : f < 6) (hs : (fP g ad i).set f (.int v) = fP (sx g (30 + f) i v) ad i) : ∀ t, LW g.2.1 t → eW k ad (sx g (30 + f) i v) M o t = uE (eW k ad g M o) (2, i, 0) (.inr (3, (fP g ad i).set f (.int v))) t := by
  have hr : ∀ a j, a ≠ 30 + f → up g.1 (30 + f) i v a j = g.1 a j := fun a j h => up_f h
  refine tg_all (fun a j h => ?_) (fun a j h => ?_) (fun a j h => ?_) (fun a j h => ?_) (fun a j h => ?_) (fun a j h => ?_) (fun a j h => ?_) (fun a j h => ?_) (fun a j h => ?_) (fun a j h => ?_) (fun a i j h => h.elim)
  · rw [uE_n (by simp)]
    match a with
    | 0 => simp only [eW, fX]; rw [hr 40 0 (by omega), hr 41 0 (by omega)]
    | 1 => rfl
    | 2 => rfl
    | a + 3 => simp only [eW]; rw [up_row (by omega)]
  · rw [uE_n (by simp)]
    simp only [eW, fM]
    rw [hr 0 _ (by omega), hr 1 _ (by omega), hr 2 _ (by omega), hr 3 _ (by omega), hr 4 _ (by omega), hr 5 _ (by omega), hr 6 _ (by omega), hr 8 _ (by omega), hr 9 _ (by omega), hr 10 _ (by omega), hr 11 _ (by omega), hr 12 _ (by omega)]
  · obtain ⟨-, rfl⟩ := h
    by_cases e : a = i
    · subst e
      rw [uE_s, hs]
      rfl
    · rw [uE_n (by simp [e])]
      simp only [eW, fP]
      simp only [up_i e]
  · rw [uE_n (by simp)]
    simp only [eW, fL]
    rw [hr 20 _ (by omega), hr 21 _ (by omega), hr 22 _ (by omega), hr 23 _ (by omega), hr 24 _ (by omega), hr 25 _ (by omega)]
  all_goals (rw [uE_n (by simp)]; first | rfl | (cases a <;> rfl))
theorem fP_int {g : XS} {ad : Tg → Nat} {i f : Nat} {v : Int32} (h : f = 0 ∨ f = 2 ∨ f = 3 ∨ f = 4 ∨ f = 5) : (fP g ad i).set f (.int v) = fP (sx g (30 + f) i v) ad i := by
  rcases h with rfl | rfl | rfl | rfl | rfl <;> simp [fP, up]
theorem Wo_P {D : va_G} {k : Nat → ClassId} {b : Nat} {ad : Tg → Nat} {g : XS} {M : MF} {o : OF} {H : Heap} {i f : Nat} {v : Int32} (hf : f = 0 ∨ f = 2 ∨ f = 3 ∨ f = 4 ∨ f = 5) (h : Hp D b (LW g.2.1) ad (uE (eW k ad g M o) (2, i, 0) (.inr (3, (fP g ad i).set f (.int v)))) H) : Wo D k b ad (sx g (30 + f) i v) M o H := Hp.cg h (eW_P (g := g) (by omega) (fP_int hf))
/-- hour, sun -/
theorem Wo_X {D : va_G} {k : Nat → ClassId} {b : Nat} {ad : Tg → Nat} {g : XS} {M : MF} {o : OF} {H : Heap} {f : Nat} {v : Int32} (hf : f = 3 ∨ f = 4) (h : Hp D b (LW g.2.1) ad (uE (eW k ad g M o) (0, 0, 0) (.inr (4, (fX g ad).set f (.int v)))) H) : Wo D k b ad (sx g (37 + f) 0 v) M o H := by
  refine Hp.cg h ?_
  have hr : ∀ a j, a ≠ 37 + f → up g.1 (37 + f) 0 v a j = g.1 a j := fun a j h => up_f h
  refine tg_all (fun a j h => ?_) (fun a j h => ?_) (fun a j h => ?_) (fun a j h => ?_) (fun a j h => ?_) (fun a j h => ?_) (fun a j h => ?_) (fun a j h => ?_) (fun a j h => ?_) (fun a j h => ?_) (fun a i j h => h.elim)
  · obtain ⟨-, rfl⟩ := h
    match a with
    | 0 =>
      rw [uE_s]
      rcases hf with rfl | rfl <;> simp [eW, fX, up]
    | 1 => rw [uE_n (by simp)]; rfl
    | 2 => rw [uE_n (by simp)]; rfl
    | a + 3 => rw [uE_n (by simp)]; simp only [eW]; rw [up_row (by omega)]
  · rw [uE_n (by simp)]
    simp only [eW, fM]
    rw [hr 0 _ (by omega), hr 1 _ (by omega), hr 2 _ (by omega), hr 3 _ (by omega), hr 4 _ (by omega), hr 5 _ (by omega), hr 6 _ (by omega), hr 8 _ (by omega), hr 9 _ (by omega), hr 10 _ (by omega), hr 11 _ (by omega), hr 12 _ (by omega)]
  · rw [uE_n (by simp)]
    simp only [eW, fP]
    rw [hr 30 _ (by omega), hr 32 _ (by omega), hr 33 _ (by omega), hr 34 _ (by omega), hr 35 _ (by omega)]
  · rw [uE_n (by simp)]
    simp only [eW, fL]
    rw [hr 20 _ (by omega), hr 21 _ (by omega), hr 22 _ (by omega), hr 23 _ (by omega), hr 24 _ (by omega), hr 25 _ (by omega)]
  all_goals (rw [uE_n (by simp)]; first | rfl | (cases a <;> rfl))
theorem upd_up {x : Nat → Nat → Int32} {f q : Nat} {v : Int32} : upd (x f) q v = up x f q v f := by funext j; simp [upd, up]
/-- what was paid to a farmer -/
theorem Wo_Y {D : va_G} {k : Nat → ClassId} {b : Nat} {ad : Tg → Nat} {g : XS} {M : MF} {o : OF} {H : Heap} {q : Nat} {v : Int32} (h : Hp D b (LW g.2.1) ad (uE (eW k ad g M o) (0, 3, 0) (.inl (k 0, 6, .inl (upd (g.1 42) q v)))) H) : Wo D k b ad (sx g 42 q v) M o H := by
  refine Hp.cg h ?_
  have hr : ∀ a j, a ≠ 42 → up g.1 42 q v a j = g.1 a j := fun a j h => up_f h
  refine tg_all (fun a j h => ?_) (fun a j h => ?_) (fun a j h => ?_) (fun a j h => ?_) (fun a j h => ?_) (fun a j h => ?_) (fun a j h => ?_) (fun a j h => ?_) (fun a j h => ?_) (fun a j h => ?_) (fun a i j h => h.elim)
  · obtain ⟨h4, rfl⟩ := h
    match a with
    | 0 => rw [uE_n (by simp)]; simp only [eW, fX]; rw [hr 40 0 (by omega), hr 41 0 (by omega)]
    | 1 => rw [uE_n (by simp)]; rfl
    | 2 => rw [uE_n (by simp)]; rfl
    | 3 => rw [uE_s, upd_up]; rfl
    | a + 4 => exact absurd h4 (by omega)
  · rw [uE_n (by simp)]
    simp only [eW, fM]
    rw [hr 0 _ (by omega), hr 1 _ (by omega), hr 2 _ (by omega), hr 3 _ (by omega), hr 4 _ (by omega), hr 5 _ (by omega), hr 6 _ (by omega), hr 8 _ (by omega), hr 9 _ (by omega), hr 10 _ (by omega), hr 11 _ (by omega), hr 12 _ (by omega)]
  · rw [uE_n (by simp)]
    simp only [eW, fP]
    rw [hr 30 _ (by omega), hr 32 _ (by omega), hr 33 _ (by omega), hr 34 _ (by omega), hr 35 _ (by omega)]
  · rw [uE_n (by simp)]
    simp only [eW, fL]
    rw [hr 20 _ (by omega), hr 21 _ (by omega), hr 22 _ (by omega), hr 23 _ (by omega), hr 24 _ (by omega), hr 25 _ (by omega)]
  all_goals (rw [uE_n (by simp)]; first | rfl | (cases a <;> rfl))
/-- a phone's mast -/
theorem Wo_C {D : va_G} {k : Nat → ClassId} {b : Nat} {ad : Tg → Nat} {g : XS} {M : MF} {o : OF} {H : Heap} {q r : Nat} (h : Hp D b (LW g.2.1) ad (uE (eW k ad g M o) (2, q, 0) (.inr (3, (fP g ad q).set 1 (va_rf (mrO ad r))))) H) : Wo D k b ad (sn g 3 q r) M o H := by
  refine Hp.mono h ?_
  have hr : ∀ a j, a ≠ 3 → up g.2.1 3 q r a j = g.2.1 a j := fun a j h => up_f h
  refine tg_all (fun a j h => ?_) (fun a j h => ?_) (fun a j h => ?_) (fun a j h => ?_) (fun a j h => ?_) (fun a j h => ?_) (fun a j h => ?_) (fun a j h => ?_) (fun a j h => ?_) (fun a j h => ?_) (fun a i j h => h.elim)
  · refine ⟨h, rfl, ?_⟩
    rw [uE_n (by simp)]
    match a with
    | 0 => rfl
    | 1 => rfl
    | 2 => rfl
    | a + 3 => rfl
  · refine ⟨h, rfl, ?_⟩
    rw [uE_n (by simp)]
    rfl
  · refine ⟨h, rfl, ?_⟩
    obtain ⟨-, rfl⟩ := h
    by_cases e : a = q
    · subst e
      rw [uE_s]
      simp [eW, fP, up]
    · rw [uE_n (by simp [e])]
      simp only [eW, fP]
      simp only [up_i e]
  all_goals (refine ⟨h, rfl, ?_⟩; rw [uE_n (by simp)]; first | rfl | (cases a <;> rfl))
/-- a lease ends -/
theorem Wo_E {D : va_G} {k : Nat → ClassId} {b : Nat} {ad : Tg → Nat} {g : XS} {M : MF} {o : OF} {H : Heap} {q : Nat} (h : Hp D b (LW g.2.1) ad (uE (eW k ad g M o) (1, q, 0) (.inr (2, (fM g ad q).set 7 .null))) H) : Wo D k b ad (sn g 2 q 0) M o H := by
  refine Hp.mono h ?_
  refine tg_all (fun a j h => ?_) (fun a j h => ?_) (fun a j h => ?_) (fun a j h => ?_) (fun a j h => ?_) (fun a j h => ?_) (fun a j h => ?_) (fun a j h => ?_) (fun a j h => ?_) (fun a j h => ?_) (fun a i j h => h.elim)
  · refine ⟨h, rfl, ?_⟩
    rw [uE_n (by simp)]
    match a with
    | 0 => rfl
    | 1 => rfl
    | 2 => rfl
    | a + 3 => rfl
  · refine ⟨h, rfl, ?_⟩
    obtain ⟨-, rfl⟩ := h
    by_cases e : a = q
    · subst e
      rw [uE_s]
      simp [eW, fM, up, lsO, va_rf]
    · rw [uE_n (by simp [e])]
      simp only [eW, fM]
      simp only [up_i e, up_f (show (4 : Nat) ≠ 2 by decide)]
  · refine ⟨h, rfl, ?_⟩
    rw [uE_n (by simp)]
    rfl
  · refine ⟨⟨⟨h.1.1, ?_⟩, h.2⟩, rfl, ?_⟩
    · by_cases e : a = q
      · subst e
        exact absurd up_s h.1.2
      · have h2 : up g.2.1 2 q 0 2 a ≠ 0 := h.1.2
        rw [up_i e] at h2
        exact h2
    · rw [uE_n (by simp)]
      rfl
  all_goals (refine ⟨h, rfl, ?_⟩; rw [uE_n (by simp)]; first | rfl | (cases a <;> rfl))
/-- the reference's numbers and rows -/
theorem Wo_R {D : va_G} {k : Nat → ClassId} {b : Nat} {ad : Tg → Nat} {g : XS} {M : MF} {o : OF} {H : Heap} {f : Nat} {v : Int32} (hf : f = 0 ∨ f = 1 ∨ f = 2 ∨ f = 19 ∨ f = 26) (h : Hp D b (LW g.2.1) ad (uE (eW k ad g M o) (7, 0, 0) (.inr (5, (fR M ad).set f (.int v)))) H) : Wo D k b ad g (up M f 0 v) o H := by
  refine Hp.cg h ?_
  refine tg_all (fun a j h => ?_) (fun a j h => ?_) (fun a j h => ?_) (fun a j h => ?_) (fun a j h => ?_) (fun a j h => ?_) (fun a j h => ?_) (fun a j h => ?_) (fun a j h => ?_) (fun a j h => ?_) (fun a i j h => h.elim)
  · rw [uE_n (by simp)]
    match a with
    | 0 => rfl
    | 1 => rfl
    | 2 => rfl
    | a + 3 => rfl
  · rw [uE_n (by simp)]; rfl
  · rw [uE_n (by simp)]; rfl
  · rw [uE_n (by simp)]; rfl
  · rw [uE_n (by simp)]; rfl
  · rw [uE_n (by simp)]; rfl
  · rw [uE_n (by simp)]; rfl
  · obtain ⟨rfl, rfl⟩ := h
    rw [uE_s]
    rcases hf with rfl | rfl | rfl | rfl | rfl <;> simp [eW, fR, up]
  · rw [uE_n (by simp)]
    simp only [eW]
    rw [up_row (by have := h.1; omega)]
  · rw [uE_n (by simp)]; cases a <;> rfl
theorem Wo_A {D : va_G} {k : Nat → ClassId} {b : Nat} {ad : Tg → Nat} {g : XS} {M : MF} {o : OF} {H : Heap} {f q : Nat} {v : Int32} (hf : 2 < f ∧ f < 26 ∧ f ≠ 19) {cA : ClassId} (hc : cA = if f = 8 ∨ f = 10 then k 1 else k 0) (h : Hp D b (LW g.2.1) ad (uE (eW k ad g M o) (8, f, 0) (.inl (cA, rl f, .inl (upd (M f) q v)))) H) : Wo D k b ad g (up M f q v) o H := by
  subst hc
  have hr : ∀ a j, a ≠ f → up M f q v a j = M a j := fun a j h => up_f h
  refine Hp.cg h ?_
  refine tg_all (fun a j h => ?_) (fun a j h => ?_) (fun a j h => ?_) (fun a j h => ?_) (fun a j h => ?_) (fun a j h => ?_) (fun a j h => ?_) (fun a j h => ?_) (fun a j h => ?_) (fun a j h => ?_) (fun a i j h => h.elim)
  · rw [uE_n (by simp)]
    match a with
    | 0 => rfl
    | 1 => rfl
    | 2 => rfl
    | a + 3 => rfl
  · rw [uE_n (by simp)]; rfl
  · rw [uE_n (by simp)]; rfl
  · rw [uE_n (by simp)]; rfl
  · rw [uE_n (by simp)]; rfl
  · rw [uE_n (by simp)]; rfl
  · rw [uE_n (by simp)]; rfl
  · rw [uE_n (by simp)]
    simp only [eW, fR]
    rw [hr 0 0 (by omega), hr 1 0 (by omega), hr 2 0 (by omega), hr 19 0 (by omega), hr 26 0 (by omega)]
  · obtain ⟨-, rfl⟩ := h
    by_cases e : a = f
    · subst e
      rw [uE_s, upd_up]
      rfl
    · rw [uE_n (by simp [e])]
      simp only [eW]
      rw [up_row e]
  · rw [uE_n (by simp)]; cases a <;> rfl
theorem Wo_O {D : va_G} {k : Nat → ClassId} {b : Nat} {ad : Tg → Nat} {g : XS} {M : MF} {o : OF} {H : Heap} {f : Nat → Int64} (h : Hp D b (LW g.2.1) ad (uE (eW k ad g M o) (9, 0, 0) (.inl (k 2, 1, .inr (.inl f)))) H) : Wo D k b ad g M (f, o.2) H := by
  refine Hp.cg h ?_
  refine tg_all (fun a j h => ?_) (fun a j h => ?_) (fun a j h => ?_) (fun a j h => ?_) (fun a j h => ?_) (fun a j h => ?_) (fun a j h => ?_) (fun a j h => ?_) (fun a j h => ?_) (fun a j h => ?_) (fun a i j h => h.elim)
  · rw [uE_n (by simp)]
    match a with
    | 0 => rfl
    | 1 => rfl
    | 2 => rfl
    | a + 3 => rfl
  · rw [uE_n (by simp)]; rfl
  · rw [uE_n (by simp)]; rfl
  · rw [uE_n (by simp)]; rfl
  · rw [uE_n (by simp)]; rfl
  · rw [uE_n (by simp)]; rfl
  · rw [uE_n (by simp)]; rfl
  · rw [uE_n (by simp)]; rfl
  · rw [uE_n (by simp)]; rfl
  · obtain ⟨h2, rfl⟩ := h
    match a with
    | 0 => rw [uE_s]; rfl
    | 1 => rw [uE_n (by simp)]; rfl
    | a + 2 => exact absurd h2 (by omega)
theorem Wo_F {D : va_G} {k : Nat → ClassId} {b : Nat} {ad : Tg → Nat} {g : XS} {M : MF} {o : OF} {H : Heap} {f : Nat → UInt64} (h : Hp D b (LW g.2.1) ad (uE (eW k ad g M o) (9, 1, 0) (.inl (k 3, 1, .inr (.inr (.inr (.inl f)))))) H) : Wo D k b ad g M (o.1, f) H := by
  refine Hp.cg h ?_
  refine tg_all (fun a j h => ?_) (fun a j h => ?_) (fun a j h => ?_) (fun a j h => ?_) (fun a j h => ?_) (fun a j h => ?_) (fun a j h => ?_) (fun a j h => ?_) (fun a j h => ?_) (fun a j h => ?_) (fun a i j h => h.elim)
  · rw [uE_n (by simp)]
    match a with
    | 0 => rfl
    | 1 => rfl
    | 2 => rfl
    | a + 3 => rfl
  · rw [uE_n (by simp)]; rfl
  · rw [uE_n (by simp)]; rfl
  · rw [uE_n (by simp)]; rfl
  · rw [uE_n (by simp)]; rfl
  · rw [uE_n (by simp)]; rfl
  · rw [uE_n (by simp)]; rfl
  · rw [uE_n (by simp)]; rfl
  · rw [uE_n (by simp)]; rfl
  · obtain ⟨h2, rfl⟩ := h
    match a with
    | 0 => rw [uE_n (by simp)]; rfl
    | 1 => rw [uE_s]; rfl
    | a + 2 => exact absurd h2 (by omega)

section LW2
variable {p : Program} {l : Launch} {e : Env} {R : Room} {s : State} {m : MethodId} {args : Array Value} {below : List Frame} {meth : Method} {c : Code} {H : Heap} {locs : List Loc} {cells slots : Nat} {Q : State → Prop}
variable {cc : ByteArray} {pc : Nat} {ls : Array Slot} {rest : List Value} {D : va_G} {b : Nat} {ad : Tg → Nat} {H0 : Heap} {k : Nat → ClassId} {g : XS} {M : MF} {o : OF} {ow host : String} {index : Nat}

theorem g0 (hx : p.tables.exec = Jvm.exec) (hb : c.code = cc) (hts : ∀ x ∈ AW, x.before args s = true) (hown : s.vm.findClass ow = some m.cls) (hC : Cs D k b s) (hH : Wo D k b ad g M o H) (i : Nat) (hi : i < g.2.1 0 0) (hl : g.2.1 2 i ≠ 0) (f : Nat) (hf : f < 6) (hlink : Cond.fieldLink ow index (TX0 f).1 (TX0 f).2.1 (TX0 f).2.2.1 ∈ AW) {v : Value} (hv : (fL g i)[f]? = some v) (hdg : decode cc pc = .ok (.getfield index, 3))
    (kk : W p l e R s m args below meth c H locs cells slots Q (F0 m (pc + 3) ls (v :: rest))) : W p l e R s m args below meth c H locs cells slots Q (F0 m pc ls (.ref (ad (3, i, 0)) :: rest)) :=
  r_get hx hb hts hown hC hH (3, i, 0) ⟨⟨hi, hl⟩, rfl⟩ rfl rfl inX0 f hf hlink hv hdg kk
theorem g0N (hx : p.tables.exec = Jvm.exec) (hb : c.code = cc) (hts : ∀ x ∈ AW, x.before args s = true) (hown : s.vm.findClass ow = some m.cls) (hC : Cs D k b s) (hH : Wo D k b ad g M o H) (i : Nat) (hi : i < g.2.1 0 0) (hl : g.2.1 2 i ≠ 0) (f : Nat) (hf : f < 6) (hlink : Cond.fieldLinkNest ow index (TX0 f).1 (TX0 f).2.1 (TX0 f).2.2.1 host ∈ AW) {v : Value} (hv : (fL g i)[f]? = some v) (hdg : decode cc pc = .ok (.getfield index, 3))
    (kk : W p l e R s m args below meth c H locs cells slots Q (F0 m (pc + 3) ls (v :: rest))) : W p l e R s m args below meth c H locs cells slots Q (F0 m pc ls (.ref (ad (3, i, 0)) :: rest)) :=
  r_getN hx hb hts hown hC hH (3, i, 0) ⟨⟨hi, hl⟩, rfl⟩ rfl rfl inX0 f hf hlink hv hdg kk
theorem g1 (hx : p.tables.exec = Jvm.exec) (hb : c.code = cc) (hts : ∀ x ∈ AW, x.before args s = true) (hown : s.vm.findClass ow = some m.cls) (hC : Cs D k b s) (hH : Wo D k b ad g M o H) (i j : Nat) (hi : i < g.2.1 0 0) (hj : 64 * j < g.2.1 4 i) (f : Nat) (hf : f < 4) (hlink : Cond.fieldLink ow index (TX1 f).1 (TX1 f).2.1 (TX1 f).2.2.1 ∈ AW) {v : Value} (hv : (fG g ad i j)[f]? = some v) (hdg : decode cc pc = .ok (.getfield index, 3))
    (kk : W p l e R s m args below meth c H locs cells slots Q (F0 m (pc + 3) ls (v :: rest))) : W p l e R s m args below meth c H locs cells slots Q (F0 m pc ls (.ref (ad (4, i, j)) :: rest)) :=
  r_get hx hb hts hown hC hH (4, i, j) ⟨hi, hj⟩ rfl rfl inX1 f hf hlink hv hdg kk
theorem g1N (hx : p.tables.exec = Jvm.exec) (hb : c.code = cc) (hts : ∀ x ∈ AW, x.before args s = true) (hown : s.vm.findClass ow = some m.cls) (hC : Cs D k b s) (hH : Wo D k b ad g M o H) (i j : Nat) (hi : i < g.2.1 0 0) (hj : 64 * j < g.2.1 4 i) (f : Nat) (hf : f < 4) (hlink : Cond.fieldLinkNest ow index (TX1 f).1 (TX1 f).2.1 (TX1 f).2.2.1 host ∈ AW) {v : Value} (hv : (fG g ad i j)[f]? = some v) (hdg : decode cc pc = .ok (.getfield index, 3))
    (kk : W p l e R s m args below meth c H locs cells slots Q (F0 m (pc + 3) ls (v :: rest))) : W p l e R s m args below meth c H locs cells slots Q (F0 m pc ls (.ref (ad (4, i, j)) :: rest)) :=
  r_getN hx hb hts hown hC hH (4, i, j) ⟨hi, hj⟩ rfl rfl inX1 f hf hlink hv hdg kk
theorem g2 (hx : p.tables.exec = Jvm.exec) (hb : c.code = cc) (hts : ∀ x ∈ AW, x.before args s = true) (hown : s.vm.findClass ow = some m.cls) (hC : Cs D k b s) (hH : Wo D k b ad g M o H) (i : Nat) (hi : i < g.2.1 0 0) (f : Nat) (hf : f < 14) (hlink : Cond.fieldLink ow index (TX2 f).1 (TX2 f).2.1 (TX2 f).2.2.1 ∈ AW) {v : Value} (hv : (fM g ad i)[f]? = some v) (hdg : decode cc pc = .ok (.getfield index, 3))
    (kk : W p l e R s m args below meth c H locs cells slots Q (F0 m (pc + 3) ls (v :: rest))) : W p l e R s m args below meth c H locs cells slots Q (F0 m pc ls (.ref (ad (1, i, 0)) :: rest)) :=
  r_get hx hb hts hown hC hH (1, i, 0) ⟨hi, rfl⟩ rfl rfl inX2 f hf hlink hv hdg kk
theorem g2N (hx : p.tables.exec = Jvm.exec) (hb : c.code = cc) (hts : ∀ x ∈ AW, x.before args s = true) (hown : s.vm.findClass ow = some m.cls) (hC : Cs D k b s) (hH : Wo D k b ad g M o H) (i : Nat) (hi : i < g.2.1 0 0) (f : Nat) (hf : f < 14) (hlink : Cond.fieldLinkNest ow index (TX2 f).1 (TX2 f).2.1 (TX2 f).2.2.1 host ∈ AW) {v : Value} (hv : (fM g ad i)[f]? = some v) (hdg : decode cc pc = .ok (.getfield index, 3))
    (kk : W p l e R s m args below meth c H locs cells slots Q (F0 m (pc + 3) ls (v :: rest))) : W p l e R s m args below meth c H locs cells slots Q (F0 m pc ls (.ref (ad (1, i, 0)) :: rest)) :=
  r_getN hx hb hts hown hC hH (1, i, 0) ⟨hi, rfl⟩ rfl rfl inX2 f hf hlink hv hdg kk
theorem g3 (hx : p.tables.exec = Jvm.exec) (hb : c.code = cc) (hts : ∀ x ∈ AW, x.before args s = true) (hown : s.vm.findClass ow = some m.cls) (hC : Cs D k b s) (hH : Wo D k b ad g M o H) (i : Nat) (hi : i < g.2.1 1 0) (f : Nat) (hf : f < 6) (hlink : Cond.fieldLink ow index (TX3 f).1 (TX3 f).2.1 (TX3 f).2.2.1 ∈ AW) {v : Value} (hv : (fP g ad i)[f]? = some v) (hdg : decode cc pc = .ok (.getfield index, 3))
    (kk : W p l e R s m args below meth c H locs cells slots Q (F0 m (pc + 3) ls (v :: rest))) : W p l e R s m args below meth c H locs cells slots Q (F0 m pc ls (.ref (ad (2, i, 0)) :: rest)) :=
  r_get hx hb hts hown hC hH (2, i, 0) ⟨hi, rfl⟩ rfl rfl inX3 f hf hlink hv hdg kk
theorem g3N (hx : p.tables.exec = Jvm.exec) (hb : c.code = cc) (hts : ∀ x ∈ AW, x.before args s = true) (hown : s.vm.findClass ow = some m.cls) (hC : Cs D k b s) (hH : Wo D k b ad g M o H) (i : Nat) (hi : i < g.2.1 1 0) (f : Nat) (hf : f < 6) (hlink : Cond.fieldLinkNest ow index (TX3 f).1 (TX3 f).2.1 (TX3 f).2.2.1 host ∈ AW) {v : Value} (hv : (fP g ad i)[f]? = some v) (hdg : decode cc pc = .ok (.getfield index, 3))
    (kk : W p l e R s m args below meth c H locs cells slots Q (F0 m (pc + 3) ls (v :: rest))) : W p l e R s m args below meth c H locs cells slots Q (F0 m pc ls (.ref (ad (2, i, 0)) :: rest)) :=
  r_getN hx hb hts hown hC hH (2, i, 0) ⟨hi, rfl⟩ rfl rfl inX3 f hf hlink hv hdg kk
theorem g4 (hx : p.tables.exec = Jvm.exec) (hb : c.code = cc) (hts : ∀ x ∈ AW, x.before args s = true) (hown : s.vm.findClass ow = some m.cls) (hC : Cs D k b s) (hH : Wo D k b ad g M o H)  (f : Nat) (hf : f < 5) (hlink : Cond.fieldLink ow index (TX4 f).1 (TX4 f).2.1 (TX4 f).2.2.1 ∈ AW) {v : Value} (hv : (fX g ad)[f]? = some v) (hdg : decode cc pc = .ok (.getfield index, 3))
    (kk : W p l e R s m args below meth c H locs cells slots Q (F0 m (pc + 3) ls (v :: rest))) : W p l e R s m args below meth c H locs cells slots Q (F0 m pc ls (.ref (ad (0, 0, 0)) :: rest)) :=
  r_get hx hb hts hown hC hH (0, 0, 0) ⟨by decide, rfl⟩ rfl rfl inX4 f hf hlink hv hdg kk
theorem g5 (hx : p.tables.exec = Jvm.exec) (hb : c.code = cc) (hts : ∀ x ∈ AW, x.before args s = true) (hown : s.vm.findClass ow = some m.cls) (hC : Cs D k b s) (hH : Wo D k b ad g M o H)  (f : Nat) (hf : f < 27) (hlink : Cond.fieldLink ow index (TX5 f).1 (TX5 f).2.1 (TX5 f).2.2.1 ∈ AW) {v : Value} (hv : (fR M ad)[f]? = some v) (hdg : decode cc pc = .ok (.getfield index, 3))
    (kk : W p l e R s m args below meth c H locs cells slots Q (F0 m (pc + 3) ls (v :: rest))) : W p l e R s m args below meth c H locs cells slots Q (F0 m pc ls (.ref (ad (7, 0, 0)) :: rest)) :=
  r_get hx hb hts hown hC hH (7, 0, 0) ⟨rfl, rfl⟩ rfl rfl inX5 f hf hlink hv hdg kk
theorem p2 (hx : p.tables.exec = Jvm.exec) (hb : c.code = cc) (hts : ∀ x ∈ AW, x.before args s = true) (hown : s.vm.findClass ow = some m.cls) (hC : Cs D k b s) (hH : Wo D k b ad g M o H) (hS : va_S (Fb b) H0 H locs) (i : Nat) (hi : i < g.2.1 0 0) (f : Nat) (hf : f < 14) (hff : f = 8 ∨ f = 9 ∨ f = 10 ∨ f = 11 ∨ f = 12) (hfin : (TX2 f).2.2.2 = false) (hlink : Cond.fieldLink ow index (TX2 f).1 (TX2 f).2.1 (TX2 f).2.2.1 ∈ AW) {v : Int32} (hn : narrow (tyX2 f) (.int v) = .int v) (hfit : fits (tyX2 f) (.int v) = true) (hdg : decode cc pc = .ok (.putfield index, 3))
    (kk : ∀ (H1 : Heap) (locs1 : List Loc), Wo D k b ad (sx g f i v) M o H1 → va_S (Fb b) H0 H1 locs1 → W p l e R s m args below meth c H1 locs1 cells slots Q (F0 m (pc + 3) ls rest)) : W p l e R s m args below meth c H locs cells slots Q (F0 m pc ls (.int v :: .ref (ad (1, i, 0)) :: rest)) :=
  r_put hx hb hts hown hC hH hS (1, i, 0) ⟨hi, rfl⟩ rfl rfl inX2 tyX2 tyX2_ok nmX2 f hf hfin hlink hn hfit (by simp [fM]; omega) hdg (fun H1 locs1 h1 h2 => kk H1 locs1 (Wo_M hff h1) h2)
theorem p3 (hx : p.tables.exec = Jvm.exec) (hb : c.code = cc) (hts : ∀ x ∈ AW, x.before args s = true) (hown : s.vm.findClass ow = some m.cls) (hC : Cs D k b s) (hH : Wo D k b ad g M o H) (hS : va_S (Fb b) H0 H locs) (i : Nat) (hi : i < g.2.1 1 0) (f : Nat) (hf : f < 6) (hff : f = 0 ∨ f = 2 ∨ f = 3 ∨ f = 4 ∨ f = 5) (hfin : (TX3 f).2.2.2 = false) (hlink : Cond.fieldLink ow index (TX3 f).1 (TX3 f).2.1 (TX3 f).2.2.1 ∈ AW) {v : Int32} (hn : narrow (tyX3 f) (.int v) = .int v) (hfit : fits (tyX3 f) (.int v) = true) (hdg : decode cc pc = .ok (.putfield index, 3))
    (kk : ∀ (H1 : Heap) (locs1 : List Loc), Wo D k b ad (sx g (30 + f) i v) M o H1 → va_S (Fb b) H0 H1 locs1 → W p l e R s m args below meth c H1 locs1 cells slots Q (F0 m (pc + 3) ls rest)) : W p l e R s m args below meth c H locs cells slots Q (F0 m pc ls (.int v :: .ref (ad (2, i, 0)) :: rest)) :=
  r_put hx hb hts hown hC hH hS (2, i, 0) ⟨hi, rfl⟩ rfl rfl inX3 tyX3 tyX3_ok nmX3 f hf hfin hlink hn hfit (by simp [fP]; omega) hdg (fun H1 locs1 h1 h2 => kk H1 locs1 (Wo_P hff h1) h2)
theorem p2N (hx : p.tables.exec = Jvm.exec) (hb : c.code = cc) (hts : ∀ x ∈ AW, x.before args s = true) (hown : s.vm.findClass ow = some m.cls) (hC : Cs D k b s) (hH : Wo D k b ad g M o H) (hS : va_S (Fb b) H0 H locs) (i : Nat) (hi : i < g.2.1 0 0) (f : Nat) (hf : f < 14) (hff : f = 8 ∨ f = 9 ∨ f = 10 ∨ f = 11 ∨ f = 12) (hfin : (TX2 f).2.2.2 = false) (hlink : Cond.fieldLinkNest ow index (TX2 f).1 (TX2 f).2.1 (TX2 f).2.2.1 host ∈ AW) {v : Int32} (hn : narrow (tyX2 f) (.int v) = .int v) (hfit : fits (tyX2 f) (.int v) = true) (hdg : decode cc pc = .ok (.putfield index, 3))
    (kk : ∀ (H1 : Heap) (locs1 : List Loc), Wo D k b ad (sx g f i v) M o H1 → va_S (Fb b) H0 H1 locs1 → W p l e R s m args below meth c H1 locs1 cells slots Q (F0 m (pc + 3) ls rest)) : W p l e R s m args below meth c H locs cells slots Q (F0 m pc ls (.int v :: .ref (ad (1, i, 0)) :: rest)) :=
  r_putN hx hb hts hown hC hH hS (1, i, 0) ⟨hi, rfl⟩ rfl rfl inX2 tyX2 tyX2_ok nmX2 f hf hfin hlink hn hfit (by simp [fM]; omega) hdg (fun H1 locs1 h1 h2 => kk H1 locs1 (Wo_M hff h1) h2)
theorem p3N (hx : p.tables.exec = Jvm.exec) (hb : c.code = cc) (hts : ∀ x ∈ AW, x.before args s = true) (hown : s.vm.findClass ow = some m.cls) (hC : Cs D k b s) (hH : Wo D k b ad g M o H) (hS : va_S (Fb b) H0 H locs) (i : Nat) (hi : i < g.2.1 1 0) (f : Nat) (hf : f < 6) (hff : f = 0 ∨ f = 2 ∨ f = 3 ∨ f = 4 ∨ f = 5) (hfin : (TX3 f).2.2.2 = false) (hlink : Cond.fieldLinkNest ow index (TX3 f).1 (TX3 f).2.1 (TX3 f).2.2.1 host ∈ AW) {v : Int32} (hn : narrow (tyX3 f) (.int v) = .int v) (hfit : fits (tyX3 f) (.int v) = true) (hdg : decode cc pc = .ok (.putfield index, 3))
    (kk : ∀ (H1 : Heap) (locs1 : List Loc), Wo D k b ad (sx g (30 + f) i v) M o H1 → va_S (Fb b) H0 H1 locs1 → W p l e R s m args below meth c H1 locs1 cells slots Q (F0 m (pc + 3) ls rest)) : W p l e R s m args below meth c H locs cells slots Q (F0 m pc ls (.int v :: .ref (ad (2, i, 0)) :: rest)) :=
  r_putN hx hb hts hown hC hH hS (2, i, 0) ⟨hi, rfl⟩ rfl rfl inX3 tyX3 tyX3_ok nmX3 f hf hfin hlink hn hfit (by simp [fP]; omega) hdg (fun H1 locs1 h1 h2 => kk H1 locs1 (Wo_P hff h1) h2)
theorem p4 (hx : p.tables.exec = Jvm.exec) (hb : c.code = cc) (hts : ∀ x ∈ AW, x.before args s = true) (hown : s.vm.findClass ow = some m.cls) (hC : Cs D k b s) (hH : Wo D k b ad g M o H) (hS : va_S (Fb b) H0 H locs)  (f : Nat) (hf : f < 5) (hff : f = 3 ∨ f = 4) (hfin : (TX4 f).2.2.2 = false) (hlink : Cond.fieldLink ow index (TX4 f).1 (TX4 f).2.1 (TX4 f).2.2.1 ∈ AW) {v : Int32} (hn : narrow (tyX4 f) (.int v) = .int v) (hfit : fits (tyX4 f) (.int v) = true) (hdg : decode cc pc = .ok (.putfield index, 3))
    (kk : ∀ (H1 : Heap) (locs1 : List Loc), Wo D k b ad (sx g (37 + f) 0 v) M o H1 → va_S (Fb b) H0 H1 locs1 → W p l e R s m args below meth c H1 locs1 cells slots Q (F0 m (pc + 3) ls rest)) : W p l e R s m args below meth c H locs cells slots Q (F0 m pc ls (.int v :: .ref (ad (0, 0, 0)) :: rest)) :=
  r_put hx hb hts hown hC hH hS (0, 0, 0) ⟨by decide, rfl⟩ rfl rfl inX4 tyX4 tyX4_ok nmX4 f hf hfin hlink hn hfit (by simp [fX]; omega) hdg (fun H1 locs1 h1 h2 => kk H1 locs1 (Wo_X hff h1) h2)
theorem p5 (hx : p.tables.exec = Jvm.exec) (hb : c.code = cc) (hts : ∀ x ∈ AW, x.before args s = true) (hown : s.vm.findClass ow = some m.cls) (hC : Cs D k b s) (hH : Wo D k b ad g M o H) (hS : va_S (Fb b) H0 H locs)  (f : Nat) (hf : f < 27) (hff : f = 0 ∨ f = 1 ∨ f = 2 ∨ f = 19 ∨ f = 26) (hfin : (TX5 f).2.2.2 = false) (hlink : Cond.fieldLink ow index (TX5 f).1 (TX5 f).2.1 (TX5 f).2.2.1 ∈ AW) {v : Int32} (hn : narrow (tyX5 f) (.int v) = .int v) (hfit : fits (tyX5 f) (.int v) = true) (hdg : decode cc pc = .ok (.putfield index, 3))
    (kk : ∀ (H1 : Heap) (locs1 : List Loc), Wo D k b ad g (up M f 0 v) o H1 → va_S (Fb b) H0 H1 locs1 → W p l e R s m args below meth c H1 locs1 cells slots Q (F0 m (pc + 3) ls rest)) : W p l e R s m args below meth c H locs cells slots Q (F0 m pc ls (.int v :: .ref (ad (7, 0, 0)) :: rest)) :=
  r_put hx hb hts hown hC hH hS (7, 0, 0) ⟨rfl, rfl⟩ rfl rfl inX5 tyX5 tyX5_ok nmX5 f hf hfin hlink hn hfit (by simp [fR]; omega) hdg (fun H1 locs1 h1 h2 => kk H1 locs1 (Wo_R hff h1) h2)
theorem p3C (hx : p.tables.exec = Jvm.exec) (hb : c.code = cc) (hts : ∀ x ∈ AW, x.before args s = true) (hown : s.vm.findClass ow = some m.cls) (hC : Cs D k b s) (hH : Wo D k b ad g M o H) (hS : va_S (Fb b) H0 H locs) (i : Nat) (hi : i < g.2.1 1 0) (hlink : Cond.fieldLink ow index (TX3 1).1 (TX3 1).2.1 (TX3 1).2.2.1 ∈ AW) (r : Nat) (hdg : decode cc pc = .ok (.putfield index, 3))
    (kk : ∀ (H1 : Heap) (locs1 : List Loc), Wo D k b ad (sn g 3 i r) M o H1 → va_S (Fb b) H0 H1 locs1 → W p l e R s m args below meth c H1 locs1 cells slots Q (F0 m (pc + 3) ls rest)) : W p l e R s m args below meth c H locs cells slots Q (F0 m pc ls (va_rf (mrO ad r) :: .ref (ad (2, i, 0)) :: rest)) :=
  r_put hx hb hts hown hC hH hS (2, i, 0) ⟨hi, rfl⟩ rfl rfl inX3 tyX3 tyX3_ok nmX3 1 (by decide) rfl hlink (by unfold mrO; split <;> rfl) (by unfold mrO; split <;> rfl) (by simp [fP]) hdg (fun H1 locs1 h1 h2 => kk H1 locs1 (Wo_C h1) h2)
theorem p2E (hx : p.tables.exec = Jvm.exec) (hb : c.code = cc) (hts : ∀ x ∈ AW, x.before args s = true) (hown : s.vm.findClass ow = some m.cls) (hC : Cs D k b s) (hH : Wo D k b ad g M o H) (hS : va_S (Fb b) H0 H locs) (i : Nat) (hi : i < g.2.1 0 0) (hlink : Cond.fieldLinkNest ow index (TX2 7).1 (TX2 7).2.1 (TX2 7).2.2.1 host ∈ AW) (hdg : decode cc pc = .ok (.putfield index, 3))
    (kk : ∀ (H1 : Heap) (locs1 : List Loc), Wo D k b ad (sn g 2 i 0) M o H1 → va_S (Fb b) H0 H1 locs1 → W p l e R s m args below meth c H1 locs1 cells slots Q (F0 m (pc + 3) ls rest)) : W p l e R s m args below meth c H locs cells slots Q (F0 m pc ls (.null :: .ref (ad (1, i, 0)) :: rest)) :=
  r_putN hx hb hts hown hC hH hS (1, i, 0) ⟨hi, rfl⟩ rfl rfl inX2 tyX2 tyX2_ok nmX2 7 (by decide) rfl hlink rfl rfl (by simp [fM]) hdg (fun H1 locs1 h1 h2 => kk H1 locs1 (Wo_E h1) h2)
/-- the class's arrays -/
theorem mLen (hx : p.tables.exec = Jvm.exec) (hb : c.code = cc) (hC : Cs D k b s) (hH : Wo D k b ad g M o H) (hdg : decode cc pc = .ok (.arraylength, 1)) (kk : W p l e R s m args below meth c H locs cells slots Q (F0 m (pc + 1) ls (.int (nI 8) :: rest))) : W p l e R s m args below meth c H locs cells slots Q (F0 m pc ls (.ref (ad (0, 1, 0)) :: rest)) :=
  r_alen hx hb hC hH (0, 1, 0) ⟨by decide, rfl⟩ rfl 4 rfl rfl hdg kk
theorem pLen (hx : p.tables.exec = Jvm.exec) (hb : c.code = cc) (hC : Cs D k b s) (hH : Wo D k b ad g M o H) (hdg : decode cc pc = .ok (.arraylength, 1)) (kk : W p l e R s m args below meth c H locs cells slots Q (F0 m (pc + 1) ls (.int (nI 12) :: rest))) : W p l e R s m args below meth c H locs cells slots Q (F0 m pc ls (.ref (ad (0, 2, 0)) :: rest)) :=
  r_alen hx hb hC hH (0, 2, 0) ⟨by decide, rfl⟩ rfl 5 rfl rfl hdg kk
theorem mLd (hx : p.tables.exec = Jvm.exec) (hb : c.code = cc) (hC : Cs D k b s) (hH : Wo D k b ad g M o H) {i : Nat} (hi : i < 8) (hdg : decode cc pc = .ok (.aaload, 1)) (kk : W p l e R s m args below meth c H locs cells slots Q (F0 m (pc + 1) ls (va_rf (maO g ad i) :: rest))) : W p l e R s m args below meth c H locs cells slots Q (F0 m pc ls (.int (nI i) :: .ref (ad (0, 1, 0)) :: rest)) := by
  refine r_aldM hx hb hC hH (0, 1, 0) ⟨by decide, rfl⟩ rfl (vp_in_nI hi (by decide)) hdg ?_
  rw [nI_clamp (by omega)]
  exact kk
theorem pLd (hx : p.tables.exec = Jvm.exec) (hb : c.code = cc) (hC : Cs D k b s) (hH : Wo D k b ad g M o H) {i : Nat} (hi : i < 12) (hdg : decode cc pc = .ok (.aaload, 1)) (kk : W p l e R s m args below meth c H locs cells slots Q (F0 m (pc + 1) ls (va_rf (phO g ad i) :: rest))) : W p l e R s m args below meth c H locs cells slots Q (F0 m pc ls (.int (nI i) :: .ref (ad (0, 2, 0)) :: rest)) := by
  refine r_aldP hx hb hC hH (0, 2, 0) ⟨by decide, rfl⟩ rfl (vp_in_nI hi (by decide)) hdg ?_
  rw [nI_clamp (by omega)]
  exact kk
theorem yLd (hx : p.tables.exec = Jvm.exec) (hb : c.code = cc) (hC : Cs D k b s) (hH : Wo D k b ad g M o H) {i : Int32} (hi : vp_in i 6) (hdg : decode cc pc = .ok (.iaload, 1)) (kk : W p l e R s m args below meth c H locs cells slots Q (F0 m (pc + 1) ls (.int (g.1 42 i.toNatClampNeg) :: rest))) : W p l e R s m args below meth c H locs cells slots Q (F0 m pc ls (.int i :: .ref (ad (0, 3, 0)) :: rest)) :=
  r_iald hx hb hC hH (0, 3, 0) ⟨by decide, rfl⟩ rfl hi hdg kk
theorem ySt (hx : p.tables.exec = Jvm.exec) (hb : c.code = cc) (hC : Cs D k b s) (hH : Wo D k b ad g M o H) (hS : va_S (Fb b) H0 H locs) {i v : Int32} (hi : vp_in i 6) (hdg : decode cc pc = .ok (.iastore, 1)) (kk : ∀ (H1 : Heap) (locs1 : List Loc), Wo D k b ad (sx g 42 i.toNatClampNeg v) M o H1 → va_S (Fb b) H0 H1 locs1 → W p l e R s m args below meth c H1 locs1 cells slots Q (F0 m (pc + 1) ls rest)) : W p l e R s m args below meth c H locs cells slots Q (F0 m pc ls (.int v :: .int i :: .ref (ad (0, 3, 0)) :: rest)) :=
  r_iast hx hb hC hH hS (0, 3, 0) ⟨by decide, rfl⟩ rfl hi hdg (fun H1 locs1 h1 h2 => kk H1 locs1 (Wo_Y h1) h2)
/-- the reference's rows -/
theorem rLd (hx : p.tables.exec = Jvm.exec) (hb : c.code = cc) (hC : Cs D k b s) (hH : Wo D k b ad g M o H) (f : Nat) (hf : 2 < f ∧ f < 26 ∧ f ≠ 19) (hz : ¬ (f = 8 ∨ f = 10)) {i : Int32} (hi : vp_in i (rl f)) (hdg : decode cc pc = .ok (.iaload, 1)) (kk : W p l e R s m args below meth c H locs cells slots Q (F0 m (pc + 1) ls (.int (M f i.toNatClampNeg) :: rest))) : W p l e R s m args below meth c H locs cells slots Q (F0 m pc ls (.int i :: .ref (ad (8, f, 0)) :: rest)) :=
  r_iald hx hb hC hH (8, f, 0) ⟨hf, rfl⟩ (by simp only [eW]; rw [if_neg hz]) hi hdg kk
theorem rLz (hx : p.tables.exec = Jvm.exec) (hb : c.code = cc) (hC : Cs D k b s) (hH : Wo D k b ad g M o H) (f : Nat) (hf : 2 < f ∧ f < 26 ∧ f ≠ 19) (hz : f = 8 ∨ f = 10) {i : Int32} (hi : vp_in i (rl f)) (hdg : decode cc pc = .ok (.baload, 1)) (kk : W p l e R s m args below meth c H locs cells slots Q (F0 m (pc + 1) ls (.int (M f i.toNatClampNeg) :: rest))) : W p l e R s m args below meth c H locs cells slots Q (F0 m pc ls (.int i :: .ref (ad (8, f, 0)) :: rest)) :=
  r_zald hx hb hC hH (8, f, 0) ⟨hf, rfl⟩ (by simp only [eW]; rw [if_pos hz]) hi hdg kk
theorem rSt (hx : p.tables.exec = Jvm.exec) (hb : c.code = cc) (hC : Cs D k b s) (hH : Wo D k b ad g M o H) (hS : va_S (Fb b) H0 H locs) (f : Nat) (hf : 2 < f ∧ f < 26 ∧ f ≠ 19) (hz : ¬ (f = 8 ∨ f = 10)) {i v : Int32} (hi : vp_in i (rl f)) (hdg : decode cc pc = .ok (.iastore, 1)) (kk : ∀ (H1 : Heap) (locs1 : List Loc), Wo D k b ad g (up M f i.toNatClampNeg v) o H1 → va_S (Fb b) H0 H1 locs1 → W p l e R s m args below meth c H1 locs1 cells slots Q (F0 m (pc + 1) ls rest)) : W p l e R s m args below meth c H locs cells slots Q (F0 m pc ls (.int v :: .int i :: .ref (ad (8, f, 0)) :: rest)) :=
  r_iast hx hb hC hH hS (8, f, 0) ⟨hf, rfl⟩ (by simp only [eW]; rw [if_neg hz]) hi hdg (fun H1 locs1 h1 h2 => kk H1 locs1 (Wo_A hf (by rw [if_neg hz]) h1) h2)
theorem rSz (hx : p.tables.exec = Jvm.exec) (hb : c.code = cc) (hC : Cs D k b s) (hH : Wo D k b ad g M o H) (hS : va_S (Fb b) H0 H locs) (f : Nat) (hf : 2 < f ∧ f < 26 ∧ f ≠ 19) (hz : f = 8 ∨ f = 10) {i v : Int32} (hi : vp_in i (rl f)) (hn : narrow .boolean (.int v) = .int v) (hdg : decode cc pc = .ok (.bastore, 1)) (kk : ∀ (H1 : Heap) (locs1 : List Loc), Wo D k b ad g (up M f i.toNatClampNeg v) o H1 → va_S (Fb b) H0 H1 locs1 → W p l e R s m args below meth c H1 locs1 cells slots Q (F0 m (pc + 1) ls rest)) : W p l e R s m args below meth c H locs cells slots Q (F0 m pc ls (.int v :: .int i :: .ref (ad (8, f, 0)) :: rest)) :=
  r_zast hx hb hC hH hS (8, f, 0) ⟨hf, rfl⟩ (by simp only [eW]; rw [if_pos hz]) hi hn hdg (fun H1 locs1 h1 h2 => kk H1 locs1 (Wo_A hf (by rw [if_pos hz]) h1) h2)
end LW2
