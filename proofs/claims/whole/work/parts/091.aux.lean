/-! small facts: indexes that are natural numbers; masts and phones by an index -/
theorem inB_nI {a z : Int32} {n : Nat} (hz : z = nI n) (hn : n < 2 ^ 31) (h : inB a 0 z = true) : ∃ j : Nat, j ≤ n ∧ a = nI j := by
  subst hz
  simp only [inB, Bool.and_eq_true, decide_eq_true_eq] at h
  exact nI_of2 (nI_toInt hn) (Int32.not_lt.mpr h.1) h.2
theorem inB_of {j n : Nat} {z : Int32} (hz : z = nI n) (hn : n < 2 ^ 31) (h : j ≤ n) : inB (nI j) 0 z = true := by
  subst hz
  simp only [inB, Bool.and_eq_true, decide_eq_true_eq]
  exact ⟨nI_pos' (by omega), nI_le h hn⟩
theorem mI_1 {g : XS} {j : Nat} (h : j < g.2.1 0 0) (h8 : j < 8) : mI g (nI j) = j + 1 := by
  unfold mI
  rw [nI_clamp (by omega), if_pos ⟨inB_of (n := 7) rfl (by decide) (by omega), h⟩]
theorem mI_0 {g : XS} {a : Int32} (h : inB a 0 7 = false) : mI g a = 0 := by
  unfold mI
  rw [if_neg (fun q => by rw [h] at q; exact absurd q.1 (by decide))]
theorem mI_2 {g : XS} {j : Nat} (h : ¬ j < g.2.1 0 0) (h8 : j < 8) : mI g (nI j) = 0 := by
  unfold mI
  rw [nI_clamp (by omega), if_neg (fun q => h q.2)]
theorem mI_n {g : XS} {a : Int32} (h : ¬ mI g a = 0) : mI g a - 1 < g.2.1 0 0 ∧ mI g a - 1 < 8 ∧ a = nI (mI g a - 1) := by
  unfold mI at h ⊢
  split at h
  · next q =>
    rw [if_pos q]
    obtain ⟨j, hj, rfl⟩ := inB_nI (n := 7) rfl (by decide) q.1
    have h2 := q.2
    rw [nI_clamp (by omega)] at h2 ⊢
    exact ⟨by omega, by omega, by simp⟩
  · exact absurd rfl h
theorem pI_1 {g : XS} {j : Nat} (h : j < g.2.1 1 0) (h8 : j < 12) : pI g (nI j) = j + 1 := by
  unfold pI
  rw [nI_clamp (by omega), if_pos ⟨inB_of (n := 11) rfl (by decide) (by omega), h⟩]
theorem pI_0 {g : XS} {a : Int32} (h : inB a 0 11 = false) : pI g a = 0 := by
  unfold pI
  rw [if_neg (fun q => by rw [h] at q; exact absurd q.1 (by decide))]
theorem pI_2 {g : XS} {j : Nat} (h : ¬ j < g.2.1 1 0) (h8 : j < 12) : pI g (nI j) = 0 := by
  unfold pI
  rw [nI_clamp (by omega), if_neg (fun q => h q.2)]
theorem pI_n {g : XS} {a : Int32} (h : ¬ pI g a = 0) : pI g a - 1 < g.2.1 1 0 ∧ pI g a - 1 < 12 ∧ a = nI (pI g a - 1) := by
  unfold pI at h ⊢
  split at h
  · next q =>
    rw [if_pos q]
    obtain ⟨j, hj, rfl⟩ := inB_nI (n := 11) rfl (by decide) q.1
    have h2 := q.2
    rw [nI_clamp (by omega)] at h2 ⊢
    exact ⟨by omega, by omega, by simp⟩
  · exact absurd rfl h
theorem nf_le (g : XS) (p : Int32) : ∀ j, nf g p j ≤ j ∧ (¬ nf g p j = 0 → nf g p j ≤ g.2.1 0 0)
  | 0 => by simp [nf]
  | j + 1 => by
    obtain ⟨h1, h2⟩ := nf_le g p j
    unfold nf
    split
    · next q => exact ⟨Nat.le_refl _, fun _ => q.1⟩
    · exact ⟨by omega, h2⟩
section LY3
variable {p : Program} {l : Launch} {e : Env} {R : Room} {s : State} {m : MethodId} {args : Array Value} {below : List Frame} {meth : Method} {c : Code} {H : Heap} {locs : List Loc} {cells slots : Nat} {Q : State → Prop}
variable {cc : ByteArray} {pc : Nat} {ls : Array Slot} {rest : List Value} {D : va_G} {b : Nat} {ad : Tg → Nat} {H0 : Heap} {k : Nat → ClassId} {g : XS} {M : MF} {o : OF}
theorem vp_inN {i N : Nat} (h : i < N) (hN : N ≤ 12) : vp_in (nI i) N := vp_in_nI h (by omega)
theorem rl_le (f : Nat) : rl f ≤ 12 := by unfold rl; split <;> (try split) <;> omega
theorem rLdN (hx : p.tables.exec = Jvm.exec) (hb : c.code = cc) (hC : Cs D k b s) (hH : Wo D k b ad g M o H) (f : Nat) (hf : 2 < f ∧ f < 26 ∧ f ≠ 19) (hz : ¬ (f = 8 ∨ f = 10)) {i : Nat} (hi : i < rl f) (hdg : decode cc pc = .ok (.iaload, 1)) (kk : W p l e R s m args below meth c H locs cells slots Q (F0 m (pc + 1) ls (.int (M f i) :: rest))) : W p l e R s m args below meth c H locs cells slots Q (F0 m pc ls (.int (nI i) :: .ref (ad (8, f, 0)) :: rest)) := by
  refine rLd hx hb hC hH f hf hz (vp_inN hi (rl_le f)) hdg ?_
  rw [nI_clamp (by have := rl_le f; omega)]
  exact kk
theorem rLzN (hx : p.tables.exec = Jvm.exec) (hb : c.code = cc) (hC : Cs D k b s) (hH : Wo D k b ad g M o H) (f : Nat) (hf : 2 < f ∧ f < 26 ∧ f ≠ 19) (hz : f = 8 ∨ f = 10) {i : Nat} (hi : i < rl f) (hdg : decode cc pc = .ok (.baload, 1)) (kk : W p l e R s m args below meth c H locs cells slots Q (F0 m (pc + 1) ls (.int (M f i) :: rest))) : W p l e R s m args below meth c H locs cells slots Q (F0 m pc ls (.int (nI i) :: .ref (ad (8, f, 0)) :: rest)) := by
  refine rLz hx hb hC hH f hf hz (vp_inN hi (rl_le f)) hdg ?_
  rw [nI_clamp (by have := rl_le f; omega)]
  exact kk
theorem rStN (hx : p.tables.exec = Jvm.exec) (hb : c.code = cc) (hC : Cs D k b s) (hH : Wo D k b ad g M o H) (hS : va_S (Fb b) H0 H locs) (f : Nat) (hf : 2 < f ∧ f < 26 ∧ f ≠ 19) (hz : ¬ (f = 8 ∨ f = 10)) {i : Nat} {v : Int32} (hi : i < rl f) (hdg : decode cc pc = .ok (.iastore, 1)) (kk : ∀ (H1 : Heap) (locs1 : List Loc), Wo D k b ad g (up M f i v) o H1 → va_S (Fb b) H0 H1 locs1 → W p l e R s m args below meth c H1 locs1 cells slots Q (F0 m (pc + 1) ls rest)) : W p l e R s m args below meth c H locs cells slots Q (F0 m pc ls (.int v :: .int (nI i) :: .ref (ad (8, f, 0)) :: rest)) := by
  refine rSt hx hb hC hH hS f hf hz (vp_inN hi (rl_le f)) hdg (fun H1 locs1 h1 h2 => ?_)
  rw [nI_clamp (by have := rl_le f; omega)] at h1
  exact kk H1 locs1 h1 h2
theorem rSzN (hx : p.tables.exec = Jvm.exec) (hb : c.code = cc) (hC : Cs D k b s) (hH : Wo D k b ad g M o H) (hS : va_S (Fb b) H0 H locs) (f : Nat) (hf : 2 < f ∧ f < 26 ∧ f ≠ 19) (hz : f = 8 ∨ f = 10) {i : Nat} {v : Int32} (hi : i < rl f) (hn : narrow .boolean (.int v) = .int v) (hdg : decode cc pc = .ok (.bastore, 1)) (kk : ∀ (H1 : Heap) (locs1 : List Loc), Wo D k b ad g (up M f i v) o H1 → va_S (Fb b) H0 H1 locs1 → W p l e R s m args below meth c H1 locs1 cells slots Q (F0 m (pc + 1) ls rest)) : W p l e R s m args below meth c H locs cells slots Q (F0 m pc ls (.int v :: .int (nI i) :: .ref (ad (8, f, 0)) :: rest)) := by
  refine rSz hx hb hC hH hS f hf hz (vp_inN hi (rl_le f)) hn hdg (fun H1 locs1 h1 h2 => ?_)
  rw [nI_clamp (by have := rl_le f; omega)] at h1
  exact kk H1 locs1 h1 h2
/-- loops: one that only reads; one that writes -/
theorem loop_r (N : Nat) (I : Nat → Array Slot → Prop) (hstep : ∀ i, i < N → ∀ ls : Array Slot, I i ls → (∀ ls' : Array Slot, I (i + 1) ls' → W p l e R s m args below meth c H locs cells slots Q (F0 m pc ls' [])) → W p l e R s m args below meth c H locs cells slots Q (F0 m pc ls [])) (hend : ∀ ls : Array Slot, I N ls → W p l e R s m args below meth c H locs cells slots Q (F0 m pc ls [])) (h0 : I 0 ls) : W p l e R s m args below meth c H locs cells slots Q (F0 m pc ls []) := by
  suffices K : ∀ (z i : Nat), i + z = N → ∀ ls : Array Slot, I i ls → W p l e R s m args below meth c H locs cells slots Q (F0 m pc ls []) from K N 0 (Nat.zero_add N) ls h0
  intro z
  induction z with
  | zero => intro i hi ls h; rw [Nat.add_zero] at hi; subst hi; exact hend ls h
  | succ z ih => intro i hi ls h; exact hstep i (by omega) ls h (fun ls' h' => ih (i + 1) (by omega) ls' h')
theorem loop_w (N : Nat) (I : Nat → Heap → List Loc → Nat → Nat → Array Slot → Prop) (hstep : ∀ i, i < N → ∀ (H : Heap) (locs : List Loc) (cells slots : Nat) (ls : Array Slot), I i H locs cells slots ls → (∀ (H' : Heap) (locs' : List Loc) (cells' slots' : Nat) (ls' : Array Slot), I (i + 1) H' locs' cells' slots' ls' → W p l e R s m args below meth c H' locs' cells' slots' Q (F0 m pc ls' [])) → W p l e R s m args below meth c H locs cells slots Q (F0 m pc ls [])) (hend : ∀ (H : Heap) (locs : List Loc) (cells slots : Nat) (ls : Array Slot), I N H locs cells slots ls → W p l e R s m args below meth c H locs cells slots Q (F0 m pc ls [])) (h0 : I 0 H locs cells slots ls) : W p l e R s m args below meth c H locs cells slots Q (F0 m pc ls []) := by
  suffices K : ∀ (z i : Nat), i + z = N → ∀ (H : Heap) (locs : List Loc) (cells slots : Nat) (ls : Array Slot), I i H locs cells slots ls → W p l e R s m args below meth c H locs cells slots Q (F0 m pc ls []) from K N 0 (Nat.zero_add N) H locs cells slots ls h0
  intro z
  induction z with
  | zero => intro i hi H locs cells slots ls h; rw [Nat.add_zero] at hi; subst hi; exact hend H locs cells slots ls h
  | succ z ih => intro i hi H locs cells slots ls h; exact hstep i (by omega) H locs cells slots ls h (fun H' locs' cells' slots' ls' h' => ih (i + 1) (by omega) H' locs' cells' slots' ls' h')
end LY3
theorem mrO_s {ad : Tg → Nat} {i : Nat} : mrO ad (i + 1) = some (ad (1, i, 0)) := rfl
theorem prO_s {ad : Tg → Nat} {i : Nat} : prO ad (i + 1) = some (ad (2, i, 0)) := rfl
/-! logs: blocks of 64 entries, the newest first -/
def nbk (e : Nat) : Nat := (e + 63) / 64
theorem lgO_bf {ad : Tg → Nat} {i z : Nat} : lgO ad i z = bfO ad i (nbk z) := by
  unfold lgO bfO nbk
  by_cases h : z = 0
  · subst h; rfl
  · rw [if_neg h, if_neg (by omega), show (z + 63) / 64 - 1 = (z - 1) / 64 by omega]
theorem bfO_s {ad : Tg → Nat} {i z : Nat} : bfO ad i (z + 1) = some (ad (4, i, z)) := rfl
theorem bfO_z {ad : Tg → Nat} {i : Nat} : bfO ad i 0 = none := rfl
def bsI (g : XS) (i j : Nat) : Int32 := sumI (fun q => lcut (g.2.2 1 i) j q - lcut (g.2.2 0 i) j q) (min 64 (g.2.1 4 i - 64 * j))
/-- the blocks' hours, added from the newest on -/
def hbA (g : XS) (i n : Nat) : Nat → Int32
  | 0 => 0
  | t + 1 => hbA g i n t + bsI g i (n - (t + 1))
section LY4
variable {p : Program} {l : Launch} {e : Env} {R : Room} {s : State} {m : MethodId} {args : Array Value} {below : List Frame} {meth : Method} {c : Code} {H : Heap} {locs : List Loc} {cells slots : Nat} {Q : State → Prop}
variable {cc : ByteArray} {pc : Nat} {ls : Array Slot} {rest : List Value} {D : va_G} {b : Nat} {ad : Tg → Nat} {H0 : Heap} {k : Nat → ClassId} {g : XS} {M : MF} {o : OF}
theorem l5Ld (hx : p.tables.exec = Jvm.exec) (hb : c.code = cc) (hC : Cs D k b s) (hH : Wo D k b ad g M o H) (i j : Nat) (hi : i < g.2.1 0 0) (hj : 64 * j < g.2.1 4 i) {q : Nat} (hq : q < 64) (hdg : decode cc pc = .ok (.iaload, 1)) (kk : W p l e R s m args below meth c H locs cells slots Q (F0 m (pc + 1) ls (.int (lcut (g.2.2 0 i) j q) :: rest))) : W p l e R s m args below meth c H locs cells slots Q (F0 m pc ls (.int (nI q) :: .ref (ad (5, i, j)) :: rest)) := by
  refine r_iald hx hb hC hH (5, i, j) ⟨hi, hj⟩ rfl (vp_in_nI hq (by decide)) hdg ?_
  rw [nI_clamp (by omega)]
  exact kk
theorem l6Ld (hx : p.tables.exec = Jvm.exec) (hb : c.code = cc) (hC : Cs D k b s) (hH : Wo D k b ad g M o H) (i j : Nat) (hi : i < g.2.1 0 0) (hj : 64 * j < g.2.1 4 i) {q : Nat} (hq : q < 64) (hdg : decode cc pc = .ok (.iaload, 1)) (kk : W p l e R s m args below meth c H locs cells slots Q (F0 m (pc + 1) ls (.int (lcut (g.2.2 1 i) j q) :: rest))) : W p l e R s m args below meth c H locs cells slots Q (F0 m pc ls (.int (nI q) :: .ref (ad (6, i, j)) :: rest)) := by
  refine r_iald hx hb hC hH (6, i, j) ⟨hi, hj⟩ rfl (vp_in_nI hq (by decide)) hdg ?_
  rw [nI_clamp (by omega)]
  exact kk
end LY4
