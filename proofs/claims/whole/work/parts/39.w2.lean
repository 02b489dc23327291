/-! the law: what its loop keeps; small rows of its branches -/
theorem fp_c : ∀ r, r < 41 → ∀ d, d < 41 → 1 ≤ r → d ≤ r → FP.dcmp (FP.f2d (FP.fsub FP.fconst1 (FP.fdiv (FP.i2f (nI d)) (FP.i2f (nI r))))) (FP.f2d (FP.fsub FP.fconst1 (FP.fdiv (FP.i2f (nI d)) (FP.i2f (nI r))))) = some .eq := by decide +kernel
theorem fp_c0 : FP.dcmp (FP.f2d FP.fconst0) (FP.f2d FP.fconst0) = some .eq := by decide +kernel
theorem st_rd {g : XS} {q : Nat} (h : Ok g) (hq : q < g.2.1 1 0) (hn : ¬ g.2.1 3 q = 0) : ∃ d r, 1 ≤ r ∧ r ≤ 40 ∧ d ≤ r ∧ dsI g (g.2.1 3 q - 1) (g.1 30 q) = nI d ∧ g.1 2 (g.2.1 3 q - 1) = nI r := by
  obtain ⟨hX, hT, hM, hP, hL, hG⟩ := h
  have hr := hX.2.2.1 q hq
  obtain ⟨m0, ⟨y, hy, ey⟩, ⟨r, r1, r2, er⟩, _⟩ := hM (g.2.1 3 q - 1) (by omega)
  obtain ⟨z, hz, ez⟩ := hP q hq
  obtain ⟨d, hd, ed⟩ := ds_nI ey hy hz
  have hc := (hG q hq).2 hn
  unfold cvB at hc
  rw [ez, ed, er] at hc
  have hdr : d ≤ r := by
    have := of_decide_eq_true hc
    rwa [nI_leI (by omega) (by omega)] at this
  exact ⟨d, r, r1, r2, hdr, by rw [ez]; exact ed, er⟩
theorem V_cmp {g : XS} {M : MF} (h : SI g M) (a0 : Int32) (c : stC g a0 = 0) : FP.dcmp (FP.f2d (stV g (pI g a0 - 1))) (FP.f2d (stV g (pI g a0 - 1))) = some .eq := by
  have c1 : ¬ pI g a0 = 0 := fun x => by rw [stC, if_pos x] at c; exact absurd c (by decide)
  have hq := (pI_n c1).1
  unfold stV
  by_cases c3 : g.2.1 3 (pI g a0 - 1) = 0
  · rw [if_pos (Or.inl c3)]; exact fp_c0
  · have := st_ok h.1 hq c3
    obtain ⟨d, r, r1, r2, hdr, ed, er⟩ := st_rd h.1 hq c3
    rw [if_neg (fun x => x.elim c3 this.1), ed, er]
    exact fp_c r (by omega) d (by omega) r1 hdr
/-- what the loop keeps: j: the calls that the room counts; v: the law's own index -/
def LV (D : va_G) (k : Nat → ClassId) (s : State) (sb j : Nat) (v : Int32) (H : Heap) (locs : List Loc) (cells slots : Nat) (ls : Array Slot) : Prop :=
  ∃ (ad : Tg → Nat) (g : XS) (M : MF) (o : OF), Wo D k s.heap.size ad g M o H ∧ va_S (Fb s.heap.size) s.heap H locs ∧ SI g M ∧ cells ≤ 30 + j + 3 * tb g ∧ slots ≤ 300 + 14 * j + 132 * tb g ∧ lv_has ls 8 [(0, .ref sb), (1, .ref (ad (0, 0, 0))), (2, .ref (ad (7, 0, 0))), (3, .ref (ad (9, 0, 0))), (4, .ref (ad (9, 1, 0))), (5, .int v)]
/-- an int of the script, at i and j -/
def la (xs : Nat → Int32) (i j : Nat) : Int32 := xs (nI (8 * i) + nI j).toNatClampNeg
theorem la_ld {p : Program} {l : Launch} {e : Env} {R : Room} {s : State} {m : MethodId} {args : Array Value} {below : List Frame} {meth : Method} {c : Code} {H : Heap} {locs : List Loc} {cells slots : Nat} {Q : State → Prop} {cc : ByteArray} {pc : Nat} {ls : Array Slot} {rest : List Value} {sb L i : Nat} {xs : Nat → Int32} (hx : p.tables.exec = Jvm.exec) (hb : c.code = cc) (hX : va_X sb L xs s s.heap) (hbl : sb < s.heap.size) (hS : va_S (Fb s.heap.size) s.heap H locs) (hL : L ≤ 4096) (hi : 8 * i + 8 ≤ L) (j : Nat) (hj : j < 8) (hdg : decode cc pc = .ok (.iaload, 1)) (kk : W p l e R s m args below meth c H locs cells slots Q (F0 m (pc + 1) ls (.int (la xs i j) :: rest))) : W p l e R s m args below meth c H locs cells slots Q (F0 m pc ls (.int (nI (8 * i) + nI j) :: .ref sb :: rest)) :=
  va_sld hx hb hX hbl (Nat.not_le.mpr hbl) hS (by rw [nI_add]; exact vp_in_nI (by omega) (by omega)) hdg kk
theorem th_eq {M G : MF} {C : Nat} (h : G 26 0 = 0) : (rO M C G) 26 0 = nI C := by
  by_cases c : C = 0
  · rw [rO_0 c, h, c]; rfl
  · rw [rO_n c, up_s]
theorem c_0 {C : Nat} (h : C ≤ 3) (h0 : nI C = 0) : C = 0 := (nI_eq (b := 0) (by omega) (by omega)).mp h0
theorem tb_gO {C : Nat} {g G : XS} (h : C = 0 → tb g ≤ tb G) : tb g ≤ tb (gO C G g) := by
  unfold gO
  by_cases c : C = 0
  · rw [if_pos c]; exact h c
  · rw [if_neg c]; exact Nat.le_refl _
theorem tb_gB {C : Nat} {g G : XS} (c : C = 0) : tb G ≤ tb g + (tb (gO C G g) - tb g) := by
  unfold gO
  rw [if_pos c]
  omega
theorem cmp_0 (x : Int64) : lg_cmp x x = 0 := by simp [lg_cmp]
theorem dcm_0 {x : UInt64} (h : FP.dcmp x x = some .eq) : Op.cmpValue (FP.dcmp x x) .l = 0 := by rw [h]; rfl
theorem rT_26 {M : MF} : rT M 26 0 = 0 := up_s
theorem le_sun (a0 : Int32) : sunC a0 ≤ 3 := by unfold sunC; split <;> decide
theorem le_paid (a0 : Int32) : pdC a0 ≤ 3 := by unfold pdC; split <;> decide
theorem le_mast (g : XS) (a0 a1 a2 a3 a4 : Int32) : mastC g a0 a1 a2 a3 a4 ≤ 3 := by unfold mastC; split <;> (try split) <;> decide
theorem le_phone (g : XS) (a0 : Int32) : phC g a0 ≤ 3 := by unfold phC; split <;> (try split) <;> decide
theorem le_call (g : XS) (a0 : Int32) : clC g a0 ≤ 3 := by unfold clC; split <;> (try split) <;> decide
theorem le_end (g : XS) (a0 : Int32) : enC g a0 ≤ 3 := by unfold enC; split <;> (try split) <;> decide
theorem le_move (g : XS) (a0 a1 : Int32) : mvC g a0 a1 ≤ 3 := by unfold mvC; split <;> (try split) <;> decide
theorem le_pass (g : XS) (a0 : Int32) : paC g a0 ≤ 3 := by unfold paC; split <;> (try split) <;> decide
theorem le_ofMast (g : XS) (a0 a1 : Int32) : omC g a0 a1 ≤ 3 := by unfold omC; split <;> (try split) <;> decide
theorem le_ofPhone (g : XS) (a0 a1 : Int32) : opC g a0 a1 ≤ 3 := by unfold opC; split <;> (try split) <;> decide
theorem le_trafficAnew (g : XS) (a0 : Int32) : taC g a0 ≤ 3 := by unfold taC; split <;> decide
theorem le_strength (g : XS) (a0 : Int32) : stC g a0 ≤ 3 := by unfold stC; split <;> decide
theorem tm_mast {g : XS} {C : Nat} {a : Nat → Int32} : tb g ≤ tb (gO C (nwM g a) g) := tb_gO fun _ => Nat.le_of_eq (tb_of (fun j => nwM_n (by decide))).symm
theorem tm_phone {g : XS} {C : Nat} {a : Int32} : tb g ≤ tb (gO C (nwP g a) g) := tb_gO fun _ => Nat.le_of_eq (tb_of (fun j => nwP_n (by decide) (by decide))).symm
theorem tm_lease {g : XS} {C i : Nat} {a : Nat → Int32} : tb g ≤ tb (gO C (nwL g i a) g) := tb_gO fun _ => Nat.le_of_eq (tb_of (fun j => nwL_n (by decide))).symm
theorem tm_sun {g : XS} {C i : Nat} {a : Int32} : tb g ≤ tb (gO C (sx g 41 i a) g) := tb_gO fun _ => Nat.le_of_eq (tb_of (fun j => rfl)).symm
theorem tm_id {g : XS} {C : Nat} : tb g ≤ tb (gO C g g) := tb_gO fun _ => Nat.le_refl _
theorem tm_call {g : XS} {C q : Nat} : tb g ≤ tb (gO C (clG g q) g) := tb_gO fun _ => Nat.le_of_eq (tb_of (fun j => by
  unfold clG
  split
  · rfl
  · exact comG_n (by decide))).symm
theorem tm_end {g : XS} {M : MF} (h : SI g M) {a0 : Int32} : tb g ≤ tb (gO (enC g a0) (goG g (pI g a0 - 1) (g.1 40 0)) g) := tb_gO fun c => by
  unfold enC at c
  have c1 : ¬ pI g a0 = 0 := fun x => by rw [if_pos x] at c; exact absurd c (by decide)
  rw [if_neg c1] at c
  have c2 : ¬ g.2.1 3 (pI g a0 - 1) = 0 := fun x => by rw [if_pos x] at c; exact absurd c (by decide)
  exact tb_gole h.1.1 (pI_n c1).1 c2
theorem tm_move {g : XS} {M : MF} (h : SI g M) {a0 a1 : Int32} : tb g ≤ tb (gO (mvC g a0 a1) (moveG g (pI g a0 - 1) a1) g) := tb_gO fun c => by
  unfold mvC at c
  have c1 : ¬ pI g a0 = 0 := fun x => by rw [if_pos x] at c; exact absurd c (by decide)
  unfold moveG
  split
  · next q =>
    have h1 : XI (sx g 30 (pI g a0 - 1) a1) := h.1.1.of rfl rfl
    have e : tb (sx g 30 (pI g a0 - 1) a1) = tb g := tb_of (fun _ => rfl)
    rw [← e]
    exact tb_hndle h1 (pI_n c1).1 q.1
  · exact Nat.le_of_eq (tb_of (fun _ => rfl)).symm
theorem tm_pass {g : XS} {M : MF} (h : SI g M) {a0 : Int32} : tb g ≤ tb (gO (paC g a0) (hrsG g a0.toNatClampNeg) g) := tb_gO fun _ => by
  have := tb_hrs h.1.1 0 a0.toNatClampNeg
  rw [Nat.zero_add, show hrsG g 0 = g from rfl] at this
  exact this
theorem th_mast {M : MF} {a0 a1 a2 a3 a4 a5 : Int32} : rmG (rT M) a0 a1 a2 a3 a4 a5 26 0 = 0 := by simp [rmG, up]
theorem th_phone {M : MF} {a0 : Int32} : rphG (rT M) a0 26 0 = 0 := by simp [rphG, up]
theorem th_lease {M : MF} {i : Nat} {a1 a2 a3 a4 a5 a6 : Int32} : rlG (rT M) i a1 a2 a3 a4 a5 a6 26 0 = 0 := by simp [rlG, up]
theorem th_call {M : MF} {q : Nat} : rclG (rT M) q 26 0 = 0 := by unfold rclG; rw [up_f (by decide), up_f (by decide), rT_26]
theorem th_move {M : MF} {q : Nat} {a1 : Int32} : rmvG (rT M) q a1 26 0 = 0 := by
  unfold rmvG
  split
  · rw [rhG_n (by decide) (by decide) (by decide), up_f (by decide), rT_26]
  · rw [up_f (by decide), rT_26]
theorem th_pass {M : MF} {n : Nat} : rhrsG (rT M) n 26 0 = 0 := by rw [rhrsG_o (by decide) (by decide) (by decide) (by decide) (by decide) (by decide) (by decide) (by decide) (by decide) (by decide), rT_26]
theorem th_end {M : MF} {q : Nat} {v : Int32} : up (rT M) 21 q v 26 0 = 0 := by rw [up_f (by decide), rT_26]
theorem th_sun {M : MF} {v : Int32} : up (rT M) 1 0 v 26 0 = 0 := by rw [up_f (by decide), rT_26]
