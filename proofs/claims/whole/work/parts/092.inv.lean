/-! what stays: counts, invariants, blocks -/
theorem inB_vp {a : Int32} (h : inB a 0 5 = true) : vp_in a 6 := by
  obtain ⟨j, hj, rfl⟩ := inB_nI (n := 5) rfl (by decide) h
  exact vp_in_nI (by omega) (by decide)
theorem payG_n {g : XS} {f v : Int32} : (payG g f v).2.1 = g.2.1 := by unfold payG; split <;> rfl
theorem payG_l {g : XS} {f v : Int32} : (payG g f v).2.2 = g.2.2 := by unfold payG; split <;> rfl
theorem payG_x {g : XS} {f v : Int32} {a j : Nat} (h : a ≠ 42) : (payG g f v).1 a j = g.1 a j := by
  unfold payG
  split
  · exact up_f h
  · rfl
theorem prnG_n {g : XS} {i : Nat} {v : Int32} : (prnG g i v).2.1 = g.2.1 := by unfold prnG; rw [payG_n, payG_n]
theorem prnG_l {g : XS} {i : Nat} {v : Int32} : (prnG g i v).2.2 = g.2.2 := by unfold prnG; rw [payG_l, payG_l]
theorem prnG_x {g : XS} {i : Nat} {v : Int32} {a j : Nat} (h : a ≠ 42) : (prnG g i v).1 a j = g.1 a j := by unfold prnG; rw [payG_x h, payG_x h]
theorem tkpG_n {g : XS} {i : Nat} {v : Int32} : (tkpG g i v).2.1 = g.2.1 := by unfold tkpG; split <;> (try split) <;> (try split) <;> rfl
theorem tkpG_l {g : XS} {i : Nat} {v : Int32} : (tkpG g i v).2.2 = g.2.2 := by unfold tkpG; split <;> (try split) <;> (try split) <;> rfl
theorem ctrG_n {g : XS} : ∀ i, (ctrG g i).2.1 = g.2.1
  | 0 => rfl
  | i + 1 => by unfold ctrG; split <;> exact ctrG_n i
theorem ctrG_l {g : XS} : ∀ i, (ctrG g i).2.2 = g.2.2
  | 0 => rfl
  | i + 1 => by unfold ctrG; split <;> exact ctrG_l i
theorem prsG_n {g : XS} : ∀ i, (prsG g i).2.1 = g.2.1
  | 0 => rfl
  | i + 1 => by unfold prsG; split; · rw [prnG_n]; exact prsG_n i
                · exact prsG_n i
theorem prsG_l {g : XS} : ∀ i, (prsG g i).2.2 = g.2.2
  | 0 => rfl
  | i + 1 => by unfold prsG; split; · rw [prnG_l]; exact prsG_l i
                · exact prsG_l i
theorem pwsG_n {g : XS} : ∀ i, (pwsG g i).2.1 = g.2.1
  | 0 => rfl
  | i + 1 => by unfold pwsG; split; · rw [tkpG_n]; exact pwsG_n i
                · exact pwsG_n i
theorem pwsG_l {g : XS} : ∀ i, (pwsG g i).2.2 = g.2.2
  | 0 => rfl
  | i + 1 => by unfold pwsG; split; · rw [tkpG_l]; exact pwsG_l i
                · exact pwsG_l i
theorem elsG_n {g : XS} {f j : Nat} (h : f ≠ 2) : ∀ i, (elsG g i).2.1 f j = g.2.1 f j
  | 0 => rfl
  | i + 1 => by
    unfold elsG
    split
    · rw [show (sn (elsG g i) 2 i 0).2.1 f j = (elsG g i).2.1 f j from up_f h]
      exact elsG_n h i
    · exact elsG_n h i
theorem elsG_l {g : XS} : ∀ i, (elsG g i).2.2 = g.2.2
  | 0 => rfl
  | i + 1 => by unfold elsG; split <;> exact elsG_l i
theorem elsG_x {g : XS} : ∀ i, (elsG g i).1 = g.1
  | 0 => rfl
  | i + 1 => by unfold elsG; split <;> exact elsG_x i
theorem logG_n {g : XS} {i f j : Nat} {a z : Int32} (h : f ≠ 4) : (logG g i a z).2.1 f j = g.2.1 f j := by
  unfold logG
  split
  · rfl
  · exact up_f h
theorem logG_x {g : XS} {i : Nat} {a z : Int32} : (logG g i a z).1 = g.1 := by unfold logG; split <;> rfl
theorem goG_n {g : XS} {q f j : Nat} {h : Int32} (h3 : f ≠ 3) (h4 : f ≠ 4) : (goG g q h).2.1 f j = g.2.1 f j := by
  unfold goG
  rw [show ∀ (y : XS), (sn y 3 q 0).2.1 f j = y.2.1 f j from fun y => up_f h3, logG_n h4]
theorem goG_x {g : XS} {q a j : Nat} {h : Int32} (h9 : a ≠ 9) : (goG g q h).1 a j = g.1 a j := by
  unfold goG
  show (logG _ _ _ _).1 a j = _
  rw [logG_x]
  exact up_f h9
theorem comG_n {g : XS} {q i f j : Nat} {h : Int32} (h3 : f ≠ 3) : (comG g q i h).2.1 f j = g.2.1 f j := up_f h3
theorem hndA_n {g : XS} {q r f j : Nat} (h3 : f ≠ 3) : (hndA g q r).2.1 f j = g.2.1 f j := by
  unfold hndA
  split
  · rfl
  · exact comG_n h3
theorem hndG_n {g : XS} {q f j : Nat} (h3 : f ≠ 3) (h4 : f ≠ 4) : (hndG g q).2.1 f j = g.2.1 f j := by
  unfold hndG
  rw [hndA_n h3, goG_n h3 h4]
theorem lvsG_n {g : XS} {f j : Nat} (h3 : f ≠ 3) (h4 : f ≠ 4) : ∀ q, (lvsG g q).2.1 f j = g.2.1 f j
  | 0 => rfl
  | q + 1 => by
    unfold lvsG
    split
    · rw [hndG_n h3 h4]; exact lvsG_n h3 h4 q
    · exact lvsG_n h3 h4 q
theorem tkG_n {g : XS} : (tkG g).2.1 = g.2.1 := rfl
/-- the class's invariant -/
theorem XI.of {g g' : XS} (h : XI g) (h1 : g'.2.1 = g.2.1) (h2 : g'.2.2 = g.2.2) : XI g' := by
  unfold XI
  rw [h1, h2]
  exact h
theorem XI.sn3 {g : XS} {q r : Nat} (h : XI g) (hr : r ≤ g.2.1 0 0) : XI (sn g 3 q r) := by
  obtain ⟨h1, h2, h3, h4, h5⟩ := h
  refine ⟨h1, h2, fun j hj => ?_, h4, h5⟩
  show up g.2.1 3 q r 3 j ≤ g.2.1 0 0
  by_cases e : j = q
  · subst e; rw [up_s]; exact hr
  · rw [up_i e]; exact h3 j hj
theorem XI.sn2 {g : XS} {i : Nat} (h : XI g) : XI (sn g 2 i 0) := by
  obtain ⟨h1, h2, h3, h4, h5⟩ := h
  refine ⟨h1, h2, h3, h4, fun j hj => ⟨?_, (h5 j hj).2⟩⟩
  show up g.2.1 2 i 0 2 j = 0
  by_cases e : j = i
  · subst e; rw [up_s]
  · rw [up_i e]; exact (h5 j hj).1
theorem XI.log {g : XS} {i : Nat} {a z : Int32} (h : XI g) (hi : i < g.2.1 0 0) : XI (logG g i a z) := by
  unfold logG
  split
  · exact h
  · obtain ⟨h1, h2, h3, h4, h5⟩ := h
    refine ⟨h1, h2, h3, fun j q hq => ?_, fun j hj => ⟨(h5 j hj).1, ?_⟩⟩
    · by_cases e : j = i
      · subst e
        have hq2 : g.2.1 4 j + 1 ≤ q := by
          have : up g.2.1 4 j (g.2.1 4 j + 1) 4 j ≤ q := hq
          rwa [up_s] at this
        have := h4 j q (by omega)
        simp [ul, show ¬ q = g.2.1 4 j by omega, this]
      · have hq2 : g.2.1 4 j ≤ q := by
          have : up g.2.1 4 i (g.2.1 4 i + 1) 4 j ≤ q := hq
          rwa [up_i e] at this
        simp [ul, e, h4 j q hq2]
    · show up g.2.1 4 i (g.2.1 4 i + 1) 4 j = 0
      have hj2 : g.2.1 0 0 ≤ j := hj
      rw [up_i (by omega)]
      exact (h5 j hj).2
theorem XI.go {g : XS} {q : Nat} {h : Int32} (hI : XI g) (hq : q < g.2.1 1 0) (h0 : ¬ g.2.1 3 q = 0) : XI (goG g q h) := by
  unfold goG
  refine XI.sn3 (XI.log (hI.of rfl rfl) ?_) (Nat.zero_le _)
  show g.2.1 3 q - 1 < g.2.1 0 0
  have := hI.2.2.1 q hq
  omega
theorem XI.com {g : XS} {q i : Nat} {h : Int32} (hI : XI g) (hi : i < g.2.1 0 0) : XI (comG g q i h) := (hI.sn3 (q := q) (r := i + 1) hi).of rfl rfl
theorem hndA_eq (g : XS) (q r : Nat) : hndA g q r = if r = 0 then sx g 34 q (g.1 34 q + 1) else comG (sx g 35 q (g.1 35 q + 1)) q (r - 1) (g.1 40 0) := rfl
theorem XI.hndA {g : XS} {q r : Nat} (hI : XI g) (hr : r ≤ g.2.1 0 0) : XI (hndA g q r) := by
  rw [hndA_eq]
  split
  · exact hI.of rfl rfl
  · next h => exact XI.com (g := sx g 35 q (g.1 35 q + 1)) (hI.of rfl rfl) (show r - 1 < g.2.1 0 0 by omega)
theorem XI.hnd {g : XS} {q : Nat} (hI : XI g) (hq : q < g.2.1 1 0) (h0 : ¬ g.2.1 3 q = 0) : XI (hndG g q) := by
  unfold hndG
  refine XI.hndA (hI.go hq h0) ?_
  have := (nf_le (goG g q (g.1 40 0)) ((goG g q (g.1 40 0)).1 30 q) 8).2
  omega
theorem XI.els {g : XS} (hI : XI g) : ∀ i, XI (elsG g i)
  | 0 => hI
  | i + 1 => by unfold elsG; split; · exact (hI.els i).sn2
                · exact hI.els i
theorem XI.lvs {g : XS} (hI : XI g) : ∀ q, XI (lvsG g q)
  | 0 => hI
  | q + 1 => by unfold lvsG; split; · next h => exact (hI.lvs q).hnd h.1 h.2.1
                · exact hI.lvs q
theorem XI.ctr {g : XS} (hI : XI g) (i : Nat) : XI (ctrG g i) := hI.of (ctrG_n i) (ctrG_l i)
theorem XI.prs {g : XS} (hI : XI g) (i : Nat) : XI (prsG g i) := hI.of (prsG_n i) (prsG_l i)
theorem XI.pws {g : XS} (hI : XI g) (i : Nat) : XI (pwsG g i) := hI.of (pwsG_n i) (pwsG_l i)
theorem XI.tk {g : XS} (hI : XI g) : XI (tkG g) := hI.of rfl rfl
theorem XI.hr {g : XS} (hI : XI g) : XI (hrG g) := by
  unfold hrG
  exact XI.lvs (XI.els (XI.tk (XI.pws (XI.prs (XI.ctr hI 8) 8) 8)) 8) 12
theorem XI.hrs {g : XS} (hI : XI g) : ∀ j, XI (hrsG g j)
  | 0 => hI
  | j + 1 => (hI.hrs j).hr
/-- blocks in all logs -/
def tbA (f : Nat → Nat) : Nat → Nat
  | 0 => 0
  | i + 1 => tbA f i + nbk (f i)
def tb (g : XS) : Nat := tbA (g.2.1 4) 8
theorem tbA_cg {f f' : Nat → Nat} : ∀ N, (∀ i, i < N → f' i = f i) → tbA f' N = tbA f N
  | 0, _ => rfl
  | N + 1, h => by unfold tbA; rw [tbA_cg N (fun i hi => h i (by omega)), h N (by omega)]
theorem tbA_up {n : NF} {i v : Nat} : ∀ N, i < N → tbA (up n 4 i v 4) N + nbk (n 4 i) = tbA (n 4) N + nbk v
  | 0, h => absurd h (by omega)
  | N + 1, h => by
    unfold tbA
    by_cases e : i = N
    · subst e
      rw [up_s, tbA_cg (f := n 4) i (fun j hj => up_i (by omega))]
      omega
    · have := tbA_up (n := n) (v := v) N (by omega : i < N)
      rw [up_i (show N ≠ i by omega)]
      omega
theorem tb_log {g : XS} {i : Nat} {a z : Int32} (hi : i < 8) (hz : ¬ z ≤ a) : tb (logG g i a z) = tb g + if g.2.1 4 i % 64 = 0 then 1 else 0 := by
  unfold tb logG
  rw [if_neg hz]
  have := tbA_up (n := g.2.1) (v := g.2.1 4 i + 1) 8 hi
  unfold nbk at this
  show tbA (up g.2.1 4 i (g.2.1 4 i + 1) 4) 8 = _
  split <;> omega
theorem tb_log0 {g : XS} {i : Nat} {a z : Int32} (hz : z ≤ a) : tb (logG g i a z) = tb g := by
  unfold logG
  rw [if_pos hz]
theorem tb_of {g g' : XS} (h : ∀ j, g'.2.1 4 j = g.2.1 4 j) : tb g' = tb g := tbA_cg 8 (fun i _ => h i)
theorem tb_sn {g : XS} {f i v : Nat} (h : f ≠ 4) : tb (sn g f i v) = tb g := tb_of (fun j => up_f (by omega))
theorem tb_logle {g : XS} {i : Nat} {a z : Int32} (hi : i < 8) : tb g ≤ tb (logG g i a z) := by
  by_cases h : z ≤ a
  · rw [tb_log0 h]; exact Nat.le_refl _
  · rw [tb_log hi h]; omega
theorem tb_go {g : XS} {q : Nat} {h : Int32} : tb (goG g q h) = tb (logG (sx g 9 (g.2.1 3 q - 1) (g.1 9 (g.2.1 3 q - 1) - 1)) (g.2.1 3 q - 1) (g.1 32 q) h) := tb_sn (by decide)
theorem tb_gole {g : XS} {q : Nat} {h : Int32} (hI : XI g) (hq : q < g.2.1 1 0) (h0 : ¬ g.2.1 3 q = 0) : tb g ≤ tb (goG g q h) := by
  rw [tb_go]
  refine Nat.le_trans (Nat.le_of_eq (tb_of (fun j => rfl))) (tb_logle (g := sx g 9 (g.2.1 3 q - 1) (g.1 9 (g.2.1 3 q - 1) - 1)) ?_)
  have := hI.2.2.1 q hq
  have := hI.1
  omega
theorem tb_hnd {g : XS} {q : Nat} : tb (hndG g q) = tb (goG g q (g.1 40 0)) := tb_of (fun j => hndA_n (by decide))
theorem tb_hndle {g : XS} {q : Nat} (hI : XI g) (hq : q < g.2.1 1 0) (h0 : ¬ g.2.1 3 q = 0) : tb g ≤ tb (hndG g q) := by
  rw [tb_hnd]
  exact tb_gole hI hq h0
theorem tb_lvs1 {g : XS} (hI : XI g) (q : Nat) : tb (lvsG g q) ≤ tb (lvsG g (q + 1)) := by
  show tb (lvsG g q) ≤ tb (if q < (lvsG g q).2.1 1 0 ∧ ¬ (lvsG g q).2.1 3 q = 0 ∧ onB (lvsG g q) ((lvsG g q).2.1 3 q - 1) = false then hndG (lvsG g q) q else lvsG g q)
  split
  · next h => exact tb_hndle (hI.lvs q) h.1 h.2.1
  · exact Nat.le_refl _
theorem tb_lvs {g : XS} (hI : XI g) (q : Nat) : ∀ z, tb (lvsG g q) ≤ tb (lvsG g (q + z))
  | 0 => Nat.le_refl _
  | z + 1 => Nat.le_trans (tb_lvs hI q z) (tb_lvs1 hI (q + z))
theorem tb_hr {g : XS} : tb (hrG g) = tb (lvsG (elsG (tkG (pwsG (prsG (ctrG g 8) 8) 8)) 8) 12) := by rw [hrG]
theorem tb_hr0 {g : XS} : tb (elsG (tkG (pwsG (prsG (ctrG g 8) 8) 8)) 8) = tb g := tb_of (fun j => by rw [elsG_n (by decide), tkG_n, pwsG_n, prsG_n, ctrG_n])
theorem tb_hrle {g : XS} (hI : XI g) : tb g ≤ tb (hrG g) := by
  rw [tb_hr]
  have h := tb_lvs (XI.els (XI.tk (XI.pws (XI.prs (XI.ctr hI 8) 8) 8)) 8) 0 12
  rw [Nat.zero_add] at h
  refine Nat.le_trans (Nat.le_of_eq tb_hr0.symm) (Nat.le_trans (Nat.le_of_eq ?_) h)
  rw [lvsG]
theorem tb_hrs {g : XS} (hI : XI g) (q : Nat) : ∀ z, tb (hrsG g q) ≤ tb (hrsG g (q + z))
  | 0 => Nat.le_refl _
  | z + 1 => Nat.le_trans (tb_hrs hI q z) (tb_hrle (hI.hrs (q + z)))
