/-! WHAT EACH METHOD DOES, as functions: the class (over XS) -/
def onB (g : XS) (i : Nat) : Bool := decide (¬ g.2.1 2 i = 0) && decide (g.1 8 i = 0)
def dsI (g : XS) (i : Nat) (p : Int32) : Int32 := if 0 ≤ p - g.1 1 i then p - g.1 1 i else 0 - (p - g.1 1 i)
def cvB (g : XS) (i : Nat) (p : Int32) : Bool := decide (dsI g i p ≤ g.1 2 i)
def ctB (g : XS) (i : Nat) (p : Int32) : Bool := onB g i && cvB g i p && decide (g.1 9 i < g.1 3 i)
def nf (g : XS) (p : Int32) : Nat → Nat
  | 0 => 0
  | j + 1 => if j < g.2.1 0 0 ∧ ctB g j p = true ∧ (nf g p j = 0 ∨ dsI g j p < dsI g (nf g p j - 1) p) then j + 1 else nf g p j
def cdI (r : Nat) : Int32 := if r = 0 then -1 else nI (r - 1)
/-- the number of the mast that a phone's call has, as the class keeps it in the mast -/
def cnI (g : XS) (q : Nat) : Int32 := if g.2.1 3 q = 0 then -1 else g.1 0 (g.2.1 3 q - 1)
def mI (g : XS) (m : Int32) : Nat := if inB m 0 7 = true ∧ m.toNatClampNeg < g.2.1 0 0 then m.toNatClampNeg + 1 else 0
def pI (g : XS) (q : Int32) : Nat := if inB q 0 11 = true ∧ q.toNatClampNeg < g.2.1 1 0 then q.toNatClampNeg + 1 else 0
def cvA (g : XS) (p : Int32) : Nat → Bool
  | 0 => false
  | j + 1 => cvA g p j || (decide (j < g.2.1 0 0) && onB g j && cvB g j p)
def hlI (g : XS) : Nat → Int32
  | 0 => 0
  | q + 1 => if cvA g (nI q) 8 = true then hlI g q else hlI g q + 1
/-- sums of int32 -/
def sumI (f : Nat → Int32) : Nat → Int32
  | 0 => 0
  | q + 1 => sumI f q + f q
def hlS (g : XS) (i : Nat) : Int32 := sumI (fun q => g.2.2 1 i q - g.2.2 0 i q) (g.2.1 4 i)
/-- the calls that go on with a mast: their hours -/
def pnS (g : XS) (i : Nat) : Nat → Int32 → Int32
  | 0, a => a
  | q + 1, a => if q < g.2.1 1 0 ∧ g.2.1 3 q = i + 1 then pnS g i q a + (g.1 40 0 - g.1 32 q) else pnS g i q a
def comG (g : XS) (q i : Nat) (h : Int32) : XS := sx (sx (sn g 3 q (i + 1)) 32 q h) 9 i (g.1 9 i + 1)
def logG (g : XS) (i : Nat) (a z : Int32) : XS := if z ≤ a then g else (g.1, up g.2.1 4 i (g.2.1 4 i + 1), ul (ul g.2.2 0 i (g.2.1 4 i) a) 1 i (g.2.1 4 i) z)
def goG (g : XS) (q : Nat) (h : Int32) : XS := sn (logG (sx g 9 (g.2.1 3 q - 1) (g.1 9 (g.2.1 3 q - 1) - 1)) (g.2.1 3 q - 1) (g.1 32 q) h) 3 q 0
def hndA (g : XS) (q r : Nat) : XS := if r = 0 then sx g 34 q (g.1 34 q + 1) else comG (sx g 35 q (g.1 35 q + 1)) q (r - 1) (g.1 40 0)
def hndG (g : XS) (q : Nat) : XS := hndA (goG g q (g.1 40 0)) q (nf (goG g q (g.1 40 0)) ((goG g q (g.1 40 0)).1 30 q) 8)
def ctrG (g : XS) : Nat → XS
  | 0 => g
  | i + 1 => if i < (ctrG g i).2.1 0 0 ∧ onB (ctrG g i) i = true then sx (ctrG g i) 12 i ((ctrG g i).1 12 i + (ctrG g i).1 9 i) else ctrG g i
def payG (g : XS) (f v : Int32) : XS := if inB f 0 5 = true then sx g 42 f.toNatClampNeg (g.1 42 f.toNatClampNeg + v) else g
def prnG (g : XS) (i : Nat) (cl : Int32) : XS := payG (payG g (g.1 20 i) ((g.1 24 i + g.1 25 i * cl) * g.1 22 i / 10)) (g.1 21 i) ((g.1 24 i + g.1 25 i * cl) - (g.1 24 i + g.1 25 i * cl) * g.1 22 i / 10)
def prsG (g : XS) : Nat → XS
  | 0 => g
  | i + 1 => if i < (prsG g i).2.1 0 0 ∧ ¬ (prsG g i).2.1 2 i = 0 then prnG (prsG g i) i ((prsG g i).1 9 i) else prsG g i
def mnI (x y : Int32) : Int32 := if y < x then y else x
def tkpG (g : XS) (i : Nat) (s : Int32) : XS :=
  if g.2.1 2 i = 0 then sx g 8 i 0
  else if 2 + g.1 9 i ≤ g.1 10 i + g.1 4 i * s then sx (sx g 8 i 0) 10 i (mnI (g.1 10 i + g.1 4 i * s - (2 + g.1 9 i)) (g.1 5 i))
  else if g.1 6 i = 0 then sx (sx (sx g 8 i 0) 8 i 1) 10 i (mnI (g.1 10 i + g.1 4 i * s) (g.1 5 i))
  else sx (sx (sx g 8 i 0) 11 i (g.1 11 i + (2 + g.1 9 i - (g.1 10 i + g.1 4 i * s)))) 10 i 0
def pwsG (g : XS) : Nat → XS
  | 0 => g
  | i + 1 => if i < (pwsG g i).2.1 0 0 then tkpG (pwsG g i) i ((pwsG g i).1 41 0) else pwsG g i
def elsG (g : XS) : Nat → XS
  | 0 => g
  | i + 1 => if i < (elsG g i).2.1 0 0 ∧ ¬ (elsG g i).2.1 2 i = 0 ∧ (elsG g i).1 23 i ≤ (elsG g i).1 40 0 then sn (elsG g i) 2 i 0 else elsG g i
def lvsG (g : XS) : Nat → XS
  | 0 => g
  | q + 1 => if q < (lvsG g q).2.1 1 0 ∧ ¬ (lvsG g q).2.1 3 q = 0 ∧ onB (lvsG g q) ((lvsG g q).2.1 3 q - 1) = false then hndG (lvsG g q) q else lvsG g q
def tkG (g : XS) : XS := sx g 40 0 (g.1 40 0 + 1)
def hrG (g : XS) : XS := lvsG (elsG (tkG (pwsG (prsG (ctrG g 8) 8) 8)) 8) 12
def hrsG (g : XS) : Nat → XS
  | 0 => g
  | j + 1 => hrG (hrsG g j)
/-- made anew: a mast, a phone, a lease -/
def nwM (g : XS) (a : Nat → Int32) : XS := (fun f j => if j = g.2.1 0 0 ∧ f < 13 then a f else g.1 f j, up g.2.1 0 0 (g.2.1 0 0 + 1), g.2.2)
def nwP (g : XS) (p : Int32) : XS := (fun f j => if j = g.2.1 1 0 ∧ 30 ≤ f ∧ f < 36 then (if f = 30 then p else 0) else g.1 f j, up (up g.2.1 3 (g.2.1 1 0) 0) 1 0 (g.2.1 1 0 + 1), g.2.2)
def nwL (g : XS) (i : Nat) (a : Nat → Int32) : XS := (fun f j => if j = i ∧ 20 ≤ f ∧ f < 26 then a (f - 20) else g.1 f j, up g.2.1 2 i 1, g.2.2)
def l6 (a0 a1 a2 a3 a4 a5 : Int32) : Nat → Int32
  | 0 => a0 | 1 => a1 | 2 => a2 | 3 => a3 | 4 => a4 | _ => a5
def l13 (a0 a1 a2 a3 a4 a5 a6 : Int32) : Nat → Int32
  | 0 => a0 | 1 => a1 | 2 => a2 | 3 => a3 | 4 => a4 | 5 => a5 | 6 => a6 | _ => 0
/-- the public methods: which exception (0: none; its place in the throws clause), what then -/
def mastC (g : XS) (a0 a1 a2 a3 a4 : Int32) : Nat := if (inB a0 0 99 && inB a1 1 40 && inB a2 1 10 && inB a3 0 10 && inB a4 0 100) = false then 1 else if g.2.1 0 0 < 8 then 0 else 2
def leaseC (g : XS) (a0 a1 a2 a3 a4 a5 a6 : Int32) : Nat :=
  if mI g a0 = 0 ∨ inB a1 0 5 = false ∨ (¬ a2 = -1 ∧ inB a2 0 5 = false) then 1
  else if a1 = a2 ∨ inB a3 (if a2 = -1 then 10 else 0) 10 = false ∨ inB a4 (g.1 40 0 + 1) 10000 = false ∨ inB a5 0 1000 = false ∨ inB a6 0 100 = false then 2
  else if ¬ g.2.1 2 (mI g a0 - 1) = 0 then 3 else 0
def clG (g : XS) (q : Nat) : XS := if nf g (g.1 30 q) 8 = 0 then sx g 33 q (g.1 33 q + 1) else comG g q (nf g (g.1 30 q) 8 - 1) (g.1 40 0)
def clV (g : XS) (q : Nat) : Int32 := if nf g (g.1 30 q) 8 = 0 then -1 else (clG g q).1 0 (nf g (g.1 30 q) 8 - 1)
def moveG (g : XS) (q : Nat) (p : Int32) : XS := if ¬ g.2.1 3 q = 0 ∧ cvB (sx g 30 q p) (g.2.1 3 q - 1) p = false then hndG (sx g 30 q p) q else sx g 30 q p
def ofMV (g : XS) (i : Nat) (z : Int32) : Int32 := if z = 0 then b2 (onB g i) else if z = 1 then g.1 9 i else if z = 2 then g.1 10 i else if z = 3 then g.1 11 i else if z = 4 then g.1 12 i else if g.2.1 2 i = 0 then -1 else g.1 23 i
def ofPV (g : XS) (q : Nat) (z : Int32) : Int32 := if z = 0 then g.1 30 q else if z = 1 then cnI g q else if z = 2 then g.1 33 q else if z = 3 then g.1 34 q else g.1 35 q
def stV (g : XS) (q : Nat) : UInt32 := if g.2.1 3 q = 0 ∨ g.1 2 (g.2.1 3 q - 1) < 1 then FP.fconst0 else FP.fsub FP.fconst1 (FP.fdiv (FP.i2f (dsI g (g.2.1 3 q - 1) (g.1 30 q))) (FP.i2f (g.1 2 (g.2.1 3 q - 1))))
/-- what holds of the class's numbers at all times (what its own code needs) -/
def XI (g : XS) : Prop := g.2.1 0 0 ≤ 8 ∧ g.2.1 1 0 ≤ 12 ∧ (∀ q, q < g.2.1 1 0 → g.2.1 3 q ≤ g.2.1 0 0) ∧ (∀ i q, g.2.1 4 i ≤ q → g.2.2 0 i q = 0 ∧ g.2.2 1 i q = 0) ∧ (∀ i, g.2.1 0 0 ≤ i → g.2.1 2 i = 0 ∧ g.2.1 4 i = 0)
/-! the reference (over MF) -/
def mN (M : MF) : Nat := (M 2 0).toNatClampNeg
def pN (M : MF) : Nat := (M 19 0).toNatClampNeg
def RI (M : MF) : Prop := mN M ≤ 8 ∧ M 2 0 = nI (mN M) ∧ pN M ≤ 12 ∧ M 19 0 = nI (pN M) ∧ (∀ q, q < pN M → ∃ r, r ≤ mN M ∧ M 21 q = cdI r) ∧ ∀ i, i < 8 → vp_in (M 12 i) 6 ∧ (M 13 i = -1 ∨ vp_in (M 13 i) 6)
def rlB (M : MF) (i : Nat) : Bool := decide (¬ M 11 i = -1)
def roB (M : MF) (i : Nat) : Bool := rlB M i && decide (M 10 i = 0)
def caI (M : MF) (v : Int32) : Nat → Int32
  | 0 => 0
  | q + 1 => caI M v q + (if M 21 q = v then 1 else 0)
def apI (M : MF) (i : Nat) (p : Int32) : Int32 := if M 3 i - p < 0 then -(M 3 i - p) else M 3 i - p
def rcB (M : MF) (i : Nat) (p : Int32) : Bool := decide (apI M i p ≤ M 4 i)
def fitB (M : MF) (i : Nat) (p : Int32) : Bool := roB M i && rcB M i p && decide (caI M (nI i) (pN M) < M 5 i)
def mf (M : MF) (p : Int32) : Nat → Nat
  | 0 => 0
  | j + 1 => if fitB M j p = true ∧ (mf M p j = 0 ∨ apI M j p < apI M (mf M p j - 1) p) then j + 1 else mf M p j
def cI (n : Nat) : Int32 := nI n
def rmC (M : MF) (a0 a1 a2 a3 a4 : Int32) : Nat := if (inB a0 0 99 && inB a1 1 40 && inB a2 1 10 && inB a3 0 10 && inB a4 0 100) = false then 1 else if M 2 0 = 8 then 2 else 0
def rmG (M : MF) (a0 a1 a2 a3 a4 a5 : Int32) : MF := up (up (up (up (up (up (up (up M 3 (mN M) a0) 4 (mN M) a1) 5 (mN M) a2) 6 (mN M) a3) 7 (mN M) a4) 8 (mN M) a5) 11 (mN M) (-1)) 2 0 (M 2 0 + 1)
def isMB (M : MF) (m : Int32) : Bool := inB m 0 (M 2 0 - 1)
def isPB (M : MF) (q : Int32) : Bool := inB q 0 (M 19 0 - 1)
def rlC (M : MF) (a0 a1 a2 a3 a4 a5 a6 : Int32) : Nat :=
  if (isMB M a0 && inB a1 0 5 && (decide (a2 = -1) || inB a2 0 5)) = false then 1
  else if (decide (¬ a1 = a2) && inB a3 (if a2 = -1 then 10 else 0) 10 && inB a4 (M 0 0 + 1) 10000 && inB a5 0 1000 && inB a6 0 100) = false then 2
  else if rlB M a0.toNatClampNeg = true then 3 else 0
def rlG (M : MF) (i : Nat) (a1 a2 a3 a4 a5 a6 : Int32) : MF := up (up (up (up (up (up M 11 i a4) 12 i a1) 13 i a2) 14 i a3) 15 i a5) 16 i a6
def rphC (M : MF) (a0 : Int32) : Nat := if inB a0 0 99 = false then 1 else if M 19 0 = 12 then 2 else 0
def rphG (M : MF) (a0 : Int32) : MF := up (up (up M 20 (pN M) a0) 21 (pN M) (-1)) 19 0 (M 19 0 + 1)
def rclG (M : MF) (q : Nat) : MF := up (up M 21 q (cdI (mf M (M 20 q) (mN M)))) 22 q (M 22 q + (if cdI (mf M (M 20 q) (mN M)) = -1 then 1 else 0))
def rhA (M : MF) (q : Nat) : MF := up (up M 21 q (-1)) 21 q (cdI (mf (up M 21 q (-1)) (M 20 q) (mN M)))
def rhG (M : MF) (q : Nat) : MF := if rhA M q 21 q = -1 then up (rhA M q) 23 q (M 23 q + 1) else up (rhA M q) 24 q (M 24 q + 1)
def rmvG (M : MF) (q : Nat) (p : Int32) : MF := if ¬ M 21 q = -1 ∧ rcB (up M 20 q p) (M 21 q).toNatClampNeg p = false then rhG (up M 20 q p) q else up M 20 q p
def rsm (M : MF) (i : Nat) : Int32 := M 15 i + M 16 i * (if roB M i = true then caI M (nI i) (pN M) else 0)
def rpA (M : MF) (i : Nat) : MF := up M 25 (M 12 i).toNatClampNeg (M 25 (M 12 i).toNatClampNeg + rsm M i * M 14 i / 10)
def rpG (M : MF) (i : Nat) : MF := if M 13 i = -1 then rpA M i else up (rpA M i) 25 (M 13 i).toNatClampNeg (rpA M i 25 (M 13 i).toNatClampNeg + (rsm M i - rsm M i * M 14 i / 10))
def rhas (M : MF) (i : Nat) : Int32 := M 6 i * M 1 0 + M 9 i
def rnds (M : MF) (i : Nat) : Int32 := 2 + caI M (nI i) (pN M)
def rwo (M : MF) (i : Nat) : Bool := decide (rhas M i < rnds M i) && decide (M 8 i = 0)
def rkp (M : MF) (i : Nat) : Int32 := if rwo M i = true then rhas M i else if rhas M i < rnds M i then 0 else rhas M i - rnds M i
def rwG (M : MF) (i : Nat) : MF := up (up (up M 10 i (b2 (rwo M i))) 17 i (M 17 i + (if rhas M i < rnds M i ∧ ¬ M 8 i = 0 then rnds M i - rhas M i else 0))) 9 i (if M 7 i < rkp M i then M 7 i else rkp M i)
def rctG (M : MF) : Nat → MF
  | 0 => M
  | i + 1 => up (rctG M i) 18 i (rctG M i 18 i + (if roB (rctG M i) i = true then caI (rctG M i) (nI i) (pN (rctG M i)) else 0))
def rprG (M : MF) : Nat → MF
  | 0 => M
  | i + 1 => if rlB (rprG M i) i = true then rpG (rprG M i) i else rprG M i
def rpwG (M : MF) : Nat → MF
  | 0 => M
  | i + 1 => if rlB (rpwG M i) i = true then rwG (rpwG M i) i else up (rpwG M i) 10 i 0
def relG (M : MF) : Nat → MF
  | 0 => M
  | i + 1 => up (relG M i) 11 i (if relG M i 11 i = relG M i 0 0 then -1 else relG M i 11 i)
def rlvG (M : MF) : Nat → MF
  | 0 => M
  | q + 1 => if ¬ rlvG M q 21 q = -1 ∧ roB (rlvG M q) (rlvG M q 21 q).toNatClampNeg = false then rhG (rlvG M q) q else rlvG M q
def rtkG (M : MF) : MF := up M 0 0 (M 0 0 + 1)
def rhrA (M : MF) : MF := rpwG (rprG (rctG M (mN M)) (mN M)) (mN M)
def rhrG (M : MF) : MF := rlvG (relG (rtkG (rhrA M)) (mN M)) (pN M)
def rhrsG (M : MF) : Nat → MF
  | 0 => M
  | j + 1 => rhrG (rhrsG M j)
def rcvA (M : MF) (p : Int32) : Nat → Bool
  | 0 => false
  | j + 1 => rcvA M p j || (roB M j && rcB M j p)
def rhlI (M : MF) : Nat → Int32
  | 0 => 0
  | q + 1 => rhlI M q + (if rcvA M (nI q) (mN M) = true then 0 else 1)
def rstV (M : MF) (q : Nat) : UInt32 := if M 21 q = -1 then FP.fconst0 else FP.fsub FP.fconst1 (FP.fdiv (FP.i2f (apI M (M 21 q).toNatClampNeg (M 20 q))) (FP.i2f (M 4 (M 21 q).toNatClampNeg)))
def rofMV (M : MF) (i : Nat) (z : Int32) : Int32 := if z = 0 then b2 (roB M i) else if z = 1 then caI M (nI i) (pN M) else if z = 2 then M 9 i else if z = 3 then M 17 i else if z = 4 then M 18 i else M 11 i
def rofPV (M : MF) (q : Nat) (z : Int32) : Int32 := if z = 0 then M 20 q else if z = 1 then M 21 q else if z = 2 then M 22 q else if z = 3 then M 23 q else M 24 q
