/-! THE CLASS: what it throws; what it makes -/
theorem Hp.grow {D : va_G} {b : Nat} {L : Tg → Prop} {ad : Tg → Nat} {w : Tg → va_E} {H H1 : Heap} (h : Hp D b L ad w H) (hz : H.size ≤ H1.size) (ho : ∀ q : Nat, q < H.size → H1[q]? = H[q]?) : Hp D b L ad w H1 :=
  ⟨fun t ht => (h.1 t ht).kept (ho _ (h.lt ht)), h.2.1, h.2.2.1, Nat.le_trans h.2.2.2 hz⟩
theorem uE_uE {w : Tg → va_E} {t : Tg} {x y : va_E} : uE (uE w t x) t y = uE w t y := by
  funext u
  by_cases e : u = t
  · subst e; rw [uE_s, uE_s]
  · rw [uE_n e, uE_n e, uE_n e]
abbrev nIA : String := "java/lang/IllegalArgumentException"
abbrev nIS : String := "java/lang/IllegalStateException"
abbrev nIO : String := "java/lang/IndexOutOfBoundsException"
abbrev nRE : List String := ["java/lang/RuntimeException", "java/lang/Exception"]
/-- the exception of a code: its place in the throws clause -/
def xN (names : List String) (c : Nat) (E : String) : Prop := c ≠ 0 ∧ names[c - 1]? = some E
section TH
variable {p : Program} {l : Launch} {e : Env} {R : Room} {s : State} {m : MethodId} {args : Array Value} {below : List Frame} {meth : Method} {c : Code} {H : Heap} {locs : List Loc} {cells slots : Nat}
variable {cc : ByteArray} {pc : Nat} {ls : Array Slot} {D : va_G} {b : Nat} {k : Nat → ClassId} {mc ms : Nat} {PE : String → Prop} {BX : Heap → Prop} {Qc : Array Value → State → Outcome → State → Prop}
theorem e_th (hlf : l.stackTraces = false) {E : String} {ik ic : Nat} (hcls : Bundle.fit E = true) (hk : Cond.classLink RX4 ik E ∈ AW) (hini : Cond.initialized E ∈ AW) (hat : ∀ w ∈ vx_at0 RX4 ic E nRE, w ∈ AW) (hgood : ∀ w ∈ Cond.classLink RX4 ik E :: Cond.initialized E :: vx_at0 RX4 ic E nRE, vx_ot w = true)
    (hx : p.tables.exec = Jvm.exec) (hb : c.code = cc) (hts : ∀ x ∈ AW, x.before args s = true) (hown : s.vm.findClass RX4 = some m.cls) (hC : Cs D k b s) (hlocks : meth.locks = false) (ht : ∀ x ∈ c.exceptionTable.toList, False) (hsz : ls.size = c.maxLocals) (hS : va_S (Fb b) s.heap H locs)
    (d0 : decode cc pc = .ok (.new ik, 3)) (d3 : decode cc (pc + 3) = .ok (.dup, 1)) (d4 : decode cc (pc + 4) = .ok (.invokespecial ic, 3)) (d7 : decode cc (pc + 7) = .ok (.athrow, 1))
    (hB : ∀ H1 : Heap, H.size ≤ H1.size → (∀ q : Nat, q < H.size → H1[q]? = H[q]?) → BX H1) (hRf : 6 ≤ R.frames) (hRl : 81 ≤ R.locals) (hRc : cells + 1 ≤ R.cells) (hRs : slots + 6 ≤ R.slots) (hc : cells + 1 ≤ mc) (hs : slots + 6 ≤ ms) (hP : PE E) :
    W p l e R s m args below meth c H locs cells slots (vx_MQ below Qc (Xx b PE BX) args s mc ms (Fb b)) (F0 m pc ls []) := by
  refine vx_throw0 hx hb hlf (names := nRE) (A := Fb b) hown hcls (by decide +kernel) (hts _ hk) (hts _ hini) (fun w hw => hts w (hat w hw)) hgood hC.2.1 hC.2.2.1 hS hsz d0 d3 d4 d7 (fun x hx => (ht x hx).elim) (by show 2 + 3 < R.frames; omega) (by show 0 + (13 * (2 + 1) + 42) ≤ R.locals; omega) hRc hRs hlocks (fun t _ z o => ?_) hS.2.2 hc hs
  exact ⟨⟨hP, hB t.heap z o⟩, Nat.le_trans hS.1 z, fun q h1 h2 => (o q (Nat.lt_of_lt_of_le h1 hS.1)).trans (hS.2.1 q h1 h2)⟩
end TH
theorem gd_IA : ∀ w ∈ Cond.classLink RX4 33 nIA :: Cond.initialized nIA :: vx_at0 RX4 35 nIA nRE, vx_ot w = true := by decide +kernel
theorem gd_IS : ∀ w ∈ Cond.classLink RX4 39 nIS :: Cond.initialized nIS :: vx_at0 RX4 41 nIS nRE, vx_ot w = true := by decide +kernel
theorem gd_IO : ∀ w ∈ Cond.classLink RX4 49 nIO :: Cond.initialized nIO :: vx_at0 RX4 51 nIO nRE, vx_ot w = true := by decide +kernel
/-- codes -/
def sunC (a0 : Int32) : Nat := if inB a0 0 10 = false then 1 else 0
def phC (g : XS) (a0 : Int32) : Nat := if inB a0 0 99 = false then 1 else if g.2.1 1 0 < 12 then 0 else 2
def clC (g : XS) (a0 : Int32) : Nat := if pI g a0 = 0 then 1 else if g.2.1 3 (pI g a0 - 1) = 0 then 0 else 2
def enC (g : XS) (a0 : Int32) : Nat := if pI g a0 = 0 then 1 else if g.2.1 3 (pI g a0 - 1) = 0 then 2 else 0
def mvC (g : XS) (a0 a1 : Int32) : Nat := if pI g a0 = 0 then 1 else if inB a1 0 99 = false then 2 else 0
def paC (g : XS) (a0 : Int32) : Nat := if inB a0 1 100 = false then 1 else if g.1 40 0 + a0 ≤ 10000 then 0 else 2
def omC (g : XS) (a0 a1 : Int32) : Nat := if mI g a0 = 0 then 1 else if inB a1 0 5 = false then 2 else 0
def taC (g : XS) (a0 : Int32) : Nat := if mI g a0 = 0 then 1 else 0
def opC (g : XS) (a0 a1 : Int32) : Nat := if pI g a0 = 0 then 1 else if inB a1 0 4 = false then 2 else 0
def stC (g : XS) (a0 : Int32) : Nat := if pI g a0 = 0 then 1 else 0
def pdC (a0 : Int32) : Nat := if inB a0 0 5 = false then 1 else 0
/-- a new mast, a new phone, a new lease: what the cells hold then -/
theorem eW_nM {k : Nat → ClassId} {ad ad2 : Tg → Nat} {g : XS} {M : MF} {o : OF} {n : Nat} {a : Nat → Int32} (hI : XI g) (hn : n = g.2.1 0 0) (hA : ∀ u : Tg, u ≠ (1, n, 0) → ad2 u = ad u) : ∀ t, LW (nwM g a).2.1 t → t ≠ (1, n, 0) → t ≠ (0, 1, 0) → LW g.2.1 t ∧ eW k ad2 (nwM g a) M o t = eW k ad g M o t := by
  have hB : ∀ c x y : Nat, c ≠ 1 → ad2 (c, x, y) = ad (c, x, y) := fun c x y h => hA _ (by simp [h])
  have hls : ∀ x z, lsO ad2 x z = lsO ad x z := fun x z => by unfold lsO; rw [hB 3 _ _ (by decide)]
  have hlg : ∀ x z, lgO ad2 x z = lgO ad x z := fun x z => by unfold lgO; rw [hB 4 _ _ (by decide)]
  have hbf : ∀ x z, bfO ad2 x z = bfO ad x z := fun x z => by unfold bfO; rw [hB 4 _ _ (by decide)]
  have h0 : (nwM g a).2.1 0 0 = n + 1 := by show up g.2.1 0 0 (g.2.1 0 0 + 1) 0 0 = n + 1; rw [up_s, hn]
  have hN : ∀ f i, f ≠ 0 → (nwM g a).2.1 f i = g.2.1 f i := fun f i h => up_f h
  have hF : ∀ f i, i ≠ n ∨ 13 ≤ f → (nwM g a).1 f i = g.1 f i := fun f i h => by
    show (if i = g.2.1 0 0 ∧ f < 13 then a f else g.1 f i) = g.1 f i
    rw [if_neg (by omega)]
  have hF4 : ∀ f, 13 ≤ f → (nwM g a).1 f = g.1 f := fun f h => funext fun i => hF f i (Or.inr h)
  have hnew : g.2.1 2 n = 0 ∧ g.2.1 4 n = 0 := hI.2.2.2.2 n (by omega)
  refine tg_all (fun x y h n1 n0 => ?_) (fun x y h n1 n0 => ?_) (fun x y h n1 n0 => ?_) (fun x y h n1 n0 => ?_) (fun x y h n1 n0 => ?_) (fun x y h n1 n0 => ?_) (fun x y h n1 n0 => ?_) (fun x y h n1 n0 => ?_) (fun x y h n1 n0 => ?_) (fun x y h n1 n0 => ?_) (fun x i y h => h.elim)
  · refine ⟨h, ?_⟩
    obtain ⟨h1, rfl⟩ := h
    match x with
    | 0 => simp only [eW, fX]; rw [hB 0 1 0 (by decide), hB 0 2 0 (by decide), hB 0 3 0 (by decide), hF4 40 (by decide), hF4 41 (by decide)]
    | 1 => exact absurd rfl n0
    | 2 =>
      simp only [eW]
      rw [show phO (nwM g a) ad2 = phO g ad from funext fun x => by unfold phO; rw [hN 1 0 (by decide), hB 2 _ _ (by decide)]]
    | x + 3 => simp only [eW]; rw [hF4 42 (by decide)]
  · obtain ⟨h1, rfl⟩ := h
    have e : x ≠ n := fun e => n1 (by rw [e])
    refine ⟨⟨by omega, rfl⟩, ?_⟩
    simp only [eW, fM, hls, hlg]
    rw [hF 0 x (Or.inl e), hF 1 x (Or.inl e), hF 2 x (Or.inl e), hF 3 x (Or.inl e), hF 4 x (Or.inl e), hF 5 x (Or.inl e), hF 6 x (Or.inl e), hF 8 x (Or.inl e), hF 9 x (Or.inl e), hF 10 x (Or.inl e), hF 11 x (Or.inl e), hF 12 x (Or.inl e), hN 2 x (by decide), hN 4 x (by decide)]
  · obtain ⟨h1, rfl⟩ := h
    rw [hN 1 0 (by decide)] at h1
    refine ⟨⟨h1, rfl⟩, ?_⟩
    simp only [eW, fP]
    rw [hF4 30 (by decide), hF4 32 (by decide), hF4 33 (by decide), hF4 34 (by decide), hF4 35 (by decide), hN 3 x (by decide), show mrO ad2 (g.2.1 3 x) = mrO ad (g.2.1 3 x) from ?_]
    unfold mrO
    by_cases e : g.2.1 3 x = 0
    · rw [if_pos e, if_pos e]
    · have := hI.2.2.1 x h1
      rw [if_neg e, if_neg e, hA _ (by simp; omega)]
  · obtain ⟨⟨h1, h2⟩, rfl⟩ := h
    rw [hN 2 x (by decide)] at h2
    have : x ≠ n := fun e => h2 (by rw [e]; exact hnew.1)
    refine ⟨⟨⟨by omega, h2⟩, rfl⟩, ?_⟩
    simp only [eW, fL]
    rw [hF4 20 (by decide), hF4 21 (by decide), hF4 22 (by decide), hF4 23 (by decide), hF4 24 (by decide), hF4 25 (by decide)]
  · obtain ⟨h1, h2⟩ := h
    rw [hN 4 x (by decide)] at h2
    have : x ≠ n := fun e => by rw [e, hnew.2] at h2; omega
    refine ⟨⟨by omega, h2⟩, ?_⟩
    simp only [eW, fG, hbf]
    rw [hB 5 _ _ (by decide), hB 6 _ _ (by decide), hN 4 x (by decide)]
  · obtain ⟨h1, h2⟩ := h
    rw [hN 4 x (by decide)] at h2
    have : x ≠ n := fun e => by rw [e, hnew.2] at h2; omega
    exact ⟨⟨by omega, h2⟩, rfl⟩
  · obtain ⟨h1, h2⟩ := h
    rw [hN 4 x (by decide)] at h2
    have : x ≠ n := fun e => by rw [e, hnew.2] at h2; omega
    exact ⟨⟨by omega, h2⟩, rfl⟩
  · refine ⟨h, ?_⟩
    simp only [eW, fR]
    simp only [hB 8 _ _ (show (8 : Nat) ≠ 1 by decide)]
  · exact ⟨h, rfl⟩
  · refine ⟨h, ?_⟩
    match x with
    | 0 => rfl
    | x + 1 => rfl
theorem Wo_nM {D : va_G} {k : Nat → ClassId} {b : Nat} {ad ad2 : Tg → Nat} {g : XS} {M : MF} {o : OF} {H : Heap} {L2 : Tg → Prop} {w2 : Tg → va_E} {n : Nat} {a0 a1 a2 a3 a4 a5 a6 : Int32} (hI : XI g) (hn : n = g.2.1 0 0) (hA : ∀ u : Tg, u ≠ (1, n, 0) → ad2 u = ad u) (hh : Hp D b L2 ad2 w2 H)
    (h1 : L2 (1, n, 0) ∧ w2 (1, n, 0) = .inr (2, [.int a0, .int a1, .int a2, .int a3, .int a4, .int a5, .int a6, .null, .int 0, .int 0, .int 0, .int 0, .int 0, .null]))
    (h2 : L2 (0, 1, 0) ∧ w2 (0, 1, 0) = .inl (k 4, 8, .inr (.inr (.inr (.inr (va_up (maO g ad) n (some (ad2 (1, n, 0)))))))))
    (ho : ∀ t : Tg, LW g.2.1 t → t ≠ (1, n, 0) → t ≠ (0, 1, 0) → L2 t ∧ w2 t = eW k ad g M o t) : Wo D k b ad2 (nwM g (l13 a0 a1 a2 a3 a4 a5 a6)) M o H := by
  refine hh.mono fun t ht => ?_
  by_cases e1 : t = (1, n, 0)
  · subst e1
    refine ⟨h1.1, rfl, ?_⟩
    rw [h1.2]
    have hF : ∀ f, f < 13 → (nwM g (l13 a0 a1 a2 a3 a4 a5 a6)).1 f n = l13 a0 a1 a2 a3 a4 a5 a6 f := fun f h => by
      show (if n = g.2.1 0 0 ∧ f < 13 then _ else _) = _
      rw [if_pos ⟨hn, h⟩]
    have hN : ∀ f i, f ≠ 0 → (nwM g (l13 a0 a1 a2 a3 a4 a5 a6)).2.1 f i = g.2.1 f i := fun f i h => up_f h
    have hnew : g.2.1 2 n = 0 ∧ g.2.1 4 n = 0 := hI.2.2.2.2 n (by omega)
    simp only [eW, fM]
    rw [hF 0 (by decide), hF 1 (by decide), hF 2 (by decide), hF 3 (by decide), hF 4 (by decide), hF 5 (by decide), hF 6 (by decide), hF 8 (by decide), hF 9 (by decide), hF 10 (by decide), hF 11 (by decide), hF 12 (by decide), hN 2 n (by decide), hN 4 n (by decide), hnew.1, hnew.2]
    rfl
  · by_cases e0 : t = (0, 1, 0)
    · subst e0
      refine ⟨h2.1, rfl, ?_⟩
      rw [h2.2]
      simp only [eW]
      rw [show maO (nwM g (l13 a0 a1 a2 a3 a4 a5 a6)) ad2 = va_up (maO g ad) n (some (ad2 (1, n, 0))) from funext fun x => ?_]
      show (if x < up g.2.1 0 0 (g.2.1 0 0 + 1) 0 0 then some (ad2 (1, x, 0)) else none) = (if x = n then some (ad2 (1, n, 0)) else maO g ad x)
      rw [up_s]
      by_cases e : x = n
      · subst e; rw [if_pos (by omega), if_pos rfl]
      · rw [if_neg e]
        unfold maO
        by_cases h : x < g.2.1 0 0
        · rw [if_pos (by omega), if_pos h, hA _ (by simp [e])]
        · rw [if_neg (by omega), if_neg h]
    · obtain ⟨q1, q2⟩ := eW_nM (k := k) (M := M) (o := o) hI hn hA t ht e1 e0
      obtain ⟨r1, r2⟩ := ho t q1 e1 e0
      exact ⟨r1, rfl, by rw [q2, r2]⟩
theorem eW_nP {k : Nat → ClassId} {ad ad2 : Tg → Nat} {g : XS} {M : MF} {o : OF} {n : Nat} {a : Int32} (hn : n = g.2.1 1 0) (hA : ∀ u : Tg, u ≠ (2, n, 0) → ad2 u = ad u) : ∀ t, LW (nwP g a).2.1 t → t ≠ (2, n, 0) → t ≠ (0, 2, 0) → LW g.2.1 t ∧ eW k ad2 (nwP g a) M o t = eW k ad g M o t := by
  have hB : ∀ c x y : Nat, c ≠ 2 → ad2 (c, x, y) = ad (c, x, y) := fun c x y h => hA _ (by simp [h])
  have hls : ∀ x z, lsO ad2 x z = lsO ad x z := fun x z => by unfold lsO; rw [hB 3 _ _ (by decide)]
  have hlg : ∀ x z, lgO ad2 x z = lgO ad x z := fun x z => by unfold lgO; rw [hB 4 _ _ (by decide)]
  have hbf : ∀ x z, bfO ad2 x z = bfO ad x z := fun x z => by unfold bfO; rw [hB 4 _ _ (by decide)]
  have hmr : ∀ z, mrO ad2 z = mrO ad z := fun z => by unfold mrO; rw [hB 1 _ _ (by decide)]
  have h0 : (nwP g a).2.1 1 0 = n + 1 := by show up (up g.2.1 3 (g.2.1 1 0) 0) 1 0 (g.2.1 1 0 + 1) 1 0 = n + 1; rw [up_s, hn]
  have hN : ∀ f i, f ≠ 1 → (f ≠ 3 ∨ i ≠ n) → (nwP g a).2.1 f i = g.2.1 f i := fun f i h h2 => by
    show up (up g.2.1 3 (g.2.1 1 0) 0) 1 0 (g.2.1 1 0 + 1) f i = _
    rw [up_f h]
    rcases h2 with h2 | h2
    · rw [up_f h2]
    · rw [up_i (by omega)]
  have hF : ∀ f i, i ≠ n ∨ f < 30 ∨ 36 ≤ f → (nwP g a).1 f i = g.1 f i := fun f i h => by
    show (if i = g.2.1 1 0 ∧ 30 ≤ f ∧ f < 36 then (if f = 30 then a else 0) else g.1 f i) = g.1 f i
    rw [if_neg (by omega)]
  have hF4 : ∀ f, f < 30 ∨ 36 ≤ f → (nwP g a).1 f = g.1 f := fun f h => funext fun i => hF f i (Or.inr h)
  refine tg_all (fun x y h n1 n0 => ?_) (fun x y h n1 n0 => ?_) (fun x y h n1 n0 => ?_) (fun x y h n1 n0 => ?_) (fun x y h n1 n0 => ?_) (fun x y h n1 n0 => ?_) (fun x y h n1 n0 => ?_) (fun x y h n1 n0 => ?_) (fun x y h n1 n0 => ?_) (fun x y h n1 n0 => ?_) (fun x i y h => h.elim)
  · refine ⟨h, ?_⟩
    obtain ⟨h1, rfl⟩ := h
    match x with
    | 0 => simp only [eW, fX]; rw [hB 0 1 0 (by decide), hB 0 2 0 (by decide), hB 0 3 0 (by decide), hF4 40 (by decide), hF4 41 (by decide)]
    | 1 =>
      simp only [eW]
      rw [show maO (nwP g a) ad2 = maO g ad from funext fun x => by unfold maO; rw [hN 0 0 (by decide) (Or.inl (by decide)), hB 1 _ _ (by decide)]]
    | 2 => exact absurd rfl n0
    | x + 3 => simp only [eW]; rw [hF4 42 (by decide)]
  · obtain ⟨h1, rfl⟩ := h
    rw [hN 0 0 (by decide) (Or.inl (by decide))] at h1
    refine ⟨⟨h1, rfl⟩, ?_⟩
    simp only [eW, fM, hls, hlg]
    rw [hF4 0 (by decide), hF4 1 (by decide), hF4 2 (by decide), hF4 3 (by decide), hF4 4 (by decide), hF4 5 (by decide), hF4 6 (by decide), hF4 8 (by decide), hF4 9 (by decide), hF4 10 (by decide), hF4 11 (by decide), hF4 12 (by decide), hN 2 x (by decide) (Or.inl (by decide)), hN 4 x (by decide) (Or.inl (by decide))]
  · obtain ⟨h1, rfl⟩ := h
    have e : x ≠ n := fun e => n1 (by rw [e])
    refine ⟨⟨by omega, rfl⟩, ?_⟩
    simp only [eW, fP, hmr]
    rw [hF 30 x (Or.inl e), hF 32 x (Or.inl e), hF 33 x (Or.inl e), hF 34 x (Or.inl e), hF 35 x (Or.inl e), hN 3 x (by decide) (Or.inr e)]
  · obtain ⟨⟨h1, h2⟩, rfl⟩ := h
    rw [hN 0 0 (by decide) (Or.inl (by decide))] at h1
    rw [hN 2 x (by decide) (Or.inl (by decide))] at h2
    refine ⟨⟨⟨h1, h2⟩, rfl⟩, ?_⟩
    simp only [eW, fL]
    rw [hF4 20 (by decide), hF4 21 (by decide), hF4 22 (by decide), hF4 23 (by decide), hF4 24 (by decide), hF4 25 (by decide)]
  · obtain ⟨h1, h2⟩ := h
    rw [hN 0 0 (by decide) (Or.inl (by decide))] at h1
    rw [hN 4 x (by decide) (Or.inl (by decide))] at h2
    refine ⟨⟨h1, h2⟩, ?_⟩
    simp only [eW, fG, hbf]
    rw [hB 5 _ _ (by decide), hB 6 _ _ (by decide), hN 4 x (by decide) (Or.inl (by decide))]
  · obtain ⟨h1, h2⟩ := h
    rw [hN 0 0 (by decide) (Or.inl (by decide))] at h1
    rw [hN 4 x (by decide) (Or.inl (by decide))] at h2
    exact ⟨⟨h1, h2⟩, rfl⟩
  · obtain ⟨h1, h2⟩ := h
    rw [hN 0 0 (by decide) (Or.inl (by decide))] at h1
    rw [hN 4 x (by decide) (Or.inl (by decide))] at h2
    exact ⟨⟨h1, h2⟩, rfl⟩
  · refine ⟨h, ?_⟩
    simp only [eW, fR]
    simp only [hB 8 _ _ (show (8 : Nat) ≠ 2 by decide)]
  · exact ⟨h, rfl⟩
  · refine ⟨h, ?_⟩
    match x with
    | 0 => rfl
    | x + 1 => rfl
theorem Wo_nP {D : va_G} {k : Nat → ClassId} {b : Nat} {ad ad2 : Tg → Nat} {g : XS} {M : MF} {o : OF} {H : Heap} {L2 : Tg → Prop} {w2 : Tg → va_E} {n : Nat} {a0 : Int32} (hn : n = g.2.1 1 0) (hA : ∀ u : Tg, u ≠ (2, n, 0) → ad2 u = ad u) (hh : Hp D b L2 ad2 w2 H)
    (h1 : L2 (2, n, 0) ∧ w2 (2, n, 0) = .inr (3, [.int a0, .null, .int 0, .int 0, .int 0, .int 0]))
    (h2 : L2 (0, 2, 0) ∧ w2 (0, 2, 0) = .inl (k 5, 12, .inr (.inr (.inr (.inr (va_up (phO g ad) n (some (ad2 (2, n, 0)))))))))
    (ho : ∀ t : Tg, LW g.2.1 t → t ≠ (2, n, 0) → t ≠ (0, 2, 0) → L2 t ∧ w2 t = eW k ad g M o t) : Wo D k b ad2 (nwP g a0) M o H := by
  refine hh.mono fun t ht => ?_
  by_cases e1 : t = (2, n, 0)
  · subst e1
    refine ⟨h1.1, rfl, ?_⟩
    rw [h1.2]
    have hF : ∀ f, 30 ≤ f → f < 36 → (nwP g a0).1 f n = if f = 30 then a0 else 0 := fun f h h2 => by
      show (if n = g.2.1 1 0 ∧ 30 ≤ f ∧ f < 36 then _ else _) = _
      rw [if_pos ⟨hn, h, h2⟩]
    have hN : (nwP g a0).2.1 3 n = 0 := by
      show up (up g.2.1 3 (g.2.1 1 0) 0) 1 0 (g.2.1 1 0 + 1) 3 n = 0
      rw [up_f (by decide), hn, up_s]
    simp only [eW, fP]
    rw [hF 30 (by decide) (by decide), hF 32 (by decide) (by decide), hF 33 (by decide) (by decide), hF 34 (by decide) (by decide), hF 35 (by decide) (by decide), hN]
    rfl
  · by_cases e0 : t = (0, 2, 0)
    · subst e0
      refine ⟨h2.1, rfl, ?_⟩
      rw [h2.2]
      simp only [eW]
      rw [show phO (nwP g a0) ad2 = va_up (phO g ad) n (some (ad2 (2, n, 0))) from funext fun x => ?_]
      show (if x < up (up g.2.1 3 (g.2.1 1 0) 0) 1 0 (g.2.1 1 0 + 1) 1 0 then some (ad2 (2, x, 0)) else none) = (if x = n then some (ad2 (2, n, 0)) else phO g ad x)
      rw [up_s]
      by_cases e : x = n
      · subst e; rw [if_pos (by omega), if_pos rfl]
      · rw [if_neg e]
        unfold phO
        by_cases h : x < g.2.1 1 0
        · rw [if_pos (by omega), if_pos h, hA _ (by simp [e])]
        · rw [if_neg (by omega), if_neg h]
    · obtain ⟨q1, q2⟩ := eW_nP (k := k) (M := M) (o := o) (a := a0) hn hA t ht e1 e0
      obtain ⟨r1, r2⟩ := ho t q1 e1 e0
      exact ⟨r1, rfl, by rw [q2, r2]⟩
theorem eW_nL {k : Nat → ClassId} {ad ad2 : Tg → Nat} {g : XS} {M : MF} {o : OF} {n : Nat} {a : Nat → Int32} (hA : ∀ u : Tg, u ≠ (3, n, 0) → ad2 u = ad u) : ∀ t, LW (nwL g n a).2.1 t → t ≠ (3, n, 0) → t ≠ (1, n, 0) → LW g.2.1 t ∧ eW k ad2 (nwL g n a) M o t = eW k ad g M o t := by
  have hB : ∀ c x y : Nat, c ≠ 3 → ad2 (c, x, y) = ad (c, x, y) := fun c x y h => hA _ (by simp [h])
  have hlg : ∀ x z, lgO ad2 x z = lgO ad x z := fun x z => by unfold lgO; rw [hB 4 _ _ (by decide)]
  have hbf : ∀ x z, bfO ad2 x z = bfO ad x z := fun x z => by unfold bfO; rw [hB 4 _ _ (by decide)]
  have hmr : ∀ z, mrO ad2 z = mrO ad z := fun z => by unfold mrO; rw [hB 1 _ _ (by decide)]
  have hN : ∀ f i, (f ≠ 2 ∨ i ≠ n) → (nwL g n a).2.1 f i = g.2.1 f i := fun f i h2 => by
    show up g.2.1 2 n 1 f i = _
    rcases h2 with h2 | h2
    · rw [up_f h2]
    · rw [up_i h2]
  have hF : ∀ f i, i ≠ n ∨ f < 20 ∨ 26 ≤ f → (nwL g n a).1 f i = g.1 f i := fun f i h => by
    show (if i = n ∧ 20 ≤ f ∧ f < 26 then a (f - 20) else g.1 f i) = g.1 f i
    rw [if_neg (by omega)]
  have hF4 : ∀ f, f < 20 ∨ 26 ≤ f → (nwL g n a).1 f = g.1 f := fun f h => funext fun i => hF f i (Or.inr h)
  refine tg_all (fun x y h n1 n0 => ?_) (fun x y h n1 n0 => ?_) (fun x y h n1 n0 => ?_) (fun x y h n1 n0 => ?_) (fun x y h n1 n0 => ?_) (fun x y h n1 n0 => ?_) (fun x y h n1 n0 => ?_) (fun x y h n1 n0 => ?_) (fun x y h n1 n0 => ?_) (fun x y h n1 n0 => ?_) (fun x i y h => h.elim)
  · refine ⟨h, ?_⟩
    obtain ⟨h1, rfl⟩ := h
    match x with
    | 0 => simp only [eW, fX]; rw [hB 0 1 0 (by decide), hB 0 2 0 (by decide), hB 0 3 0 (by decide), hF4 40 (by decide), hF4 41 (by decide)]
    | 1 =>
      simp only [eW]
      rw [show maO (nwL g n a) ad2 = maO g ad from funext fun x => by unfold maO; rw [hN 0 0 (Or.inl (by decide)), hB 1 _ _ (by decide)]]
    | 2 =>
      simp only [eW]
      rw [show phO (nwL g n a) ad2 = phO g ad from funext fun x => by unfold phO; rw [hN 1 0 (Or.inl (by decide)), hB 2 _ _ (by decide)]]
    | x + 3 => simp only [eW]; rw [hF4 42 (by decide)]
  · obtain ⟨h1, rfl⟩ := h
    have e : x ≠ n := fun e => n0 (by rw [e])
    rw [hN 0 0 (Or.inl (by decide))] at h1
    refine ⟨⟨h1, rfl⟩, ?_⟩
    simp only [eW, fM, hlg]
    rw [hF 0 x (Or.inl e), hF 1 x (Or.inl e), hF 2 x (Or.inl e), hF 3 x (Or.inl e), hF 4 x (Or.inl e), hF 5 x (Or.inl e), hF 6 x (Or.inl e), hF 8 x (Or.inl e), hF 9 x (Or.inl e), hF 10 x (Or.inl e), hF 11 x (Or.inl e), hF 12 x (Or.inl e), hN 2 x (Or.inr e), hN 4 x (Or.inr e), show lsO ad2 x (g.2.1 2 x) = lsO ad x (g.2.1 2 x) from by unfold lsO; rw [hA _ (by simp [e])]]
  · obtain ⟨h1, rfl⟩ := h
    rw [hN 1 0 (Or.inl (by decide))] at h1
    refine ⟨⟨h1, rfl⟩, ?_⟩
    simp only [eW, fP, hmr]
    rw [hF4 30 (by decide), hF4 32 (by decide), hF4 33 (by decide), hF4 34 (by decide), hF4 35 (by decide), hN 3 x (Or.inl (by decide))]
  · obtain ⟨⟨h1, h2⟩, rfl⟩ := h
    have e : x ≠ n := fun e => n1 (by rw [e])
    rw [hN 0 0 (Or.inl (by decide))] at h1
    rw [hN 2 x (Or.inr e)] at h2
    refine ⟨⟨⟨h1, h2⟩, rfl⟩, ?_⟩
    simp only [eW, fL]
    rw [hF 20 x (Or.inl e), hF 21 x (Or.inl e), hF 22 x (Or.inl e), hF 23 x (Or.inl e), hF 24 x (Or.inl e), hF 25 x (Or.inl e)]
  · obtain ⟨h1, h2⟩ := h
    rw [hN 0 0 (Or.inl (by decide))] at h1
    rw [hN 4 x (Or.inl (by decide))] at h2
    refine ⟨⟨h1, h2⟩, ?_⟩
    simp only [eW, fG, hbf]
    rw [hB 5 _ _ (by decide), hB 6 _ _ (by decide), hN 4 x (Or.inl (by decide))]
  · obtain ⟨h1, h2⟩ := h
    rw [hN 0 0 (Or.inl (by decide))] at h1
    rw [hN 4 x (Or.inl (by decide))] at h2
    exact ⟨⟨h1, h2⟩, rfl⟩
  · obtain ⟨h1, h2⟩ := h
    rw [hN 0 0 (Or.inl (by decide))] at h1
    rw [hN 4 x (Or.inl (by decide))] at h2
    exact ⟨⟨h1, h2⟩, rfl⟩
  · refine ⟨h, ?_⟩
    simp only [eW, fR]
    simp only [hB 8 _ _ (show (8 : Nat) ≠ 3 by decide)]
  · exact ⟨h, rfl⟩
  · refine ⟨h, ?_⟩
    match x with
    | 0 => rfl
    | x + 1 => rfl
theorem Wo_nL {D : va_G} {k : Nat → ClassId} {b : Nat} {ad ad2 : Tg → Nat} {g : XS} {M : MF} {o : OF} {H : Heap} {L2 : Tg → Prop} {w2 : Tg → va_E} {n : Nat} {a0 a1 a2 a3 a4 a5 : Int32} (hA : ∀ u : Tg, u ≠ (3, n, 0) → ad2 u = ad u) (hh : Hp D b L2 ad2 w2 H)
    (h1 : L2 (3, n, 0) ∧ w2 (3, n, 0) = .inr (0, [.int a0, .int a1, .int a2, .int a3, .int a4, .int a5]))
    (h2 : L2 (1, n, 0) ∧ w2 (1, n, 0) = .inr (2, (fM g ad n).set 7 (.ref (ad2 (3, n, 0)))))
    (ho : ∀ t : Tg, LW g.2.1 t → t ≠ (3, n, 0) → t ≠ (1, n, 0) → L2 t ∧ w2 t = eW k ad g M o t) : Wo D k b ad2 (nwL g n (l6 a0 a1 a2 a3 a4 a5)) M o H := by
  have hF : ∀ f, 20 ≤ f → f < 26 → (nwL g n (l6 a0 a1 a2 a3 a4 a5)).1 f n = l6 a0 a1 a2 a3 a4 a5 (f - 20) := fun f h h2 => by
    show (if n = n ∧ 20 ≤ f ∧ f < 26 then _ else _) = _
    rw [if_pos ⟨rfl, h, h2⟩]
  have hF2 : ∀ f, f < 20 → (nwL g n (l6 a0 a1 a2 a3 a4 a5)).1 f n = g.1 f n := fun f h => by
    show (if n = n ∧ 20 ≤ f ∧ f < 26 then _ else _) = _
    rw [if_neg (by omega)]
  refine hh.mono fun t ht => ?_
  by_cases e1 : t = (3, n, 0)
  · subst e1
    refine ⟨h1.1, rfl, ?_⟩
    rw [h1.2]
    simp only [eW, fL]
    rw [hF 20 (by decide) (by decide), hF 21 (by decide) (by decide), hF 22 (by decide) (by decide), hF 23 (by decide) (by decide), hF 24 (by decide) (by decide), hF 25 (by decide) (by decide)]
    rfl
  · by_cases e0 : t = (1, n, 0)
    · subst e0
      refine ⟨h2.1, rfl, ?_⟩
      rw [h2.2]
      have hlg : lgO ad2 n (g.2.1 4 n) = lgO ad n (g.2.1 4 n) := by unfold lgO; rw [hA _ (by simp)]
      have hN2 : (nwL g n (l6 a0 a1 a2 a3 a4 a5)).2.1 2 n = 1 := show up g.2.1 2 n 1 2 n = 1 from up_s
      have hN4 : (nwL g n (l6 a0 a1 a2 a3 a4 a5)).2.1 4 n = g.2.1 4 n := show up g.2.1 2 n 1 4 n = g.2.1 4 n from up_f (by decide)
      simp only [eW, fM]
      rw [hF2 0 (by decide), hF2 1 (by decide), hF2 2 (by decide), hF2 3 (by decide), hF2 4 (by decide), hF2 5 (by decide), hF2 6 (by decide), hF2 8 (by decide), hF2 9 (by decide), hF2 10 (by decide), hF2 11 (by decide), hF2 12 (by decide), hN2, hN4, hlg]
      rfl
    · obtain ⟨q1, q2⟩ := eW_nL (k := k) (M := M) (o := o) (a := l6 a0 a1 a2 a3 a4 a5) hA t ht e1 e0
      obtain ⟨r1, r2⟩ := ho t q1 e1 e0
      exact ⟨r1, rfl, by rw [q2, r2]⟩
theorem Gr.e9 {g : XS} : Gr g (elsG (tkG (pwsG (prsG (ctrG g 8) 8) 8)) 8) := Gr.tr (Gr.of (g' := tkG (pwsG (prsG (ctrG g 8) 8) 8)) (by rw [tkG_n, pwsG_n, prsG_n, ctrG_n])) (Gr.els 8)
set_option maxHeartbeats 4000000 in
set_option maxRecDepth 100000 in
theorem mX2_init (l : Launch) {D : va_G} {k : Nat → ClassId} {b : Nat} {L : Tg → Prop} {ad : Tg → Nat} {w : Tg → va_E} (t0 : Tg) (h0 : L t0) (e0 : w t0 = .inr (2, [.int 0, .int 0, .int 0, .int 0, .int 0, .int 0, .int 0, .null, .int 0, .int 0, .int 0, .int 0, .int 0, .null])) (a0 a1 a2 a3 a4 a5 a6 : Int32) (hz : a6 = 0 ∨ a6 = 1) : Met l yX2_init (WS yX2_init cX2_init 8 none) ({ frames := 1, cells := 0, slots := 0, locals := 13 }) (P0 D k b (Hp D b L ad w) [.ref (ad t0), .int a0, .int a1, .int a2, .int a3, .int a4, .int a5, .int a6]) (Qw b none (Hp D b L ad (uE w t0 (.inr (2, [.int a0, .int a1, .int a2, .int a3, .int a4, .int a5, .int a6, .null, .int 0, .int 0, .int 0, .int 0, .int 0, .null]))))) 0 0 (Fb b) := by
  refine Met0 (by decide +kernel) (Nat.le_of_ble_eq_true rfl) (fun p e s m below meth c ls hx hb hr hts hown hml hlocks hnm hC hH hl => ?_)
  have hS : va_S (Fb b) s.heap s.heap [] := va_S.rf
  have hl : lv_has ls 8 [(0, .ref (ad t0)), (1, .int a0), (2, .int a1), (3, .int a2), (4, .int a3), (5, .int a4), (6, .int a5), (7, .int a6)] := hl
  refine lv_aload_n hx hb dX2_init_0 rfl (lv_at hl 0 rfl) ?_
  refine W.objInit hx hb hown (hts _ wm_X2_3) (hts _ wv_Obj) (hts _ wk_Obj) rfl (by rw [hml]; exact hl.1) rfl dX2_init_1 (Nat.le_of_ble_eq_true rfl) (Nat.le_of_ble_eq_true rfl) ?_
  refine W.eq (g2 := F0 m 4 ls []) rfl ?_
  refine lv_aload_n hx hb dX2_init_4 rfl (lv_at hl 0 rfl) ?_
  refine lv_iload_n hx hb dX2_init_5 rfl (lv_at hl 1 rfl) ?_
  refine r_putF hx hb hts hown hnm hC hH hS t0 h0 (fs := [.int 0, .int 0, .int 0, .int 0, .int 0, .int 0, .int 0, .null, .int 0, .int 0, .int 0, .int 0, .int 0, .null]) e0 rfl inX2 tyX2 tyX2_ok nmX2 0 (by decide) rfl rfl wf_X2_9 rfl rfl (by simp) dX2_init_6 (fun H locs hH hS => ?_)
  have hH : Hp D b L ad (uE w t0 (.inr (2, [.int a0, .int 0, .int 0, .int 0, .int 0, .int 0, .int 0, .null, .int 0, .int 0, .int 0, .int 0, .int 0, .null]))) H := hH
  refine lv_aload_n hx hb dX2_init_9 rfl (lv_at hl 0 rfl) ?_
  refine lv_iload_n hx hb dX2_init_10 rfl (lv_at hl 2 rfl) ?_
  refine r_putF hx hb hts hown hnm hC hH hS t0 h0 (fs := [.int a0, .int 0, .int 0, .int 0, .int 0, .int 0, .int 0, .null, .int 0, .int 0, .int 0, .int 0, .int 0, .null]) uE_s rfl inX2 tyX2 tyX2_ok nmX2 1 (by decide) rfl rfl wf_X2_15 rfl rfl (by simp) dX2_init_11 (fun H locs hH hS => ?_)
  rw [uE_uE] at hH
  have hH : Hp D b L ad (uE w t0 (.inr (2, [.int a0, .int a1, .int 0, .int 0, .int 0, .int 0, .int 0, .null, .int 0, .int 0, .int 0, .int 0, .int 0, .null]))) H := hH
  refine lv_aload_n hx hb dX2_init_14 rfl (lv_at hl 0 rfl) ?_
  refine lv_iload_n hx hb dX2_init_15 rfl (lv_at hl 3 rfl) ?_
  refine r_putF hx hb hts hown hnm hC hH hS t0 h0 (fs := [.int a0, .int a1, .int 0, .int 0, .int 0, .int 0, .int 0, .null, .int 0, .int 0, .int 0, .int 0, .int 0, .null]) uE_s rfl inX2 tyX2 tyX2_ok nmX2 2 (by decide) rfl rfl wf_X2_18 rfl rfl (by simp) dX2_init_16 (fun H locs hH hS => ?_)
  rw [uE_uE] at hH
  have hH : Hp D b L ad (uE w t0 (.inr (2, [.int a0, .int a1, .int a2, .int 0, .int 0, .int 0, .int 0, .null, .int 0, .int 0, .int 0, .int 0, .int 0, .null]))) H := hH
  refine lv_aload_n hx hb dX2_init_19 rfl (lv_at hl 0 rfl) ?_
  refine lv_iload hx hb dX2_init_20 (lv_at hl 4 rfl) ?_
  refine r_putF hx hb hts hown hnm hC hH hS t0 h0 (fs := [.int a0, .int a1, .int a2, .int 0, .int 0, .int 0, .int 0, .null, .int 0, .int 0, .int 0, .int 0, .int 0, .null]) uE_s rfl inX2 tyX2 tyX2_ok nmX2 3 (by decide) rfl rfl wf_X2_21 rfl rfl (by simp) dX2_init_22 (fun H locs hH hS => ?_)
  rw [uE_uE] at hH
  have hH : Hp D b L ad (uE w t0 (.inr (2, [.int a0, .int a1, .int a2, .int a3, .int 0, .int 0, .int 0, .null, .int 0, .int 0, .int 0, .int 0, .int 0, .null]))) H := hH
  refine lv_aload_n hx hb dX2_init_25 rfl (lv_at hl 0 rfl) ?_
  refine lv_iload hx hb dX2_init_26 (lv_at hl 5 rfl) ?_
  refine r_putF hx hb hts hown hnm hC hH hS t0 h0 (fs := [.int a0, .int a1, .int a2, .int a3, .int 0, .int 0, .int 0, .null, .int 0, .int 0, .int 0, .int 0, .int 0, .null]) uE_s rfl inX2 tyX2 tyX2_ok nmX2 4 (by decide) rfl rfl wf_X2_24 rfl rfl (by simp) dX2_init_28 (fun H locs hH hS => ?_)
  rw [uE_uE] at hH
  have hH : Hp D b L ad (uE w t0 (.inr (2, [.int a0, .int a1, .int a2, .int a3, .int a4, .int 0, .int 0, .null, .int 0, .int 0, .int 0, .int 0, .int 0, .null]))) H := hH
  refine lv_aload_n hx hb dX2_init_31 rfl (lv_at hl 0 rfl) ?_
  refine lv_iload hx hb dX2_init_32 (lv_at hl 6 rfl) ?_
  refine r_putF hx hb hts hown hnm hC hH hS t0 h0 (fs := [.int a0, .int a1, .int a2, .int a3, .int a4, .int 0, .int 0, .null, .int 0, .int 0, .int 0, .int 0, .int 0, .null]) uE_s rfl inX2 tyX2 tyX2_ok nmX2 5 (by decide) rfl rfl wf_X2_27 rfl rfl (by simp) dX2_init_34 (fun H locs hH hS => ?_)
  rw [uE_uE] at hH
  have hH : Hp D b L ad (uE w t0 (.inr (2, [.int a0, .int a1, .int a2, .int a3, .int a4, .int a5, .int 0, .null, .int 0, .int 0, .int 0, .int 0, .int 0, .null]))) H := hH
  refine lv_aload_n hx hb dX2_init_37 rfl (lv_at hl 0 rfl) ?_
  refine lv_iload hx hb dX2_init_38 (lv_at hl 7 rfl) ?_
  refine r_putF hx hb hts hown hnm hC hH hS t0 h0 (fs := [.int a0, .int a1, .int a2, .int a3, .int a4, .int a5, .int 0, .null, .int 0, .int 0, .int 0, .int 0, .int 0, .null]) uE_s rfl inX2 tyX2 tyX2_ok nmX2 6 (by decide) rfl rfl wf_X2_30 (by rcases hz with rfl | rfl <;> rfl) (by rcases hz with rfl | rfl <;> rfl) (by simp) dX2_init_40 (fun H locs hH hS => ?_)
  rw [uE_uE] at hH
  have hH : Hp D b L ad (uE w t0 (.inr (2, [.int a0, .int a1, .int a2, .int a3, .int a4, .int a5, .int a6, .null, .int 0, .int 0, .int 0, .int 0, .int 0, .null]))) H := hH
  exact e_wv hx hb hr hlocks hS hH (Nat.le_refl _) (Nat.le_refl _) dX2_init_43

set_option maxHeartbeats 4000000 in
set_option maxRecDepth 100000 in
theorem mX3_init (l : Launch) {D : va_G} {k : Nat → ClassId} {b : Nat} {L : Tg → Prop} {ad : Tg → Nat} {w : Tg → va_E} (t0 : Tg) (h0 : L t0) (e0 : w t0 = .inr (3, [.int 0, .null, .int 0, .int 0, .int 0, .int 0])) (a0 : Int32) : Met l yX3_init (WS yX3_init cX3_init 2 none) ({ frames := 1, cells := 0, slots := 0, locals := 13 }) (P0 D k b (Hp D b L ad w) [.ref (ad t0), .int a0]) (Qw b none (Hp D b L ad (uE w t0 (.inr (3, [.int a0, .null, .int 0, .int 0, .int 0, .int 0]))))) 0 0 (Fb b) := by
  refine Met0 (by decide +kernel) (Nat.le_of_ble_eq_true rfl) (fun p e s m below meth c ls hx hb hr hts hown hml hlocks hnm hC hH hl => ?_)
  have hS : va_S (Fb b) s.heap s.heap [] := va_S.rf
  have hl : lv_has ls 2 [(0, .ref (ad t0)), (1, .int a0)] := hl
  refine lv_aload_n hx hb dX3_init_0 rfl (lv_at hl 0 rfl) ?_
  refine W.objInit hx hb hown (hts _ wm_X3_3) (hts _ wv_Obj) (hts _ wk_Obj) rfl (by rw [hml]; exact hl.1) rfl dX3_init_1 (Nat.le_of_ble_eq_true rfl) (Nat.le_of_ble_eq_true rfl) ?_
  refine W.eq (g2 := F0 m 4 ls []) rfl ?_
  refine lv_aload_n hx hb dX3_init_4 rfl (lv_at hl 0 rfl) ?_
  refine lv_iload_n hx hb dX3_init_5 rfl (lv_at hl 1 rfl) ?_
  refine r_put hx hb hts hown hC hH hS t0 h0 (fs := [.int 0, .null, .int 0, .int 0, .int 0, .int 0]) e0 rfl inX3 tyX3 tyX3_ok nmX3 0 (by decide) rfl wf_X3_9 rfl rfl (by simp) dX3_init_6 (fun H locs hH hS => ?_)
  have hH : Hp D b L ad (uE w t0 (.inr (3, [.int a0, .null, .int 0, .int 0, .int 0, .int 0]))) H := hH
  exact e_wv hx hb hr hlocks hS hH (Nat.le_refl _) (Nat.le_refl _) dX3_init_9

set_option maxHeartbeats 4000000 in
set_option maxRecDepth 100000 in
theorem mX0_init (l : Launch) {D : va_G} {k : Nat → ClassId} {b : Nat} {L : Tg → Prop} {ad : Tg → Nat} {w : Tg → va_E} (t0 : Tg) (h0 : L t0) (e0 : w t0 = .inr (0, [.int 0, .int 0, .int 0, .int 0, .int 0, .int 0])) (a0 a1 a2 a3 a4 a5 : Int32) : Met l yX0_init (WS yX0_init cX0_init 7 none) ({ frames := 1, cells := 0, slots := 0, locals := 13 }) (P0 D k b (Hp D b L ad w) [.ref (ad t0), .int a0, .int a1, .int a2, .int a3, .int a4, .int a5]) (Qw b none (Hp D b L ad (uE w t0 (.inr (0, [.int a0, .int a1, .int a2, .int a3, .int a4, .int a5]))))) 0 0 (Fb b) := by
  refine Met0 (by decide +kernel) (Nat.le_of_ble_eq_true rfl) (fun p e s m below meth c ls hx hb hr hts hown hml hlocks hnm hC hH hl => ?_)
  have hS : va_S (Fb b) s.heap s.heap [] := va_S.rf
  have hl : lv_has ls 7 [(0, .ref (ad t0)), (1, .int a0), (2, .int a1), (3, .int a2), (4, .int a3), (5, .int a4), (6, .int a5)] := hl
  refine lv_aload_n hx hb dX0_init_0 rfl (lv_at hl 0 rfl) ?_
  refine W.objInit hx hb hown (hts _ wm_X0_1) (hts _ wv_Obj) (hts _ wk_Obj) rfl (by rw [hml]; exact hl.1) rfl dX0_init_1 (Nat.le_of_ble_eq_true rfl) (Nat.le_of_ble_eq_true rfl) ?_
  refine W.eq (g2 := F0 m 4 ls []) rfl ?_
  refine lv_aload_n hx hb dX0_init_4 rfl (lv_at hl 0 rfl) ?_
  refine lv_iload_n hx hb dX0_init_5 rfl (lv_at hl 1 rfl) ?_
  refine r_putF hx hb hts hown hnm hC hH hS t0 h0 (fs := [.int 0, .int 0, .int 0, .int 0, .int 0, .int 0]) e0 rfl inX0 tyX0 tyX0_ok nmX0 0 (by decide) rfl rfl wf_X0_7 rfl rfl (by simp) dX0_init_6 (fun H locs hH hS => ?_)
  have hH : Hp D b L ad (uE w t0 (.inr (0, [.int a0, .int 0, .int 0, .int 0, .int 0, .int 0]))) H := hH
  refine lv_aload_n hx hb dX0_init_9 rfl (lv_at hl 0 rfl) ?_
  refine lv_iload_n hx hb dX0_init_10 rfl (lv_at hl 2 rfl) ?_
  refine r_putF hx hb hts hown hnm hC hH hS t0 h0 (fs := [.int a0, .int 0, .int 0, .int 0, .int 0, .int 0]) uE_s rfl inX0 tyX0 tyX0_ok nmX0 1 (by decide) rfl rfl wf_X0_13 rfl rfl (by simp) dX0_init_11 (fun H locs hH hS => ?_)
  rw [uE_uE] at hH
  have hH : Hp D b L ad (uE w t0 (.inr (0, [.int a0, .int a1, .int 0, .int 0, .int 0, .int 0]))) H := hH
  refine lv_aload_n hx hb dX0_init_14 rfl (lv_at hl 0 rfl) ?_
  refine lv_iload_n hx hb dX0_init_15 rfl (lv_at hl 3 rfl) ?_
  refine r_putF hx hb hts hown hnm hC hH hS t0 h0 (fs := [.int a0, .int a1, .int 0, .int 0, .int 0, .int 0]) uE_s rfl inX0 tyX0 tyX0_ok nmX0 2 (by decide) rfl rfl wf_X0_16 rfl rfl (by simp) dX0_init_16 (fun H locs hH hS => ?_)
  rw [uE_uE] at hH
  have hH : Hp D b L ad (uE w t0 (.inr (0, [.int a0, .int a1, .int a2, .int 0, .int 0, .int 0]))) H := hH
  refine lv_aload_n hx hb dX0_init_19 rfl (lv_at hl 0 rfl) ?_
  refine lv_iload hx hb dX0_init_20 (lv_at hl 4 rfl) ?_
  refine r_putF hx hb hts hown hnm hC hH hS t0 h0 (fs := [.int a0, .int a1, .int a2, .int 0, .int 0, .int 0]) uE_s rfl inX0 tyX0 tyX0_ok nmX0 3 (by decide) rfl rfl wf_X0_19 rfl rfl (by simp) dX0_init_22 (fun H locs hH hS => ?_)
  rw [uE_uE] at hH
  have hH : Hp D b L ad (uE w t0 (.inr (0, [.int a0, .int a1, .int a2, .int a3, .int 0, .int 0]))) H := hH
  refine lv_aload_n hx hb dX0_init_25 rfl (lv_at hl 0 rfl) ?_
  refine lv_iload hx hb dX0_init_26 (lv_at hl 5 rfl) ?_
  refine r_putF hx hb hts hown hnm hC hH hS t0 h0 (fs := [.int a0, .int a1, .int a2, .int a3, .int 0, .int 0]) uE_s rfl inX0 tyX0 tyX0_ok nmX0 4 (by decide) rfl rfl wf_X0_22 rfl rfl (by simp) dX0_init_28 (fun H locs hH hS => ?_)
  rw [uE_uE] at hH
  have hH : Hp D b L ad (uE w t0 (.inr (0, [.int a0, .int a1, .int a2, .int a3, .int a4, .int 0]))) H := hH
  refine lv_aload_n hx hb dX0_init_31 rfl (lv_at hl 0 rfl) ?_
  refine lv_iload hx hb dX0_init_32 (lv_at hl 6 rfl) ?_
  refine r_putF hx hb hts hown hnm hC hH hS t0 h0 (fs := [.int a0, .int a1, .int a2, .int a3, .int a4, .int 0]) uE_s rfl inX0 tyX0 tyX0_ok nmX0 5 (by decide) rfl rfl wf_X0_25 rfl rfl (by simp) dX0_init_34 (fun H locs hH hS => ?_)
  rw [uE_uE] at hH
  have hH : Hp D b L ad (uE w t0 (.inr (0, [.int a0, .int a1, .int a2, .int a3, .int a4, .int a5]))) H := hH
  exact e_wv hx hb hr hlocks hS hH (Nat.le_refl _) (Nat.le_refl _) dX0_init_37

set_option maxHeartbeats 4000000 in
set_option maxRecDepth 100000 in
theorem mX4_letAnHourGoBy (l : Launch) {D : va_G} {k : Nat → ClassId} {b : Nat} {ad0 : Tg → Nat} {g : XS} {M : MF} {o : OF} (hI : XI g) (B : Nat) (hB : tb (hrG g) ≤ tb g + B) : Met l yX4_letAnHourGoBy (WS yX4_letAnHourGoBy cX4_letAnHourGoBy 1 none) ({ frames := 7, cells := 3 * B, slots := 132 * B, locals := 147 }) (P0 D k b (Wo D k b ad0 g M o) [.ref (ad0 (0, 0, 0))]) (Qw b none (fun H => ∃ ad : Tg → Nat, Ex g ad0 ad ∧ Wo D k b ad (hrG g) M o H)) (3 * B) (132 * B) (Fb b) := by
  refine Met0 (by decide +kernel) (Nat.le_of_ble_eq_true rfl) (fun p e s m below meth c ls hx hb hr hts hown hml hlocks hnm hC hH hl => ?_)
  have hS : va_S (Fb b) s.heap s.heap [] := va_S.rf
  obtain ⟨ad, hE, hH, hl⟩ : ∃ ad : Tg → Nat, Ex g ad0 ad ∧ Wo D k b ad g M o s.heap ∧ lv_has ls 1 [(0, .ref (ad (0, 0, 0)))] := ⟨ad0, Ex.rf, hH, hl⟩
  refine lv_aload_n hx hb dX4_letAnHourGoBy_0 rfl (lv_at hl 0 rfl) ?_
  refine k_w (va_runV (As := []) (rest := []) ⟨hx, hb, hml, hown, hts⟩ (mX4_countTraffic l) ⟨cb_of hts wk_X4_countTraffic wi_X4 wm_X4_156 sd_X4_countTraffic rfl rfl ⟨Nat.le_of_ble_eq_true rfl, Nat.le_of_ble_eq_true rfl⟩, hts _ wv_X4_countTraffic, hts _ wl_X4_countTraffic⟩ (P0.preV hC hS hH (Hp.recv hC.1 hH (0, 0, 0) ⟨by decide, rfl⟩ rfl rfl)) rfl rfl hl.1 rfl (lv_room (Nat.le_of_ble_eq_true rfl)) dX4_letAnHourGoBy_1 ⟨Nat.le_of_ble_eq_true rfl, Nat.le_of_ble_eq_true rfl⟩) hS (fun H locs hH hS => ?_)
  refine W.eq (g2 := F0 m 4 ls []) rfl ?_
  refine lv_aload_n hx hb dX4_letAnHourGoBy_4 rfl (lv_at hl 0 rfl) ?_
  refine k_w (va_runV (As := []) (rest := []) ⟨hx, hb, hml, hown, hts⟩ (mX4_payRents l) ⟨cb_of hts wk_X4_payRents wi_X4 wm_X4_159 sd_X4_payRents rfl rfl ⟨Nat.le_of_ble_eq_true rfl, Nat.le_of_ble_eq_true rfl⟩, hts _ wv_X4_payRents, hts _ wl_X4_payRents⟩ (P0.preV hC hS hH (Hp.recv hC.1 hH (0, 0, 0) ⟨by decide, rfl⟩ rfl rfl)) rfl rfl hl.1 rfl (lv_room (Nat.le_of_ble_eq_true rfl)) dX4_letAnHourGoBy_5 ⟨Nat.le_of_ble_eq_true rfl, Nat.le_of_ble_eq_true rfl⟩) hS (fun H locs hH hS => ?_)
  refine W.eq (g2 := F0 m 8 ls []) rfl ?_
  refine lv_aload_n hx hb dX4_letAnHourGoBy_8 rfl (lv_at hl 0 rfl) ?_
  refine k_w (va_runV (As := []) (rest := []) ⟨hx, hb, hml, hown, hts⟩ (mX4_powerMasts l) ⟨cb_of hts wk_X4_powerMasts wi_X4 wm_X4_162 sd_X4_powerMasts rfl rfl ⟨Nat.le_of_ble_eq_true rfl, Nat.le_of_ble_eq_true rfl⟩, hts _ wv_X4_powerMasts, hts _ wl_X4_powerMasts⟩ (P0.preV hC hS hH (Hp.recv hC.1 hH (0, 0, 0) ⟨by decide, rfl⟩ rfl rfl)) rfl rfl hl.1 rfl (lv_room (Nat.le_of_ble_eq_true rfl)) dX4_letAnHourGoBy_9 ⟨Nat.le_of_ble_eq_true rfl, Nat.le_of_ble_eq_true rfl⟩) hS (fun H locs hH hS => ?_)
  refine W.eq (g2 := F0 m 12 ls []) rfl ?_
  refine lv_aload_n hx hb dX4_letAnHourGoBy_12 rfl (lv_at hl 0 rfl) ?_
  refine lv_dup hx hb dX4_letAnHourGoBy_13 rfl ?_
  refine g4 hx hb hts hown hC hH 3 (by decide) wf_X4_52 (v := .int ((pwsG (prsG (ctrG g 8) 8) 8).1 40 0)) rfl dX4_letAnHourGoBy_14 ?_
  refine lv_iconst (v := 1) hx hb dX4_letAnHourGoBy_17 (by decide) ?_
  refine lv_iadd hx hb dX4_letAnHourGoBy_18 ?_
  refine p4 hx hb hts hown hC hH hS 3 (by decide) (by decide) rfl wf_X4_52 rfl rfl dX4_letAnHourGoBy_19 (fun H locs (hH : Wo D k b ad (sx (pwsG (prsG (ctrG g 8) 8) 8) 40 0 (((pwsG (prsG (ctrG g 8) 8) 8).1 40 0) + 1)) M o H) hS => ?_)
  have hI9 : XI (elsG (tkG (pwsG (prsG (ctrG g 8) 8) 8)) 8) := ((((hI.ctr 8).prs 8).pws 8).tk).els 8
  have hH : Wo D k b ad (tkG (pwsG (prsG (ctrG g 8) 8) 8)) M o H := by exact hH
  refine lv_aload_n hx hb dX4_letAnHourGoBy_22 rfl (lv_at hl 0 rfl) ?_
  refine k_w (va_runV (As := []) (rest := []) ⟨hx, hb, hml, hown, hts⟩ (mX4_endLeases l) ⟨cb_of hts wk_X4_endLeases wi_X4 wm_X4_165 sd_X4_endLeases rfl rfl ⟨Nat.le_of_ble_eq_true rfl, Nat.le_of_ble_eq_true rfl⟩, hts _ wv_X4_endLeases, hts _ wl_X4_endLeases⟩ (P0.preV hC hS hH (Hp.recv hC.1 hH (0, 0, 0) ⟨by decide, rfl⟩ rfl rfl)) rfl rfl hl.1 rfl (lv_room (Nat.le_of_ble_eq_true rfl)) dX4_letAnHourGoBy_23 ⟨Nat.le_of_ble_eq_true rfl, Nat.le_of_ble_eq_true rfl⟩) hS (fun H locs hH hS => ?_)
  refine W.eq (g2 := F0 m 26 ls []) rfl ?_
  refine lv_aload_n hx hb dX4_letAnHourGoBy_26 rfl (lv_at hl 0 rfl) ?_
  refine k_w (va_runV (As := []) (rest := []) ⟨hx, hb, hml, hown, hts⟩ (mX4_leaveMastsThatAreNotOn l (g := (elsG (tkG (pwsG (prsG (ctrG g 8) 8) 8)) 8)) hI9 B (by rw [tb_hr0, ← tb_hr]; exact hB)) ⟨cb_of hts wk_X4_leaveMastsThatAreNotOn wi_X4 wm_X4_168 sd_X4_leaveMastsThatAreNotOn rfl rfl ⟨Nat.le_of_ble_eq_true rfl, Nat.le_of_ble_eq_true rfl⟩, hts _ wv_X4_leaveMastsThatAreNotOn, hts _ wl_X4_leaveMastsThatAreNotOn⟩ (P0.preV hC hS hH (Hp.recv hC.1 hH (0, 0, 0) ⟨by decide, rfl⟩ rfl rfl)) rfl rfl hl.1 rfl (lv_room (Nat.le_of_ble_eq_true rfl)) dX4_letAnHourGoBy_27 ⟨show 0 + 3 * B ≤ 3 * B by omega, show 0 + 132 * B ≤ 132 * B by omega⟩) hS (fun H locs hH hS => ?_)
  obtain ⟨ad, hF, hH⟩ := hH
  have hl : lv_has ls 1 [(0, .ref (ad (0, 0, 0)))] := by rw [hF (0, 0, 0) (by simp) ⟨by decide, rfl⟩]; exact hl
  refine W.eq (g2 := F0 m 30 ls []) rfl ?_
  have hE := hE.tr Gr.e9 hF
  have h9 : hrG g = (lvsG (elsG (tkG (pwsG (prsG (ctrG g 8) 8) 8)) 8) 12) := by rw [hrG]
  exact e_wv hx hb hr hlocks hS ⟨ad, hE, by rw [h9]; exact hH⟩ (show 0 + 3 * B ≤ 3 * B by omega) (show 0 + 132 * B ≤ 132 * B by omega) dX4_letAnHourGoBy_30
