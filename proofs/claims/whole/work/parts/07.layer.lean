/-! LAYER: a heap as cells under tags; calls, reads and writes over it -/
abbrev Tg : Type := Nat × Nat × Nat
abbrev Tys (k : Nat → ClassId) : List (ClassId × FieldType) := [(k 0, .int), (k 1, .boolean), (k 2, .long), (k 3, .double), (k 4, .object RX2), (k 5, .object RX3)]
def Hp (D : va_G) (b : Nat) (L : Tg → Prop) (ad : Tg → Nat) (w : Tg → va_E) (H : Heap) : Prop :=
  (∀ t, L t → va_at D vwCl (ad t, w t) H) ∧ (∀ t u, L t → L u → ad t = ad u → t = u) ∧ (∀ t, L t → b ≤ ad t) ∧ b ≤ H.size
def uE (w : Tg → va_E) (t : Tg) (v : va_E) : Tg → va_E := fun u => if u = t then v else w u
def uA (ad : Tg → Nat) (t : Tg) (q : Nat) : Tg → Nat := fun u => if u = t then q else ad u
theorem uE_s {w : Tg → va_E} {t : Tg} {v : va_E} : uE w t v t = v := by simp [uE]
theorem uE_n {w : Tg → va_E} {t u : Tg} {v : va_E} (h : u ≠ t) : uE w t v u = w u := by simp [uE, h]
theorem uA_s {ad : Tg → Nat} {t : Tg} {q : Nat} : uA ad t q t = q := by simp [uA]
theorem uA_n {ad : Tg → Nat} {t u : Tg} {q : Nat} (h : u ≠ t) : uA ad t q u = ad u := by simp [uA, h]
abbrev Fb (b : Nat) : Nat → Prop := fun q => b ≤ q
theorem Hp.at {D : va_G} {b : Nat} {L : Tg → Prop} {ad : Tg → Nat} {w : Tg → va_E} {H : Heap} (h : Hp D b L ad w H) (t : Tg) (hL : L t) : va_P D vwCl [(ad t, w t)] H := by
  intro k q hq
  cases k with
  | zero => cases hq; exact h.1 t hL
  | succ k => simp at hq
theorem Hp.lt {D : va_G} {b : Nat} {L : Tg → Prop} {ad : Tg → Nat} {w : Tg → va_E} {H : Heap} (h : Hp D b L ad w H) {t : Tg} (hL : L t) : ad t < H.size := (h.1 t hL).lt
theorem Hp.set {D : va_G} {b : Nat} {L : Tg → Prop} {ad : Tg → Nat} {w : Tg → va_E} {H H1 : Heap} (h : Hp D b L ad w H) {t : Tg} (hL : L t) {v : va_E} (hc : va_at D vwCl (ad t, v) H1) (hz : H1.size = H.size) (ho : ∀ q : Nat, q ≠ ad t → H1[q]? = H[q]?) : Hp D b L ad (uE w t v) H1 := by
  refine ⟨fun u hu => ?_, h.2.1, h.2.2.1, by rw [hz]; exact h.2.2.2⟩
  by_cases e : u = t
  · subst e
    rw [uE_s]
    exact hc
  · rw [uE_n e]
    exact (h.1 u hu).kept (ho _ (fun q => e (h.2.1 u t hu hL q)))
theorem Hp.mono {D : va_G} {b : Nat} {L : Tg → Prop} {ad : Tg → Nat} {w : Tg → va_E} {H : Heap} (h : Hp D b L ad w H) {L' : Tg → Prop} {ad' : Tg → Nat} {w' : Tg → va_E} (hL : ∀ t, L' t → L t ∧ ad' t = ad t ∧ w' t = w t) : Hp D b L' ad' w' H := by
  refine ⟨fun t ht => ?_, fun t u ht hu q => ?_, fun t ht => ?_, h.2.2.2⟩
  · obtain ⟨h1, h2, h3⟩ := hL t ht
    rw [h2, h3]
    exact h.1 t h1
  · obtain ⟨h1, h2, -⟩ := hL t ht
    obtain ⟨g1, g2, -⟩ := hL u hu
    rw [h2, g2] at q
    exact h.2.1 t u h1 g1 q
  · obtain ⟨h1, h2, -⟩ := hL t ht
    rw [h2]
    exact h.2.2.1 t h1
theorem Hp.cg {D : va_G} {b : Nat} {L : Tg → Prop} {ad : Tg → Nat} {w w' : Tg → va_E} {H : Heap} (h : Hp D b L ad w H) (hw : ∀ t, L t → w' t = w t) : Hp D b L ad w' H := h.mono fun t ht => ⟨ht, rfl, hw t ht⟩
theorem Hp.push {D : va_G} {b : Nat} {L : Tg → Prop} {ad : Tg → Nat} {w : Tg → va_E} {H H1 : Heap} (h : Hp D b L ad w H) (t : Tg) {v : va_E} (hc : va_at D vwCl (H.size, v) H1) (hz : H1.size = H.size + 1) (ho : ∀ q : Nat, q < H.size → H1[q]? = H[q]?) : Hp D b (fun u => L u ∨ u = t) (uA ad t H.size) (uE w t v) H1 := by
  have key : ∀ u, (L u ∨ u = t) → u ≠ t → L u := fun u hu hn => hu.resolve_right hn
  refine ⟨fun u hu => ?_, fun u z hu hz2 q => ?_, fun u hu => ?_, by rw [hz]; exact Nat.le_succ_of_le h.2.2.2⟩
  · by_cases e : u = t
    · subst e
      rw [uE_s, uA_s]
      exact hc
    · rw [uE_n e, uA_n e]
      exact (h.1 u (key u hu e)).kept (ho _ (h.lt (key u hu e)))
  · by_cases e : u = t <;> by_cases e2 : z = t
    · rw [e, e2]
    · rw [e, uA_s, uA_n e2] at q
      have := h.lt (key z hz2 e2)
      omega
    · rw [e2, uA_s, uA_n e] at q
      have := h.lt (key u hu e)
      omega
    · rw [uA_n e, uA_n e2] at q
      exact h.2.1 u z (key u hu e) (key z hz2 e2) q
  · by_cases e : u = t
    · rw [e, uA_s]
      exact h.2.2.2
    · rw [uA_n e]
      exact h.2.2.1 u (key u hu e)
/-- what a method may take as given of the machine: classes, arrays' classes, the two statics of Throwable, who can't be cast to whom -/
def Nca (U : State) : Prop :=
  va_Nc "java/lang/IllegalStateException" "java/lang/IllegalArgumentException" U ∧ va_Nc "java/lang/IndexOutOfBoundsException" "java/lang/IllegalArgumentException" U ∧ va_Nc "java/lang/IllegalArgumentException" "java/lang/IllegalStateException" U ∧ va_Nc "java/lang/IndexOutOfBoundsException" "java/lang/IllegalStateException" U ∧ va_Nc "java/lang/IllegalArgumentException" "java/lang/IndexOutOfBoundsException" U ∧ va_Nc "java/lang/IllegalStateException" "java/lang/IndexOutOfBoundsException" U
theorem Nca.moved {u U : State} (hvm : u.vm.Alike U.vm) (h : Nca u) : Nca U := ⟨h.1.moved hvm, h.2.1.moved hvm, h.2.2.1.moved hvm, h.2.2.2.1.moved hvm, h.2.2.2.2.1.moved hvm, h.2.2.2.2.2.moved hvm⟩
def Cs (D : va_G) (k : Nat → ClassId) (b : Nat) (U : State) : Prop :=
  va_K D vwCl (Tys k) U ∧ vx_Zq Bundle.tN "UNASSIGNED_STACK" Bundle.steD (Fb b) U U.heap ∧ vx_Zq Bundle.tN "SUPPRESSED_SENTINEL" Bundle.listD (Fb b) U U.heap ∧ Nca U
theorem Cs.calling {D : va_G} {k : Nat → ClassId} {b : Nat} {U : State} {g : JFrame} {mk : MethodId} {a : Array Value} (h : Cs D k b U) : Cs D k b (U.calling g mk a) :=
  ⟨va_K.moved (u := U) (U := U.calling g mk a) (Vm.Alike.refl U.vm) h.1, vx_Zq.moved (u := U) (U := U.calling g mk a) (Vm.Alike.refl U.vm) h.2.1, vx_Zq.moved (u := U) (U := U.calling g mk a) (Vm.Alike.refl U.vm) h.2.2.1, Nca.moved (u := U) (U := U.calling g mk a) (Vm.Alike.refl U.vm) h.2.2.2⟩
theorem Cs.at {D : va_G} {k : Nat → ClassId} {b : Nat} {s U : State} {H : Heap} {locs : List Loc} (h : Cs D k b s) (hS : va_S (Fb b) s.heap H locs) (hU : U.heap = H) (hW : s.WarmedH U.vm) : Cs D k b U :=
  ⟨va_K.moved hW.alike h.1, by rw [hU]; exact vx_Zq.moved hW.alike (h.2.1.kept hS.2.1), by rw [hU]; exact vx_Zq.moved hW.alike (h.2.2.1.kept hS.2.1), h.2.2.2.moved hW.alike⟩
/-- a start; an end that only reads; one that writes (or makes); one that may throw -/
def P0 (D : va_G) (k : Nat → ClassId) (b : Nat) (B : Heap → Prop) (As : List Value) : Array Value → State → Prop := va_Pc As (fun U => Cs D k b U ∧ B U.heap)
def Qr (v : Option Value) : Array Value → State → Outcome → State → Prop := fun _ st oc t => oc = .returned v ∧ t.heap = st.heap
def Qw (b : Nat) (v : Option Value) (B : Heap → Prop) : Array Value → State → Outcome → State → Prop := fun _ st oc t => (oc = .returned v ∧ B t.heap) ∧ va_F (Fb b) st t
def Qx (b : Nat) (P : Prop) (v : Option Value) (B : Heap → Prop) : Array Value → State → Outcome → State → Prop := fun _ st oc t => (oc = .returned v ∧ P ∧ B t.heap) ∧ va_F (Fb b) st t
def Xx (b : Nat) (PE : String → Prop) (B : Heap → Prop) : String → State → State → Prop := fun E st t => (PE E ∧ B t.heap) ∧ va_F (Fb b) st t
theorem P0.blind {D : va_G} {k : Nat → ClassId} {b : Nat} {B : Heap → Prop} {As : List Value} : FrameBlind (P0 D k b B As) := fun _ _ _ _ q => ⟨q.1, q.2.1.calling, q.2.2⟩
theorem P0.pre {D : va_G} {k : Nat → ClassId} {b : Nat} {B : Heap → Prop} {As : List Value} {s : State} {H : Heap} {locs : List Loc} (hC : Cs D k b s) (hS : va_S (Fb b) s.heap H locs) (hB : B H) : PreS s H (P0 D k b B As) As :=
  ⟨P0.blind, fun _ hU hW => ⟨rfl, hC.at hS hU hW, by rw [hU]; exact hB⟩⟩
theorem Hp.recv {D : va_G} {b : Nat} {L : Tg → Prop} {ad : Tg → Nat} {w : Tg → va_E} {H : Heap} {s : State} {tys : List (ClassId × FieldType)} (hK : va_K D vwCl tys s) (h : Hp D b L ad w H) (t : Tg) (hL : L t) {ci : Nat} {fs : List Value} (he : w t = .inr (ci, fs)) {q : vw_C} (hc : vwCl[ci]? = some q) : ∃ cell : Cell, H[ad t]? = some cell ∧ cell.vm.isStatics = false ∧ s.vm.findClass q.1 = some cell.cls :=
  va_recv hK (h.at t hL) hc (q0 := 0) (by rw [he]; rfl)
theorem P0.preV {D : va_G} {k : Nat → ClassId} {b : Nat} {B : Heap → Prop} {a : Nat} {As : List Value} {s : State} {H : Heap} {locs : List Loc} {C : String} (hC : Cs D k b s) (hS : va_S (Fb b) s.heap H locs) (hB : B H) (hr : ∃ cell : Cell, H[a]? = some cell ∧ cell.vm.isStatics = false ∧ s.vm.findClass C = some cell.cls) : PreV s H C a (P0 D k b B (.ref a :: As)) As :=
  ⟨P0.blind, hr, fun _ hU hW => ⟨rfl, hC.at hS hU hW, by rw [hU]; exact hB⟩⟩
abbrev WS (y : MethodName) (bytes : ByteArray) (maxL : Nat) (ret : Option FieldType) : List Cond := .code y bytes maxL ret :: AW
abbrev WH (y : MethodName) (bytes : ByteArray) (maxL : Nat) (ret : Option FieldType) (hh : List (Nat × Nat × Nat × Nat)) : List Cond := .codeWith y bytes maxL ret hh :: AW
abbrev Sd (y : MethodName) (n : Nat) : Prop := y.cls ≠ "java/lang/invoke/MethodHandle" ∧ y.cls ≠ "java/lang/invoke/VarHandle" ∧ (parseMethodDescriptor y.desc).map (fun d => d.parameters.length) = some n
/-- contracts from bodies -/
theorem Met0 {l : Launch} {y : MethodName} {cc : ByteArray} {maxL : Nat} {ret : Option FieldType} {rm : Room} {D : va_G} {k : Nat → ClassId} {b : Nat} {B : Heap → Prop} {As : List Value} {Qc : Array Value → State → Outcome → State → Prop} {mc ms : Nat} {free : Addr → Prop} (hy : plainName y.cls = true) (hlen : (lg_sl As).length ≤ maxL)
    (body : ∀ (p : Program) (e : Env) (s : State) (m : MethodId) (below : List Frame) (meth : Method) (c : Code) (ls : Array Slot), p.tables.exec = Jvm.exec → c.code = cc → meth.sig.returnType = ret → (∀ w ∈ AW, w.before As.toArray s = true) → s.vm.findClass y.cls = some m.cls → c.maxLocals = maxL → meth.locks = false → meth.name = y.name → Cs D k b s → B s.heap → lv_has ls maxL (lv_args 0 As) →
      W p l e rm s m As.toArray below meth c s.heap [] 0 0 (MQ below Qc As.toArray s mc ms free) (F0 m 0 ls [])) : Met l y (WS y cc maxL ret) rm (P0 D k b B As) Qc mc ms free := by
  refine Met.ofW (cc := cc) (maxL := maxL) (ret := ret) hy rfl ?_
  intro p e s m args below meth c s₁ B9 hml hv
  obtain ⟨rfl, hC, hB⟩ := hv
  have hts0 := atoms_spec (ws := WS y cc maxL ret) B9.pre
  rw [lg_entry_eq]
  exact body p e s m below meth c _ B9.exec B9.bytes B9.returns (fun w h => hts0 w (List.mem_cons_of_mem _ h)) (findClass_of_methodNamed B9.named) hml B9.notSynchronized (name_of_methodNamed B9.named B9.method).1 hC hB (lv_entry As hlen)
theorem Met0x {l : Launch} {y : MethodName} {cc : ByteArray} {maxL : Nat} {ret : Option FieldType} {rm : Room} {D : va_G} {k : Nat → ClassId} {b : Nat} {B : Heap → Prop} {As : List Value} {Qc : Array Value → State → Outcome → State → Prop} {XC : String → State → State → Prop} {mc ms : Nat} {free : Addr → Prop} (hy : plainName y.cls = true) (hlen : (lg_sl As).length ≤ maxL)
    (body : ∀ (p : Program) (e : Env) (s : State) (m : MethodId) (below : List Frame) (meth : Method) (c : Code) (ls : Array Slot), p.tables.exec = Jvm.exec → c.code = cc → meth.sig.returnType = ret → (∀ w ∈ AW, w.before As.toArray s = true) → s.vm.findClass y.cls = some m.cls → c.maxLocals = maxL → meth.locks = false → (∀ x ∈ c.exceptionTable.toList, False) → Cs D k b s → B s.heap → lv_has ls maxL (lv_args 0 As) →
      W p l e rm s m As.toArray below meth c s.heap [] 0 0 (vx_MQ below Qc XC As.toArray s mc ms free) (F0 m 0 ls [])) : vx_Met l y (WS y cc maxL ret) rm (P0 D k b B As) Qc XC mc ms free := by
  refine vx_ofW (cc := cc) (maxL := maxL) (ret := ret) hy rfl ?_
  intro p e s m args below meth c s₁ B9 hml ht hv
  obtain ⟨rfl, hC, hB⟩ := hv
  have hts0 := atoms_spec (ws := WS y cc maxL ret) B9.pre
  rw [lg_entry_eq]
  exact body p e s m below meth c _ B9.exec B9.bytes B9.returns (fun w h => hts0 w (List.mem_cons_of_mem _ h)) (findClass_of_methodNamed B9.named) hml B9.notSynchronized ht hC hB (lv_entry As hlen)
theorem Met0h {l : Launch} {y : MethodName} {cc : ByteArray} {maxL : Nat} {ret : Option FieldType} {hh : List (Nat × Nat × Nat × Nat)} {rm : Room} {D : va_G} {k : Nat → ClassId} {b : Nat} {B : Heap → Prop} {As : List Value} {Qc : Array Value → State → Outcome → State → Prop} {mc ms : Nat} {free : Addr → Prop} (hy : plainName y.cls = true) (hlen : (lg_sl As).length ≤ maxL)
    (body : ∀ (p : Program) (e : Env) (s : State) (m : MethodId) (below : List Frame) (meth : Method) (c : Code) (ls : Array Slot), p.tables.exec = Jvm.exec → c.code = cc → meth.sig.returnType = ret → (∀ w ∈ AW, w.before As.toArray s = true) → s.vm.findClass y.cls = some m.cls → c.maxLocals = maxL → meth.locks = false → c.exceptionTable.toList = tableOf hh → Cs D k b s → B s.heap → lv_has ls maxL (lv_args 0 As) →
      W p l e rm s m As.toArray below meth c s.heap [] 0 0 (MQ below Qc As.toArray s mc ms free) (F0 m 0 ls [])) : Met l y (WH y cc maxL ret hh) rm (P0 D k b B As) Qc mc ms free := by
  refine va_MetW (cc := cc) (maxL := maxL) (ret := ret) (hh := hh) hy rfl ?_
  intro p e s m args below meth c s₁ B9 hml hv
  obtain ⟨rfl, hC, hB⟩ := hv
  have hts0 := atoms_spec (ws := WH y cc maxL ret hh) B9.pre
  rw [lg_entry_eq]
  exact body p e s m below meth c _ B9.exec B9.bytes B9.returns (fun w h => hts0 w (List.mem_cons_of_mem _ h)) (findClass_of_methodNamed B9.named) hml B9.notSynchronized (vx_table (x := y) B9 (hts0 _ List.mem_cons_self)) hC hB (lv_entry As hlen)
section LY
variable {p : Program} {l : Launch} {e : Env} {R : Room} {s : State} {m : MethodId} {args : Array Value} {below : List Frame} {meth : Method} {c : Code} {H : Heap} {locs : List Loc} {cells slots : Nat} {Q : State → Prop}
variable {cc : ByteArray} {pc : Nat} {ls : Array Slot} {rest st0 : List Value} {D : va_G} {b : Nat} {L : Tg → Prop} {ad : Tg → Nat} {w : Tg → va_E} {H0 : Heap} {k : Nat → ClassId} {a : Array Value} {mc ms : Nat}
/-- behind a call -/
theorem k_r {v : Option Value} (hr : va_Run p l e R s m args below meth c H locs cells slots 0 0 (F0 m pc ls st0) rest (Qr v a) (fun _ => False)) (kk : W p l e R s m args below meth c H locs cells slots Q (F0 m (pc + 3) ls (v.toList ++ rest))) : W p l e R s m args below meth c H locs cells slots Q (F0 m pc ls st0) := by
  intro T hT X
  obtain ⟨v', st₀, t, T', L9, h0, X', hL, e1, -, ⟨hv, hh⟩, st⟩ := hr T hT X
  cases hv
  obtain ⟨t2, a1, b1⟩ := kk T' (by rw [e1, hh, h0]) (Stand.forget X' (fun q h => (hL q h).elim))
  exact ⟨t2, st t2 a1, b1⟩
theorem k_w {v : Option Value} {B : Heap → Prop} (hr : va_Run p l e R s m args below meth c H locs cells slots mc ms (F0 m pc ls st0) rest (Qw b v B a) (Fb b)) (hS : va_S (Fb b) H0 H locs) (kk : ∀ (H1 : Heap) (locs1 : List Loc), B H1 → va_S (Fb b) H0 H1 locs1 → W p l e R s m args below meth c H1 locs1 (cells + mc) (slots + ms) Q (F0 m (pc + 3) ls (v.toList ++ rest))) : W p l e R s m args below meth c H locs cells slots Q (F0 m pc ls st0) := by
  intro T hT X
  obtain ⟨v', st₀, t, T', L9, h0, X', hL, e1, -, ⟨⟨hv, hB⟩, hF⟩, st⟩ := hr T hT X
  cases hv
  obtain ⟨-, -, k3⟩ := vx_keep h0 e1 hS (fun _ _ h => h) (fun _ h => h) hL hF
  obtain ⟨t2, a1, b1⟩ := kk T'.heap (locs ++ L9) (by rw [e1]; exact hB) k3 T' rfl X'
  exact ⟨t2, st t2 a1, b1⟩
theorem k_x {v : Option Value} {P : Prop} {PE : String → Prop} {B BX : Heap → Prop} (hr : vx_Run p l e R s m args below meth c H locs cells slots mc ms (F0 m pc ls st0) rest (Qx b P v B a) (Xx b PE BX) (Fb b)) (hS : va_S (Fb b) H0 H locs)
    (kx : ∀ (E : String) (ce : Cell) (q9 : Addr) (H1 : Heap) (locs1 : List Loc), PE E → BX H1 → va_S (Fb b) H0 H1 locs1 → H1[q9]? = some ce → ce.vm = .none → s.vm.findClass E = some ce.cls → vx_W p l e R s m args below meth c H1 locs1 (cells + mc) (slots + ms) Q (F0 m pc ls rest) q9)
    (kk : P → ∀ (H1 : Heap) (locs1 : List Loc), B H1 → va_S (Fb b) H0 H1 locs1 → W p l e R s m args below meth c H1 locs1 (cells + mc) (slots + ms) Q (F0 m (pc + 3) ls (v.toList ++ rest))) : W p l e R s m args below meth c H locs cells slots Q (F0 m pc ls st0) := by
  intro T hT X
  rcases hr T hT X with ⟨v', st₀, t, T', L9, h0, X', hL, e1, -, ⟨⟨hv, hP, hB⟩, hF⟩, st⟩ | ⟨q, st₀, t, T', L9, E, ce, h0, X', hL, e1, -, ⟨⟨hp, hB⟩, hF⟩, hce, hcv, hcl, st⟩
  · cases hv
    obtain ⟨-, -, k3⟩ := vx_keep h0 e1 hS (fun _ _ h => h) (fun _ h => h) hL hF
    obtain ⟨t2, a1, b1⟩ := kk hP T'.heap (locs ++ L9) (by rw [e1]; exact hB) k3 T' rfl X'
    exact ⟨t2, st t2 a1, b1⟩
  · obtain ⟨-, -, k3⟩ := vx_keep h0 e1 hS (fun _ _ h => h) (fun _ h => h) hL hF
    obtain ⟨t2, a1, b1⟩ := kx E ce q T'.heap (locs ++ L9) hp (by rw [e1]; exact hB) k3 (by rw [e1]; exact hce) hcv hcl T' rfl X'
    exact ⟨t2, st.trans a1, b1⟩
/-- a callee's words are ours -/
theorem cb_of {y : MethodName} {bytes : ByteArray} {maxL : Nat} {ret : Option FieldType} {rm : Room} {own : String} {index n : Nat} (hts : ∀ x ∈ AW, x.before args s = true) (hcode : Cond.code y bytes maxL ret ∈ AW) (hini : Cond.initialized y.cls ∈ AW) (hlink : Cond.methodLink own index y ∈ AW) (hd : Sd y n) (hrc : rm.cells = mc) (hrs : rm.slots = ms) (hR : rm.frames + 1 ≤ R.frames ∧ 8 + (maxL + 11) + rm.locals ≤ R.locals) :
    CallB R s args own index y bytes maxL ret (WS y bytes maxL ret) rm mc ms n := by
  refine ⟨hrc, hrs, hR.1, hR.2, fun x h a' U hW => ?_, List.mem_cons_self, hts _ hcode, hts _ hini, ⟨hd.1, hd.2.1⟩, fun sig h => ?_, hts _ hlink⟩
  · rcases List.mem_cons.mp h with h | h
    · rw [h]
      exact aw_stay hts _ hcode a' U hW
    · exact aw_stay hts _ h a' U hW
  · have h2 := hd.2.2
    rw [h] at h2
    exact (Option.some.inj h2).symm
theorem cn_of {y : MethodName} {bytes : ByteArray} {maxL : Nat} {ret : Option FieldType} {rm : Room} {own host : String} {index n : Nat} (hts : ∀ x ∈ AW, x.before args s = true) (hcode : Cond.code y bytes maxL ret ∈ AW) (hini : Cond.initialized y.cls ∈ AW) (hlink : Cond.methodLinkNest own index y host ∈ AW) (hd : Sd y n) (hrc : rm.cells = mc) (hrs : rm.slots = ms) (hR : rm.frames + 1 ≤ R.frames ∧ 8 + (maxL + 11) + rm.locals ≤ R.locals) :
    va_CN R s args own index y host bytes maxL ret (WS y bytes maxL ret) rm mc ms n := by
  refine ⟨⟨hrc, hrs, hR.1, hR.2, fun x h a' U hW => ?_, List.mem_cons_self⟩, hts _ hcode, hts _ hini, ⟨hd.1, hd.2.1⟩, fun sig h => ?_, hts _ hlink⟩
  · rcases List.mem_cons.mp h with h | h
    · rw [h]
      exact aw_stay hts _ hcode a' U hW
    · exact aw_stay hts _ h a' U hW
  · have h2 := hd.2.2
    rw [h] at h2
    exact (Option.some.inj h2).symm
theorem ch_of {y : MethodName} {bytes : ByteArray} {maxL : Nat} {ret : Option FieldType} {hh : List (Nat × Nat × Nat × Nat)} {rm : Room} {own : String} {index n : Nat} (hts : ∀ x ∈ AW, x.before args s = true) (hcode : Cond.codeWith y bytes maxL ret hh ∈ AW) (hini : Cond.initialized y.cls ∈ AW) (hlink : Cond.methodLink own index y ∈ AW) (hst : Cond.static y ∈ AW) (hd : Sd y n) (hrc : rm.cells = mc) (hrs : rm.slots = ms) (hR : rm.frames + 1 ≤ R.frames ∧ 8 + (maxL + 11) + rm.locals ≤ R.locals) :
    vx_CSW R s args own index y bytes maxL ret hh (WH y bytes maxL ret hh) rm mc ms n := by
  refine ⟨⟨hrc, hrs, hR.1, hR.2, fun x h a' U hW => ?_, List.mem_cons_self⟩, hts _ hcode, hts _ hini, ⟨hd.1, hd.2.1⟩, fun sig h => ?_, hts _ hlink, hts _ hst⟩
  · rcases List.mem_cons.mp h with h | h
    · rw [h]
      exact aw_stay hts _ hcode a' U hW
    · exact aw_stay hts _ h a' U hW
  · have h2 := hd.2.2
    rw [h] at h2
    exact (Option.some.inj h2).symm
/-- ends -/
theorem e_i {v z : Int32} (hx : p.tables.exec = Jvm.exec) (hb : c.code = cc) (hr : meth.sig.returnType = some .int) (hlocks : meth.locks = false) (hv : v = z) (hdg : decode cc pc = .ok (.ireturn, 1)) : W p l e R s m args below meth c s.heap [] 0 0 (MQ below (Qr (some (.int z))) args s 0 0 (fun _ => False)) (F0 m pc ls [.int v]) := by
  subst hv
  exact W.iret hx hb hr (fun t ht _ => ⟨rfl, ht⟩) (fun q hq => absurd hq List.not_mem_nil) hdg hlocks
theorem e_z {v z : Int32} (hx : p.tables.exec = Jvm.exec) (hb : c.code = cc) (hr : meth.sig.returnType = some .boolean) (hlocks : meth.locks = false) (hv : v = z) (hn : narrow .boolean (.int v) = .int v) (hdg : decode cc pc = .ok (.ireturn, 1)) : W p l e R s m args below meth c s.heap [] 0 0 (MQ below (Qr (some (.int z))) args s 0 0 (fun _ => False)) (F0 m pc ls [.int v]) := by
  subst hv
  exact W.zret hx hb hr hn (fun t ht _ => ⟨rfl, ht⟩) (fun q hq => absurd hq List.not_mem_nil) hdg hlocks
theorem e_a {v z : Value} {C : String} (hx : p.tables.exec = Jvm.exec) (hb : c.code = cc) (hr : meth.sig.returnType = some (.object C)) (hlocks : meth.locks = false) (hv : v = z) (hn : v = .null ∨ ∃ a, v = .ref a) (hdg : decode cc pc = .ok (.areturn, 1)) : W p l e R s m args below meth c s.heap [] 0 0 (MQ below (Qr (some z)) args s 0 0 (fun _ => False)) (F0 m pc ls [v]) := by
  subst hv
  exact W.aret hx hb hr (Or.inl ⟨_, rfl⟩) hn (fun t ht _ => ⟨rfl, ht⟩) (fun q hq => absurd hq List.not_mem_nil) hdg hlocks
theorem e_wv {B : Heap → Prop} (hx : p.tables.exec = Jvm.exec) (hb : c.code = cc) (hr : meth.sig.returnType = none) (hlocks : meth.locks = false) (hS : va_S (Fb b) s.heap H locs) (hB : B H) (hc : cells ≤ mc) (hs : slots ≤ ms) (hdg : decode cc pc = .ok (.return_, 1)) : W p l e R s m args below meth c H locs cells slots (MQ below (Qw b none B) args s mc ms (Fb b)) (F0 m pc ls []) :=
  W.widen hc hs (W.vret hx hb hr (fun t ht _ => ⟨⟨rfl, by rw [ht]; exact hB⟩, hS.F ht⟩) hS.2.2 hdg hlocks)
theorem e_wi {v z : Int32} {B : Heap → Prop} (hx : p.tables.exec = Jvm.exec) (hb : c.code = cc) (hr : meth.sig.returnType = some .int) (hlocks : meth.locks = false) (hv : v = z) (hS : va_S (Fb b) s.heap H locs) (hB : B H) (hc : cells ≤ mc) (hs : slots ≤ ms) (hdg : decode cc pc = .ok (.ireturn, 1)) : W p l e R s m args below meth c H locs cells slots (MQ below (Qw b (some (.int z)) B) args s mc ms (Fb b)) (F0 m pc ls [.int v]) := by
  subst hv
  exact W.widen hc hs (W.iret hx hb hr (fun t ht _ => ⟨⟨rfl, by rw [ht]; exact hB⟩, hS.F ht⟩) hS.2.2 hdg hlocks)
theorem e_xv {P : Prop} {B : Heap → Prop} {XC : String → State → State → Prop} (hx : p.tables.exec = Jvm.exec) (hb : c.code = cc) (hr : meth.sig.returnType = none) (hlocks : meth.locks = false) (hP : P) (hS : va_S (Fb b) s.heap H locs) (hB : B H) (hc : cells ≤ mc) (hs : slots ≤ ms) (hdg : decode cc pc = .ok (.return_, 1)) : W p l e R s m args below meth c H locs cells slots (vx_MQ below (Qx b P none B) XC args s mc ms (Fb b)) (F0 m pc ls []) :=
  W.widen hc hs (vx_ret (W.vret hx hb hr (fun t ht _ => ⟨⟨rfl, hP, by rw [ht]; exact hB⟩, hS.F ht⟩) hS.2.2 hdg hlocks))
theorem e_xi {P : Prop} {v z : Int32} {B : Heap → Prop} {XC : String → State → State → Prop} (hx : p.tables.exec = Jvm.exec) (hb : c.code = cc) (hr : meth.sig.returnType = some .int) (hlocks : meth.locks = false) (hP : P) (hv : v = z) (hS : va_S (Fb b) s.heap H locs) (hB : B H) (hc : cells ≤ mc) (hs : slots ≤ ms) (hdg : decode cc pc = .ok (.ireturn, 1)) : W p l e R s m args below meth c H locs cells slots (vx_MQ below (Qx b P (some (.int z)) B) XC args s mc ms (Fb b)) (F0 m pc ls [.int v]) := by
  subst hv
  exact W.widen hc hs (vx_ret (W.iret hx hb hr (fun t ht _ => ⟨⟨rfl, hP, by rw [ht]; exact hB⟩, hS.F ht⟩) hS.2.2 hdg hlocks))
theorem e_xf {P : Prop} {v z : UInt32} {B : Heap → Prop} {XC : String → State → State → Prop} (hx : p.tables.exec = Jvm.exec) (hb : c.code = cc) (hr : meth.sig.returnType = some .float) (hlocks : meth.locks = false) (hP : P) (hv : v = z) (hS : va_S (Fb b) s.heap H locs) (hB : B H) (hc : cells ≤ mc) (hs : slots ≤ ms) (hdg : decode cc pc = .ok (.freturn, 1)) : W p l e R s m args below meth c H locs cells slots (vx_MQ below (Qx b P (some (.float z)) B) XC args s mc ms (Fb b)) (F0 m pc ls [.float v]) := by
  subst hv
  exact W.widen hc hs (vx_ret (W.fret hx hb hr (fun t ht _ => ⟨⟨rfl, hP, by rw [ht]; exact hB⟩, hS.F ht⟩) hS.2.2 hdg hlocks))
theorem e_wf {v z : UInt32} {B : Heap → Prop} (hx : p.tables.exec = Jvm.exec) (hb : c.code = cc) (hr : meth.sig.returnType = some .float) (hlocks : meth.locks = false) (hv : v = z) (hS : va_S (Fb b) s.heap H locs) (hB : B H) (hc : cells ≤ mc) (hs : slots ≤ ms) (hdg : decode cc pc = .ok (.freturn, 1)) : W p l e R s m args below meth c H locs cells slots (MQ below (Qw b (some (.float z)) B) args s mc ms (Fb b)) (F0 m pc ls [.float v]) := by
  subst hv
  exact W.widen hc hs (W.fret hx hb hr (fun t ht _ => ⟨⟨rfl, by rw [ht]; exact hB⟩, hS.F ht⟩) hS.2.2 hdg hlocks)
/-- fields -/
theorem r_get (hx : p.tables.exec = Jvm.exec) (hb : c.code = cc) (hts : ∀ x ∈ AW, x.before args s = true) {ow : String} (hown : s.vm.findClass ow = some m.cls) (hC : Cs D k b s) (hH : Hp D b L ad w H) (t : Tg) (hL : L t) {C : String} {T : u_T} {N ci : Nat} {fs : List Value} (he : w t = .inr (ci, fs)) (hc : vwCl[ci]? = some (C, T, N)) (hin : ∀ x ∈ u_ws C T N, x ∈ AW) (j : Nat) (hj : j < N) {index : Nat} (hlink : Cond.fieldLink ow index (T j).1 (T j).2.1 (T j).2.2.1 ∈ AW) {v : Value} (hv : fs[j]? = some v) (hdg : decode cc pc = .ok (.getfield index, 3))
    (kk : W p l e R s m args below meth c H locs cells slots Q (F0 m (pc + 3) ls (v :: rest))) : W p l e R s m args below meth c H locs cells slots Q (F0 m pc ls (.ref (ad t) :: rest)) :=
  va_get hx hb hts hin hown hC.1 (hH.at t hL) 0 (by rw [he]; rfl) hc j hj (hts _ hlink) (fun _ h => h) hv hdg kk
theorem r_getN (hx : p.tables.exec = Jvm.exec) (hb : c.code = cc) (hts : ∀ x ∈ AW, x.before args s = true) {ow : String} (hown : s.vm.findClass ow = some m.cls) (hC : Cs D k b s) (hH : Hp D b L ad w H) (t : Tg) (hL : L t) {C : String} {T : u_T} {N ci : Nat} {fs : List Value} (he : w t = .inr (ci, fs)) (hc : vwCl[ci]? = some (C, T, N)) (hin : ∀ x ∈ u_ws C T N, x ∈ AW) (j : Nat) (hj : j < N) {index : Nat} {host : String} (hlink : Cond.fieldLinkNest ow index (T j).1 (T j).2.1 (T j).2.2.1 host ∈ AW) {v : Value} (hv : fs[j]? = some v) (hdg : decode cc pc = .ok (.getfield index, 3))
    (kk : W p l e R s m args below meth c H locs cells slots Q (F0 m (pc + 3) ls (v :: rest))) : W p l e R s m args below meth c H locs cells slots Q (F0 m pc ls (.ref (ad t) :: rest)) :=
  va_getN hx hb hts hin hown hC.1 (hH.at t hL) 0 (by rw [he]; rfl) hc j hj (hts _ hlink) (fun _ h => h) hv hdg kk
theorem r_put (hx : p.tables.exec = Jvm.exec) (hb : c.code = cc) (hts : ∀ x ∈ AW, x.before args s = true) {ow : String} (hown : s.vm.findClass ow = some m.cls) (hC : Cs D k b s) (hH : Hp D b L ad w H) (hS0 : va_S (Fb b) H0 H locs) (t : Tg) (hL : L t) {C : String} {T : u_T} {N ci : Nat} {fs : List Value} (he : w t = .inr (ci, fs)) (hc : vwCl[ci]? = some (C, T, N)) (hin : ∀ x ∈ u_ws C T N, x ∈ AW) (ty0 : Nat → FieldType) (hty : ∀ k, k < N → parseFieldDescriptor (T k).2.2.1 = some (ty0 k)) (hnm : ∀ a, a < N → ∀ b, b < N → a ≠ b → (T a).2.1 ≠ (T b).2.1) (j : Nat) (hj : j < N) (hfin : (T j).2.2.2 = false) {index : Nat} (hlink : Cond.fieldLink ow index (T j).1 (T j).2.1 (T j).2.2.1 ∈ AW) {v : Value} (hn : narrow (ty0 j) v = v) (hfit : fits (ty0 j) v = true) (hl : j < fs.length) (hdg : decode cc pc = .ok (.putfield index, 3))
    (kk : ∀ (H1 : Heap) (locs1 : List Loc), Hp D b L ad (uE w t (.inr (ci, fs.set j v))) H1 → va_S (Fb b) H0 H1 locs1 → W p l e R s m args below meth c H1 locs1 cells slots Q (F0 m (pc + 3) ls rest)) : W p l e R s m args below meth c H locs cells slots Q (F0 m pc ls (v :: .ref (ad t) :: rest)) := by
  have hap := va_apart (own := ow) hts hin ty0 hty hnm hC.1 hc
  have hat := hH.1 t hL
  rw [he] at hat
  obtain ⟨r, h1, cell, q1, q2, q3, q4⟩ := hat
  have hr : r = (C, T, N) := Option.some.inj (h1.symm.trans hc)
  subst hr
  obtain ⟨hS, hfc, kC, hkC, hkind⟩ := hC.1.1 ci _ hc
  obtain ⟨cf, kf, fi, f, hi, hsl⟩ := hS j hj
  have hlay := hts _ (hin _ (u_in_lay hj))
  unfold u_lay at hlay
  rw [if_neg (by rw [hfin]; decide)] at hlay
  have hst := (u_facts hfc hkC (u_lays hts hin hj) hi).1
  have h6 := u_store hfc hkC hkind hlay hi (hty j hj) hn hfit
  refine W.putK hx hb (f := f) ⟨hown, hts _ hlink, ⟨_, _, _, hi⟩, hst⟩ (by rw [q2]; exact h6) q1 q3 (by rw [hsl]; exact k2_hasslot (q4 j hj)) rfl rfl hdg fun H' e1 e2 e3 => ?_
  rw [hsl] at e1 ⊢
  exact kk H' _ (hH.set hL ⟨_, hc, t_OB.to (V := updV (vp_V fs) j v) ⟨_, e1, q2, q3, t_set q4 hap hj v⟩ (fun z _ => vp_updV_set hl v z)⟩ e2 e3) (hS0.put e2 e3 (hH.2.2.1 t hL))
theorem r_putN (hx : p.tables.exec = Jvm.exec) (hb : c.code = cc) (hts : ∀ x ∈ AW, x.before args s = true) {ow : String} (hown : s.vm.findClass ow = some m.cls) (hC : Cs D k b s) (hH : Hp D b L ad w H) (hS0 : va_S (Fb b) H0 H locs) (t : Tg) (hL : L t) {C : String} {T : u_T} {N ci : Nat} {fs : List Value} (he : w t = .inr (ci, fs)) (hc : vwCl[ci]? = some (C, T, N)) (hin : ∀ x ∈ u_ws C T N, x ∈ AW) (ty0 : Nat → FieldType) (hty : ∀ k, k < N → parseFieldDescriptor (T k).2.2.1 = some (ty0 k)) (hnm : ∀ a, a < N → ∀ b, b < N → a ≠ b → (T a).2.1 ≠ (T b).2.1) (j : Nat) (hj : j < N) (hfin : (T j).2.2.2 = false) {index : Nat} {host : String} (hlink : Cond.fieldLinkNest ow index (T j).1 (T j).2.1 (T j).2.2.1 host ∈ AW) {v : Value} (hn : narrow (ty0 j) v = v) (hfit : fits (ty0 j) v = true) (hl : j < fs.length) (hdg : decode cc pc = .ok (.putfield index, 3))
    (kk : ∀ (H1 : Heap) (locs1 : List Loc), Hp D b L ad (uE w t (.inr (ci, fs.set j v))) H1 → va_S (Fb b) H0 H1 locs1 → W p l e R s m args below meth c H1 locs1 cells slots Q (F0 m (pc + 3) ls rest)) : W p l e R s m args below meth c H locs cells slots Q (F0 m pc ls (v :: .ref (ad t) :: rest)) := by
  have hap := va_apart (own := ow) hts hin ty0 hty hnm hC.1 hc
  have hat := hH.1 t hL
  rw [he] at hat
  obtain ⟨r, h1, cell, q1, q2, q3, q4⟩ := hat
  have hr : r = (C, T, N) := Option.some.inj (h1.symm.trans hc)
  subst hr
  obtain ⟨hS, hfc, kC, hkC, hkind⟩ := hC.1.1 ci _ hc
  obtain ⟨cf, kf, fi, f, hi, hsl⟩ := hS j hj
  have hlay := hts _ (hin _ (u_in_lay hj))
  unfold u_lay at hlay
  rw [if_neg (by rw [hfin]; decide)] at hlay
  have hst := (u_facts hfc hkC (u_lays hts hin hj) hi).1
  have h6 := u_store hfc hkC hkind hlay hi (hty j hj) hn hfit
  refine va_WputK hx hb (f := f) hown (hts _ hlink) hi hst (by rw [q2]; exact h6) q1 q3 (by rw [hsl]; exact k2_hasslot (q4 j hj)) rfl rfl hdg fun H' e1 e2 e3 => ?_
  rw [hsl] at e1 ⊢
  exact kk H' _ (hH.set hL ⟨_, hc, t_OB.to (V := updV (vp_V fs) j v) ⟨_, e1, q2, q3, t_set q4 hap hj v⟩ (fun z _ => vp_updV_set hl v z)⟩ e2 e3) (hS0.put e2 e3 (hH.2.2.1 t hL))
theorem r_putF (hx : p.tables.exec = Jvm.exec) (hb : c.code = cc) (hts : ∀ x ∈ AW, x.before args s = true) {ow : String} (hown : s.vm.findClass ow = some m.cls) (hnm0 : meth.name = "<init>") (hC : Cs D k b s) (hH : Hp D b L ad w H) (hS0 : va_S (Fb b) H0 H locs) (t : Tg) (hL : L t) {C : String} {T : u_T} {N ci : Nat} {fs : List Value} (he : w t = .inr (ci, fs)) (hc : vwCl[ci]? = some (C, T, N)) (hin : ∀ x ∈ u_ws C T N, x ∈ AW) (ty0 : Nat → FieldType) (hty : ∀ k, k < N → parseFieldDescriptor (T k).2.2.1 = some (ty0 k)) (hnm : ∀ a, a < N → ∀ b, b < N → a ≠ b → (T a).2.1 ≠ (T b).2.1) (j : Nat) (hj : j < N) (hfin : (T j).2.2.2 = true) (hdecl : (T j).1 = ow) {index : Nat} (hlink : Cond.fieldLink ow index (T j).1 (T j).2.1 (T j).2.2.1 ∈ AW) {v : Value} (hn : narrow (ty0 j) v = v) (hfit : fits (ty0 j) v = true) (hl : j < fs.length) (hdg : decode cc pc = .ok (.putfield index, 3))
    (kk : ∀ (H1 : Heap) (locs1 : List Loc), Hp D b L ad (uE w t (.inr (ci, fs.set j v))) H1 → va_S (Fb b) H0 H1 locs1 → W p l e R s m args below meth c H1 locs1 cells slots Q (F0 m (pc + 3) ls rest)) : W p l e R s m args below meth c H locs cells slots Q (F0 m pc ls (v :: .ref (ad t) :: rest)) := by
  have hap := va_apart (own := ow) hts hin ty0 hty hnm hC.1 hc
  have hat := hH.1 t hL
  rw [he] at hat
  obtain ⟨r, h1, cell, q1, q2, q3, q4⟩ := hat
  have hr : r = (C, T, N) := Option.some.inj (h1.symm.trans hc)
  subst hr
  obtain ⟨hS, hfc, kC, hkC, hkind⟩ := hC.1.1 ci _ hc
  obtain ⟨cf, kf, fi, f, hi, hsl⟩ := hS j hj
  have hlay := hts _ (hin _ (u_in_lay hj))
  unfold u_lay at hlay
  rw [if_pos hfin] at hlay
  have hst := (u_facts hfc hkC (u_lays hts hin hj) hi).1
  have hcf : m.cls = cf := by
    obtain ⟨_, _, c', _, _, _, -, -, hf', -, -, -, hown2, -⟩ := Cond.laysFinal_spec hlay
    have e1 : c' = cf := by have := hi.symm.trans hf'; simp at this; exact this.1.symm
    rw [hdecl] at hown2
    rw [← e1]; exact Option.some.inj (hown.symm.trans hown2)
  have h6 := u_fits hfc hkC hkind (Or.inr hlay) hi (hty j hj) hn hfit
  refine W.putFinK hx hb hown (hts _ hlink) hi hst hcf hnm0 (by rw [q2]; exact h6) q1 q3 (by rw [hsl]; exact k2_hasslot (q4 j hj)) rfl rfl hdg fun H' e1 e2 e3 => ?_
  rw [hsl] at e1 ⊢
  exact kk H' _ (hH.set hL ⟨_, hc, t_OB.to (V := updV (vp_V fs) j v) ⟨_, e1, q2, q3, t_set q4 hap hj v⟩ (fun z _ => vp_updV_set hl v z)⟩ e2 e3) (hS0.put e2 e3 (hH.2.2.1 t hL))
/-- arrays -/
theorem r_iald (hx : p.tables.exec = Jvm.exec) (hb : c.code = cc) (hC : Cs D k b s) (hH : Hp D b L ad w H) (t : Tg) (hL : L t) {n : Nat} {f : Nat → Int32} (he : w t = .inl (k 0, n, .inl f)) {i : Int32} (hin : vp_in i n) (hdg : decode cc pc = .ok (.iaload, 1))
    (kk : W p l e R s m args below meth c H locs cells slots Q (F0 m (pc + 1) ls (.int (f i.toNatClampNeg) :: rest))) : W p l e R s m args below meth c H locs cells slots Q (F0 m pc ls (.int i :: .ref (ad t) :: rest)) :=
  va_iald hx hb hC.1 (hH.at t hL) 0 0 (by rw [he]; rfl) rfl hin hdg kk
theorem r_zald (hx : p.tables.exec = Jvm.exec) (hb : c.code = cc) (hC : Cs D k b s) (hH : Hp D b L ad w H) (t : Tg) (hL : L t) {n : Nat} {f : Nat → Int32} (he : w t = .inl (k 1, n, .inl f)) {i : Int32} (hin : vp_in i n) (hdg : decode cc pc = .ok (.baload, 1))
    (kk : W p l e R s m args below meth c H locs cells slots Q (F0 m (pc + 1) ls (.int (f i.toNatClampNeg) :: rest))) : W p l e R s m args below meth c H locs cells slots Q (F0 m pc ls (.int i :: .ref (ad t) :: rest)) :=
  va_zald hx hb hC.1 (hH.at t hL) 0 1 (by rw [he]; rfl) rfl hin hdg kk
theorem r_lald (hx : p.tables.exec = Jvm.exec) (hb : c.code = cc) (hC : Cs D k b s) (hH : Hp D b L ad w H) (t : Tg) (hL : L t) {n : Nat} {f : Nat → Int64} (he : w t = .inl (k 2, n, .inr (.inl f))) {i : Int32} (hin : vp_in i n) (hdg : decode cc pc = .ok (.laload, 1))
    (kk : W p l e R s m args below meth c H locs cells slots Q (F0 m (pc + 1) ls (.long (f i.toNatClampNeg) :: rest))) : W p l e R s m args below meth c H locs cells slots Q (F0 m pc ls (.int i :: .ref (ad t) :: rest)) :=
  va_lald hx hb hC.1 (hH.at t hL) 0 2 (by rw [he]; rfl) rfl hin hdg kk
theorem r_dald (hx : p.tables.exec = Jvm.exec) (hb : c.code = cc) (hC : Cs D k b s) (hH : Hp D b L ad w H) (t : Tg) (hL : L t) {n : Nat} {f : Nat → UInt64} (he : w t = .inl (k 3, n, .inr (.inr (.inr (.inl f))))) {i : Int32} (hin : vp_in i n) (hdg : decode cc pc = .ok (.daload, 1))
    (kk : W p l e R s m args below meth c H locs cells slots Q (F0 m (pc + 1) ls (.double (f i.toNatClampNeg) :: rest))) : W p l e R s m args below meth c H locs cells slots Q (F0 m pc ls (.int i :: .ref (ad t) :: rest)) :=
  va_dald hx hb hC.1 (hH.at t hL) 0 3 (by rw [he]; rfl) rfl hin hdg kk
theorem r_aldM (hx : p.tables.exec = Jvm.exec) (hb : c.code = cc) (hC : Cs D k b s) (hH : Hp D b L ad w H) (t : Tg) (hL : L t) {n : Nat} {f : Nat → Option Nat} (he : w t = .inl (k 4, n, .inr (.inr (.inr (.inr f))))) {i : Int32} (hin : vp_in i n) (hdg : decode cc pc = .ok (.aaload, 1))
    (kk : W p l e R s m args below meth c H locs cells slots Q (F0 m (pc + 1) ls (va_rf (f i.toNatClampNeg) :: rest))) : W p l e R s m args below meth c H locs cells slots Q (F0 m pc ls (.int i :: .ref (ad t) :: rest)) :=
  va_aldq hx hb hC.1 (hH.at t hL) 0 4 (by rw [he]; rfl) rfl hin hdg kk
theorem r_aldP (hx : p.tables.exec = Jvm.exec) (hb : c.code = cc) (hC : Cs D k b s) (hH : Hp D b L ad w H) (t : Tg) (hL : L t) {n : Nat} {f : Nat → Option Nat} (he : w t = .inl (k 5, n, .inr (.inr (.inr (.inr f))))) {i : Int32} (hin : vp_in i n) (hdg : decode cc pc = .ok (.aaload, 1))
    (kk : W p l e R s m args below meth c H locs cells slots Q (F0 m (pc + 1) ls (va_rf (f i.toNatClampNeg) :: rest))) : W p l e R s m args below meth c H locs cells slots Q (F0 m pc ls (.int i :: .ref (ad t) :: rest)) :=
  va_aldq hx hb hC.1 (hH.at t hL) 0 5 (by rw [he]; rfl) rfl hin hdg kk
theorem r_alen (hx : p.tables.exec = Jvm.exec) (hb : c.code = cc) (hC : Cs D k b s) (hH : Hp D b L ad w H) (t : Tg) (hL : L t) {cA : ClassId} {x : vp_A} (he : w t = .inl (cA, x)) (t0 : Nat) {ty : FieldType} (ht : (Tys k)[t0]? = some (cA, ty)) {v : Int32} (hv : Int32.ofNat x.1 = v) (hdg : decode cc pc = .ok (.arraylength, 1))
    (kk : W p l e R s m args below meth c H locs cells slots Q (F0 m (pc + 1) ls (.int v :: rest))) : W p l e R s m args below meth c H locs cells slots Q (F0 m pc ls (.ref (ad t) :: rest)) :=
  va_alen hx hb hC.1 (hH.at t hL) 0 t0 (by rw [he]; rfl) ht hv hdg kk
theorem cell_upd {α : Type} (mk : α → Value) {cA : ClassId} {n q : Nat} {f g : Nat → α} {x : α} (hs : g q = x) (hn : ∀ j, j ≠ q → g j = f j) : (arrV cA n (fun j => mk (f j))).setSlot q (mk x) = arrV cA n (fun j => mk (g j)) := by
  rw [arrV_store]
  congr 1
  funext j
  by_cases h : j = q
  · subst h
    simp [updV, hs]
  · simp [updV, h, hn j h]
theorem r_iast (hx : p.tables.exec = Jvm.exec) (hb : c.code = cc) (hC : Cs D k b s) (hH : Hp D b L ad w H) (hS : va_S (Fb b) H0 H locs) (t : Tg) (hL : L t) {n : Nat} {f : Nat → Int32} (he : w t = .inl (k 0, n, .inl f)) {i x : Int32} (hin : vp_in i n) (hdg : decode cc pc = .ok (.iastore, 1))
    (kk : ∀ (H1 : Heap) (locs1 : List Loc), Hp D b L ad (uE w t (.inl (k 0, n, .inl (upd f i.toNatClampNeg x)))) H1 → va_S (Fb b) H0 H1 locs1 → W p l e R s m args below meth c H1 locs1 cells slots Q (F0 m (pc + 1) ls rest)) : W p l e R s m args below meth c H locs cells slots Q (F0 m pc ls (.int x :: .int i :: .ref (ad t) :: rest)) := by
  have hat := hH.1 t hL
  rw [he] at hat
  refine W.iast hx hb hat ((hC.1.2 0 _ rfl).1 n (fun j => .int (f j))) (fun q => by cases q) (by show ¬ (i < 0 ∨ (arrV _ _ _).slots.size ≤ _); rw [arrV_size]; exact hin) rfl rfl hdg fun H1 e1 z oq => ?_
  refine kk H1 _ (hH.set hL ?_ z oq) (hS.put z oq (hH.2.2.1 t hL))
  show H1[ad t]? = some (vp_cell _ _)
  rw [e1]
  exact congrArg some (cell_upd (fun y => Value.int y) (by simp [upd]) (fun j h => by simp [upd, h]))
theorem r_zast (hx : p.tables.exec = Jvm.exec) (hb : c.code = cc) (hC : Cs D k b s) (hH : Hp D b L ad w H) (hS : va_S (Fb b) H0 H locs) (t : Tg) (hL : L t) {n : Nat} {f : Nat → Int32} (he : w t = .inl (k 1, n, .inl f)) {i x : Int32} (hin : vp_in i n) (hn : narrow .boolean (.int x) = .int x) (hdg : decode cc pc = .ok (.bastore, 1))
    (kk : ∀ (H1 : Heap) (locs1 : List Loc), Hp D b L ad (uE w t (.inl (k 1, n, .inl (upd f i.toNatClampNeg x)))) H1 → va_S (Fb b) H0 H1 locs1 → W p l e R s m args below meth c H1 locs1 cells slots Q (F0 m (pc + 1) ls rest)) : W p l e R s m args below meth c H locs cells slots Q (F0 m pc ls (.int x :: .int i :: .ref (ad t) :: rest)) := by
  have hat := hH.1 t hL
  rw [he] at hat
  refine W.zast hx hb hat ((hC.1.2 1 _ rfl).1 n (fun j => .int (f j))) (fun q => by cases q) (by show ¬ (i < 0 ∨ (arrV _ _ _).slots.size ≤ _); rw [arrV_size]; exact hin) rfl rfl hdg fun H1 e1 z oq => ?_
  refine kk H1 _ (hH.set hL ?_ z oq) (hS.put z oq (hH.2.2.1 t hL))
  show H1[ad t]? = some (vp_cell _ _)
  rw [e1, hn]
  exact congrArg some (cell_upd (fun y => Value.int y) (by simp [upd]) (fun j h => by simp [upd, h]))
theorem r_last (hx : p.tables.exec = Jvm.exec) (hb : c.code = cc) (hC : Cs D k b s) (hH : Hp D b L ad w H) (hS : va_S (Fb b) H0 H locs) (t : Tg) (hL : L t) {n : Nat} {f : Nat → Int64} (he : w t = .inl (k 2, n, .inr (.inl f))) {i : Int32} {x : Int64} (hin : vp_in i n) (hdg : decode cc pc = .ok (.lastore, 1))
    (kk : ∀ (H1 : Heap) (locs1 : List Loc), Hp D b L ad (uE w t (.inl (k 2, n, .inr (.inl (vp_updL f i.toNatClampNeg x))))) H1 → va_S (Fb b) H0 H1 locs1 → W p l e R s m args below meth c H1 locs1 cells slots Q (F0 m (pc + 1) ls rest)) : W p l e R s m args below meth c H locs cells slots Q (F0 m pc ls (.long x :: .int i :: .ref (ad t) :: rest)) := by
  have hat := hH.1 t hL
  rw [he] at hat
  refine W.last hx hb hat ((hC.1.2 2 _ rfl).1 n (fun j => .long (f j))) (fun q => by cases q) (by show ¬ (i < 0 ∨ (arrV _ _ _).slots.size ≤ _); rw [arrV_size]; exact hin) rfl rfl hdg fun H1 e1 z oq => ?_
  refine kk H1 _ (hH.set hL ?_ z oq) (hS.put z oq (hH.2.2.1 t hL))
  show H1[ad t]? = some (vp_cell _ _)
  rw [e1]
  exact congrArg some (cell_upd (fun y => Value.long y) (by simp [vp_updL]) (fun j h => by simp [vp_updL, h]))
theorem r_dast (hx : p.tables.exec = Jvm.exec) (hb : c.code = cc) (hC : Cs D k b s) (hH : Hp D b L ad w H) (hS : va_S (Fb b) H0 H locs) (t : Tg) (hL : L t) {n : Nat} {f : Nat → UInt64} (he : w t = .inl (k 3, n, .inr (.inr (.inr (.inl f))))) {i : Int32} {x : UInt64} (hin : vp_in i n) (hdg : decode cc pc = .ok (.dastore, 1))
    (kk : ∀ (H1 : Heap) (locs1 : List Loc), Hp D b L ad (uE w t (.inl (k 3, n, .inr (.inr (.inr (.inl (vf_upd f i.toNatClampNeg x))))))) H1 → va_S (Fb b) H0 H1 locs1 → W p l e R s m args below meth c H1 locs1 cells slots Q (F0 m (pc + 1) ls rest)) : W p l e R s m args below meth c H locs cells slots Q (F0 m pc ls (.double x :: .int i :: .ref (ad t) :: rest)) := by
  have hat := hH.1 t hL
  rw [he] at hat
  refine W.dast hx hb hat ((hC.1.2 3 _ rfl).1 n (fun j => .double (f j))) (fun q => by cases q) (by show ¬ (i < 0 ∨ (arrV _ _ _).slots.size ≤ _); rw [arrV_size]; exact hin) rfl rfl hdg fun H1 e1 z oq => ?_
  refine kk H1 _ (hH.set hL ?_ z oq) (hS.put z oq (hH.2.2.1 t hL))
  show H1[ad t]? = some (vp_cell _ _)
  rw [e1]
  exact congrArg some (cell_upd (fun y => Value.double y) (by simp [vf_upd]) (fun j h => by simp [vf_upd, h]))
/-- a reference into an array of masts or phones (t0: its place in Tys) -/
theorem r_aast (hx : p.tables.exec = Jvm.exec) (hb : c.code = cc) (hC : Cs D k b s) (hH : Hp D b L ad w H) (hS : va_S (Fb b) H0 H locs) (t : Tg) (hL : L t) (t0 : Nat) {r : vw_C} (ht : (Tys k)[t0]? = some (k t0, .object r.1)) {n : Nat} {f : Nat → Option Nat} (he : w t = .inl (k t0, n, .inr (.inr (.inr (.inr f))))) (u : Tg) (hu : L u) {ci : Nat} {vs : List Value} (hv : w u = .inr (ci, vs)) (hc : vwCl[ci]? = some r) {i : Int32} (hin : vp_in i n) (hdg : decode cc pc = .ok (.aastore, 1))
    (kk : ∀ (H1 : Heap) (locs1 : List Loc), Hp D b L ad (uE w t (.inl (k t0, n, .inr (.inr (.inr (.inr (va_up f i.toNatClampNeg (some (ad u)))))))) ) H1 → va_S (Fb b) H0 H1 locs1 → W p l e R s m args below meth c H1 locs1 cells slots Q (F0 m (pc + 1) ls rest)) : W p l e R s m args below meth c H locs cells slots Q (F0 m pc ls (.ref (ad u) :: .int i :: .ref (ad t) :: rest)) := by
  have hat := hH.1 t hL
  rw [he] at hat
  have hau := hH.1 u hu
  rw [hv] at hau
  have hlt : i.toNatClampNeg < n := Nat.not_le.mp fun q => hin (Or.inr q)
  have h0 : ¬ i < 0 := fun q => hin (Or.inl q)
  obtain ⟨r', hr', cellV, g1, g2, g3, -⟩ := hau
  have hcls := (hC.1.1 ci r hc).2
  obtain ⟨kA, comp, k1, k2, k3, -⟩ := (hC.1.2 t0 _ ht).2
  have hcomp : comp = D.1 ci := Option.some.inj (k3.symm.trans hcls.1)
  subst hcomp
  obtain ⟨kC, hkC, -⟩ := hcls.2
  refine W.aast hx hb hat (fun q h => by cases h) (fun h => by cases h) k1 k2 rfl hkC ⟨h0, by show _ < (arrV _ _ _).slots.size; rw [arrV_size]; exact hlt⟩ g1 (fun q h => by rw [g3] at h; cases h) (by rw [g2]; exact hkC) (by rw [g2]; exact va_assign hcls) rfl rfl hdg fun H1 e1 z oq => ?_
  refine kk H1 _ (hH.set hL ?_ z oq) (hS.put z oq (hH.2.2.1 t hL))
  show H1[ad t]? = some (vp_cell _ _)
  rw [e1]
  exact congrArg some (cell_upd (x := some (ad u)) va_rf (by simp [va_up]) (fun j h => by simp [va_up, h]))
/-- making: an object, an array of numbers, an array of references -/
theorem r_new (hx : p.tables.exec = Jvm.exec) (hb : c.code = cc) (hts : ∀ x ∈ AW, x.before args s = true) {ow : String} (hown : s.vm.findClass ow = some m.cls) (hC : Cs D k b s) (hH : Hp D b L ad w H) (hS : va_S (Fb b) H0 H locs) (hb0 : b ≤ H0.size) (t : Tg) {C : String} {T : u_T} {N ci : Nat} (hc : vwCl[ci]? = some (C, T, N)) (hin : ∀ x ∈ u_ws C T N, x ∈ AW) (ty0 : Nat → FieldType) (hty : ∀ k, k < N → parseFieldDescriptor (T k).2.2.1 = some (ty0 k)) {index : Nat} (hcl : Cond.classLink ow index C ∈ AW) (hinst : Cond.instantiable C N ∈ AW) (hini : Cond.initialized C ∈ AW) (fs : List Value) (hfs : ∀ j, j < N → defaultValue (ty0 j) = vp_V fs j) (hcells : cells + 1 ≤ R.cells) (hslots : slots + N ≤ R.slots) (hdg : decode cc pc = .ok (.new index, 3))
    (kk : ∀ (H1 : Heap), Hp D b (fun u => L u ∨ u = t) (uA ad t H.size) (uE w t (.inr (ci, fs))) H1 → va_S (Fb b) H0 H1 locs → W p l e R s m args below meth c H1 locs (cells + 1) (slots + N) Q (F0 m (pc + 3) ls (.ref H.size :: rest))) : W p l e R s m args below meth c H locs cells slots Q (F0 m pc ls rest) := by
  have hKn := hC.1.1 ci _ hc
  refine W.newcK hx hb hown (hts _ hcl) (hts _ hinst) (hts _ hini) rfl hdg hcells hslots hKn.2.1 rfl fun H1 kC hkC e1 z1 o1 => ?_
  exact kk H1 (hH.push t ⟨_, hc, (u_born ty0 hts hin hKn hkC e1 hty).to hfs⟩ z1 o1) ⟨Nat.le_trans hS.1 (by omega), fun x h1 h2 => (o1 x (Nat.lt_of_lt_of_le h1 hS.1)).trans (hS.2.1 x h1 h2), hS.2.2⟩
theorem r_newa (hx : p.tables.exec = Jvm.exec) (hb : c.code = cc) (hts : ∀ x ∈ AW, x.before args s = true) (hC : Cs D k b s) (hH : Hp D b L ad w H) (hS : va_S (Fb b) H0 H locs) (t : Tg) {atype : ArrayType} (t0 : Nat) (ht : (Tys k)[t0]? = some (k t0, newarray.typeOf atype)) (harr : Cond.arrayClass (newarray.typeOf atype) ∈ AW) (hra : ∀ U cA, va_RA U cA (newarray.typeOf atype) → U.vm.findClass ("[" ++ (newarray.typeOf atype).toString) = some cA) {n : Int32} {N' : Nat} (a0 : vp_A) (ha : ∀ cA : ClassId, vp_cell cA a0 = arrV cA N' (fun _ => defaultValue (newarray.typeOf atype))) (hn : ¬ n < 0) (hN : n.toNatClampNeg = N') (hbytes : N' * componentBytes (newarray.typeOf atype) ≤ 536870912) (hcells : cells + 1 ≤ R.cells) (hslots : slots + N' ≤ R.slots) (hdg : decode cc pc = .ok (.newarray atype, 2))
    (kk : ∀ (H1 : Heap), Hp D b (fun u => L u ∨ u = t) (uA ad t H.size) (uE w t (.inl (k t0, a0))) H1 → va_S (Fb b) H0 H1 locs → W p l e R s m args below meth c H1 locs (cells + 1) (slots + N') Q (F0 m (pc + 2) ls (.ref H.size :: rest))) : W p l e R s m args below meth c H locs cells slots Q (F0 m pc ls (.int n :: rest)) := by
  refine va_newaK hx hb (hts _ harr) rfl hdg rfl hn hN hbytes hcells hslots rfl fun H1 cA e1 z1 o1 hAr hNm => ?_
  have hcA : cA = k t0 := Option.some.inj (hNm.symm.trans (hra _ _ (hC.1.2 t0 _ ht).2))
  subst hcA
  refine kk H1 (hH.push t ?_ z1 o1) ⟨Nat.le_trans hS.1 (by omega), fun x h1 h2 => (o1 x (Nat.lt_of_lt_of_le h1 hS.1)).trans (hS.2.1 x h1 h2), hS.2.2⟩
  show H1[H.size]? = some (vp_cell _ _)
  rw [ha]
  exact e1
theorem r_newq (hx : p.tables.exec = Jvm.exec) (hb : c.code = cc) (hts : ∀ x ∈ AW, x.before args s = true) {ow : String} (hown : s.vm.findClass ow = some m.cls) (hC : Cs D k b s) (hH : Hp D b L ad w H) (hS : va_S (Fb b) H0 H locs) (t : Tg) {C : String} (t0 : Nat) (ht : (Tys k)[t0]? = some (k t0, .object C)) {index : Nat} (hcl : Cond.classLink ow index C ∈ AW) (hover : Cond.arrayOver (.object C) ∈ AW) {n : Int32} {N' : Nat} (hn : ¬ n < 0) (hN : n.toNatClampNeg = N') (hbytes : N' * 4 ≤ 536870912) (hcells : cells + 1 ≤ R.cells) (hslots : slots + N' ≤ R.slots) (hdg : decode cc pc = .ok (.anewarray index, 3))
    (kk : ∀ (H1 : Heap), Hp D b (fun u => L u ∨ u = t) (uA ad t H.size) (uE w t (.inl (k t0, N', .inr (.inr (.inr (.inr (fun _ => none))))))) H1 → va_S (Fb b) H0 H1 locs → W p l e R s m args below meth c H1 locs (cells + 1) (slots + N') Q (F0 m (pc + 3) ls (.ref H.size :: rest))) : W p l e R s m args below meth c H locs cells slots Q (F0 m pc ls (.int n :: rest)) := by
  subst hN
  refine W.anew hx hb hown (hts _ hcl) (hts _ hover) rfl hdg rfl hn hbytes hcells hslots fun cA kA comp f1 f2 f3 f4 => ?_
  generalize hH1 : H.push ({ cls := cA, slots := Array.replicate n.toNatClampNeg .null, vm := .none } : Cell) = H1
  have z1 : H1.size = H.size + 1 := by rw [← hH1, Array.size_push]
  have e1 : H1[H.size]? = some (arrV cA n.toNatClampNeg (fun _ => .null)) := by rw [← hH1, Array.getElem?_push_size, ← arrV_new]
  have o1 : ∀ q : Nat, q < H.size → H1[q]? = H[q]? := fun q hq => by rw [← hH1, Array.getElem?_push, if_neg (Nat.ne_of_lt hq)]
  have hcA : cA = k t0 := by
    obtain ⟨_, _, -, -, -, h4⟩ := (hC.1.2 t0 _ ht).2
    exact Option.some.inj (f1.symm.trans h4)
  subst hcA
  refine kk H1 (hH.push t ?_ z1 o1) ⟨Nat.le_trans hS.1 (by omega), fun x h1 h2 => (o1 x (Nat.lt_of_lt_of_le h1 hS.1)).trans (hS.2.1 x h1 h2), hS.2.2⟩
  show H1[H.size]? = some (vp_cell _ _)
  rw [vp_cell_q]
  exact e1
/-- references that may be null -/
theorem lv_aloadO (hx : p.tables.exec = Jvm.exec) (hb : c.code = cc) {r : Option Nat} {i : Nat} (hdg : decode cc pc = .ok (.aload i, 2)) (hl : ls[i]? = some (.val (va_rf r))) (kk : W p l e R s m args below meth c H locs cells slots Q (F0 m (pc + 2) ls (va_rf r :: rest))) : W p l e R s m args below meth c H locs cells slots Q (F0 m pc ls rest) := by
  cases r with
  | none => exact lv_aloadN hx hb hdg hl kk
  | some a => exact lv_aload hx hb hdg hl kk
theorem lv_aload_nO (hx : p.tables.exec = Jvm.exec) (hb : c.code = cc) {r : Option Nat} {j : Fin 4} {i : Nat} (hdg : decode cc pc = .ok (.aload_n j, 1)) (hi : (j : Nat) = i) (hl : ls[i]? = some (.val (va_rf r))) (kk : W p l e R s m args below meth c H locs cells slots Q (F0 m (pc + 1) ls (va_rf r :: rest))) : W p l e R s m args below meth c H locs cells slots Q (F0 m pc ls rest) := by
  cases r with
  | none => exact lv_aload_nN hx hb hdg hi hl kk
  | some a => exact lv_aload_n hx hb hdg hi hl kk
theorem lv_astoreO (hx : p.tables.exec = Jvm.exec) (hb : c.code = cc) {r : Option Nat} {i nL : Nat} {lv lv' : List (Nat × Value)} (hdg : decode cc pc = .ok (.astore i, 2)) (h : lv_has ls nL lv) (hn : i < nL) (hl : (i, va_rf r) :: lv.filter (fun q => !(q.1 == i) && !(q.1 + 1 == i && q.2.category == 2)) = lv')
    (kk : ∀ ls' : Array Slot, lv_has ls' nL lv' → W p l e R s m args below meth c H locs cells slots Q (F0 m (pc + 2) ls' rest)) : W p l e R s m args below meth c H locs cells slots Q (F0 m pc ls (va_rf r :: rest)) := by
  cases r with
  | none => exact lv_astoreN hx hb hdg h hn hl kk
  | some a => exact lv_astore hx hb hdg h hn hl kk
theorem lv_astore_nO (hx : p.tables.exec = Jvm.exec) (hb : c.code = cc) {r : Option Nat} {j : Fin 4} {i nL : Nat} {lv lv' : List (Nat × Value)} (hdg : decode cc pc = .ok (.astore_n j, 1)) (hi : (j : Nat) = i) (h : lv_has ls nL lv) (hn : i < nL) (hl : (i, va_rf r) :: lv.filter (fun q => !(q.1 == i) && !(q.1 + 1 == i && q.2.category == 2)) = lv')
    (kk : ∀ ls' : Array Slot, lv_has ls' nL lv' → W p l e R s m args below meth c H locs cells slots Q (F0 m (pc + 1) ls' rest)) : W p l e R s m args below meth c H locs cells slots Q (F0 m pc ls (va_rf r :: rest)) := by
  cases r with
  | none => exact lv_astore_nN hx hb hdg hi h hn hl kk
  | some a => exact lv_astore_n hx hb hdg hi h hn hl kk
theorem lv_ifnullO (hx : p.tables.exec = Jvm.exec) (hb : c.code = cc) {r : Option Nat} {off : Int} {tgt : Nat} (hdg : decode cc pc = .ok (.ifnull off, 3)) (ht : (pc : Int) + off = (tgt : Int)) (kt : r = none → W p l e R s m args below meth c H locs cells slots Q (F0 m tgt ls rest)) (kf : ∀ a, r = some a → W p l e R s m args below meth c H locs cells slots Q (F0 m (pc + 3) ls rest)) : W p l e R s m args below meth c H locs cells slots Q (F0 m pc ls (va_rf r :: rest)) := by
  cases r with
  | none => exact lv_ifnullN hx hb hdg ht (kt rfl)
  | some a => exact lv_ifnull hx hb hdg (kf a rfl)
theorem lv_ifnonnullO (hx : p.tables.exec = Jvm.exec) (hb : c.code = cc) {r : Option Nat} {off : Int} {tgt : Nat} (hdg : decode cc pc = .ok (.ifnonnull off, 3)) (ht : (pc : Int) + off = (tgt : Int)) (kt : ∀ a, r = some a → W p l e R s m args below meth c H locs cells slots Q (F0 m tgt ls rest)) (kf : r = none → W p l e R s m args below meth c H locs cells slots Q (F0 m (pc + 3) ls rest)) : W p l e R s m args below meth c H locs cells slots Q (F0 m pc ls (va_rf r :: rest)) := by
  cases r with
  | none => exact lv_ifnonnullN hx hb hdg (kf rfl)
  | some a => exact lv_ifnonnull hx hb hdg ht (kt a rfl)
end LY
