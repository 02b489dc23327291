/-! the law: its end, and what it has at its beginning -/
theorem w_end {p : Program} {l : Launch} {e : Env} {s : State} {m : MethodId} {below : List Frame} {meth : Method} {c : Code} {b : Nat} (hx : p.tables.exec = Jvm.exec) (hb : c.code = code) (hr : meth.sig.returnType = ret) (hlocks : meth.locks = false) {pc : Nat} {H : Heap} {ls : Array Slot} (hdg : decode code pc = .ok (.ireturn, 1)) : W p l e room_1 s m #[Value.ref b] below meth c H [] 601024 7293034 (lw_Z below #[Value.ref b] s) (F0 m pc ls [.int 1]) := lw_ret (d0 := s.drawn) (Drawn.sameBut.refl s.drawn lw_cs) hx hb hr hlocks hdg
theorem ar_n {args : Array Value} {s : State} {ty : FieldType} (h : (Cond.arrayClass ty).before args s = true) : ∃ cA, ArrOfT s cA ty ∧ s.vm.findClass ("[" ++ ty.toString) = some cA := by
  obtain ⟨cA, kA, comp, h1, h2, h3⟩ := Cond.arrayClass_spec h
  exact ⟨cA, fun n z => ⟨(fun k h => by cases h), kA, h2, comp, h3⟩, h1⟩
theorem ar_q {args : Array Value} {s : State} {C : String} (h : (Cond.arrayOver (.object C)).before args s = true) : ∃ cA, ArrOfT s cA (.object C) ∧ va_RA s cA (.object C) := by
  obtain ⟨comp, cA, kA, h1, h2, h3, h4, h5⟩ := Cond.arrayOver_spec h
  exact ⟨cA, fun n z => ⟨(fun k h => by cases h), kA, h3, comp, h4⟩, kA, comp, h3, h4, h1, h5⟩
theorem st_cs {args : Array Value} {s : State} (hts : ∀ w ∈ lw_tbl, w.before args s = true) (hgv : (Jvm.Cond.and given_1 narrow_1).before args s = true) : ∃ (D : va_G) (k : Nat → ClassId), Cs D k s.heap.size s := by
  have ha : ∀ w ∈ AW, w.before args s = true := fun w h => hts w (List.mem_filter.mp h).1
  have hg := flat_of_before _ hgv
  obtain ⟨c0, i0, K0⟩ := u_known ha inX0 (ha _ wn_X0)
  obtain ⟨c1, i1, K1⟩ := u_known ha inX1 (ha _ wn_X1)
  obtain ⟨c2, i2, K2⟩ := u_known ha inX2 (ha _ wn_X2)
  obtain ⟨c3, i3, K3⟩ := u_known ha inX3 (ha _ wn_X3)
  obtain ⟨c4, i4, K4⟩ := u_known ha inX4 (ha _ wn_X4)
  obtain ⟨c5, i5, K5⟩ := u_known ha inX5 (ha _ wn_X5)
  obtain ⟨k0, A0, N0⟩ := ar_n (ha _ wa_int)
  obtain ⟨k1, A1, N1⟩ := ar_n (ha _ wa_boolean)
  obtain ⟨k2, A2, N2⟩ := ar_n (ha _ wa_long)
  obtain ⟨k3, A3, N3⟩ := ar_n (ha _ wa_double)
  obtain ⟨k4, A4, N4⟩ := ar_q (ha _ wo_X2)
  obtain ⟨k5, A5, N5⟩ := ar_q (ha _ wo_X3)
  refine ⟨(fun j => match j with | 0 => c0 | 1 => c1 | 2 => c2 | 3 => c3 | 4 => c4 | _ => c5, fun j => match j with | 0 => i0 | 1 => i1 | 2 => i2 | 3 => i3 | 4 => i4 | _ => i5), fun j => match j with | 0 => k0 | 1 => k1 | 2 => k2 | 3 => k3 | 4 => k4 | _ => k5, ⟨fun j q hq => ?_, fun j q hq => ?_⟩, ?_, ?_, ?_⟩
  · match j, hq with
    | 0, hq => cases hq; exact K0
    | 1, hq => cases hq; exact K1
    | 2, hq => cases hq; exact K2
    | 3, hq => cases hq; exact K3
    | 4, hq => cases hq; exact K4
    | 5, hq => cases hq; exact K5
    | j + 6, hq => simp [vwCl] at hq
  · match j, hq with
    | 0, hq => cases hq; exact ⟨A0, N0⟩
    | 1, hq => cases hq; exact ⟨A1, N1⟩
    | 2, hq => cases hq; exact ⟨A2, N2⟩
    | 3, hq => cases hq; exact ⟨A3, N3⟩
    | 4, hq => cases hq; exact ⟨A4, N4⟩
    | 5, hq => cases hq; exact ⟨A5, N5⟩
    | j + 6, hq => simp at hq
  · exact vx_Zqof (hts _ (by decide +kernel)) (ha _ wi_java_lang_Throwable) (hg _ (by decide +kernel)) (fun a h => Nat.not_le.mpr h)
  · exact vx_Zqof (hts _ (by decide +kernel)) (ha _ wi_java_lang_Throwable) (hg _ (by decide +kernel)) (fun a h => Nat.not_le.mpr h)
  · exact ⟨va_Nc.of (hg _ (by decide +kernel)), va_Nc.of (hg _ (by decide +kernel)), va_Nc.of (hg _ (by decide +kernel)), va_Nc.of (hg _ (by decide +kernel)), va_Nc.of (hg _ (by decide +kernel)), va_Nc.of (hg _ (by decide +kernel))⟩
theorem st_fl {l : Launch} (h : l.flags = flags0) : l.stackTraces = false := by
  rw [Launch.stackTraces, h]
  decide +kernel
