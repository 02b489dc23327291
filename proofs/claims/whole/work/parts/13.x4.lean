/-! THE CLASS: the log grows; calls come and go; an hour goes by -/
/-- the addresses of what was there stay -/
def Ex (g : XS) (ad ad2 : Tg → Nat) : Prop := ∀ t : Tg, t.1 ≠ 3 → LW g.2.1 t → ad2 t = ad t
theorem Ex.rf {g : XS} {ad : Tg → Nat} : Ex g ad ad := fun _ _ _ => rfl
/-- nothing goes (but leases) -/
def Gr (g g' : XS) : Prop := g'.2.1 0 0 = g.2.1 0 0 ∧ g'.2.1 1 0 = g.2.1 1 0 ∧ ∀ i, g.2.1 4 i ≤ g'.2.1 4 i
theorem Gr.rf {g : XS} : Gr g g := ⟨rfl, rfl, fun _ => Nat.le_refl _⟩
theorem Gr.tr {g g' g2 : XS} (h : Gr g g') (h2 : Gr g' g2) : Gr g g2 := ⟨h2.1.trans h.1, h2.2.1.trans h.2.1, fun i => Nat.le_trans (h.2.2 i) (h2.2.2 i)⟩
theorem Gr.of {g g' : XS} (h : g'.2.1 = g.2.1) : Gr g g' := ⟨by rw [h], by rw [h], fun i => by rw [h]; exact Nat.le_refl _⟩
theorem Gr.lw {g g' : XS} (h : Gr g g') : ∀ t : Tg, t.1 ≠ 3 → LW g.2.1 t → LW g'.2.1 t := by
  obtain ⟨h0, h1, h4⟩ := h
  refine tg_all (fun a j _ h => h) (fun a j _ h => ⟨by rw [h0]; exact h.1, h.2⟩) (fun a j _ h => ⟨by rw [h1]; exact h.1, h.2⟩) (fun a j h _ => absurd rfl h) (fun a j _ h => ⟨by rw [h0]; exact h.1, Nat.lt_of_lt_of_le h.2 (h4 a)⟩) (fun a j _ h => ⟨by rw [h0]; exact h.1, Nat.lt_of_lt_of_le h.2 (h4 a)⟩) (fun a j _ h => ⟨by rw [h0]; exact h.1, Nat.lt_of_lt_of_le h.2 (h4 a)⟩) (fun a j _ h => h) (fun a j _ h => h) (fun a j _ h => h) (fun a i j _ h => h.elim)
theorem Ex.tr {g g' : XS} {ad ad1 ad2 : Tg → Nat} (h : Ex g ad ad1) (hg : Gr g g') (h2 : Ex g' ad1 ad2) : Ex g ad ad2 := fun t h3 ht => (h2 t h3 (hg.lw t h3 ht)).trans (h t h3 ht)
theorem Gr.log {g : XS} {i : Nat} {a z : Int32} : Gr g (logG g i a z) := by
  refine ⟨logG_n (by decide), logG_n (by decide), fun j => ?_⟩
  unfold logG
  split
  · exact Nat.le_refl _
  · show g.2.1 4 j ≤ up g.2.1 4 i (g.2.1 4 i + 1) 4 j
    by_cases e : j = i
    · subst e; rw [up_s]; omega
    · rw [up_i e]; exact Nat.le_refl _
theorem Gr.go {g : XS} {q : Nat} {h : Int32} : Gr g (goG g q h) := by
  refine ⟨goG_n (by decide) (by decide), goG_n (by decide) (by decide), fun j => ?_⟩
  exact (Gr.log (g := sx g 9 (g.2.1 3 q - 1) (g.1 9 (g.2.1 3 q - 1) - 1)) (i := g.2.1 3 q - 1) (a := g.1 32 q) (z := h)).2.2 j
theorem Gr.hnd {g : XS} {q : Nat} : Gr g (hndG g q) := by
  refine ⟨hndG_n (by decide) (by decide), hndG_n (by decide) (by decide), fun j => ?_⟩
  unfold hndG
  rw [hndA_n (by decide)]
  exact (Gr.go (g := g) (q := q) (h := g.1 40 0)).2.2 j
theorem Gr.lvs {g : XS} : ∀ q, Gr g (lvsG g q)
  | 0 => Gr.rf
  | q + 1 => by unfold lvsG; split; · exact (Gr.lvs q).tr Gr.hnd
                · exact Gr.lvs q
theorem Gr.els {g : XS} (i : Nat) : Gr g (elsG g i) := ⟨elsG_n (by decide) i, elsG_n (by decide) i, fun j => by rw [elsG_n (by decide) i]; exact Nat.le_refl _⟩
theorem Gr.hr {g : XS} : Gr g (hrG g) := by
  unfold hrG
  exact Gr.tr (Gr.of (g' := tkG (pwsG (prsG (ctrG g 8) 8) 8)) (by rw [tkG_n, pwsG_n, prsG_n, ctrG_n])) (Gr.tr (Gr.els 8) (Gr.lvs 12))
theorem Gr.hrs {g : XS} : ∀ j, Gr g (hrsG g j)
  | 0 => Gr.rf
  | j + 1 => (Gr.hrs j).tr Gr.hr
theorem bfO_cg {ad ad2 : Tg → Nat} {i z : Nat} (h : ∀ y, y < z → ad2 (4, i, y) = ad (4, i, y)) : bfO ad2 i z = bfO ad i z := by
  unfold bfO
  by_cases e : z = 0
  · rw [if_pos e, if_pos e]
  · rw [if_neg e, if_neg e, h _ (by omega)]
theorem eW_log {k : Nat → ClassId} {ad ad2 : Tg → Nat} {g : XS} {M : MF} {o : OF} {i j : Nat} {a0 a1 : Int32} (hj : j = g.2.1 4 i / 64) (hz : ¬ a1 ≤ a0) (hA : ∀ u : Tg, u ≠ (4, i, j) → u ≠ (5, i, j) → u ≠ (6, i, j) → ad2 u = ad u) : ∀ t, LW (logG g i a0 a1).2.1 t → t ≠ (4, i, j) → t ≠ (5, i, j) → t ≠ (6, i, j) → t ≠ (1, i, 0) → LW g.2.1 t ∧ ad2 t = ad t ∧ eW k ad2 (logG g i a0 a1) M o t = eW k ad g M o t := by
  rw [show logG g i a0 a1 = (g.1, up g.2.1 4 i (g.2.1 4 i + 1), ul (ul g.2.2 0 i (g.2.1 4 i) a0) 1 i (g.2.1 4 i) a1) from if_neg hz]
  have hB : ∀ a x y : Nat, a ≠ 4 → a ≠ 5 → a ≠ 6 → ad2 (a, x, y) = ad (a, x, y) := fun a x y h4 h5 h6 => hA _ (by simp [h4]) (by simp [h5]) (by simp [h6])
  have hls : ∀ x z, lsO ad2 x z = lsO ad x z := fun x z => by unfold lsO; rw [hB 3 _ _ (by decide) (by decide) (by decide)]
  have hmr : ∀ z, mrO ad2 z = mrO ad z := fun z => by unfold mrO; rw [hB 1 _ _ (by decide) (by decide) (by decide)]
  refine tg_all (fun a y h n4 n5 n6 n1 => ?_) (fun a y h n4 n5 n6 n1 => ?_) (fun a y h n4 n5 n6 n1 => ?_) (fun a y h n4 n5 n6 n1 => ?_) (fun a y h n4 n5 n6 n1 => ?_) (fun a y h n4 n5 n6 n1 => ?_) (fun a y h n4 n5 n6 n1 => ?_) (fun a y h n4 n5 n6 n1 => ?_) (fun a y h n4 n5 n6 n1 => ?_) (fun a y h n4 n5 n6 n1 => ?_) (fun a x y h => h.elim)
  · refine ⟨h, hA _ n4 n5 n6, ?_⟩
    match a with
    | 0 => simp only [eW, fX]; rw [hB 0 1 0 (by decide) (by decide) (by decide), hB 0 2 0 (by decide) (by decide) (by decide), hB 0 3 0 (by decide) (by decide) (by decide)]
    | 1 =>
      simp only [eW]
      rw [show maO (g.1, up g.2.1 4 i (g.2.1 4 i + 1), ul (ul g.2.2 0 i (g.2.1 4 i) a0) 1 i (g.2.1 4 i) a1) ad2 = maO g ad from funext fun x => by show (if x < g.2.1 0 0 then some (ad2 (1, x, 0)) else none) = _; rw [hB 1 _ _ (by decide) (by decide) (by decide)]; rfl]
    | 2 =>
      simp only [eW]
      rw [show phO (g.1, up g.2.1 4 i (g.2.1 4 i + 1), ul (ul g.2.2 0 i (g.2.1 4 i) a0) 1 i (g.2.1 4 i) a1) ad2 = phO g ad from funext fun x => by show (if x < g.2.1 1 0 then some (ad2 (2, x, 0)) else none) = _; rw [hB 2 _ _ (by decide) (by decide) (by decide)]; rfl]
    | a + 3 => rfl
  · refine ⟨h, hA _ n4 n5 n6, ?_⟩
    obtain ⟨-, rfl⟩ := h
    have e : a ≠ i := fun e => n1 (by rw [e])
    simp only [eW, fM]
    simp only [hls, up_i e]
    rw [show lgO ad2 a (g.2.1 4 a) = lgO ad a (g.2.1 4 a) from by unfold lgO; rw [hA _ (by simp [e]) (by simp) (by simp)]]
  · refine ⟨h, hA _ n4 n5 n6, ?_⟩
    simp only [eW, fP]
    rw [hmr]
    rfl
  · exact ⟨h, hA _ n4 n5 n6, rfl⟩
  · obtain ⟨h1, h2⟩ := h
    by_cases e : a = i
    · subst e
      have h3 : 64 * y < g.2.1 4 a + 1 := by
        have : 64 * y < up g.2.1 4 a (g.2.1 4 a + 1) 4 a := h2
        rwa [up_s] at this
      have hy : y ≠ j := fun q => n4 (by rw [q])
      refine ⟨⟨h1, by omega⟩, hA _ n4 n5 n6, ?_⟩
      simp only [eW, fG]
      rw [hA _ (by simp) (by simp [hy]) (by simp), hA _ (by simp) (by simp) (by simp [hy]), bfO_cg (ad := ad) (fun x hx => hA _ (by simp; omega) (by simp) (by simp)), up_s, show min 64 (g.2.1 4 a + 1 - 64 * y) = min 64 (g.2.1 4 a - 64 * y) by omega]
    · have h3 : 64 * y < g.2.1 4 a := by
        have : 64 * y < up g.2.1 4 i (g.2.1 4 i + 1) 4 a := h2
        rwa [up_i e] at this
      refine ⟨⟨h1, h3⟩, hA _ n4 n5 n6, ?_⟩
      simp only [eW, fG]
      rw [hA _ (by simp) (by simp [e]) (by simp), hA _ (by simp) (by simp) (by simp [e]), bfO_cg (ad := ad) (fun x hx => hA _ (by simp [e]) (by simp) (by simp)), up_i e]
  · obtain ⟨h1, h2⟩ := h
    have h3 : 64 * y < up g.2.1 4 i (g.2.1 4 i + 1) 4 a := h2
    by_cases e : a = i
    · subst e
      rw [up_s] at h3
      have hy : y ≠ j := fun q => n5 (by rw [q])
      refine ⟨⟨h1, by omega⟩, hA _ n4 n5 n6, ?_⟩
      simp only [eW]
      refine congrArg (fun f => Sum.inl (k 0, 64, Sum.inl f)) (funext fun q => ?_)
      unfold lcut
      by_cases hq : q < 64
      · rw [if_pos hq, if_pos hq]
        simp [ul, show ¬ 64 * y + q = g.2.1 4 a by omega]
      · rw [if_neg hq, if_neg hq]
    · rw [up_i e] at h3
      refine ⟨⟨h1, h3⟩, hA _ n4 n5 n6, ?_⟩
      simp only [eW]
      refine congrArg (fun f => Sum.inl (k 0, 64, Sum.inl f)) (funext fun q => ?_)
      unfold lcut
      simp [ul, e]
  · obtain ⟨h1, h2⟩ := h
    have h3 : 64 * y < up g.2.1 4 i (g.2.1 4 i + 1) 4 a := h2
    by_cases e : a = i
    · subst e
      rw [up_s] at h3
      have hy : y ≠ j := fun q => n6 (by rw [q])
      refine ⟨⟨h1, by omega⟩, hA _ n4 n5 n6, ?_⟩
      simp only [eW]
      refine congrArg (fun f => Sum.inl (k 0, 64, Sum.inl f)) (funext fun q => ?_)
      unfold lcut
      by_cases hq : q < 64
      · rw [if_pos hq, if_pos hq]
        simp [ul, show ¬ 64 * y + q = g.2.1 4 a by omega]
      · rw [if_neg hq, if_neg hq]
    · rw [up_i e] at h3
      refine ⟨⟨h1, h3⟩, hA _ n4 n5 n6, ?_⟩
      simp only [eW]
      refine congrArg (fun f => Sum.inl (k 0, 64, Sum.inl f)) (funext fun q => ?_)
      unfold lcut
      simp [ul, e]
  · refine ⟨h, hA _ n4 n5 n6, ?_⟩
    simp only [eW, fR]
    simp only [hB 8 _ _ (show (8 : Nat) ≠ 4 by decide) (by decide) (by decide)]
  · exact ⟨h, hA _ n4 n5 n6, rfl⟩
  · refine ⟨h, hA _ n4 n5 n6, ?_⟩
    match a with
    | 0 => rfl
    | a + 1 => rfl
/-- the block that grows, as it is then -/
theorem lcut_up {lg : LF} {i j e : Nat} {a0 a1 : Int32} (hj : j = e / 64) : lcut (ul (ul lg 0 i e a0) 1 i e a1 0 i) j = upd (lcut (lg 0 i) j) (e % 64) a0 ∧ lcut (ul (ul lg 0 i e a0) 1 i e a1 1 i) j = upd (lcut (lg 1 i) j) (e % 64) a1 := by
  constructor
  · funext q
    unfold lcut upd
    dsimp only
    by_cases hq : q < 64
    · rw [if_pos hq]
      by_cases h : q = e % 64
      · rw [if_pos h]
        simp [ul, show 64 * j + q = e by omega]
      · rw [if_neg h, if_pos hq]
        simp [ul, show ¬ 64 * j + q = e by omega]
    · rw [if_neg hq, if_neg (show ¬ q = e % 64 by omega), if_neg hq]
  · funext q
    unfold lcut upd
    dsimp only
    by_cases hq : q < 64
    · rw [if_pos hq]
      by_cases h : q = e % 64
      · rw [if_pos h]
        simp [ul, show 64 * j + q = e by omega]
      · rw [if_neg h, if_pos hq]
        simp [ul, show ¬ 64 * j + q = e by omega]
    · rw [if_neg hq, if_neg (show ¬ q = e % 64 by omega), if_neg hq]
theorem eW_log5 {k : Nat → ClassId} {ad : Tg → Nat} {g : XS} {M : MF} {o : OF} {i j : Nat} {a0 a1 : Int32} (hj : j = g.2.1 4 i / 64) (hz : ¬ a1 ≤ a0) : eW k ad (logG g i a0 a1) M o (5, i, j) = .inl (k 0, 64, .inl (upd (lcut (g.2.2 0 i) j) (g.2.1 4 i % 64) a0)) ∧ eW k ad (logG g i a0 a1) M o (6, i, j) = .inl (k 0, 64, .inl (upd (lcut (g.2.2 1 i) j) (g.2.1 4 i % 64) a1)) ∧ eW k ad (logG g i a0 a1) M o (4, i, j) = .inr (1, [.ref (ad (5, i, j)), .ref (ad (6, i, j)), va_rf (bfO ad i j), .int (nI (g.2.1 4 i % 64 + 1))]) ∧ eW k ad (logG g i a0 a1) M o (1, i, 0) = .inr (2, (fM g ad i).set 13 (.ref (ad (4, i, j)))) := by
  rw [show logG g i a0 a1 = (g.1, up g.2.1 4 i (g.2.1 4 i + 1), ul (ul g.2.2 0 i (g.2.1 4 i) a0) 1 i (g.2.1 4 i) a1) from if_neg hz]
  refine ⟨?_, ?_, ?_, ?_⟩
  · simp only [eW]
    rw [(lcut_up hj).1]
  · simp only [eW]
    rw [(lcut_up hj).2]
  · simp only [eW, fG]
    rw [up_s, show min 64 (g.2.1 4 i + 1 - 64 * j) = g.2.1 4 i % 64 + 1 by omega]
  · simp only [eW, fM, up_s, up_f (show (2 : Nat) ≠ 4 by decide)]
    have : lgO ad i (g.2.1 4 i + 1) = some (ad (4, i, j)) := by rw [lgO_1 (by omega), hj, Nat.add_sub_cancel]
    simp [this, va_rf]
set_option maxHeartbeats 4000000 in
set_option maxRecDepth 100000 in
theorem mX1_add (l : Launch) {D : va_G} {k : Nat → ClassId} {b : Nat} {L : Tg → Prop} {ad : Tg → Nat} {w : Tg → va_E} (t0 t1 t2 : Tg) (h0 : L t0) (h1 : L t1) (h2 : L t2) (n1 : t1 ≠ t0) (n2 : t2 ≠ t0) (n3 : t1 ≠ t2) (v2 : Value) (z : Nat) (hz : z < 64) (f1 f2 : Nat → Int32) (e0 : w t0 = .inr (1, [.ref (ad t1), .ref (ad t2), v2, .int (nI z)])) (e1 : w t1 = .inl (k 0, 64, .inl f1)) (e2 : w t2 = .inl (k 0, 64, .inl f2)) (a0 a1 : Int32) : Met l yX1_add (WS yX1_add cX1_add 3 none) ({ frames := 0, cells := 0, slots := 0, locals := 0 }) (P0 D k b (Hp D b L ad w) [.ref (ad t0), .int a0, .int a1]) (Qw b none (Hp D b L ad (uE (uE (uE w t1 (.inl (k 0, 64, .inl (upd f1 z a0)))) t2 (.inl (k 0, 64, .inl (upd f2 z a1)))) t0 (.inr (1, [.ref (ad t1), .ref (ad t2), v2, .int (nI (z + 1))]))))) 0 0 (Fb b) := by
  refine Met0 (by decide +kernel) (Nat.le_of_ble_eq_true rfl) (fun p e s m below meth c ls hx hb hr hts hown hml hlocks hnm hC hH hl => ?_)
  have hS : va_S (Fb b) s.heap s.heap [] := va_S.rf
  have hl : lv_has ls 3 [(0, .ref (ad t0)), (1, .int a0), (2, .int a1)] := hl
  refine lv_aload_n hx hb dX1_add_0 rfl (lv_at hl 0 rfl) ?_
  refine r_get hx hb hts hown hC hH t0 h0 (fs := [.ref (ad t1), .ref (ad t2), v2, .int (nI z)]) (by exact e0) rfl inX1 3 (by decide) wf_X1_22 (v := .int (nI z)) rfl dX1_add_1 ?_
  refine lv_if_lt (tgt := 46) hx hb dX1_add_4 (by decide) (fun c4 => absurd (show (0 : Int32) ≤ nI z from nI_le (a := 0) (Nat.zero_le z) (by omega)) (Int32.not_le.mpr c4)) (fun c4 => ?_)
  refine lv_aload_n hx hb dX1_add_7 rfl (lv_at hl 0 rfl) ?_
  refine r_get hx hb hts hown hC hH t0 h0 (fs := [.ref (ad t1), .ref (ad t2), v2, .int (nI z)]) (by exact e0) rfl inX1 3 (by decide) wf_X1_22 (v := .int (nI z)) rfl dX1_add_8 ?_
  refine lv_bipush (v := 64) hx hb dX1_add_11 (by decide) ?_
  refine lv_icmp_ge (tgt := 46) hx hb dX1_add_13 (by decide) (fun c13 => absurd c13 (nI_ge hz (by decide))) (fun c13 => ?_)
  refine lv_aload_n hx hb dX1_add_16 rfl (lv_at hl 0 rfl) ?_
  refine r_get hx hb hts hown hC hH t0 h0 (fs := [.ref (ad t1), .ref (ad t2), v2, .int (nI z)]) (by exact e0) rfl inX1 0 (by decide) wf_X1_9 (v := .ref (ad t1)) rfl dX1_add_17 ?_
  refine lv_aload_n hx hb dX1_add_20 rfl (lv_at hl 0 rfl) ?_
  refine r_get hx hb hts hown hC hH t0 h0 (fs := [.ref (ad t1), .ref (ad t2), v2, .int (nI z)]) (by exact e0) rfl inX1 3 (by decide) wf_X1_22 (v := .int (nI z)) rfl dX1_add_21 ?_
  refine lv_iload_n hx hb dX1_add_24 rfl (lv_at hl 1 rfl) ?_
  refine r_iast hx hb hC hH hS t1 h1 (f := f1) (by exact e1) (vp_in_nI hz (by decide)) dX1_add_25 (fun H locs hH hS => ?_)
  rw [nI_clamp (by omega)] at hH
  refine lv_aload_n hx hb dX1_add_26 rfl (lv_at hl 0 rfl) ?_
  refine r_get hx hb hts hown hC hH t0 h0 (fs := [.ref (ad t1), .ref (ad t2), v2, .int (nI z)]) (by rw [uE_n n1.symm]; exact e0) rfl inX1 1 (by decide) wf_X1_15 (v := .ref (ad t2)) rfl dX1_add_27 ?_
  refine lv_aload_n hx hb dX1_add_30 rfl (lv_at hl 0 rfl) ?_
  refine r_get hx hb hts hown hC hH t0 h0 (fs := [.ref (ad t1), .ref (ad t2), v2, .int (nI z)]) (by rw [uE_n n1.symm]; exact e0) rfl inX1 3 (by decide) wf_X1_22 (v := .int (nI z)) rfl dX1_add_31 ?_
  refine lv_iload_n hx hb dX1_add_34 rfl (lv_at hl 2 rfl) ?_
  refine r_iast hx hb hC hH hS t2 h2 (f := f2) (by rw [uE_n n3.symm]; exact e2) (vp_in_nI hz (by decide)) dX1_add_35 (fun H locs hH hS => ?_)
  rw [nI_clamp (by omega)] at hH
  refine lv_aload_n hx hb dX1_add_36 rfl (lv_at hl 0 rfl) ?_
  refine lv_dup hx hb dX1_add_37 rfl ?_
  refine r_get hx hb hts hown hC hH t0 h0 (fs := [.ref (ad t1), .ref (ad t2), v2, .int (nI z)]) (by rw [uE_n n2.symm]; rw [uE_n n1.symm]; exact e0) rfl inX1 3 (by decide) wf_X1_22 (v := .int (nI z)) rfl dX1_add_38 ?_
  refine lv_iconst (v := 1) hx hb dX1_add_41 (by decide) ?_
  refine lv_iadd hx hb dX1_add_42 ?_
  refine r_put hx hb hts hown hC hH hS t0 h0 (fs := [.ref (ad t1), .ref (ad t2), v2, .int (nI z)]) (by rw [uE_n n2.symm]; rw [uE_n n1.symm]; exact e0) rfl inX1 tyX1 tyX1_ok nmX1 3 (by decide) rfl wf_X1_22 rfl rfl (by simp) dX1_add_43 (fun H locs hH hS => ?_)
  rw [nI_1] at hH
  exact e_wv hx hb hr hlocks hS (by exact hH) (Nat.le_refl _) (Nat.le_refl _) dX1_add_46

set_option maxHeartbeats 4000000 in
set_option maxRecDepth 100000 in
theorem mX1_init (l : Launch) {D : va_G} {k : Nat → ClassId} {b : Nat} {L : Tg → Prop} {ad : Tg → Nat} {w : Tg → va_E} (t0 t1 t2 : Tg) (h0 : L t0) (n1 : t1 ≠ t0) (n2 : t2 ≠ t0) (n3 : t1 ≠ t2) (e0 : w t0 = .inr (1, [.null, .null, .null, .int 0])) (r : Option Nat) : Met l yX1_init (WS yX1_init cX1_init 2 none) ({ frames := 1, cells := 2, slots := 128, locals := 13 }) (P0 D k b (Hp D b L ad w) [.ref (ad t0), va_rf r]) (Qw b none (fun H => ∃ ad2 : Tg → Nat, (∀ u, u ≠ t1 → u ≠ t2 → ad2 u = ad u) ∧ Hp D b (fun u => (L u ∨ u = t1) ∨ u = t2) ad2 (fun u => if u = t0 then .inr (1, [.ref (ad2 t1), .ref (ad2 t2), va_rf r, .int 0]) else if u = t1 ∨ u = t2 then .inl (k 0, 64, .inl (fun _ => 0)) else w u) H)) 2 128 (Fb b) := by
  refine Met0 (by decide +kernel) (by cases r <;> exact Nat.le_of_ble_eq_true rfl) (fun p e s m below meth c ls hx hb hr hts hown hml hlocks hnm hC hH hl => ?_)
  have hS : va_S (Fb b) s.heap s.heap [] := va_S.rf
  have hl : lv_has ls 2 [(0, .ref (ad t0)), (1, va_rf r)] := hl
  refine lv_aload_n hx hb dX1_init_0 rfl (lv_at hl 0 rfl) ?_
  refine W.objInit hx hb hown (hts _ wm_X1_3) (hts _ wv_Obj) (hts _ wk_Obj) rfl (by rw [hml]; exact hl.1) rfl dX1_init_1 (Nat.le_of_ble_eq_true rfl) (Nat.le_of_ble_eq_true rfl) ?_
  refine W.eq (g2 := F0 m 4 ls []) rfl ?_
  refine lv_aload_n hx hb dX1_init_4 rfl (lv_at hl 0 rfl) ?_
  refine lv_bipush (v := 64) hx hb dX1_init_5 (by decide) ?_
  refine r_newa hx hb hts hC hH hS t1 (atype := .int) 0 rfl wa_int (fun _ _ h => h) (64, .inl (fun _ => 0)) (fun _ => rfl) (by decide) (by decide) (by decide) (Nat.le_of_ble_eq_true rfl) (Nat.le_of_ble_eq_true rfl) dX1_init_7 (fun H hH hS => ?_)
  obtain ⟨ad1, had⟩ : ∃ z, z = uA ad t1 s.heap.size := ⟨_, rfl⟩
  have ea0 : ad1 t0 = ad t0 := by rw [had]; exact uA_n n1.symm
  have ea1 : ad1 t1 = s.heap.size := by rw [had]; exact uA_s
  rw [← had] at hH
  refine W.eq (g2 := F0 m 9 ls [.ref (ad1 t1), .ref (ad1 t0)]) (by rw [ea1, ea0]) ?_
  refine r_putF hx hb hts hown hnm hC hH hS t0 (Or.inl h0) (fs := [.null, .null, .null, .int 0]) (by rw [uE_n n1.symm]; exact e0) rfl inX1 tyX1 tyX1_ok nmX1 0 (by decide) rfl rfl wf_X1_9 rfl rfl (by simp) dX1_init_9 (fun H locs hH hS => ?_)
  refine W.eq (g2 := F0 m 12 ls []) rfl ?_
  refine lv_aload_n hx hb dX1_init_12 rfl (lv_at hl 0 rfl) ?_
  refine lv_bipush (v := 64) hx hb dX1_init_13 (by decide) ?_
  refine r_newa hx hb hts hC hH hS t2 (atype := .int) 0 rfl wa_int (fun _ _ h => h) (64, .inl (fun _ => 0)) (fun _ => rfl) (by decide) (by decide) (by decide) (Nat.le_of_ble_eq_true rfl) (Nat.le_of_ble_eq_true rfl) dX1_init_15 (fun H2 hH hS => ?_)
  obtain ⟨ad2, had2⟩ : ∃ z, z = uA ad1 t2 H.size := ⟨_, rfl⟩
  have eb0 : ad2 t0 = ad t0 := by rw [had2, uA_n n2.symm, ea0]
  have eb1 : ad2 t1 = ad1 t1 := by rw [had2]; exact uA_n n3
  have eb2 : ad2 t2 = H.size := by rw [had2]; exact uA_s
  rw [← had2] at hH
  refine W.eq (g2 := F0 m 17 ls [.ref (ad2 t2), .ref (ad2 t0)]) (by rw [eb2, eb0]) ?_
  refine r_putF hx hb hts hown hnm hC hH hS t0 (Or.inl (Or.inl h0)) (fs := [.ref (ad1 t1), .null, .null, .int 0]) (by rw [uE_n n2.symm]; exact uE_s) rfl inX1 tyX1 tyX1_ok nmX1 1 (by decide) rfl rfl wf_X1_15 rfl rfl (by simp) dX1_init_17 (fun H locs hH hS => ?_)
  refine W.eq (g2 := F0 m 20 ls []) rfl ?_
  refine lv_aload_n hx hb dX1_init_20 rfl (lv_at hl 0 rfl) ?_
  refine lv_aload_nO hx hb dX1_init_21 rfl (lv_at hl 1 rfl) ?_
  refine W.eq (g2 := F0 m 22 ls [va_rf r, .ref (ad2 t0)]) (by rw [eb0]) ?_
  refine r_putF hx hb hts hown hnm hC hH hS t0 (Or.inl (Or.inl h0)) (fs := [.ref (ad1 t1), .ref (ad2 t2), .null, .int 0]) uE_s rfl inX1 tyX1 tyX1_ok nmX1 2 (by decide) rfl rfl wf_X1_18 (by cases r <;> rfl) (by cases r <;> rfl) (by simp) dX1_init_22 (fun H locs hH hS => ?_)
  refine e_wv hx hb hr hlocks hS ⟨ad2, fun u g1 g2 => by rw [had2, uA_n g2, had, uA_n g1], hH.mono fun u hu => ?_⟩ (Nat.le_refl _) (Nat.le_refl _) dX1_init_25
  refine ⟨hu, rfl, ?_⟩
  by_cases c0 : u = t0
  · subst c0
    rw [if_pos rfl, uE_s, eb1]
    rfl
  · rw [if_neg c0, uE_n c0, uE_n c0]
    by_cases c2 : u = t2
    · rw [if_pos (Or.inr c2), c2, uE_s]
    · rw [uE_n c2, uE_n c0]
      by_cases c1 : u = t1
      · rw [if_pos (Or.inl c1), c1, uE_s]
      · rw [if_neg (fun q => q.elim c1 c2), uE_n c1]
