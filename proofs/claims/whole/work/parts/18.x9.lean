/-! THE CLASS: what callers call, the rest -/
theorem inB_n1 {a lo z : Int32} {n : Nat} (hlo : ¬ lo < 0) (hz : z = nI n) (hn : n < 2 ^ 31) (h : inB a lo z = true) : ∃ j : Nat, j ≤ n ∧ a = nI j := by
  subst hz
  simp only [inB, Bool.and_eq_true, decide_eq_true_eq] at h
  exact nI_of2 (nI_toInt hn) (Int32.not_lt.mpr (Int32.le_trans (Int32.not_lt.mp hlo) h.1)) h.2
theorem inB_out {a lo hi : Int32} (h : inB a lo hi = false) : a.toInt < lo.toInt ∨ hi.toInt < a.toInt := by
  by_cases h1 : lo ≤ a
  · by_cases h2 : a ≤ hi
    · simp [inB, h1, h2] at h
    · right
      rw [Int32.le_iff_toInt_le] at h2
      omega
  · left
    rw [Int32.le_iff_toInt_le] at h1
    omega
theorem mrO_is {D : va_G} {k : Nat → ClassId} {b : Nat} {ad : Tg → Nat} {g : XS} {M : MF} {o : OF} {H : Heap} (hH : Wo D k b ad g M o H) {i r : Nat} (hi : i < g.2.1 0 0) (hr : r ≤ g.2.1 0 0) : mrO ad r = some (ad (1, i, 0)) ↔ r = i + 1 := by
  unfold mrO
  by_cases e : r = 0
  · rw [if_pos e]
    constructor
    · intro q; cases q
    · intro q; omega
  · rw [if_neg e]
    constructor
    · intro q
      have h9 := hH.2.1 (1, r - 1, 0) (1, i, 0) ⟨by omega, rfl⟩ ⟨hi, rfl⟩ (Option.some.inj q)
      have h8 : r - 1 = i := by simpa using h9
      omega
    · intro q
      subst q
      rfl
set_option maxHeartbeats 4000000 in
set_option maxRecDepth 100000 in
theorem mX4_pass (l : Launch) (hlf : l.stackTraces = false) {D : va_G} {k : Nat → ClassId} {b : Nat} {ad0 : Tg → Nat} {g : XS} {M : MF} {o : OF} (hI : XI g) (a0 : Int32) (B : Nat) (hB : paC g a0 = 0 → tb (hrsG g a0.toNatClampNeg) ≤ tb g + B) : vx_Met l yX4_pass (WS yX4_pass cX4_pass 3 (some .int)) ({ frames := 8, cells := 3 * B + 1, slots := 132 * B + 6, locals := 167 }) (P0 D k b (Wo D k b ad0 g M o) [.ref (ad0 (0, 0, 0)), .int a0]) (Qx b (paC g a0 = 0) (some (.int ((hrsG g a0.toNatClampNeg).1 40 0))) (fun H => ∃ ad : Tg → Nat, Ex g ad0 ad ∧ Wo D k b ad (hrsG g a0.toNatClampNeg) M o H)) (Xx b (xN [nIA, nIS] (paC g a0)) (fun H => ∃ ad : Tg → Nat, Ex g ad0 ad ∧ Wo D k b ad g M o H)) (3 * B + 1) (132 * B + 6) (Fb b) := by
  refine Met0x (by decide +kernel) (Nat.le_of_ble_eq_true rfl) (fun p e s m below meth c ls hx hb hr hts hown hml hlocks ht hC hH hl => ?_)
  have hS : va_S (Fb b) s.heap s.heap [] := va_S.rf
  obtain ⟨ad, hE, hH, hl⟩ : ∃ ad : Tg → Nat, Ex g ad0 ad ∧ Wo D k b ad g M o s.heap ∧ lv_has ls 3 [(0, .ref (ad (0, 0, 0))), (1, .int a0)] := ⟨ad0, Ex.rf, hH, hl⟩
  refine lv_iload_n hx hb dX4_pass_0 rfl (lv_at hl 1 rfl) ?_
  refine lv_iconst (v := 1) hx hb dX4_pass_1 (by decide) ?_
  refine lv_bipush (v := 100) hx hb dX4_pass_2 (by decide) ?_
  refine k_r (va_runS (As := [.int a0, .int 1, .int 100]) (rest := []) ⟨hx, hb, hml, hown, hts⟩ (mX4_isWithin l a0 1 100) ⟨cb_of hts wk_X4_isWithin wi_X4 wm_X4_29 sd_X4_isWithin rfl rfl ⟨Nat.le_of_ble_eq_true rfl, Nat.le_of_ble_eq_true rfl⟩, hts _ wz_X4_isWithin⟩ (P0.pre hC hS hH) rfl rfl hl.1 rfl (lv_room (Nat.le_of_ble_eq_true rfl)) dX4_pass_4 ⟨Nat.le_of_ble_eq_true rfl, Nat.le_of_ble_eq_true rfl⟩) ?_
  refine W.eq (g2 := F0 m 7 ls [.int (b2 (inB a0 1 100))]) rfl ?_
  refine lv_if_ne (tgt := 18) hx hb dX4_pass_7 (by decide) (fun c7 => ?_) (fun c7 => ?_)
  · skip
    have c7 := b2_n0.mp c7
    refine lv_aload_n hx hb dX4_pass_18 rfl (lv_at hl 0 rfl) ?_
    refine g4 hx hb hts hown hC hH 3 (by decide) wf_X4_52 (v := .int (g.1 40 0)) rfl dX4_pass_19 ?_
    refine lv_iload_n hx hb dX4_pass_22 rfl (lv_at hl 1 rfl) ?_
    refine lv_iadd hx hb dX4_pass_23 ?_
    refine lv_sipush (v := 10000) hx hb dX4_pass_24 (by decide) ?_
    refine lv_icmp_le (tgt := 38) hx hb dX4_pass_27 (by decide) (fun c27 => ?_) (fun c27 => ?_)
    · skip
      have c27x := Int32.not_lt.mpr c27
      refine lv_iconst (v := nI 0) hx hb dX4_pass_38 (by decide) ?_
      refine lv_istore_n (lv' := [(2, .int (nI 0)), (0, .ref (ad (0, 0, 0))), (1, .int a0)]) hx hb dX4_pass_39 rfl hl (by decide) rfl (fun ls hl => ?_)
      have h8 : paC g a0 = 0 := by simp [paC, c7, c27, c27x]
      obtain ⟨n, hn, h7⟩ := inB_n1 (n := 100) (by decide) rfl (by decide) c7
      have h6 : a0.toNatClampNeg = n := by rw [h7]; exact nI_clamp (by omega)
      have hB := hB h8
      rw [h6] at hB ⊢
      have hl : lv_has ls 3 [(2, .int (nI 0)), (0, .ref (ad (0, 0, 0))), (1, .int (nI n))] := by rw [← h7]; exact hl
      refine loop_w n (fun i H locs cells slots ls => cells = 3 * (tb (hrsG g i) - tb g) ∧ slots = 132 * (tb (hrsG g i) - tb g) ∧ ∃ ad : Tg → Nat, Ex g ad0 ad ∧ Wo D k b ad (hrsG g i) M o H ∧ va_S (Fb b) s.heap H locs ∧ lv_has ls 3 [(0, .ref (ad (0, 0, 0))), (1, .int (nI n)), (2, .int (nI i))]) (fun i hi H locs cells slots ls hJ0 ih => ?_) (fun H locs cells slots ls hJ0 => ?_) ⟨by rw [hrsG]; omega, by rw [hrsG]; omega, ad, hE, hH, hS, lv_sub hl [1, 2, 0] rfl⟩
      · skip
        obtain ⟨rfl, rfl, ad, hE, hH, hS, hl⟩ := hJ0
        have t0 := tb_hrs hI 0 i
        rw [Nat.zero_add, show hrsG g 0 = g from rfl] at t0
        have t1 := tb_hrle (hI.hrs i)
        have t2 := tb_hrs hI (i + 1) (n - (i + 1))
        rw [show i + 1 + (n - (i + 1)) = n by omega] at t2
        rw [show hrsG g (i + 1) = hrG (hrsG g i) from rfl] at t2
        obtain ⟨B1, hB1⟩ : ∃ z, z = tb (hrG (hrsG g i)) - tb (hrsG g i) := ⟨_, rfl⟩
        refine lv_iload_n hx hb dX4_pass_40 rfl (lv_at hl 2 rfl) ?_
        refine lv_iload_n hx hb dX4_pass_41 rfl (lv_at hl 1 rfl) ?_
        refine lv_icmp_ge (tgt := 55) hx hb dX4_pass_42 (by decide) (fun c42 => absurd c42 (nI_ge hi (by omega))) (fun c42 => ?_)
        refine lv_aload_n hx hb dX4_pass_45 rfl (lv_at hl 0 rfl) ?_
        refine k_w (va_runV (As := []) (rest := []) ⟨hx, hb, hml, hown, hts⟩ (mX4_letAnHourGoBy l (g := hrsG g i) (hI.hrs i) B1 (by omega)) ⟨cb_of hts wk_X4_letAnHourGoBy wi_X4 wm_X4_109 sd_X4_letAnHourGoBy rfl rfl ⟨Nat.le_of_ble_eq_true rfl, Nat.le_of_ble_eq_true rfl⟩, hts _ wv_X4_letAnHourGoBy, hts _ wl_X4_letAnHourGoBy⟩ (P0.preV hC hS hH (Hp.recv hC.1 hH (0, 0, 0) ⟨by decide, rfl⟩ rfl rfl)) rfl rfl hl.1 rfl (lv_room (Nat.le_of_ble_eq_true rfl)) dX4_pass_46 ⟨show 3 * (tb (hrsG g i) - tb g) + 3 * B1 ≤ 3 * B + 1 by omega, show 132 * (tb (hrsG g i) - tb g) + 132 * B1 ≤ 132 * B + 6 by omega⟩) hS (fun H locs hH hS => ?_)
        obtain ⟨ad, hF, hH⟩ := hH
        have hl : lv_has ls 3 [(0, .ref (ad (0, 0, 0))), (1, .int (nI n)), (2, .int (nI i))] := by rw [hF (0, 0, 0) (by simp) ⟨by decide, rfl⟩]; exact hl
        refine W.eq (g2 := F0 m 49 ls []) rfl ?_
        have hE := hE.tr (Gr.hrs i) hF
        rw [show hrG (hrsG g i) = hrsG g (i + 1) from rfl] at hH hB1 t1 t2
        refine lv_iinc (v := nI (i + 1)) (lv' := [(2, .int (nI (i + 1))), (0, .ref (ad (0, 0, 0))), (1, .int (nI n))]) hx hb dX4_pass_49 hl (k := 2) rfl (by rw [← nI_add]; rfl) (by decide) rfl (fun ls hl => ?_)
        refine lv_goto (tgt := 40) hx hb dX4_pass_52 (by decide) ?_
        exact ih H locs _ _ ls ⟨by omega, by omega, ad, hE, hH, hS, lv_sub hl [1, 2, 0] rfl⟩
      · skip
        obtain ⟨rfl, rfl, ad, hE, hH, hS, hl⟩ := hJ0
        have t0 := tb_hrs hI 0 n
        rw [Nat.zero_add, show hrsG g 0 = g from rfl] at t0
        refine lv_iload_n hx hb dX4_pass_40 rfl (lv_at hl 2 rfl) ?_
        refine lv_iload_n hx hb dX4_pass_41 rfl (lv_at hl 1 rfl) ?_
        refine lv_icmp_ge (tgt := 55) hx hb dX4_pass_42 (by decide) (fun c42 => ?_) (fun c42 => absurd (nI_le (Nat.le_refl _) (by omega)) c42)
        refine lv_aload_n hx hb dX4_pass_55 rfl (lv_at hl 0 rfl) ?_
        refine g4 hx hb hts hown hC hH 3 (by decide) wf_X4_52 (v := .int ((hrsG g n).1 40 0)) rfl dX4_pass_56 ?_
        exact e_xi hx hb hr hlocks h8 rfl hS ⟨ad, hE, hH⟩ (show 3 * (tb (hrsG g n) - tb g) ≤ 3 * B + 1 by omega) (show 132 * (tb (hrsG g n) - tb g) ≤ 132 * B + 6 by omega) dX4_pass_59
    · skip
      have c27x := Int32.not_le.mp c27
      have h9 : paC g a0 = 2 := by simp [paC, c7, c27, c27x]
      exact e_th (BX := fun H => ∃ ad : Tg → Nat, Ex g ad0 ad ∧ Wo D k b ad g M o H) (PE := xN [nIA, nIS] (paC g a0)) hlf (E := nIS) (by decide +kernel) wc_X4_39 wi_java_lang_IllegalStateException ax_IS gd_IS hx hb hts hown hC hlocks ht (by rw [hml]; exact hl.1) hS dX4_pass_30 dX4_pass_33 dX4_pass_34 dX4_pass_37 (fun H1 z o => ⟨ad, hE, hH.grow z o⟩) (Nat.le_of_ble_eq_true rfl) (Nat.le_of_ble_eq_true rfl) (show 0 + 1 ≤ 3 * B + 1 by omega) (show 0 + 6 ≤ 132 * B + 6 by omega) (show 0 + 1 ≤ 3 * B + 1 by omega) (show 0 + 6 ≤ 132 * B + 6 by omega) (by rw [h9]; exact ⟨by decide, rfl⟩)
  · skip
    have c7 := b2_0.mp c7
    have h9 : paC g a0 = 1 := by simp [paC, c7]
    exact e_th (BX := fun H => ∃ ad : Tg → Nat, Ex g ad0 ad ∧ Wo D k b ad g M o H) (PE := xN [nIA, nIS] (paC g a0)) hlf (E := nIA) (by decide +kernel) wc_X4_33 wi_java_lang_IllegalArgumentException ax_IA gd_IA hx hb hts hown hC hlocks ht (by rw [hml]; exact hl.1) hS dX4_pass_10 dX4_pass_13 dX4_pass_14 dX4_pass_17 (fun H1 z o => ⟨ad, hE, hH.grow z o⟩) (Nat.le_of_ble_eq_true rfl) (Nat.le_of_ble_eq_true rfl) (show 0 + 1 ≤ 3 * B + 1 by omega) (show 0 + 6 ≤ 132 * B + 6 by omega) (show 0 + 1 ≤ 3 * B + 1 by omega) (show 0 + 6 ≤ 132 * B + 6 by omega) (by rw [h9]; exact ⟨by decide, rfl⟩)

set_option maxHeartbeats 4000000 in
set_option maxRecDepth 100000 in
theorem mX4_ofMast (l : Launch) (hlf : l.stackTraces = false) {D : va_G} {k : Nat → ClassId} {b : Nat} {ad0 : Tg → Nat} {g : XS} {M : MF} {o : OF} (a0 a1 : Int32) : vx_Met l yX4_ofMast (WS yX4_ofMast cX4_ofMast 4 (some .int)) ({ frames := 6, cells := 1, slots := 6, locals := 81 }) (P0 D k b (Wo D k b ad0 g M o) [.ref (ad0 (0, 0, 0)), .int a0, .int a1]) (Qx b (omC g a0 a1 = 0) (some (.int (ofMV g (mI g a0 - 1) a1))) (fun H => ∃ ad : Tg → Nat, Ex g ad0 ad ∧ Wo D k b ad g M o H)) (Xx b (xN [nIO, nIA] (omC g a0 a1)) (fun H => ∃ ad : Tg → Nat, Ex g ad0 ad ∧ Wo D k b ad g M o H)) 1 6 (Fb b) := by
  refine Met0x (by decide +kernel) (Nat.le_of_ble_eq_true rfl) (fun p e s m below meth c ls hx hb hr hts hown hml hlocks ht hC hH hl => ?_)
  have hS : va_S (Fb b) s.heap s.heap [] := va_S.rf
  obtain ⟨ad, hE, hH, hl⟩ : ∃ ad : Tg → Nat, Ex g ad0 ad ∧ Wo D k b ad g M o s.heap ∧ lv_has ls 4 [(0, .ref (ad (0, 0, 0))), (1, .int a0), (2, .int a1)] := ⟨ad0, Ex.rf, hH, hl⟩
  refine lv_aload_n hx hb dX4_ofMast_0 rfl (lv_at hl 0 rfl) ?_
  refine lv_iload_n hx hb dX4_ofMast_1 rfl (lv_at hl 1 rfl) ?_
  refine k_r (va_runV (As := [.int a0]) (rest := []) ⟨hx, hb, hml, hown, hts⟩ (mX4_mastAt l a0) ⟨cb_of hts wk_X4_mastAt wi_X4 wm_X4_42 sd_X4_mastAt rfl rfl ⟨Nat.le_of_ble_eq_true rfl, Nat.le_of_ble_eq_true rfl⟩, hts _ wv_X4_mastAt, hts _ wl_X4_mastAt⟩ (P0.preV hC hS hH (Hp.recv hC.1 hH (0, 0, 0) ⟨by decide, rfl⟩ rfl rfl)) rfl rfl hl.1 rfl (lv_room (Nat.le_of_ble_eq_true rfl)) dX4_ofMast_2 ⟨Nat.le_of_ble_eq_true rfl, Nat.le_of_ble_eq_true rfl⟩) ?_
  refine W.eq (g2 := F0 m 5 ls [va_rf (mrO ad (mI g a0))]) rfl ?_
  refine lv_astore_nO (lv' := [(3, va_rf (mrO ad (mI g a0))), (0, .ref (ad (0, 0, 0))), (1, .int a0), (2, .int a1)]) hx hb dX4_ofMast_5 rfl hl (by decide) rfl (fun ls hl => ?_)
  refine lv_aload_nO hx hb dX4_ofMast_6 rfl (lv_at hl 0 rfl) ?_
  refine lv_ifnonnullO (tgt := 18) hx hb dX4_ofMast_7 (by decide) (fun c7a c7 => ?_) (fun c7 => ?_)
  · skip
    have c7 := mt mrO_0.mpr (by rw [c7]; exact Option.some_ne_none _)
    have hl : lv_has ls 4 [(3, .ref (ad (1, mI g a0 - 1, 0))), (0, .ref (ad (0, 0, 0))), (1, .int a0), (2, .int a1)] := by simpa [mrO, va_rf, c7] using hl
    refine lv_iload_n hx hb dX4_ofMast_18 rfl (lv_at hl 3 rfl) ?_
    by_cases c19 : inB a1 0 5 = true
    · skip
      have h8 : omC g a0 a1 = 0 := by simp [omC, c7, c19]
      obtain ⟨z, hz, hq⟩ := inB_nI (n := 5) rfl (by decide) c19
      rcases (show z = 0 ∨ z = 1 ∨ z = 2 ∨ z = 3 ∨ z = 4 ∨ z = 5 by omega) with rfl | rfl | rfl | rfl | rfl | rfl
      · skip
        have cz : a1 = 0 := hq
        refine lv_tableIn (tgt := 56) (off := 37) hx hb dX4_ofMast_19 (by rw [cz]; decide) (by rw [cz]; decide) (by rw [cz]; rfl) (by decide) ?_
        refine lv_aload_n hx hb dX4_ofMast_56 rfl (lv_at hl 0 rfl) ?_
        refine k_r (va_runVN (As := []) (rest := []) ⟨hx, hb, hml, hown, hts⟩ (mX2_isOn l (mI g a0 - 1) (mI_n c7).1) ⟨cn_of hts wk_X2_isOn wi_X2 wm_X4_112 sd_X2_isOn rfl rfl ⟨Nat.le_of_ble_eq_true rfl, Nat.le_of_ble_eq_true rfl⟩, hts _ wv_X2_isOn, hts _ wl_X2_isOn⟩ (P0.preV hC hS hH (Hp.recv hC.1 hH (1, mI g a0 - 1, 0) ⟨(mI_n c7).1, rfl⟩ rfl rfl)) rfl rfl hl.1 rfl (lv_room (Nat.le_of_ble_eq_true rfl)) dX4_ofMast_57 ⟨Nat.le_of_ble_eq_true rfl, Nat.le_of_ble_eq_true rfl⟩) ?_
        refine W.eq (g2 := F0 m 60 ls [.int (b2 (onB g (mI g a0 - 1)))]) rfl ?_
        refine lv_if_eq (tgt := 67) hx hb dX4_ofMast_60 (by decide) (fun c60 => ?_) (fun c60 => ?_)
        · skip
          have c60 := b2_0.mp c60
          refine lv_iconst (v := 0) hx hb dX4_ofMast_67 (by decide) ?_
          exact e_xi hx hb hr hlocks h8 (by simp [ofMV, b2, c7, c19, cz, c60]) hS ⟨ad, hE, hH⟩ (Nat.zero_le _) (Nat.zero_le _) dX4_ofMast_68
        · skip
          have c60 := b2_n0.mp c60
          refine lv_iconst (v := 1) hx hb dX4_ofMast_63 (by decide) ?_
          refine lv_goto (tgt := 68) hx hb dX4_ofMast_64 (by decide) ?_
          exact e_xi hx hb hr hlocks h8 (by simp [ofMV, b2, c7, c19, cz, c60]) hS ⟨ad, hE, hH⟩ (Nat.zero_le _) (Nat.zero_le _) dX4_ofMast_68
      · skip
        have cz : a1 = 1 := hq
        refine lv_tableIn (tgt := 69) (off := 50) hx hb dX4_ofMast_19 (by rw [cz]; decide) (by rw [cz]; decide) (by rw [cz]; rfl) (by decide) ?_
        refine lv_aload_n hx hb dX4_ofMast_69 rfl (lv_at hl 0 rfl) ?_
        refine g2N hx hb hts hown hC hH (mI g a0 - 1) (mI_n c7).1 9 (by decide) wf_X4_116 (v := .int (g.1 9 (mI g a0 - 1))) rfl dX4_ofMast_70 ?_
        exact e_xi hx hb hr hlocks h8 (by simp [ofMV, b2, c7, c19, cz]) hS ⟨ad, hE, hH⟩ (Nat.zero_le _) (Nat.zero_le _) dX4_ofMast_73
      · skip
        have cz : a1 = 2 := hq
        refine lv_tableIn (tgt := 74) (off := 55) hx hb dX4_ofMast_19 (by rw [cz]; decide) (by rw [cz]; decide) (by rw [cz]; rfl) (by decide) ?_
        refine lv_aload_n hx hb dX4_ofMast_74 rfl (lv_at hl 0 rfl) ?_
        refine g2N hx hb hts hown hC hH (mI g a0 - 1) (mI_n c7).1 10 (by decide) wf_X4_119 (v := .int (g.1 10 (mI g a0 - 1))) rfl dX4_ofMast_75 ?_
        exact e_xi hx hb hr hlocks h8 (by simp [ofMV, b2, c7, c19, cz]) hS ⟨ad, hE, hH⟩ (Nat.zero_le _) (Nat.zero_le _) dX4_ofMast_78
      · skip
        have cz : a1 = 3 := hq
        refine lv_tableIn (tgt := 79) (off := 60) hx hb dX4_ofMast_19 (by rw [cz]; decide) (by rw [cz]; decide) (by rw [cz]; rfl) (by decide) ?_
        refine lv_aload_n hx hb dX4_ofMast_79 rfl (lv_at hl 0 rfl) ?_
        refine g2N hx hb hts hown hC hH (mI g a0 - 1) (mI_n c7).1 11 (by decide) wf_X4_122 (v := .int (g.1 11 (mI g a0 - 1))) rfl dX4_ofMast_80 ?_
        exact e_xi hx hb hr hlocks h8 (by simp [ofMV, b2, c7, c19, cz]) hS ⟨ad, hE, hH⟩ (Nat.zero_le _) (Nat.zero_le _) dX4_ofMast_83
      · skip
        have cz : a1 = 4 := hq
        refine lv_tableIn (tgt := 84) (off := 65) hx hb dX4_ofMast_19 (by rw [cz]; decide) (by rw [cz]; decide) (by rw [cz]; rfl) (by decide) ?_
        refine lv_aload_n hx hb dX4_ofMast_84 rfl (lv_at hl 0 rfl) ?_
        refine g2N hx hb hts hown hC hH (mI g a0 - 1) (mI_n c7).1 12 (by decide) wf_X4_125 (v := .int (g.1 12 (mI g a0 - 1))) rfl dX4_ofMast_85 ?_
        exact e_xi hx hb hr hlocks h8 (by simp [ofMV, b2, c7, c19, cz]) hS ⟨ad, hE, hH⟩ (Nat.zero_le _) (Nat.zero_le _) dX4_ofMast_88
      · skip
        have cz : a1 = 5 := hq
        refine lv_tableIn (tgt := 89) (off := 70) hx hb dX4_ofMast_19 (by rw [cz]; decide) (by rw [cz]; decide) (by rw [cz]; rfl) (by decide) ?_
        refine lv_aload_n hx hb dX4_ofMast_89 rfl (lv_at hl 0 rfl) ?_
        refine g2N hx hb hts hown hC hH (mI g a0 - 1) (mI_n c7).1 7 (by decide) wf_X4_56 (v := va_rf (lsO ad (mI g a0 - 1) (g.2.1 2 (mI g a0 - 1)))) rfl dX4_ofMast_90 ?_
        by_cases c90 : g.2.1 2 (mI g a0 - 1) = 0
        · skip
          refine W.eq (g2 := F0 m 93 ls [.null]) (by simp [lsO, va_rf, c90]) ?_
          refine lv_ifnonnullN hx hb dX4_ofMast_93 ?_
          refine lv_iconst (v := (-1)) hx hb dX4_ofMast_96 (by decide) ?_
          refine lv_goto (tgt := 107) hx hb dX4_ofMast_97 (by decide) ?_
          exact e_xi hx hb hr hlocks h8 (by simp [ofMV, b2, c7, c19, cz, c90]) hS ⟨ad, hE, hH⟩ (Nat.zero_le _) (Nat.zero_le _) dX4_ofMast_107
        · skip
          refine W.eq (g2 := F0 m 93 ls [.ref (ad (3, mI g a0 - 1, 0))]) (by simp [lsO, va_rf, c90]) ?_
          refine lv_ifnonnull (tgt := 100) hx hb dX4_ofMast_93 (by decide) ?_
          refine lv_aload_n hx hb dX4_ofMast_100 rfl (lv_at hl 0 rfl) ?_
          refine g2N hx hb hts hown hC hH (mI g a0 - 1) (mI_n c7).1 7 (by decide) wf_X4_56 (v := va_rf (lsO ad (mI g a0 - 1) (g.2.1 2 (mI g a0 - 1)))) rfl dX4_ofMast_101 ?_
          refine W.eq (g2 := F0 m 104 ls [.ref (ad (3, mI g a0 - 1, 0))]) (by simp [lsO, va_rf, c90]) ?_
          refine g0N hx hb hts hown hC hH (mI g a0 - 1) (mI_n c7).1 c90 3 (by decide) wf_X4_128 (v := .int (g.1 23 (mI g a0 - 1))) rfl dX4_ofMast_104 ?_
          exact e_xi hx hb hr hlocks h8 (by simp [ofMV, b2, c7, c19, cz, c90]) hS ⟨ad, hE, hH⟩ (Nat.zero_le _) (Nat.zero_le _) dX4_ofMast_107
    · skip
      have c19 : inB a1 0 5 = false := by simpa using c19
      refine lv_tableOut (tgt := 108) hx hb dX4_ofMast_19 (inB_out c19) (by decide) ?_
      have h9 : omC g a0 a1 = 2 := by simp [omC, c7, c19]
      exact e_th (BX := fun H => ∃ ad : Tg → Nat, Ex g ad0 ad ∧ Wo D k b ad g M o H) (PE := xN [nIO, nIA] (omC g a0 a1)) hlf (E := nIA) (by decide +kernel) wc_X4_33 wi_java_lang_IllegalArgumentException ax_IA gd_IA hx hb hts hown hC hlocks ht (by rw [hml]; exact hl.1) hS dX4_ofMast_108 dX4_ofMast_111 dX4_ofMast_112 dX4_ofMast_115 (fun H1 z o => ⟨ad, hE, hH.grow z o⟩) (Nat.le_of_ble_eq_true rfl) (Nat.le_of_ble_eq_true rfl) (show 0 + 1 ≤ 1 by omega) (show 0 + 6 ≤ 6 by omega) (show 0 + 1 ≤ 1 by omega) (show 0 + 6 ≤ 6 by omega) (by rw [h9]; exact ⟨by decide, rfl⟩)
  · skip
    have c7 := mrO_0.mp c7
    have hl : lv_has ls 4 [(3, .null), (0, .ref (ad (0, 0, 0))), (1, .int a0), (2, .int a1)] := by simpa [mrO, va_rf, c7] using hl
    have h9 : omC g a0 a1 = 1 := by simp [omC, c7]
    exact e_th (BX := fun H => ∃ ad : Tg → Nat, Ex g ad0 ad ∧ Wo D k b ad g M o H) (PE := xN [nIO, nIA] (omC g a0 a1)) hlf (E := nIO) (by decide +kernel) wc_X4_49 wi_java_lang_IndexOutOfBoundsException ax_IO gd_IO hx hb hts hown hC hlocks ht (by rw [hml]; exact hl.1) hS dX4_ofMast_10 dX4_ofMast_13 dX4_ofMast_14 dX4_ofMast_17 (fun H1 z o => ⟨ad, hE, hH.grow z o⟩) (Nat.le_of_ble_eq_true rfl) (Nat.le_of_ble_eq_true rfl) (show 0 + 1 ≤ 1 by omega) (show 0 + 6 ≤ 6 by omega) (show 0 + 1 ≤ 1 by omega) (show 0 + 6 ≤ 6 by omega) (by rw [h9]; exact ⟨by decide, rfl⟩)

set_option maxHeartbeats 4000000 in
set_option maxRecDepth 100000 in
theorem mX4_ofPhone (l : Launch) (hlf : l.stackTraces = false) {D : va_G} {k : Nat → ClassId} {b : Nat} {ad0 : Tg → Nat} {g : XS} {M : MF} {o : OF} (hI : XI g) (a0 a1 : Int32) : vx_Met l yX4_ofPhone (WS yX4_ofPhone cX4_ofPhone 4 (some .int)) ({ frames := 6, cells := 1, slots := 6, locals := 81 }) (P0 D k b (Wo D k b ad0 g M o) [.ref (ad0 (0, 0, 0)), .int a0, .int a1]) (Qx b (opC g a0 a1 = 0) (some (.int (ofPV g (pI g a0 - 1) a1))) (fun H => ∃ ad : Tg → Nat, Ex g ad0 ad ∧ Wo D k b ad g M o H)) (Xx b (xN [nIO, nIA] (opC g a0 a1)) (fun H => ∃ ad : Tg → Nat, Ex g ad0 ad ∧ Wo D k b ad g M o H)) 1 6 (Fb b) := by
  refine Met0x (by decide +kernel) (Nat.le_of_ble_eq_true rfl) (fun p e s m below meth c ls hx hb hr hts hown hml hlocks ht hC hH hl => ?_)
  have hS : va_S (Fb b) s.heap s.heap [] := va_S.rf
  obtain ⟨ad, hE, hH, hl⟩ : ∃ ad : Tg → Nat, Ex g ad0 ad ∧ Wo D k b ad g M o s.heap ∧ lv_has ls 4 [(0, .ref (ad (0, 0, 0))), (1, .int a0), (2, .int a1)] := ⟨ad0, Ex.rf, hH, hl⟩
  refine lv_aload_n hx hb dX4_ofPhone_0 rfl (lv_at hl 0 rfl) ?_
  refine lv_iload_n hx hb dX4_ofPhone_1 rfl (lv_at hl 1 rfl) ?_
  refine k_r (va_runV (As := [.int a0]) (rest := []) ⟨hx, hb, hml, hown, hts⟩ (mX4_phoneAt l a0) ⟨cb_of hts wk_X4_phoneAt wi_X4 wm_X4_71 sd_X4_phoneAt rfl rfl ⟨Nat.le_of_ble_eq_true rfl, Nat.le_of_ble_eq_true rfl⟩, hts _ wv_X4_phoneAt, hts _ wl_X4_phoneAt⟩ (P0.preV hC hS hH (Hp.recv hC.1 hH (0, 0, 0) ⟨by decide, rfl⟩ rfl rfl)) rfl rfl hl.1 rfl (lv_room (Nat.le_of_ble_eq_true rfl)) dX4_ofPhone_2 ⟨Nat.le_of_ble_eq_true rfl, Nat.le_of_ble_eq_true rfl⟩) ?_
  refine W.eq (g2 := F0 m 5 ls [va_rf (prO ad (pI g a0))]) rfl ?_
  refine lv_astore_nO (lv' := [(3, va_rf (prO ad (pI g a0))), (0, .ref (ad (0, 0, 0))), (1, .int a0), (2, .int a1)]) hx hb dX4_ofPhone_5 rfl hl (by decide) rfl (fun ls hl => ?_)
  refine lv_aload_nO hx hb dX4_ofPhone_6 rfl (lv_at hl 0 rfl) ?_
  refine lv_ifnonnullO (tgt := 18) hx hb dX4_ofPhone_7 (by decide) (fun c7a c7 => ?_) (fun c7 => ?_)
  · skip
    have c7 := mt prO_0.mpr (by rw [c7]; exact Option.some_ne_none _)
    have hl : lv_has ls 4 [(3, .ref (ad (2, pI g a0 - 1, 0))), (0, .ref (ad (0, 0, 0))), (1, .int a0), (2, .int a1)] := by simpa [prO, va_rf, c7] using hl
    refine lv_iload_n hx hb dX4_ofPhone_18 rfl (lv_at hl 3 rfl) ?_
    by_cases c19 : inB a1 0 4 = true
    · skip
      have h8 : opC g a0 a1 = 0 := by simp [opC, c7, c19]
      obtain ⟨z, hz, hq⟩ := inB_nI (n := 4) rfl (by decide) c19
      rcases (show z = 0 ∨ z = 1 ∨ z = 2 ∨ z = 3 ∨ z = 4 by omega) with rfl | rfl | rfl | rfl | rfl
      · skip
        have cz : a1 = 0 := hq
        refine lv_tableIn (tgt := 52) (off := 33) hx hb dX4_ofPhone_19 (by rw [cz]; decide) (by rw [cz]; decide) (by rw [cz]; rfl) (by decide) ?_
        refine lv_aload_n hx hb dX4_ofPhone_52 rfl (lv_at hl 0 rfl) ?_
        refine g3N hx hb hts hown hC hH (pI g a0 - 1) (pI_n c7).1 0 (by decide) wf_X4_79 (v := .int (g.1 30 (pI g a0 - 1))) rfl dX4_ofPhone_53 ?_
        exact e_xi hx hb hr hlocks h8 (by simp [ofPV, c7, c19, cz]) hS ⟨ad, hE, hH⟩ (Nat.zero_le _) (Nat.zero_le _) dX4_ofPhone_56
      · skip
        have cz : a1 = 1 := hq
        refine lv_tableIn (tgt := 57) (off := 38) hx hb dX4_ofPhone_19 (by rw [cz]; decide) (by rw [cz]; decide) (by rw [cz]; rfl) (by decide) ?_
        refine lv_aload_n hx hb dX4_ofPhone_57 rfl (lv_at hl 0 rfl) ?_
        refine k_r (va_runVN (As := []) (rest := []) ⟨hx, hb, hml, hown, hts⟩ (mX3_carrierNumber l (pI g a0 - 1) (pI_n c7).1 hI) ⟨cn_of hts wk_X3_carrierNumber wi_X3 wm_X4_95 sd_X3_carrierNumber rfl rfl ⟨Nat.le_of_ble_eq_true rfl, Nat.le_of_ble_eq_true rfl⟩, hts _ wv_X3_carrierNumber, hts _ wl_X3_carrierNumber⟩ (P0.preV hC hS hH (Hp.recv hC.1 hH (2, pI g a0 - 1, 0) ⟨(pI_n c7).1, rfl⟩ rfl rfl)) rfl rfl hl.1 rfl (lv_room (Nat.le_of_ble_eq_true rfl)) dX4_ofPhone_58 ⟨Nat.le_of_ble_eq_true rfl, Nat.le_of_ble_eq_true rfl⟩) ?_
        refine W.eq (g2 := F0 m 61 ls [.int (cnI g (pI g a0 - 1))]) rfl ?_
        exact e_xi hx hb hr hlocks h8 (by simp [ofPV, c7, c19, cz]) hS ⟨ad, hE, hH⟩ (Nat.zero_le _) (Nat.zero_le _) dX4_ofPhone_61
      · skip
        have cz : a1 = 2 := hq
        refine lv_tableIn (tgt := 62) (off := 43) hx hb dX4_ofPhone_19 (by rw [cz]; decide) (by rw [cz]; decide) (by rw [cz]; rfl) (by decide) ?_
        refine lv_aload_n hx hb dX4_ofPhone_62 rfl (lv_at hl 0 rfl) ?_
        refine g3N hx hb hts hown hC hH (pI g a0 - 1) (pI_n c7).1 3 (by decide) wf_X4_85 (v := .int (g.1 33 (pI g a0 - 1))) rfl dX4_ofPhone_63 ?_
        exact e_xi hx hb hr hlocks h8 (by simp [ofPV, c7, c19, cz]) hS ⟨ad, hE, hH⟩ (Nat.zero_le _) (Nat.zero_le _) dX4_ofPhone_66
      · skip
        have cz : a1 = 3 := hq
        refine lv_tableIn (tgt := 67) (off := 48) hx hb dX4_ofPhone_19 (by rw [cz]; decide) (by rw [cz]; decide) (by rw [cz]; rfl) (by decide) ?_
        refine lv_aload_n hx hb dX4_ofPhone_67 rfl (lv_at hl 0 rfl) ?_
        refine g3N hx hb hts hown hC hH (pI g a0 - 1) (pI_n c7).1 4 (by decide) wf_X4_137 (v := .int (g.1 34 (pI g a0 - 1))) rfl dX4_ofPhone_68 ?_
        exact e_xi hx hb hr hlocks h8 (by simp [ofPV, c7, c19, cz]) hS ⟨ad, hE, hH⟩ (Nat.zero_le _) (Nat.zero_le _) dX4_ofPhone_71
      · skip
        have cz : a1 = 4 := hq
        refine lv_tableIn (tgt := 72) (off := 53) hx hb dX4_ofPhone_19 (by rw [cz]; decide) (by rw [cz]; decide) (by rw [cz]; rfl) (by decide) ?_
        refine lv_aload_n hx hb dX4_ofPhone_72 rfl (lv_at hl 0 rfl) ?_
        refine g3N hx hb hts hown hC hH (pI g a0 - 1) (pI_n c7).1 5 (by decide) wf_X4_140 (v := .int (g.1 35 (pI g a0 - 1))) rfl dX4_ofPhone_73 ?_
        exact e_xi hx hb hr hlocks h8 (by simp [ofPV, c7, c19, cz]) hS ⟨ad, hE, hH⟩ (Nat.zero_le _) (Nat.zero_le _) dX4_ofPhone_76
    · skip
      have c19 : inB a1 0 4 = false := by simpa using c19
      refine lv_tableOut (tgt := 77) hx hb dX4_ofPhone_19 (inB_out c19) (by decide) ?_
      have h9 : opC g a0 a1 = 2 := by simp [opC, c7, c19]
      exact e_th (BX := fun H => ∃ ad : Tg → Nat, Ex g ad0 ad ∧ Wo D k b ad g M o H) (PE := xN [nIO, nIA] (opC g a0 a1)) hlf (E := nIA) (by decide +kernel) wc_X4_33 wi_java_lang_IllegalArgumentException ax_IA gd_IA hx hb hts hown hC hlocks ht (by rw [hml]; exact hl.1) hS dX4_ofPhone_77 dX4_ofPhone_80 dX4_ofPhone_81 dX4_ofPhone_84 (fun H1 z o => ⟨ad, hE, hH.grow z o⟩) (Nat.le_of_ble_eq_true rfl) (Nat.le_of_ble_eq_true rfl) (show 0 + 1 ≤ 1 by omega) (show 0 + 6 ≤ 6 by omega) (show 0 + 1 ≤ 1 by omega) (show 0 + 6 ≤ 6 by omega) (by rw [h9]; exact ⟨by decide, rfl⟩)
  · skip
    have c7 := prO_0.mp c7
    have hl : lv_has ls 4 [(3, .null), (0, .ref (ad (0, 0, 0))), (1, .int a0), (2, .int a1)] := by simpa [prO, va_rf, c7] using hl
    have h9 : opC g a0 a1 = 1 := by simp [opC, c7]
    exact e_th (BX := fun H => ∃ ad : Tg → Nat, Ex g ad0 ad ∧ Wo D k b ad g M o H) (PE := xN [nIO, nIA] (opC g a0 a1)) hlf (E := nIO) (by decide +kernel) wc_X4_49 wi_java_lang_IndexOutOfBoundsException ax_IO gd_IO hx hb hts hown hC hlocks ht (by rw [hml]; exact hl.1) hS dX4_ofPhone_10 dX4_ofPhone_13 dX4_ofPhone_14 dX4_ofPhone_17 (fun H1 z o => ⟨ad, hE, hH.grow z o⟩) (Nat.le_of_ble_eq_true rfl) (Nat.le_of_ble_eq_true rfl) (show 0 + 1 ≤ 1 by omega) (show 0 + 6 ≤ 6 by omega) (show 0 + 1 ≤ 1 by omega) (show 0 + 6 ≤ 6 by omega) (by rw [h9]; exact ⟨by decide, rfl⟩)

set_option maxHeartbeats 4000000 in
set_option maxRecDepth 100000 in
theorem mX4_trafficAnew (l : Launch) (hlf : l.stackTraces = false) {D : va_G} {k : Nat → ClassId} {b : Nat} {ad0 : Tg → Nat} {g : XS} {M : MF} {o : OF} (hI : XI g) (a0 : Int32) : vx_Met l yX4_trafficAnew (WS yX4_trafficAnew cX4_trafficAnew 8 (some .int)) ({ frames := 6, cells := 1, slots := 6, locals := 81 }) (P0 D k b (Wo D k b ad0 g M o) [.ref (ad0 (0, 0, 0)), .int a0]) (Qx b (taC g a0 = 0) (some (.int (pnS g (mI g a0 - 1) 12 (hbA g (mI g a0 - 1) (nbk (g.2.1 4 (mI g a0 - 1))) (nbk (g.2.1 4 (mI g a0 - 1))))))) (fun H => ∃ ad : Tg → Nat, Ex g ad0 ad ∧ Wo D k b ad g M o H)) (Xx b (xN [nIO] (taC g a0)) (fun H => ∃ ad : Tg → Nat, Ex g ad0 ad ∧ Wo D k b ad g M o H)) 1 6 (Fb b) := by
  refine Met0x (by decide +kernel) (Nat.le_of_ble_eq_true rfl) (fun p e s m below meth c ls hx hb hr hts hown hml hlocks ht hC hH hl => ?_)
  have hS : va_S (Fb b) s.heap s.heap [] := va_S.rf
  obtain ⟨ad, hE, hH, hl⟩ : ∃ ad : Tg → Nat, Ex g ad0 ad ∧ Wo D k b ad g M o s.heap ∧ lv_has ls 8 [(0, .ref (ad (0, 0, 0))), (1, .int a0)] := ⟨ad0, Ex.rf, hH, hl⟩
  refine lv_aload_n hx hb dX4_trafficAnew_0 rfl (lv_at hl 0 rfl) ?_
  refine lv_iload_n hx hb dX4_trafficAnew_1 rfl (lv_at hl 1 rfl) ?_
  refine k_r (va_runV (As := [.int a0]) (rest := []) ⟨hx, hb, hml, hown, hts⟩ (mX4_mastAt l a0) ⟨cb_of hts wk_X4_mastAt wi_X4 wm_X4_42 sd_X4_mastAt rfl rfl ⟨Nat.le_of_ble_eq_true rfl, Nat.le_of_ble_eq_true rfl⟩, hts _ wv_X4_mastAt, hts _ wl_X4_mastAt⟩ (P0.preV hC hS hH (Hp.recv hC.1 hH (0, 0, 0) ⟨by decide, rfl⟩ rfl rfl)) rfl rfl hl.1 rfl (lv_room (Nat.le_of_ble_eq_true rfl)) dX4_trafficAnew_2 ⟨Nat.le_of_ble_eq_true rfl, Nat.le_of_ble_eq_true rfl⟩) ?_
  refine W.eq (g2 := F0 m 5 ls [va_rf (mrO ad (mI g a0))]) rfl ?_
  refine lv_astore_nO (lv' := [(2, va_rf (mrO ad (mI g a0))), (0, .ref (ad (0, 0, 0))), (1, .int a0)]) hx hb dX4_trafficAnew_5 rfl hl (by decide) rfl (fun ls hl => ?_)
  refine lv_aload_nO hx hb dX4_trafficAnew_6 rfl (lv_at hl 0 rfl) ?_
  refine lv_ifnonnullO (tgt := 18) hx hb dX4_trafficAnew_7 (by decide) (fun c7a c7 => ?_) (fun c7 => ?_)
  · skip
    have c7 := mt mrO_0.mpr (by rw [c7]; exact Option.some_ne_none _)
    have hl : lv_has ls 8 [(2, .ref (ad (1, mI g a0 - 1, 0))), (0, .ref (ad (0, 0, 0))), (1, .int a0)] := by simpa [mrO, va_rf, c7] using hl
    refine lv_aload_n hx hb dX4_trafficAnew_18 rfl (lv_at hl 0 rfl) ?_
    refine k_r (va_runVN (As := []) (rest := []) ⟨hx, hb, hml, hown, hts⟩ (mX2_hoursOfLog l (mI g a0 - 1) (mI_n c7).1) ⟨cn_of hts wk_X2_hoursOfLog wi_X2 wm_X4_131 sd_X2_hoursOfLog rfl rfl ⟨Nat.le_of_ble_eq_true rfl, Nat.le_of_ble_eq_true rfl⟩, hts _ wv_X2_hoursOfLog, hts _ wl_X2_hoursOfLog⟩ (P0.preV hC hS hH (Hp.recv hC.1 hH (1, mI g a0 - 1, 0) ⟨(mI_n c7).1, rfl⟩ rfl rfl)) rfl rfl hl.1 rfl (lv_room (Nat.le_of_ble_eq_true rfl)) dX4_trafficAnew_19 ⟨Nat.le_of_ble_eq_true rfl, Nat.le_of_ble_eq_true rfl⟩) ?_
    refine W.eq (g2 := F0 m 22 ls [.int (hbA g (mI g a0 - 1) (nbk (g.2.1 4 (mI g a0 - 1))) (nbk (g.2.1 4 (mI g a0 - 1))))]) rfl ?_
    refine lv_istore_n (lv' := [(3, .int (hbA g (mI g a0 - 1) (nbk (g.2.1 4 (mI g a0 - 1))) (nbk (g.2.1 4 (mI g a0 - 1))))), (2, .ref (ad (1, mI g a0 - 1, 0))), (0, .ref (ad (0, 0, 0))), (1, .int a0)]) hx hb dX4_trafficAnew_22 rfl hl (by decide) rfl (fun ls hl => ?_)
    refine lv_aload_n hx hb dX4_trafficAnew_23 rfl (lv_at hl 2 rfl) ?_
    refine g4 hx hb hts hown hC hH 1 (by decide) wf_X4_17 (v := .ref (ad (0, 2, 0))) rfl dX4_trafficAnew_24 ?_
    refine lv_astore (lv' := [(4, .ref (ad (0, 2, 0))), (3, .int (hbA g (mI g a0 - 1) (nbk (g.2.1 4 (mI g a0 - 1))) (nbk (g.2.1 4 (mI g a0 - 1))))), (2, .ref (ad (1, mI g a0 - 1, 0))), (0, .ref (ad (0, 0, 0))), (1, .int a0)]) hx hb dX4_trafficAnew_27 hl (by decide) rfl (fun ls hl => ?_)
    refine lv_aload hx hb dX4_trafficAnew_29 (lv_at hl 0 rfl) ?_
    refine pLen hx hb hC hH dX4_trafficAnew_31 ?_
    refine lv_istore (lv' := [(5, .int (nI 12)), (4, .ref (ad (0, 2, 0))), (3, .int (hbA g (mI g a0 - 1) (nbk (g.2.1 4 (mI g a0 - 1))) (nbk (g.2.1 4 (mI g a0 - 1))))), (2, .ref (ad (1, mI g a0 - 1, 0))), (0, .ref (ad (0, 0, 0))), (1, .int a0)]) hx hb dX4_trafficAnew_32 hl (by decide) rfl (fun ls hl => ?_)
    refine lv_iconst (v := nI 0) hx hb dX4_trafficAnew_34 (by decide) ?_
    refine lv_istore (lv' := [(6, .int (nI 0)), (5, .int (nI 12)), (4, .ref (ad (0, 2, 0))), (3, .int (hbA g (mI g a0 - 1) (nbk (g.2.1 4 (mI g a0 - 1))) (nbk (g.2.1 4 (mI g a0 - 1))))), (2, .ref (ad (1, mI g a0 - 1, 0))), (0, .ref (ad (0, 0, 0))), (1, .int a0)]) hx hb dX4_trafficAnew_35 hl (by decide) rfl (fun ls hl => ?_)
    refine loop_r 12 (fun i ls => lv_has ls 8 [(0, .ref (ad (0, 0, 0))), (1, .int a0), (2, .ref (ad (1, mI g a0 - 1, 0))), (3, .int (pnS g (mI g a0 - 1) i (hbA g (mI g a0 - 1) (nbk (g.2.1 4 (mI g a0 - 1))) (nbk (g.2.1 4 (mI g a0 - 1)))))), (4, .ref (ad (0, 2, 0))), (5, .int (nI 12)), (6, .int (nI i))]) (fun i hi ls hJ0 ih => ?_) (fun ls hJ0 => ?_) (lv_sub hl [5, 6, 4, 3, 2, 1, 0] rfl)
    · skip
      have hl := hJ0
      refine lv_iload hx hb dX4_trafficAnew_37 (lv_at hl 6 rfl) ?_
      refine lv_iload hx hb dX4_trafficAnew_39 (lv_at hl 5 rfl) ?_
      refine lv_icmp_ge (tgt := 84) hx hb dX4_trafficAnew_41 (by decide) (fun c41 => absurd c41 (nI_ge hi (by decide))) (fun c41 => ?_)
      refine lv_aload hx hb dX4_trafficAnew_44 (lv_at hl 4 rfl) ?_
      refine lv_iload hx hb dX4_trafficAnew_46 (lv_at hl 6 rfl) ?_
      refine pLd hx hb hC hH (i := i) hi dX4_trafficAnew_48 ?_
      by_cases c48 : i < g.2.1 1 0
      · skip
        refine W.eq (g2 := F0 m 49 ls [.ref (ad (2, i, 0))]) (by simp [phO, c48, va_rf]) ?_
        refine lv_astore (lv' := [(7, .ref (ad (2, i, 0))), (0, .ref (ad (0, 0, 0))), (1, .int a0), (2, .ref (ad (1, mI g a0 - 1, 0))), (3, .int (pnS g (mI g a0 - 1) i (hbA g (mI g a0 - 1) (nbk (g.2.1 4 (mI g a0 - 1))) (nbk (g.2.1 4 (mI g a0 - 1)))))), (4, .ref (ad (0, 2, 0))), (5, .int (nI 12)), (6, .int (nI i))]) hx hb dX4_trafficAnew_49 hl (by decide) rfl (fun ls hl => ?_)
        refine lv_aload hx hb dX4_trafficAnew_51 (lv_at hl 0 rfl) ?_
        refine lv_ifnull hx hb dX4_trafficAnew_53 ?_
        refine lv_aload hx hb dX4_trafficAnew_56 (lv_at hl 0 rfl) ?_
        refine g3N hx hb hts hown hC hH i c48 1 (by decide) wf_X4_75 (v := va_rf (mrO ad (g.2.1 3 i))) rfl dX4_trafficAnew_58 ?_
        refine lv_aload_n hx hb dX4_trafficAnew_61 rfl (lv_at hl 3 rfl) ?_
        have h5 := mrO_is hH (i := mI g a0 - 1) (r := (g.2.1 3 i)) (mI_n c7).1 (hI.2.2.1 i c48)
        refine lv_acmp_ne (rx := mrO ad (g.2.1 3 i)) (ry := some (ad (1, mI g a0 - 1, 0))) (tgt := 78) hx hb dX4_trafficAnew_62 (by decide) (fun c62 => ?_) (fun c62 => ?_)
        · skip
          rw [h5] at c62
          refine lv_iinc (v := nI (i + 1)) (lv' := [(6, .int (nI (i + 1))), (7, .ref (ad (2, i, 0))), (0, .ref (ad (0, 0, 0))), (1, .int a0), (2, .ref (ad (1, mI g a0 - 1, 0))), (3, .int (pnS g (mI g a0 - 1) i (hbA g (mI g a0 - 1) (nbk (g.2.1 4 (mI g a0 - 1))) (nbk (g.2.1 4 (mI g a0 - 1)))))), (4, .ref (ad (0, 2, 0))), (5, .int (nI 12))]) hx hb dX4_trafficAnew_78 hl (k := 7) rfl (by rw [← nI_add]; rfl) (by decide) rfl (fun ls hl => ?_)
          refine lv_goto (tgt := 37) hx hb dX4_trafficAnew_81 (by decide) ?_
          have h9 : pnS g (mI g a0 - 1) (i + 1) (hbA g (mI g a0 - 1) (nbk (g.2.1 4 (mI g a0 - 1))) (nbk (g.2.1 4 (mI g a0 - 1)))) = pnS g (mI g a0 - 1) i (hbA g (mI g a0 - 1) (nbk (g.2.1 4 (mI g a0 - 1))) (nbk (g.2.1 4 (mI g a0 - 1)))) := by rw [pnS]; simp only [c48, c62]; simp
          refine ih ls ?_
          rw [h9]
          exact lv_sub hl [2, 3, 4, 5, 6, 7, 0] rfl
        · skip
          rw [h5] at c62
          refine lv_iload_n hx hb dX4_trafficAnew_65 rfl (lv_at hl 4 rfl) ?_
          refine lv_aload_n hx hb dX4_trafficAnew_66 rfl (lv_at hl 1 rfl) ?_
          refine g4 hx hb hts hown hC hH 3 (by decide) wf_X4_52 (v := .int (g.1 40 0)) rfl dX4_trafficAnew_67 ?_
          refine lv_aload hx hb dX4_trafficAnew_70 (lv_at hl 0 rfl) ?_
          refine g3N hx hb hts hown hC hH i c48 2 (by decide) wf_X4_134 (v := .int (g.1 32 i)) rfl dX4_trafficAnew_72 ?_
          refine lv_isub hx hb dX4_trafficAnew_75 ?_
          refine lv_iadd hx hb dX4_trafficAnew_76 ?_
          refine lv_istore_n (lv' := [(3, .int ((pnS g (mI g a0 - 1) i (hbA g (mI g a0 - 1) (nbk (g.2.1 4 (mI g a0 - 1))) (nbk (g.2.1 4 (mI g a0 - 1))))) + ((g.1 40 0) - (g.1 32 i)))), (7, .ref (ad (2, i, 0))), (0, .ref (ad (0, 0, 0))), (1, .int a0), (2, .ref (ad (1, mI g a0 - 1, 0))), (4, .ref (ad (0, 2, 0))), (5, .int (nI 12)), (6, .int (nI i))]) hx hb dX4_trafficAnew_77 rfl hl (by decide) rfl (fun ls hl => ?_)
          refine lv_iinc (v := nI (i + 1)) (lv' := [(6, .int (nI (i + 1))), (3, .int ((pnS g (mI g a0 - 1) i (hbA g (mI g a0 - 1) (nbk (g.2.1 4 (mI g a0 - 1))) (nbk (g.2.1 4 (mI g a0 - 1))))) + ((g.1 40 0) - (g.1 32 i)))), (7, .ref (ad (2, i, 0))), (0, .ref (ad (0, 0, 0))), (1, .int a0), (2, .ref (ad (1, mI g a0 - 1, 0))), (4, .ref (ad (0, 2, 0))), (5, .int (nI 12))]) hx hb dX4_trafficAnew_78 hl (k := 7) rfl (by rw [← nI_add]; rfl) (by decide) rfl (fun ls hl => ?_)
          refine lv_goto (tgt := 37) hx hb dX4_trafficAnew_81 (by decide) ?_
          have h9 : pnS g (mI g a0 - 1) (i + 1) (hbA g (mI g a0 - 1) (nbk (g.2.1 4 (mI g a0 - 1))) (nbk (g.2.1 4 (mI g a0 - 1)))) = (pnS g (mI g a0 - 1) i (hbA g (mI g a0 - 1) (nbk (g.2.1 4 (mI g a0 - 1))) (nbk (g.2.1 4 (mI g a0 - 1))))) + ((g.1 40 0) - (g.1 32 i)) := by rw [pnS]; simp only [c48, c62]; simp
          refine ih ls ?_
          rw [h9]
          exact lv_sub hl [3, 4, 5, 1, 6, 7, 0] rfl
      · skip
        refine W.eq (g2 := F0 m 49 ls [.null]) (by simp [phO, c48, va_rf]) ?_
        refine lv_astoreN (lv' := [(7, .null), (0, .ref (ad (0, 0, 0))), (1, .int a0), (2, .ref (ad (1, mI g a0 - 1, 0))), (3, .int (pnS g (mI g a0 - 1) i (hbA g (mI g a0 - 1) (nbk (g.2.1 4 (mI g a0 - 1))) (nbk (g.2.1 4 (mI g a0 - 1)))))), (4, .ref (ad (0, 2, 0))), (5, .int (nI 12)), (6, .int (nI i))]) hx hb dX4_trafficAnew_49 hl (by decide) rfl (fun ls hl => ?_)
        refine lv_aloadN hx hb dX4_trafficAnew_51 (lv_at hl 0 rfl) ?_
        refine lv_ifnullN (tgt := 78) hx hb dX4_trafficAnew_53 (by decide) ?_
        refine lv_iinc (v := nI (i + 1)) (lv' := [(6, .int (nI (i + 1))), (7, .null), (0, .ref (ad (0, 0, 0))), (1, .int a0), (2, .ref (ad (1, mI g a0 - 1, 0))), (3, .int (pnS g (mI g a0 - 1) i (hbA g (mI g a0 - 1) (nbk (g.2.1 4 (mI g a0 - 1))) (nbk (g.2.1 4 (mI g a0 - 1)))))), (4, .ref (ad (0, 2, 0))), (5, .int (nI 12))]) hx hb dX4_trafficAnew_78 hl (k := 7) rfl (by rw [← nI_add]; rfl) (by decide) rfl (fun ls hl => ?_)
        refine lv_goto (tgt := 37) hx hb dX4_trafficAnew_81 (by decide) ?_
        have h9 : pnS g (mI g a0 - 1) (i + 1) (hbA g (mI g a0 - 1) (nbk (g.2.1 4 (mI g a0 - 1))) (nbk (g.2.1 4 (mI g a0 - 1)))) = pnS g (mI g a0 - 1) i (hbA g (mI g a0 - 1) (nbk (g.2.1 4 (mI g a0 - 1))) (nbk (g.2.1 4 (mI g a0 - 1)))) := by rw [pnS]; simp only [c48]; simp
        refine ih ls ?_
        rw [h9]
        exact lv_sub hl [2, 3, 4, 5, 6, 7, 0] rfl
    · skip
      have hl := hJ0
      refine lv_iload hx hb dX4_trafficAnew_37 (lv_at hl 6 rfl) ?_
      refine lv_iload hx hb dX4_trafficAnew_39 (lv_at hl 5 rfl) ?_
      refine lv_icmp_ge (tgt := 84) hx hb dX4_trafficAnew_41 (by decide) (fun c41 => ?_) (fun c41 => absurd (nI_le (Nat.le_refl _) (by decide)) c41)
      refine lv_iload_n hx hb dX4_trafficAnew_84 rfl (lv_at hl 3 rfl) ?_
      exact e_xi hx hb hr hlocks (by simp [taC, c7]) rfl hS ⟨ad, hE, hH⟩ (Nat.zero_le _) (Nat.zero_le _) dX4_trafficAnew_85
  · skip
    have c7 := mrO_0.mp c7
    have hl : lv_has ls 8 [(2, .null), (0, .ref (ad (0, 0, 0))), (1, .int a0)] := by simpa [mrO, va_rf, c7] using hl
    have h9 : taC g a0 = 1 := by simp [taC, c7]
    exact e_th (BX := fun H => ∃ ad : Tg → Nat, Ex g ad0 ad ∧ Wo D k b ad g M o H) (PE := xN [nIO] (taC g a0)) hlf (E := nIO) (by decide +kernel) wc_X4_49 wi_java_lang_IndexOutOfBoundsException ax_IO gd_IO hx hb hts hown hC hlocks ht (by rw [hml]; exact hl.1) hS dX4_trafficAnew_10 dX4_trafficAnew_13 dX4_trafficAnew_14 dX4_trafficAnew_17 (fun H1 z o => ⟨ad, hE, hH.grow z o⟩) (Nat.le_of_ble_eq_true rfl) (Nat.le_of_ble_eq_true rfl) (show 0 + 1 ≤ 1 by omega) (show 0 + 6 ≤ 6 by omega) (show 0 + 1 ≤ 1 by omega) (show 0 + 6 ≤ 6 by omega) (by rw [h9]; exact ⟨by decide, rfl⟩)

set_option maxHeartbeats 4000000 in
set_option maxRecDepth 100000 in
theorem mX4_strength (l : Launch) (hlf : l.stackTraces = false) {D : va_G} {k : Nat → ClassId} {b : Nat} {ad0 : Tg → Nat} {g : XS} {M : MF} {o : OF} (hI : XI g) (a0 : Int32) (hnan : ¬ pI g a0 = 0 → ¬ g.2.1 3 (pI g a0 - 1) = 0 → vf_n32 (FP.fdiv (FP.i2f (dsI g (g.2.1 3 (pI g a0 - 1) - 1) (g.1 30 (pI g a0 - 1)))) (FP.i2f (g.1 2 (g.2.1 3 (pI g a0 - 1) - 1)))) ∧ vf_n32 (FP.fsub FP.fconst1 (FP.fdiv (FP.i2f (dsI g (g.2.1 3 (pI g a0 - 1) - 1) (g.1 30 (pI g a0 - 1)))) (FP.i2f (g.1 2 (g.2.1 3 (pI g a0 - 1) - 1)))))) : vx_Met l yX4_strength (WS yX4_strength cX4_strength 4 (some .float)) ({ frames := 6, cells := 1, slots := 6, locals := 81 }) (P0 D k b (Wo D k b ad0 g M o) [.ref (ad0 (0, 0, 0)), .int a0]) (Qx b (stC g a0 = 0) (some (.float (stV g (pI g a0 - 1)))) (fun H => ∃ ad : Tg → Nat, Ex g ad0 ad ∧ Wo D k b ad g M o H)) (Xx b (xN [nIO] (stC g a0)) (fun H => ∃ ad : Tg → Nat, Ex g ad0 ad ∧ Wo D k b ad g M o H)) 1 6 (Fb b) := by
  refine Met0x (by decide +kernel) (Nat.le_of_ble_eq_true rfl) (fun p e s m below meth c ls hx hb hr hts hown hml hlocks ht hC hH hl => ?_)
  have hS : va_S (Fb b) s.heap s.heap [] := va_S.rf
  obtain ⟨ad, hE, hH, hl⟩ : ∃ ad : Tg → Nat, Ex g ad0 ad ∧ Wo D k b ad g M o s.heap ∧ lv_has ls 4 [(0, .ref (ad (0, 0, 0))), (1, .int a0)] := ⟨ad0, Ex.rf, hH, hl⟩
  refine lv_aload_n hx hb dX4_strength_0 rfl (lv_at hl 0 rfl) ?_
  refine lv_iload_n hx hb dX4_strength_1 rfl (lv_at hl 1 rfl) ?_
  refine k_r (va_runV (As := [.int a0]) (rest := []) ⟨hx, hb, hml, hown, hts⟩ (mX4_phoneAt l a0) ⟨cb_of hts wk_X4_phoneAt wi_X4 wm_X4_71 sd_X4_phoneAt rfl rfl ⟨Nat.le_of_ble_eq_true rfl, Nat.le_of_ble_eq_true rfl⟩, hts _ wv_X4_phoneAt, hts _ wl_X4_phoneAt⟩ (P0.preV hC hS hH (Hp.recv hC.1 hH (0, 0, 0) ⟨by decide, rfl⟩ rfl rfl)) rfl rfl hl.1 rfl (lv_room (Nat.le_of_ble_eq_true rfl)) dX4_strength_2 ⟨Nat.le_of_ble_eq_true rfl, Nat.le_of_ble_eq_true rfl⟩) ?_
  refine W.eq (g2 := F0 m 5 ls [va_rf (prO ad (pI g a0))]) rfl ?_
  refine lv_astore_nO (lv' := [(2, va_rf (prO ad (pI g a0))), (0, .ref (ad (0, 0, 0))), (1, .int a0)]) hx hb dX4_strength_5 rfl hl (by decide) rfl (fun ls hl => ?_)
  refine lv_aload_nO hx hb dX4_strength_6 rfl (lv_at hl 0 rfl) ?_
  refine lv_ifnonnullO (tgt := 18) hx hb dX4_strength_7 (by decide) (fun c7a c7 => ?_) (fun c7 => ?_)
  · skip
    have c7 := mt prO_0.mpr (by rw [c7]; exact Option.some_ne_none _)
    have hl : lv_has ls 4 [(2, .ref (ad (2, pI g a0 - 1, 0))), (0, .ref (ad (0, 0, 0))), (1, .int a0)] := by simpa [prO, va_rf, c7] using hl
    refine lv_aload_n hx hb dX4_strength_18 rfl (lv_at hl 0 rfl) ?_
    refine g3N hx hb hts hown hC hH (pI g a0 - 1) (pI_n c7).1 1 (by decide) wf_X4_75 (v := va_rf (mrO ad (g.2.1 3 (pI g a0 - 1)))) rfl dX4_strength_19 ?_
    by_cases c19 : g.2.1 3 (pI g a0 - 1) = 0
    · skip
      refine W.eq (g2 := F0 m 22 ls [.null]) (by simp [mrO, va_rf, c19]) ?_
      refine lv_astore_nN (lv' := [(3, .null), (2, .ref (ad (2, pI g a0 - 1, 0))), (0, .ref (ad (0, 0, 0))), (1, .int a0)]) hx hb dX4_strength_22 rfl hl (by decide) rfl (fun ls hl => ?_)
      refine lv_aload_nN hx hb dX4_strength_23 rfl (lv_at hl 0 rfl) ?_
      refine lv_ifnullN (tgt := 35) hx hb dX4_strength_24 (by decide) ?_
      refine lv_fconst0 hx hb dX4_strength_35 ?_
      have h8 : stC g a0 = 0 := by simp [stC, c7, c19]
      exact e_xf hx hb hr hlocks h8 (by simp [stV, c7, c19]) hS ⟨ad, hE, hH⟩ (Nat.zero_le _) (Nat.zero_le _) dX4_strength_36
    · skip
      refine W.eq (g2 := F0 m 22 ls [.ref (ad (1, (g.2.1 3 (pI g a0 - 1)) - 1, 0))]) (by simp [mrO, va_rf, c19]) ?_
      refine lv_astore_n (lv' := [(3, .ref (ad (1, (g.2.1 3 (pI g a0 - 1)) - 1, 0))), (2, .ref (ad (2, pI g a0 - 1, 0))), (0, .ref (ad (0, 0, 0))), (1, .int a0)]) hx hb dX4_strength_22 rfl hl (by decide) rfl (fun ls hl => ?_)
      refine lv_aload_n hx hb dX4_strength_23 rfl (lv_at hl 0 rfl) ?_
      refine lv_ifnull hx hb dX4_strength_24 ?_
      refine lv_aload_n hx hb dX4_strength_27 rfl (lv_at hl 0 rfl) ?_
      refine g2N hx hb hts hown hC hH ((g.2.1 3 (pI g a0 - 1)) - 1) (show _ < g.2.1 0 0 by have := hI.2.2.1 (pI g a0 - 1) (pI_n c7).1; omega) 2 (by decide) wf_X4_143 (v := .int (g.1 2 ((g.2.1 3 (pI g a0 - 1)) - 1))) rfl dX4_strength_28 ?_
      refine lv_iconst (v := 1) hx hb dX4_strength_31 (by decide) ?_
      refine lv_icmp_ge (tgt := 37) hx hb dX4_strength_32 (by decide) (fun c32 => ?_) (fun c32 => ?_)
      · skip
        have c32x := Int32.not_lt.mpr c32
        refine lv_fconst1 hx hb dX4_strength_37 ?_
        refine lv_aload_n hx hb dX4_strength_38 rfl (lv_at hl 0 rfl) ?_
        refine lv_aload_n hx hb dX4_strength_39 rfl (lv_at hl 1 rfl) ?_
        refine g3N hx hb hts hown hC hH (pI g a0 - 1) (pI_n c7).1 0 (by decide) wf_X4_79 (v := .int (g.1 30 (pI g a0 - 1))) rfl dX4_strength_40 ?_
        refine k_r (va_runVN (As := [.int (g.1 30 (pI g a0 - 1))]) (rest := [.float FP.fconst1]) ⟨hx, hb, hml, hown, hts⟩ (mX2_distanceTo l ((g.2.1 3 (pI g a0 - 1)) - 1) (show _ < g.2.1 0 0 by have := hI.2.2.1 (pI g a0 - 1) (pI_n c7).1; omega) (g.1 30 (pI g a0 - 1))) ⟨cn_of hts wk_X2_distanceTo wi_X2 wm_X4_146 sd_X2_distanceTo rfl rfl ⟨Nat.le_of_ble_eq_true rfl, Nat.le_of_ble_eq_true rfl⟩, hts _ wv_X2_distanceTo, hts _ wl_X2_distanceTo⟩ (P0.preV hC hS hH (Hp.recv hC.1 hH (1, (g.2.1 3 (pI g a0 - 1)) - 1, 0) ⟨(show _ < g.2.1 0 0 by have := hI.2.2.1 (pI g a0 - 1) (pI_n c7).1; omega), rfl⟩ rfl rfl)) rfl rfl hl.1 rfl (lv_room (Nat.le_of_ble_eq_true rfl)) dX4_strength_43 ⟨Nat.le_of_ble_eq_true rfl, Nat.le_of_ble_eq_true rfl⟩) ?_
        refine W.eq (g2 := F0 m 46 ls [.int (dsI g ((g.2.1 3 (pI g a0 - 1)) - 1) (g.1 30 (pI g a0 - 1))), .float FP.fconst1]) rfl ?_
        refine lv_i2f hx hb dX4_strength_46 ?_
        refine lv_aload_n hx hb dX4_strength_47 rfl (lv_at hl 0 rfl) ?_
        refine g2N hx hb hts hown hC hH ((g.2.1 3 (pI g a0 - 1)) - 1) (show _ < g.2.1 0 0 by have := hI.2.2.1 (pI g a0 - 1) (pI_n c7).1; omega) 2 (by decide) wf_X4_143 (v := .int (g.1 2 ((g.2.1 3 (pI g a0 - 1)) - 1))) rfl dX4_strength_48 ?_
        refine lv_i2f hx hb dX4_strength_51 ?_
        refine lv_fdiv hx hb dX4_strength_52 (hnan c7 c19).1 ?_
        refine lv_fsub hx hb dX4_strength_53 (hnan c7 c19).2 ?_
        have h8 : stC g a0 = 0 := by simp [stC, c7, c19, c32, c32x]
        exact e_xf hx hb hr hlocks h8 (by simp [stV, c7, c19, c32, c32x]) hS ⟨ad, hE, hH⟩ (Nat.zero_le _) (Nat.zero_le _) dX4_strength_54
      · skip
        have c32x := Int32.not_le.mp c32
        refine lv_fconst0 hx hb dX4_strength_35 ?_
        have h8 : stC g a0 = 0 := by simp [stC, c7, c19, c32, c32x]
        exact e_xf hx hb hr hlocks h8 (by simp [stV, c7, c19, c32, c32x]) hS ⟨ad, hE, hH⟩ (Nat.zero_le _) (Nat.zero_le _) dX4_strength_36
  · skip
    have c7 := prO_0.mp c7
    have hl : lv_has ls 4 [(2, .null), (0, .ref (ad (0, 0, 0))), (1, .int a0)] := by simpa [prO, va_rf, c7] using hl
    have h9 : stC g a0 = 1 := by simp [stC, c7]
    exact e_th (BX := fun H => ∃ ad : Tg → Nat, Ex g ad0 ad ∧ Wo D k b ad g M o H) (PE := xN [nIO] (stC g a0)) hlf (E := nIO) (by decide +kernel) wc_X4_49 wi_java_lang_IndexOutOfBoundsException ax_IO gd_IO hx hb hts hown hC hlocks ht (by rw [hml]; exact hl.1) hS dX4_strength_10 dX4_strength_13 dX4_strength_14 dX4_strength_17 (fun H1 z o => ⟨ad, hE, hH.grow z o⟩) (Nat.le_of_ble_eq_true rfl) (Nat.le_of_ble_eq_true rfl) (show 0 + 1 ≤ 1 by omega) (show 0 + 6 ≤ 6 by omega) (show 0 + 1 ≤ 1 by omega) (show 0 + 6 ≤ 6 by omega) (by rw [h9]; exact ⟨by decide, rfl⟩)
