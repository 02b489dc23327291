/-! THE CLASS: a new mast, a new phone, a new lease -/
set_option maxHeartbeats 4000000 in
set_option maxRecDepth 100000 in
theorem mX4_mast (l : Launch) (hlf : l.stackTraces = false) {D : va_G} {k : Nat → ClassId} {b : Nat} {ad0 : Tg → Nat} {g : XS} {M : MF} {o : OF} (hI : XI g) (a0 a1 a2 a3 a4 a5 : Int32) (hz : a5 = 0 ∨ a5 = 1) : vx_Met l yX4_mast (WS yX4_mast cX4_mast 8 (some .int)) ({ frames := 6, cells := 1, slots := 14, locals := 81 }) (P0 D k b (Wo D k b ad0 g M o) [.ref (ad0 (0, 0, 0)), .int a0, .int a1, .int a2, .int a3, .int a4, .int a5]) (Qx b (mastC g a0 a1 a2 a3 a4 = 0) (some (.int (nI (g.2.1 0 0)))) (fun H => ∃ ad : Tg → Nat, Ex g ad0 ad ∧ Wo D k b ad (nwM g (l13 (nI (g.2.1 0 0)) a0 a1 a2 a3 a4 a5)) M o H)) (Xx b (xN [nIA, nIS] (mastC g a0 a1 a2 a3 a4)) (fun H => ∃ ad : Tg → Nat, Ex g ad0 ad ∧ Wo D k b ad g M o H)) 1 14 (Fb b) := by
  refine Met0x (by decide +kernel) (Nat.le_of_ble_eq_true rfl) (fun p e s m below meth c ls hx hb hr hts hown hml hlocks ht hC hH hl => ?_)
  have hS : va_S (Fb b) s.heap s.heap [] := va_S.rf
  obtain ⟨ad, hE, hH, hl⟩ : ∃ ad : Tg → Nat, Ex g ad0 ad ∧ Wo D k b ad g M o s.heap ∧ lv_has ls 8 [(0, .ref (ad (0, 0, 0))), (1, .int a0), (2, .int a1), (3, .int a2), (4, .int a3), (5, .int a4), (6, .int a5)] := ⟨ad0, Ex.rf, hH, hl⟩
  refine lv_iload_n hx hb dX4_mast_0 rfl (lv_at hl 1 rfl) ?_
  refine k_r (va_runS (As := [.int a0]) (rest := []) ⟨hx, hb, hml, hown, hts⟩ (mX4_isPlace l a0) ⟨cb_of hts wk_X4_isPlace wi_X4 wm_X4_25 sd_X4_isPlace rfl rfl ⟨Nat.le_of_ble_eq_true rfl, Nat.le_of_ble_eq_true rfl⟩, hts _ wz_X4_isPlace⟩ (P0.pre hC hS hH) rfl rfl hl.1 rfl (lv_room (Nat.le_of_ble_eq_true rfl)) dX4_mast_1 ⟨Nat.le_of_ble_eq_true rfl, Nat.le_of_ble_eq_true rfl⟩) ?_
  refine W.eq (g2 := F0 m 4 ls [.int (b2 (inB a0 0 99))]) rfl ?_
  refine lv_if_eq (tgt := 49) hx hb dX4_mast_4 (by decide) (fun c4 => ?_) (fun c4 => ?_)
  · skip
    have c4 := b2_0.mp c4
    have h9 : mastC g a0 a1 a2 a3 a4 = 1 := by simp [mastC, c4]
    exact e_th (BX := fun H => ∃ ad : Tg → Nat, Ex g ad0 ad ∧ Wo D k b ad g M o H) (PE := xN [nIA, nIS] (mastC g a0 a1 a2 a3 a4)) hlf (E := nIA) (by decide +kernel) wc_X4_33 wi_java_lang_IllegalArgumentException ax_IA gd_IA hx hb hts hown hC hlocks ht (by rw [hml]; exact hl.1) hS dX4_mast_49 dX4_mast_52 dX4_mast_53 dX4_mast_56 (fun H1 z o => ⟨ad, hE, hH.grow z o⟩) (Nat.le_of_ble_eq_true rfl) (Nat.le_of_ble_eq_true rfl) (show 0 + 1 ≤ 1 by omega) (show 0 + 6 ≤ 14 by omega) (show 0 + 1 ≤ 1 by omega) (show 0 + 6 ≤ 14 by omega) (by rw [h9]; exact ⟨by decide, rfl⟩)
  · skip
    have c4 := b2_n0.mp c4
    refine lv_iload_n hx hb dX4_mast_7 rfl (lv_at hl 2 rfl) ?_
    refine lv_iconst (v := 1) hx hb dX4_mast_8 (by decide) ?_
    refine lv_bipush (v := 40) hx hb dX4_mast_9 (by decide) ?_
    refine k_r (va_runS (As := [.int a1, .int 1, .int 40]) (rest := []) ⟨hx, hb, hml, hown, hts⟩ (mX4_isWithin l a1 1 40) ⟨cb_of hts wk_X4_isWithin wi_X4 wm_X4_29 sd_X4_isWithin rfl rfl ⟨Nat.le_of_ble_eq_true rfl, Nat.le_of_ble_eq_true rfl⟩, hts _ wz_X4_isWithin⟩ (P0.pre hC hS hH) rfl rfl hl.1 rfl (lv_room (Nat.le_of_ble_eq_true rfl)) dX4_mast_11 ⟨Nat.le_of_ble_eq_true rfl, Nat.le_of_ble_eq_true rfl⟩) ?_
    refine W.eq (g2 := F0 m 14 ls [.int (b2 (inB a1 1 40))]) rfl ?_
    refine lv_if_eq (tgt := 49) hx hb dX4_mast_14 (by decide) (fun c14 => ?_) (fun c14 => ?_)
    · skip
      have c14 := b2_0.mp c14
      have h9 : mastC g a0 a1 a2 a3 a4 = 1 := by simp [mastC, c4, c14]
      exact e_th (BX := fun H => ∃ ad : Tg → Nat, Ex g ad0 ad ∧ Wo D k b ad g M o H) (PE := xN [nIA, nIS] (mastC g a0 a1 a2 a3 a4)) hlf (E := nIA) (by decide +kernel) wc_X4_33 wi_java_lang_IllegalArgumentException ax_IA gd_IA hx hb hts hown hC hlocks ht (by rw [hml]; exact hl.1) hS dX4_mast_49 dX4_mast_52 dX4_mast_53 dX4_mast_56 (fun H1 z o => ⟨ad, hE, hH.grow z o⟩) (Nat.le_of_ble_eq_true rfl) (Nat.le_of_ble_eq_true rfl) (show 0 + 1 ≤ 1 by omega) (show 0 + 6 ≤ 14 by omega) (show 0 + 1 ≤ 1 by omega) (show 0 + 6 ≤ 14 by omega) (by rw [h9]; exact ⟨by decide, rfl⟩)
    · skip
      have c14 := b2_n0.mp c14
      refine lv_iload_n hx hb dX4_mast_17 rfl (lv_at hl 3 rfl) ?_
      refine lv_iconst (v := 1) hx hb dX4_mast_18 (by decide) ?_
      refine lv_bipush (v := 10) hx hb dX4_mast_19 (by decide) ?_
      refine k_r (va_runS (As := [.int a2, .int 1, .int 10]) (rest := []) ⟨hx, hb, hml, hown, hts⟩ (mX4_isWithin l a2 1 10) ⟨cb_of hts wk_X4_isWithin wi_X4 wm_X4_29 sd_X4_isWithin rfl rfl ⟨Nat.le_of_ble_eq_true rfl, Nat.le_of_ble_eq_true rfl⟩, hts _ wz_X4_isWithin⟩ (P0.pre hC hS hH) rfl rfl hl.1 rfl (lv_room (Nat.le_of_ble_eq_true rfl)) dX4_mast_21 ⟨Nat.le_of_ble_eq_true rfl, Nat.le_of_ble_eq_true rfl⟩) ?_
      refine W.eq (g2 := F0 m 24 ls [.int (b2 (inB a2 1 10))]) rfl ?_
      refine lv_if_eq (tgt := 49) hx hb dX4_mast_24 (by decide) (fun c24 => ?_) (fun c24 => ?_)
      · skip
        have c24 := b2_0.mp c24
        have h9 : mastC g a0 a1 a2 a3 a4 = 1 := by simp [mastC, c4, c14, c24]
        exact e_th (BX := fun H => ∃ ad : Tg → Nat, Ex g ad0 ad ∧ Wo D k b ad g M o H) (PE := xN [nIA, nIS] (mastC g a0 a1 a2 a3 a4)) hlf (E := nIA) (by decide +kernel) wc_X4_33 wi_java_lang_IllegalArgumentException ax_IA gd_IA hx hb hts hown hC hlocks ht (by rw [hml]; exact hl.1) hS dX4_mast_49 dX4_mast_52 dX4_mast_53 dX4_mast_56 (fun H1 z o => ⟨ad, hE, hH.grow z o⟩) (Nat.le_of_ble_eq_true rfl) (Nat.le_of_ble_eq_true rfl) (show 0 + 1 ≤ 1 by omega) (show 0 + 6 ≤ 14 by omega) (show 0 + 1 ≤ 1 by omega) (show 0 + 6 ≤ 14 by omega) (by rw [h9]; exact ⟨by decide, rfl⟩)
      · skip
        have c24 := b2_n0.mp c24
        refine lv_iload hx hb dX4_mast_27 (lv_at hl 4 rfl) ?_
        refine lv_iconst (v := 0) hx hb dX4_mast_29 (by decide) ?_
        refine lv_bipush (v := 10) hx hb dX4_mast_30 (by decide) ?_
        refine k_r (va_runS (As := [.int a3, .int 0, .int 10]) (rest := []) ⟨hx, hb, hml, hown, hts⟩ (mX4_isWithin l a3 0 10) ⟨cb_of hts wk_X4_isWithin wi_X4 wm_X4_29 sd_X4_isWithin rfl rfl ⟨Nat.le_of_ble_eq_true rfl, Nat.le_of_ble_eq_true rfl⟩, hts _ wz_X4_isWithin⟩ (P0.pre hC hS hH) rfl rfl hl.1 rfl (lv_room (Nat.le_of_ble_eq_true rfl)) dX4_mast_32 ⟨Nat.le_of_ble_eq_true rfl, Nat.le_of_ble_eq_true rfl⟩) ?_
        refine W.eq (g2 := F0 m 35 ls [.int (b2 (inB a3 0 10))]) rfl ?_
        refine lv_if_eq (tgt := 49) hx hb dX4_mast_35 (by decide) (fun c35 => ?_) (fun c35 => ?_)
        · skip
          have c35 := b2_0.mp c35
          have h9 : mastC g a0 a1 a2 a3 a4 = 1 := by simp [mastC, c4, c14, c24, c35]
          exact e_th (BX := fun H => ∃ ad : Tg → Nat, Ex g ad0 ad ∧ Wo D k b ad g M o H) (PE := xN [nIA, nIS] (mastC g a0 a1 a2 a3 a4)) hlf (E := nIA) (by decide +kernel) wc_X4_33 wi_java_lang_IllegalArgumentException ax_IA gd_IA hx hb hts hown hC hlocks ht (by rw [hml]; exact hl.1) hS dX4_mast_49 dX4_mast_52 dX4_mast_53 dX4_mast_56 (fun H1 z o => ⟨ad, hE, hH.grow z o⟩) (Nat.le_of_ble_eq_true rfl) (Nat.le_of_ble_eq_true rfl) (show 0 + 1 ≤ 1 by omega) (show 0 + 6 ≤ 14 by omega) (show 0 + 1 ≤ 1 by omega) (show 0 + 6 ≤ 14 by omega) (by rw [h9]; exact ⟨by decide, rfl⟩)
        · skip
          have c35 := b2_n0.mp c35
          refine lv_iload hx hb dX4_mast_38 (lv_at hl 5 rfl) ?_
          refine lv_iconst (v := 0) hx hb dX4_mast_40 (by decide) ?_
          refine lv_bipush (v := 100) hx hb dX4_mast_41 (by decide) ?_
          refine k_r (va_runS (As := [.int a4, .int 0, .int 100]) (rest := []) ⟨hx, hb, hml, hown, hts⟩ (mX4_isWithin l a4 0 100) ⟨cb_of hts wk_X4_isWithin wi_X4 wm_X4_29 sd_X4_isWithin rfl rfl ⟨Nat.le_of_ble_eq_true rfl, Nat.le_of_ble_eq_true rfl⟩, hts _ wz_X4_isWithin⟩ (P0.pre hC hS hH) rfl rfl hl.1 rfl (lv_room (Nat.le_of_ble_eq_true rfl)) dX4_mast_43 ⟨Nat.le_of_ble_eq_true rfl, Nat.le_of_ble_eq_true rfl⟩) ?_
          refine W.eq (g2 := F0 m 46 ls [.int (b2 (inB a4 0 100))]) rfl ?_
          refine lv_if_ne (tgt := 57) hx hb dX4_mast_46 (by decide) (fun c46 => ?_) (fun c46 => ?_)
          · skip
            have c46 := b2_n0.mp c46
            refine lv_iconst (v := nI 0) hx hb dX4_mast_57 (by decide) ?_
            refine lv_istore (lv' := [(7, .int (nI 0)), (0, .ref (ad (0, 0, 0))), (1, .int a0), (2, .int a1), (3, .int a2), (4, .int a3), (5, .int a4), (6, .int a5)]) hx hb dX4_mast_58 hl (by decide) rfl (fun ls hl => ?_)
            refine loop_r 8 (fun i ls => lv_has ls 8 [(0, .ref (ad (0, 0, 0))), (1, .int a0), (2, .int a1), (3, .int a2), (4, .int a3), (5, .int a4), (6, .int a5), (7, .int (nI i))] ∧ i ≤ g.2.1 0 0) (fun i hi ls hJ0 ih => ?_) (fun ls hJ0 => ?_) ⟨lv_sub hl [1, 2, 3, 4, 5, 6, 7, 0] rfl, Nat.zero_le _⟩
            · skip
              obtain ⟨hl, hJ⟩ := hJ0
              refine lv_iload hx hb dX4_mast_60 (lv_at hl 7 rfl) ?_
              refine lv_aload_n hx hb dX4_mast_62 rfl (lv_at hl 0 rfl) ?_
              refine g4 hx hb hts hown hC hH 0 (by decide) wf_X4_11 (v := .ref (ad (0, 1, 0))) rfl dX4_mast_63 ?_
              refine mLen hx hb hC hH dX4_mast_66 ?_
              refine lv_icmp_ge (tgt := 114) hx hb dX4_mast_67 (by decide) (fun c67 => absurd c67 (nI_ge hi (by decide))) (fun c67 => ?_)
              refine lv_aload_n hx hb dX4_mast_70 rfl (lv_at hl 0 rfl) ?_
              refine g4 hx hb hts hown hC hH 0 (by decide) wf_X4_11 (v := .ref (ad (0, 1, 0))) rfl dX4_mast_71 ?_
              refine lv_iload hx hb dX4_mast_74 (lv_at hl 7 rfl) ?_
              refine mLd hx hb hC hH (i := i) hi dX4_mast_76 ?_
              by_cases c76 : i < g.2.1 0 0
              · skip
                refine W.eq (g2 := F0 m 77 ls [.ref (ad (1, i, 0))]) (by simp [maO, c76, va_rf]) ?_
                refine lv_ifnonnull (tgt := 108) hx hb dX4_mast_77 (by decide) ?_
                refine lv_iinc (v := nI (i + 1)) (lv' := [(7, .int (nI (i + 1))), (0, .ref (ad (0, 0, 0))), (1, .int a0), (2, .int a1), (3, .int a2), (4, .int a3), (5, .int a4), (6, .int a5)]) hx hb dX4_mast_108 hl (k := 7) rfl (by rw [← nI_add]; rfl) (by decide) rfl (fun ls hl => ?_)
                refine lv_goto (tgt := 60) hx hb dX4_mast_111 (by decide) ?_
                exact ih ls ⟨lv_sub hl [1, 2, 3, 4, 5, 6, 7, 0] rfl, by omega⟩
              · skip
                refine W.eq (g2 := F0 m 77 ls [.null]) (by simp [maO, c76, va_rf]) ?_
                refine lv_ifnonnullN hx hb dX4_mast_77 ?_
                refine lv_aload_n hx hb dX4_mast_80 rfl (lv_at hl 0 rfl) ?_
                refine g4 hx hb hts hown hC hH 0 (by decide) wf_X4_11 (v := .ref (ad (0, 1, 0))) rfl dX4_mast_81 ?_
                refine lv_iload hx hb dX4_mast_84 (lv_at hl 7 rfl) ?_
                have hn : i = g.2.1 0 0 := by omega
                have cz : g.2.1 0 0 < 8 := by omega
                have hb0 : b ≤ s.heap.size := (show Hp D b (LW g.2.1) ad (eW k ad g M o) s.heap from hH).2.2.2
                refine r_new hx hb hts hown hC hH hS hb0 (1, i, 0) (ci := 2) rfl inX2 tyX2 tyX2_ok wc_X4_9 wn_X2 wi_X2 [.int 0, .int 0, .int 0, .int 0, .int 0, .int 0, .int 0, .null, .int 0, .int 0, .int 0, .int 0, .int 0, .null] (fun j hj => by rcases (show j = 0 ∨ j = 1 ∨ j = 2 ∨ j = 3 ∨ j = 4 ∨ j = 5 ∨ j = 6 ∨ j = 7 ∨ j = 8 ∨ j = 9 ∨ j = 10 ∨ j = 11 ∨ j = 12 ∨ j = 13 by omega) with rfl | rfl | rfl | rfl | rfl | rfl | rfl | rfl | rfl | rfl | rfl | rfl | rfl | rfl <;> rfl) (show 0 + 1 ≤ 1 by omega) (show 0 + 14 ≤ 14 by omega) dX4_mast_86 (fun H hH hS => ?_)
                obtain ⟨ad1, had⟩ : ∃ z, z = uA ad (1, i, 0) s.heap.size := ⟨_, rfl⟩
                have ea : ∀ u : Tg, u ≠ (1, i, 0) → ad1 u = ad u := fun u h => by rw [had]; exact uA_n h
                have ea1 : ad1 (1, i, 0) = s.heap.size := by rw [had]; exact uA_s
                rw [← had] at hH
                refine W.eq (g2 := F0 m 89 ls [.ref (ad1 (1, i, 0)), .int (nI i), .ref (ad1 (0, 1, 0))]) (by rw [ea1, ea (0, 1, 0) (by simp)]) ?_
                refine lv_dup hx hb dX4_mast_89 rfl ?_
                refine lv_iload hx hb dX4_mast_90 (lv_at hl 7 rfl) ?_
                refine lv_iload_n hx hb dX4_mast_92 rfl (lv_at hl 1 rfl) ?_
                refine lv_iload_n hx hb dX4_mast_93 rfl (lv_at hl 2 rfl) ?_
                refine lv_iload_n hx hb dX4_mast_94 rfl (lv_at hl 3 rfl) ?_
                refine lv_iload hx hb dX4_mast_95 (lv_at hl 4 rfl) ?_
                refine lv_iload hx hb dX4_mast_97 (lv_at hl 5 rfl) ?_
                refine lv_iload hx hb dX4_mast_99 (lv_at hl 6 rfl) ?_
                refine k_w (va_runIN (As := [.int (nI i), .int a0, .int a1, .int a2, .int a3, .int a4, .int a5]) (rest := [.ref (ad1 (1, i, 0)), .int (nI i), .ref (ad1 (0, 1, 0))]) ⟨hx, hb, hml, hown, hts⟩ (mX2_init l (1, i, 0) (Or.inr rfl) uE_s (nI i) a0 a1 a2 a3 a4 a5 hz) ⟨cn_of hts wk_X2_init wi_X2 wm_X4_36 sd_X2_init rfl rfl ⟨Nat.le_of_ble_eq_true rfl, Nat.le_of_ble_eq_true rfl⟩, rfl, hts _ wv_X2_init⟩ (P0.pre hC hS hH) rfl rfl hl.1 rfl (lv_room (Nat.le_of_ble_eq_true rfl)) dX4_mast_101 ⟨show 0 + 1 + 0 ≤ 1 by omega, show 0 + 14 + 0 ≤ 14 by omega⟩) hS (fun H locs hH hS => ?_)
                rw [uE_uE] at hH
                refine W.eq (g2 := F0 m 104 ls [.ref (ad1 (1, i, 0)), .int (nI i), .ref (ad1 (0, 1, 0))]) rfl ?_
                refine r_aast hx hb hC hH hS (0, 1, 0) (Or.inl ⟨by decide, rfl⟩) 4 (r := (RX2, TX2, 14)) rfl (n := 8) (f := maO g ad) (by rw [uE_n (by simp)]; rfl) (1, i, 0) (Or.inr rfl) uE_s rfl (vp_in_nI hi (by decide)) dX4_mast_104 (fun H locs hH hS => ?_)
                rw [nI_clamp (by omega)] at hH
                refine lv_iload hx hb dX4_mast_105 (lv_at hl 7 rfl) ?_
                have h8 : mastC g a0 a1 a2 a3 a4 = 0 := by simp [mastC, c4, c14, c24, c35, c46, c76, cz]
                refine e_xi hx hb hr hlocks h8 (by rw [hn]) hS ⟨ad1, hE.tr Gr.rf (fun u h3 hu => ea u (fun q => ?_)), ?_⟩ (show 0 + 1 + 0 ≤ 1 by omega) (show 0 + 14 + 0 ≤ 14 by omega) dX4_mast_107
                · subst q; have h2 := hu.1; omega
                · refine Wo_nM hI hn ea hH ⟨Or.inr rfl, ?_⟩ ⟨Or.inl ⟨by decide, rfl⟩, uE_s⟩ (fun u hu n1 n0 => ⟨Or.inl hu, ?_⟩)
                  · rw [uE_n (by simp), uE_s, hn]
                  · rw [uE_n n0, uE_n n1]
            · skip
              obtain ⟨hl, hJ⟩ := hJ0
              refine lv_iload hx hb dX4_mast_60 (lv_at hl 7 rfl) ?_
              refine lv_aload_n hx hb dX4_mast_62 rfl (lv_at hl 0 rfl) ?_
              refine g4 hx hb hts hown hC hH 0 (by decide) wf_X4_11 (v := .ref (ad (0, 1, 0))) rfl dX4_mast_63 ?_
              refine mLen hx hb hC hH dX4_mast_66 ?_
              refine lv_icmp_ge (tgt := 114) hx hb dX4_mast_67 (by decide) (fun c67 => ?_) (fun c67 => absurd (nI_le (Nat.le_refl _) (by decide)) c67)
              have cz : ¬ g.2.1 0 0 < 8 := by omega
              have h9 : mastC g a0 a1 a2 a3 a4 = 2 := by simp [mastC, c4, c14, c24, c35, c46, cz]
              exact e_th (BX := fun H => ∃ ad : Tg → Nat, Ex g ad0 ad ∧ Wo D k b ad g M o H) (PE := xN [nIA, nIS] (mastC g a0 a1 a2 a3 a4)) hlf (E := nIS) (by decide +kernel) wc_X4_39 wi_java_lang_IllegalStateException ax_IS gd_IS hx hb hts hown hC hlocks ht (by rw [hml]; exact hl.1) hS dX4_mast_114 dX4_mast_117 dX4_mast_118 dX4_mast_121 (fun H1 z o => ⟨ad, hE, hH.grow z o⟩) (Nat.le_of_ble_eq_true rfl) (Nat.le_of_ble_eq_true rfl) (show 0 + 1 ≤ 1 by omega) (show 0 + 6 ≤ 14 by omega) (show 0 + 1 ≤ 1 by omega) (show 0 + 6 ≤ 14 by omega) (by rw [h9]; exact ⟨by decide, rfl⟩)
          · skip
            have c46 := b2_0.mp c46
            have h9 : mastC g a0 a1 a2 a3 a4 = 1 := by simp [mastC, c4, c14, c24, c35, c46]
            exact e_th (BX := fun H => ∃ ad : Tg → Nat, Ex g ad0 ad ∧ Wo D k b ad g M o H) (PE := xN [nIA, nIS] (mastC g a0 a1 a2 a3 a4)) hlf (E := nIA) (by decide +kernel) wc_X4_33 wi_java_lang_IllegalArgumentException ax_IA gd_IA hx hb hts hown hC hlocks ht (by rw [hml]; exact hl.1) hS dX4_mast_49 dX4_mast_52 dX4_mast_53 dX4_mast_56 (fun H1 z o => ⟨ad, hE, hH.grow z o⟩) (Nat.le_of_ble_eq_true rfl) (Nat.le_of_ble_eq_true rfl) (show 0 + 1 ≤ 1 by omega) (show 0 + 6 ≤ 14 by omega) (show 0 + 1 ≤ 1 by omega) (show 0 + 6 ≤ 14 by omega) (by rw [h9]; exact ⟨by decide, rfl⟩)

set_option maxHeartbeats 4000000 in
set_option maxRecDepth 100000 in
theorem mX4_phone (l : Launch) (hlf : l.stackTraces = false) {D : va_G} {k : Nat → ClassId} {b : Nat} {ad0 : Tg → Nat} {g : XS} {M : MF} {o : OF} (hI : XI g) (a0 : Int32) : vx_Met l yX4_phone (WS yX4_phone cX4_phone 3 (some .int)) ({ frames := 6, cells := 1, slots := 6, locals := 81 }) (P0 D k b (Wo D k b ad0 g M o) [.ref (ad0 (0, 0, 0)), .int a0]) (Qx b (phC g a0 = 0) (some (.int (nI (g.2.1 1 0)))) (fun H => ∃ ad : Tg → Nat, Ex g ad0 ad ∧ Wo D k b ad (nwP g a0) M o H)) (Xx b (xN [nIA, nIS] (phC g a0)) (fun H => ∃ ad : Tg → Nat, Ex g ad0 ad ∧ Wo D k b ad g M o H)) 1 6 (Fb b) := by
  refine Met0x (by decide +kernel) (Nat.le_of_ble_eq_true rfl) (fun p e s m below meth c ls hx hb hr hts hown hml hlocks ht hC hH hl => ?_)
  have hS : va_S (Fb b) s.heap s.heap [] := va_S.rf
  obtain ⟨ad, hE, hH, hl⟩ : ∃ ad : Tg → Nat, Ex g ad0 ad ∧ Wo D k b ad g M o s.heap ∧ lv_has ls 3 [(0, .ref (ad (0, 0, 0))), (1, .int a0)] := ⟨ad0, Ex.rf, hH, hl⟩
  refine lv_iload_n hx hb dX4_phone_0 rfl (lv_at hl 1 rfl) ?_
  refine k_r (va_runS (As := [.int a0]) (rest := []) ⟨hx, hb, hml, hown, hts⟩ (mX4_isPlace l a0) ⟨cb_of hts wk_X4_isPlace wi_X4 wm_X4_25 sd_X4_isPlace rfl rfl ⟨Nat.le_of_ble_eq_true rfl, Nat.le_of_ble_eq_true rfl⟩, hts _ wz_X4_isPlace⟩ (P0.pre hC hS hH) rfl rfl hl.1 rfl (lv_room (Nat.le_of_ble_eq_true rfl)) dX4_phone_1 ⟨Nat.le_of_ble_eq_true rfl, Nat.le_of_ble_eq_true rfl⟩) ?_
  refine W.eq (g2 := F0 m 4 ls [.int (b2 (inB a0 0 99))]) rfl ?_
  refine lv_if_ne (tgt := 15) hx hb dX4_phone_4 (by decide) (fun c4 => ?_) (fun c4 => ?_)
  · skip
    have c4 := b2_n0.mp c4
    refine lv_iconst (v := nI 0) hx hb dX4_phone_15 (by decide) ?_
    refine lv_istore_n (lv' := [(2, .int (nI 0)), (0, .ref (ad (0, 0, 0))), (1, .int a0)]) hx hb dX4_phone_16 rfl hl (by decide) rfl (fun ls hl => ?_)
    refine loop_r 12 (fun i ls => lv_has ls 3 [(0, .ref (ad (0, 0, 0))), (1, .int a0), (2, .int (nI i))] ∧ i ≤ g.2.1 1 0) (fun i hi ls hJ0 ih => ?_) (fun ls hJ0 => ?_) ⟨lv_sub hl [1, 2, 0] rfl, Nat.zero_le _⟩
    · skip
      obtain ⟨hl, hJ⟩ := hJ0
      refine lv_iload_n hx hb dX4_phone_17 rfl (lv_at hl 2 rfl) ?_
      refine lv_aload_n hx hb dX4_phone_18 rfl (lv_at hl 0 rfl) ?_
      refine g4 hx hb hts hown hC hH 1 (by decide) wf_X4_17 (v := .ref (ad (0, 2, 0))) rfl dX4_phone_19 ?_
      refine pLen hx hb hC hH dX4_phone_22 ?_
      refine lv_icmp_ge (tgt := 57) hx hb dX4_phone_23 (by decide) (fun c23 => absurd c23 (nI_ge hi (by decide))) (fun c23 => ?_)
      refine lv_aload_n hx hb dX4_phone_26 rfl (lv_at hl 0 rfl) ?_
      refine g4 hx hb hts hown hC hH 1 (by decide) wf_X4_17 (v := .ref (ad (0, 2, 0))) rfl dX4_phone_27 ?_
      refine lv_iload_n hx hb dX4_phone_30 rfl (lv_at hl 2 rfl) ?_
      refine pLd hx hb hC hH (i := i) hi dX4_phone_31 ?_
      by_cases c31 : i < g.2.1 1 0
      · skip
        refine W.eq (g2 := F0 m 32 ls [.ref (ad (2, i, 0))]) (by simp [phO, c31, va_rf]) ?_
        refine lv_ifnonnull (tgt := 51) hx hb dX4_phone_32 (by decide) ?_
        refine lv_iinc (v := nI (i + 1)) (lv' := [(2, .int (nI (i + 1))), (0, .ref (ad (0, 0, 0))), (1, .int a0)]) hx hb dX4_phone_51 hl (k := 2) rfl (by rw [← nI_add]; rfl) (by decide) rfl (fun ls hl => ?_)
        refine lv_goto (tgt := 17) hx hb dX4_phone_54 (by decide) ?_
        exact ih ls ⟨lv_sub hl [1, 2, 0] rfl, by omega⟩
      · skip
        refine W.eq (g2 := F0 m 32 ls [.null]) (by simp [phO, c31, va_rf]) ?_
        refine lv_ifnonnullN hx hb dX4_phone_32 ?_
        refine lv_aload_n hx hb dX4_phone_35 rfl (lv_at hl 0 rfl) ?_
        refine g4 hx hb hts hown hC hH 1 (by decide) wf_X4_17 (v := .ref (ad (0, 2, 0))) rfl dX4_phone_36 ?_
        refine lv_iload_n hx hb dX4_phone_39 rfl (lv_at hl 2 rfl) ?_
        have hn : i = g.2.1 1 0 := by omega
        have cz : g.2.1 1 0 < 12 := by omega
        have hb0 : b ≤ s.heap.size := (show Hp D b (LW g.2.1) ad (eW k ad g M o) s.heap from hH).2.2.2
        refine r_new hx hb hts hown hC hH hS hb0 (2, i, 0) (ci := 3) rfl inX3 tyX3 tyX3_ok wc_X4_15 wn_X3 wi_X3 [.int 0, .null, .int 0, .int 0, .int 0, .int 0] (fun j hj => by rcases (show j = 0 ∨ j = 1 ∨ j = 2 ∨ j = 3 ∨ j = 4 ∨ j = 5 by omega) with rfl | rfl | rfl | rfl | rfl | rfl <;> rfl) (show 0 + 1 ≤ 1 by omega) (show 0 + 6 ≤ 6 by omega) dX4_phone_40 (fun H hH hS => ?_)
        obtain ⟨ad1, had⟩ : ∃ z, z = uA ad (2, i, 0) s.heap.size := ⟨_, rfl⟩
        have ea : ∀ u : Tg, u ≠ (2, i, 0) → ad1 u = ad u := fun u h => by rw [had]; exact uA_n h
        have ea1 : ad1 (2, i, 0) = s.heap.size := by rw [had]; exact uA_s
        rw [← had] at hH
        refine W.eq (g2 := F0 m 43 ls [.ref (ad1 (2, i, 0)), .int (nI i), .ref (ad1 (0, 2, 0))]) (by rw [ea1, ea (0, 2, 0) (by simp)]) ?_
        refine lv_dup hx hb dX4_phone_43 rfl ?_
        refine lv_iload_n hx hb dX4_phone_44 rfl (lv_at hl 1 rfl) ?_
        refine k_w (va_runIN (As := [.int a0]) (rest := [.ref (ad1 (2, i, 0)), .int (nI i), .ref (ad1 (0, 2, 0))]) ⟨hx, hb, hml, hown, hts⟩ (mX3_init l (2, i, 0) (Or.inr rfl) uE_s a0) ⟨cn_of hts wk_X3_init wi_X3 wm_X4_68 sd_X3_init rfl rfl ⟨Nat.le_of_ble_eq_true rfl, Nat.le_of_ble_eq_true rfl⟩, rfl, hts _ wv_X3_init⟩ (P0.pre hC hS hH) rfl rfl hl.1 rfl (lv_room (Nat.le_of_ble_eq_true rfl)) dX4_phone_45 ⟨show 0 + 1 + 0 ≤ 1 by omega, show 0 + 6 + 0 ≤ 6 by omega⟩) hS (fun H locs hH hS => ?_)
        rw [uE_uE] at hH
        refine W.eq (g2 := F0 m 48 ls [.ref (ad1 (2, i, 0)), .int (nI i), .ref (ad1 (0, 2, 0))]) rfl ?_
        refine r_aast hx hb hC hH hS (0, 2, 0) (Or.inl ⟨by decide, rfl⟩) 5 (r := (RX3, TX3, 6)) rfl (n := 12) (f := phO g ad) (by rw [uE_n (by simp)]; rfl) (2, i, 0) (Or.inr rfl) uE_s rfl (vp_in_nI hi (by decide)) dX4_phone_48 (fun H locs hH hS => ?_)
        rw [nI_clamp (by omega)] at hH
        refine lv_iload_n hx hb dX4_phone_49 rfl (lv_at hl 2 rfl) ?_
        have h8 : phC g a0 = 0 := by simp [phC, c4, c31, cz]
        refine e_xi hx hb hr hlocks h8 (by rw [hn]) hS ⟨ad1, hE.tr Gr.rf (fun u h3 hu => ea u (fun q => ?_)), ?_⟩ (show 0 + 1 + 0 ≤ 1 by omega) (show 0 + 6 + 0 ≤ 6 by omega) dX4_phone_50
        · subst q; have h2 := hu.1; omega
        · refine Wo_nP hn ea hH ⟨Or.inr rfl, ?_⟩ ⟨Or.inl ⟨by decide, rfl⟩, uE_s⟩ (fun u hu n1 n0 => ⟨Or.inl hu, ?_⟩)
          · rw [uE_n (by simp), uE_s]
          · rw [uE_n n0, uE_n n1]
    · skip
      obtain ⟨hl, hJ⟩ := hJ0
      refine lv_iload_n hx hb dX4_phone_17 rfl (lv_at hl 2 rfl) ?_
      refine lv_aload_n hx hb dX4_phone_18 rfl (lv_at hl 0 rfl) ?_
      refine g4 hx hb hts hown hC hH 1 (by decide) wf_X4_17 (v := .ref (ad (0, 2, 0))) rfl dX4_phone_19 ?_
      refine pLen hx hb hC hH dX4_phone_22 ?_
      refine lv_icmp_ge (tgt := 57) hx hb dX4_phone_23 (by decide) (fun c23 => ?_) (fun c23 => absurd (nI_le (Nat.le_refl _) (by decide)) c23)
      have cz : ¬ g.2.1 1 0 < 12 := by omega
      have h9 : phC g a0 = 2 := by simp [phC, c4, cz]
      exact e_th (BX := fun H => ∃ ad : Tg → Nat, Ex g ad0 ad ∧ Wo D k b ad g M o H) (PE := xN [nIA, nIS] (phC g a0)) hlf (E := nIS) (by decide +kernel) wc_X4_39 wi_java_lang_IllegalStateException ax_IS gd_IS hx hb hts hown hC hlocks ht (by rw [hml]; exact hl.1) hS dX4_phone_57 dX4_phone_60 dX4_phone_61 dX4_phone_64 (fun H1 z o => ⟨ad, hE, hH.grow z o⟩) (Nat.le_of_ble_eq_true rfl) (Nat.le_of_ble_eq_true rfl) (show 0 + 1 ≤ 1 by omega) (show 0 + 6 ≤ 6 by omega) (show 0 + 1 ≤ 1 by omega) (show 0 + 6 ≤ 6 by omega) (by rw [h9]; exact ⟨by decide, rfl⟩)
  · skip
    have c4 := b2_0.mp c4
    have h9 : phC g a0 = 1 := by simp [phC, c4]
    exact e_th (BX := fun H => ∃ ad : Tg → Nat, Ex g ad0 ad ∧ Wo D k b ad g M o H) (PE := xN [nIA, nIS] (phC g a0)) hlf (E := nIA) (by decide +kernel) wc_X4_33 wi_java_lang_IllegalArgumentException ax_IA gd_IA hx hb hts hown hC hlocks ht (by rw [hml]; exact hl.1) hS dX4_phone_7 dX4_phone_10 dX4_phone_11 dX4_phone_14 (fun H1 z o => ⟨ad, hE, hH.grow z o⟩) (Nat.le_of_ble_eq_true rfl) (Nat.le_of_ble_eq_true rfl) (show 0 + 1 ≤ 1 by omega) (show 0 + 6 ≤ 6 by omega) (show 0 + 1 ≤ 1 by omega) (show 0 + 6 ≤ 6 by omega) (by rw [h9]; exact ⟨by decide, rfl⟩)

set_option maxHeartbeats 4000000 in
set_option maxRecDepth 100000 in
theorem mX4_lease (l : Launch) (hlf : l.stackTraces = false) {D : va_G} {k : Nat → ClassId} {b : Nat} {ad0 : Tg → Nat} {g : XS} {M : MF} {o : OF} (hI : XI g) (a0 a1 a2 a3 a4 a5 a6 : Int32) : vx_Met l yX4_lease (WS yX4_lease cX4_lease 9 none) ({ frames := 6, cells := 1, slots := 6, locals := 81 }) (P0 D k b (Wo D k b ad0 g M o) [.ref (ad0 (0, 0, 0)), .int a0, .int a1, .int a2, .int a3, .int a4, .int a5, .int a6]) (Qx b (leaseC g a0 a1 a2 a3 a4 a5 a6 = 0) none (fun H => ∃ ad : Tg → Nat, Ex g ad0 ad ∧ Wo D k b ad (nwL g (mI g a0 - 1) (l6 a1 a2 a3 a4 a5 a6)) M o H)) (Xx b (xN [nIO, nIA, nIS] (leaseC g a0 a1 a2 a3 a4 a5 a6)) (fun H => ∃ ad : Tg → Nat, Ex g ad0 ad ∧ Wo D k b ad g M o H)) 1 6 (Fb b) := by
  refine Met0x (by decide +kernel) (Nat.le_of_ble_eq_true rfl) (fun p e s m below meth c ls hx hb hr hts hown hml hlocks ht hC hH hl => ?_)
  have hS : va_S (Fb b) s.heap s.heap [] := va_S.rf
  obtain ⟨ad, hE, hH, hl⟩ : ∃ ad : Tg → Nat, Ex g ad0 ad ∧ Wo D k b ad g M o s.heap ∧ lv_has ls 9 [(0, .ref (ad (0, 0, 0))), (1, .int a0), (2, .int a1), (3, .int a2), (4, .int a3), (5, .int a4), (6, .int a5), (7, .int a6)] := ⟨ad0, Ex.rf, hH, hl⟩
  refine lv_aload_n hx hb dX4_lease_0 rfl (lv_at hl 0 rfl) ?_
  refine lv_iload_n hx hb dX4_lease_1 rfl (lv_at hl 1 rfl) ?_
  refine k_r (va_runV (As := [.int a0]) (rest := []) ⟨hx, hb, hml, hown, hts⟩ (mX4_mastAt l a0) ⟨cb_of hts wk_X4_mastAt wi_X4 wm_X4_42 sd_X4_mastAt rfl rfl ⟨Nat.le_of_ble_eq_true rfl, Nat.le_of_ble_eq_true rfl⟩, hts _ wv_X4_mastAt, hts _ wl_X4_mastAt⟩ (P0.preV hC hS hH (Hp.recv hC.1 hH (0, 0, 0) ⟨by decide, rfl⟩ rfl rfl)) rfl rfl hl.1 rfl (lv_room (Nat.le_of_ble_eq_true rfl)) dX4_lease_2 ⟨Nat.le_of_ble_eq_true rfl, Nat.le_of_ble_eq_true rfl⟩) ?_
  refine W.eq (g2 := F0 m 5 ls [va_rf (mrO ad (mI g a0))]) rfl ?_
  refine lv_astoreO (lv' := [(8, va_rf (mrO ad (mI g a0))), (0, .ref (ad (0, 0, 0))), (1, .int a0), (2, .int a1), (3, .int a2), (4, .int a3), (5, .int a4), (6, .int a5), (7, .int a6)]) hx hb dX4_lease_5 hl (by decide) rfl (fun ls hl => ?_)
  refine lv_aloadO hx hb dX4_lease_7 (lv_at hl 0 rfl) ?_
  refine lv_ifnullO (tgt := 31) hx hb dX4_lease_9 (by decide) (fun c9 => ?_) (fun c9a c9 => ?_)
  · skip
    have c9 := mrO_0.mp c9
    have hl : lv_has ls 9 [(8, .null), (0, .ref (ad (0, 0, 0))), (1, .int a0), (2, .int a1), (3, .int a2), (4, .int a3), (5, .int a4), (6, .int a5), (7, .int a6)] := by simpa [mrO, va_rf, c9] using hl
    have h9 : leaseC g a0 a1 a2 a3 a4 a5 a6 = 1 := by first | (simp [leaseC, c9]; done)
    exact e_th (BX := fun H => ∃ ad : Tg → Nat, Ex g ad0 ad ∧ Wo D k b ad g M o H) (PE := xN [nIO, nIA, nIS] (leaseC g a0 a1 a2 a3 a4 a5 a6)) hlf (E := nIO) (by decide +kernel) wc_X4_49 wi_java_lang_IndexOutOfBoundsException ax_IO gd_IO hx hb hts hown hC hlocks ht (by rw [hml]; exact hl.1) hS dX4_lease_31 dX4_lease_34 dX4_lease_35 dX4_lease_38 (fun H1 z o => ⟨ad, hE, hH.grow z o⟩) (Nat.le_of_ble_eq_true rfl) (Nat.le_of_ble_eq_true rfl) (show 0 + 1 ≤ 1 by omega) (show 0 + 6 ≤ 6 by omega) (show 0 + 1 ≤ 1 by omega) (show 0 + 6 ≤ 6 by omega) (by rw [h9]; exact ⟨by decide, rfl⟩)
  · skip
    have c9 := mt mrO_0.mpr (by rw [c9]; exact Option.some_ne_none _)
    have hl : lv_has ls 9 [(8, .ref (ad (1, mI g a0 - 1, 0))), (0, .ref (ad (0, 0, 0))), (1, .int a0), (2, .int a1), (3, .int a2), (4, .int a3), (5, .int a4), (6, .int a5), (7, .int a6)] := by simpa [mrO, va_rf, c9] using hl
    refine lv_iload_n hx hb dX4_lease_12 rfl (lv_at hl 3 rfl) ?_
    refine k_r (va_runS (As := [.int a1]) (rest := []) ⟨hx, hb, hml, hown, hts⟩ (mX4_isFarmer l a1) ⟨cb_of hts wk_X4_isFarmer wi_X4 wm_X4_46 sd_X4_isFarmer rfl rfl ⟨Nat.le_of_ble_eq_true rfl, Nat.le_of_ble_eq_true rfl⟩, hts _ wz_X4_isFarmer⟩ (P0.pre hC hS hH) rfl rfl hl.1 rfl (lv_room (Nat.le_of_ble_eq_true rfl)) dX4_lease_13 ⟨Nat.le_of_ble_eq_true rfl, Nat.le_of_ble_eq_true rfl⟩) ?_
    refine W.eq (g2 := F0 m 16 ls [.int (b2 (inB a1 0 5))]) rfl ?_
    refine lv_if_eq (tgt := 31) hx hb dX4_lease_16 (by decide) (fun c16 => ?_) (fun c16 => ?_)
    · skip
      have c16 := b2_0.mp c16
      have h9 : leaseC g a0 a1 a2 a3 a4 a5 a6 = 1 := by first | (simp [leaseC, c9, c16]; done)
      exact e_th (BX := fun H => ∃ ad : Tg → Nat, Ex g ad0 ad ∧ Wo D k b ad g M o H) (PE := xN [nIO, nIA, nIS] (leaseC g a0 a1 a2 a3 a4 a5 a6)) hlf (E := nIO) (by decide +kernel) wc_X4_49 wi_java_lang_IndexOutOfBoundsException ax_IO gd_IO hx hb hts hown hC hlocks ht (by rw [hml]; exact hl.1) hS dX4_lease_31 dX4_lease_34 dX4_lease_35 dX4_lease_38 (fun H1 z o => ⟨ad, hE, hH.grow z o⟩) (Nat.le_of_ble_eq_true rfl) (Nat.le_of_ble_eq_true rfl) (show 0 + 1 ≤ 1 by omega) (show 0 + 6 ≤ 6 by omega) (show 0 + 1 ≤ 1 by omega) (show 0 + 6 ≤ 6 by omega) (by rw [h9]; exact ⟨by decide, rfl⟩)
    · skip
      have c16 := b2_n0.mp c16
      refine lv_iload_n hx hb dX4_lease_19 rfl (lv_at hl 4 rfl) ?_
      refine lv_iconst (v := (-1)) hx hb dX4_lease_20 (by decide) ?_
      refine lv_icmp_eq (tgt := 39) hx hb dX4_lease_21 (by decide) (fun c21 => ?_) (fun c21 => ?_)
      · skip
        refine lv_iload_n hx hb dX4_lease_39 rfl (lv_at hl 3 rfl) ?_
        refine lv_iload_n hx hb dX4_lease_40 rfl (lv_at hl 4 rfl) ?_
        refine lv_icmp_eq (tgt := 105) hx hb dX4_lease_41 (by decide) (fun c41 => ?_) (fun c41 => ?_)
        · skip
          have h9 : leaseC g a0 a1 a2 a3 a4 a5 a6 = 2 := by first | (simp [leaseC, c9, c16, c21, c41]; done) | (subst c21; simp [leaseC, c9, c16, c41]; done) | (unfold leaseC; rw [if_neg (by simp [c9, c16, c21]), if_pos (Or.inl c41)])
          exact e_th (BX := fun H => ∃ ad : Tg → Nat, Ex g ad0 ad ∧ Wo D k b ad g M o H) (PE := xN [nIO, nIA, nIS] (leaseC g a0 a1 a2 a3 a4 a5 a6)) hlf (E := nIA) (by decide +kernel) wc_X4_33 wi_java_lang_IllegalArgumentException ax_IA gd_IA hx hb hts hown hC hlocks ht (by rw [hml]; exact hl.1) hS dX4_lease_105 dX4_lease_108 dX4_lease_109 dX4_lease_112 (fun H1 z o => ⟨ad, hE, hH.grow z o⟩) (Nat.le_of_ble_eq_true rfl) (Nat.le_of_ble_eq_true rfl) (show 0 + 1 ≤ 1 by omega) (show 0 + 6 ≤ 6 by omega) (show 0 + 1 ≤ 1 by omega) (show 0 + 6 ≤ 6 by omega) (by rw [h9]; exact ⟨by decide, rfl⟩)
        · skip
          refine lv_iload hx hb dX4_lease_44 (lv_at hl 5 rfl) ?_
          refine lv_iload_n hx hb dX4_lease_46 rfl (lv_at hl 4 rfl) ?_
          refine lv_iconst (v := (-1)) hx hb dX4_lease_47 (by decide) ?_
          refine lv_icmp_ne (tgt := 56) hx hb dX4_lease_48 (by decide) (fun c48 => ?_) (fun c48 => ?_)
          · skip
            refine lv_iconst (v := 0) hx hb dX4_lease_56 (by decide) ?_
            refine lv_bipush (v := 10) hx hb dX4_lease_57 (by decide) ?_
            refine k_r (va_runS (As := [.int a3, .int 0, .int 10]) (rest := []) ⟨hx, hb, hml, hown, hts⟩ (mX4_isWithin l a3 0 10) ⟨cb_of hts wk_X4_isWithin wi_X4 wm_X4_29 sd_X4_isWithin rfl rfl ⟨Nat.le_of_ble_eq_true rfl, Nat.le_of_ble_eq_true rfl⟩, hts _ wz_X4_isWithin⟩ (P0.pre hC hS hH) rfl rfl hl.1 rfl (lv_room (Nat.le_of_ble_eq_true rfl)) dX4_lease_59 ⟨Nat.le_of_ble_eq_true rfl, Nat.le_of_ble_eq_true rfl⟩) ?_
            refine W.eq (g2 := F0 m 62 ls [.int (b2 (inB a3 0 10))]) rfl ?_
            refine lv_if_eq (tgt := 105) hx hb dX4_lease_62 (by decide) (fun c62 => ?_) (fun c62 => ?_)
            · skip
              have c62 := b2_0.mp c62
              have h9 : leaseC g a0 a1 a2 a3 a4 a5 a6 = 2 := by first | (simp [leaseC, c9, c16, c21, c41, c48, c62]; done) | (subst c21; simp [leaseC, c9, c16, c41, c62]; done) | exact absurd c21 c48 | exact absurd c48 c21 | (unfold leaseC; rw [if_neg (by simp [c9, c16, c21, c48, c62]), if_pos (Or.inl c41)])
              exact e_th (BX := fun H => ∃ ad : Tg → Nat, Ex g ad0 ad ∧ Wo D k b ad g M o H) (PE := xN [nIO, nIA, nIS] (leaseC g a0 a1 a2 a3 a4 a5 a6)) hlf (E := nIA) (by decide +kernel) wc_X4_33 wi_java_lang_IllegalArgumentException ax_IA gd_IA hx hb hts hown hC hlocks ht (by rw [hml]; exact hl.1) hS dX4_lease_105 dX4_lease_108 dX4_lease_109 dX4_lease_112 (fun H1 z o => ⟨ad, hE, hH.grow z o⟩) (Nat.le_of_ble_eq_true rfl) (Nat.le_of_ble_eq_true rfl) (show 0 + 1 ≤ 1 by omega) (show 0 + 6 ≤ 6 by omega) (show 0 + 1 ≤ 1 by omega) (show 0 + 6 ≤ 6 by omega) (by rw [h9]; exact ⟨by decide, rfl⟩)
            · skip
              have c62 := b2_n0.mp c62
              refine lv_iload hx hb dX4_lease_65 (lv_at hl 6 rfl) ?_
              refine lv_aload_n hx hb dX4_lease_67 rfl (lv_at hl 1 rfl) ?_
              refine g4 hx hb hts hown hC hH 3 (by decide) wf_X4_52 (v := .int (g.1 40 0)) rfl dX4_lease_68 ?_
              refine lv_iconst (v := 1) hx hb dX4_lease_71 (by decide) ?_
              refine lv_iadd hx hb dX4_lease_72 ?_
              refine lv_sipush (v := 10000) hx hb dX4_lease_73 (by decide) ?_
              refine k_r (va_runS (As := [.int a4, .int ((g.1 40 0) + 1), .int 10000]) (rest := []) ⟨hx, hb, hml, hown, hts⟩ (mX4_isWithin l a4 ((g.1 40 0) + 1) 10000) ⟨cb_of hts wk_X4_isWithin wi_X4 wm_X4_29 sd_X4_isWithin rfl rfl ⟨Nat.le_of_ble_eq_true rfl, Nat.le_of_ble_eq_true rfl⟩, hts _ wz_X4_isWithin⟩ (P0.pre hC hS hH) rfl rfl hl.1 rfl (lv_room (Nat.le_of_ble_eq_true rfl)) dX4_lease_76 ⟨Nat.le_of_ble_eq_true rfl, Nat.le_of_ble_eq_true rfl⟩) ?_
              refine W.eq (g2 := F0 m 79 ls [.int (b2 (inB a4 ((g.1 40 0) + 1) 10000))]) rfl ?_
              refine lv_if_eq (tgt := 105) hx hb dX4_lease_79 (by decide) (fun c79 => ?_) (fun c79 => ?_)
              · skip
                have c79 := b2_0.mp c79
                have h9 : leaseC g a0 a1 a2 a3 a4 a5 a6 = 2 := by first | (simp [leaseC, c9, c16, c21, c41, c48, c62, c79]; done) | (subst c21; simp [leaseC, c9, c16, c41, c62, c79]; done) | exact absurd c21 c48 | exact absurd c48 c21 | (unfold leaseC; rw [if_neg (by simp [c9, c16, c21, c48, c62, c79]), if_pos (Or.inl c41)])
                exact e_th (BX := fun H => ∃ ad : Tg → Nat, Ex g ad0 ad ∧ Wo D k b ad g M o H) (PE := xN [nIO, nIA, nIS] (leaseC g a0 a1 a2 a3 a4 a5 a6)) hlf (E := nIA) (by decide +kernel) wc_X4_33 wi_java_lang_IllegalArgumentException ax_IA gd_IA hx hb hts hown hC hlocks ht (by rw [hml]; exact hl.1) hS dX4_lease_105 dX4_lease_108 dX4_lease_109 dX4_lease_112 (fun H1 z o => ⟨ad, hE, hH.grow z o⟩) (Nat.le_of_ble_eq_true rfl) (Nat.le_of_ble_eq_true rfl) (show 0 + 1 ≤ 1 by omega) (show 0 + 6 ≤ 6 by omega) (show 0 + 1 ≤ 1 by omega) (show 0 + 6 ≤ 6 by omega) (by rw [h9]; exact ⟨by decide, rfl⟩)
              · skip
                have c79 := b2_n0.mp c79
                refine lv_iload hx hb dX4_lease_82 (lv_at hl 7 rfl) ?_
                refine lv_iconst (v := 0) hx hb dX4_lease_84 (by decide) ?_
                refine lv_sipush (v := 1000) hx hb dX4_lease_85 (by decide) ?_
                refine k_r (va_runS (As := [.int a5, .int 0, .int 1000]) (rest := []) ⟨hx, hb, hml, hown, hts⟩ (mX4_isWithin l a5 0 1000) ⟨cb_of hts wk_X4_isWithin wi_X4 wm_X4_29 sd_X4_isWithin rfl rfl ⟨Nat.le_of_ble_eq_true rfl, Nat.le_of_ble_eq_true rfl⟩, hts _ wz_X4_isWithin⟩ (P0.pre hC hS hH) rfl rfl hl.1 rfl (lv_room (Nat.le_of_ble_eq_true rfl)) dX4_lease_88 ⟨Nat.le_of_ble_eq_true rfl, Nat.le_of_ble_eq_true rfl⟩) ?_
                refine W.eq (g2 := F0 m 91 ls [.int (b2 (inB a5 0 1000))]) rfl ?_
                refine lv_if_eq (tgt := 105) hx hb dX4_lease_91 (by decide) (fun c91 => ?_) (fun c91 => ?_)
                · skip
                  have c91 := b2_0.mp c91
                  have h9 : leaseC g a0 a1 a2 a3 a4 a5 a6 = 2 := by first | (simp [leaseC, c9, c16, c21, c41, c48, c62, c79, c91]; done) | (subst c21; simp [leaseC, c9, c16, c41, c62, c79, c91]; done) | exact absurd c21 c48 | exact absurd c48 c21 | (unfold leaseC; rw [if_neg (by simp [c9, c16, c21, c48, c62, c79, c91]), if_pos (Or.inl c41)])
                  exact e_th (BX := fun H => ∃ ad : Tg → Nat, Ex g ad0 ad ∧ Wo D k b ad g M o H) (PE := xN [nIO, nIA, nIS] (leaseC g a0 a1 a2 a3 a4 a5 a6)) hlf (E := nIA) (by decide +kernel) wc_X4_33 wi_java_lang_IllegalArgumentException ax_IA gd_IA hx hb hts hown hC hlocks ht (by rw [hml]; exact hl.1) hS dX4_lease_105 dX4_lease_108 dX4_lease_109 dX4_lease_112 (fun H1 z o => ⟨ad, hE, hH.grow z o⟩) (Nat.le_of_ble_eq_true rfl) (Nat.le_of_ble_eq_true rfl) (show 0 + 1 ≤ 1 by omega) (show 0 + 6 ≤ 6 by omega) (show 0 + 1 ≤ 1 by omega) (show 0 + 6 ≤ 6 by omega) (by rw [h9]; exact ⟨by decide, rfl⟩)
                · skip
                  have c91 := b2_n0.mp c91
                  refine lv_iload hx hb dX4_lease_94 (lv_at hl 8 rfl) ?_
                  refine lv_iconst (v := 0) hx hb dX4_lease_96 (by decide) ?_
                  refine lv_bipush (v := 100) hx hb dX4_lease_97 (by decide) ?_
                  refine k_r (va_runS (As := [.int a6, .int 0, .int 100]) (rest := []) ⟨hx, hb, hml, hown, hts⟩ (mX4_isWithin l a6 0 100) ⟨cb_of hts wk_X4_isWithin wi_X4 wm_X4_29 sd_X4_isWithin rfl rfl ⟨Nat.le_of_ble_eq_true rfl, Nat.le_of_ble_eq_true rfl⟩, hts _ wz_X4_isWithin⟩ (P0.pre hC hS hH) rfl rfl hl.1 rfl (lv_room (Nat.le_of_ble_eq_true rfl)) dX4_lease_99 ⟨Nat.le_of_ble_eq_true rfl, Nat.le_of_ble_eq_true rfl⟩) ?_
                  refine W.eq (g2 := F0 m 102 ls [.int (b2 (inB a6 0 100))]) rfl ?_
                  refine lv_if_ne (tgt := 113) hx hb dX4_lease_102 (by decide) (fun c102 => ?_) (fun c102 => ?_)
                  · skip
                    have c102 := b2_n0.mp c102
                    refine lv_aload hx hb dX4_lease_113 (lv_at hl 0 rfl) ?_
                    refine g2N hx hb hts hown hC hH (mI g a0 - 1) (mI_n c9).1 7 (by decide) wf_X4_56 (v := va_rf (lsO ad (mI g a0 - 1) (g.2.1 2 (mI g a0 - 1)))) rfl dX4_lease_115 ?_
                    by_cases c115 : g.2.1 2 (mI g a0 - 1) = 0
                    · skip
                      refine W.eq (g2 := F0 m 118 ls [.null]) (by simp [lsO, va_rf, c115]) ?_
                      refine lv_ifnullN (tgt := 129) hx hb dX4_lease_118 (by decide) ?_
                      refine lv_aload hx hb dX4_lease_129 (lv_at hl 0 rfl) ?_
                      have hb0 : b ≤ s.heap.size := (show Hp D b (LW g.2.1) ad (eW k ad g M o) s.heap from hH).2.2.2
                      refine r_new hx hb hts hown hC hH hS hb0 (3, mI g a0 - 1, 0) (ci := 0) rfl inX0 tyX0 tyX0_ok wc_X4_60 wn_X0 wi_X0 [.int 0, .int 0, .int 0, .int 0, .int 0, .int 0] (fun j hj => by rcases (show j = 0 ∨ j = 1 ∨ j = 2 ∨ j = 3 ∨ j = 4 ∨ j = 5 by omega) with rfl | rfl | rfl | rfl | rfl | rfl <;> rfl) (show 0 + 1 ≤ 1 by omega) (show 0 + 6 ≤ 6 by omega) dX4_lease_131 (fun H hH hS => ?_)
                      obtain ⟨ad1, had⟩ : ∃ z, z = uA ad (3, mI g a0 - 1, 0) s.heap.size := ⟨_, rfl⟩
                      have ea : ∀ u : Tg, u ≠ (3, mI g a0 - 1, 0) → ad1 u = ad u := fun u h => by rw [had]; exact uA_n h
                      have ea1 : ad1 (3, mI g a0 - 1, 0) = s.heap.size := by rw [had]; exact uA_s
                      rw [← had] at hH
                      refine W.eq (g2 := F0 m 134 ls [.ref (ad1 (3, mI g a0 - 1, 0)), .ref (ad1 (1, mI g a0 - 1, 0))]) (by rw [ea1, ea (1, mI g a0 - 1, 0) (by simp)]) ?_
                      refine lv_dup hx hb dX4_lease_134 rfl ?_
                      refine lv_iload_n hx hb dX4_lease_135 rfl (lv_at hl 3 rfl) ?_
                      refine lv_iload_n hx hb dX4_lease_136 rfl (lv_at hl 4 rfl) ?_
                      refine lv_iload hx hb dX4_lease_137 (lv_at hl 5 rfl) ?_
                      refine lv_iload hx hb dX4_lease_139 (lv_at hl 6 rfl) ?_
                      refine lv_iload hx hb dX4_lease_141 (lv_at hl 7 rfl) ?_
                      refine lv_iload hx hb dX4_lease_143 (lv_at hl 8 rfl) ?_
                      refine k_w (va_runIN (As := [.int a1, .int a2, .int a3, .int a4, .int a5, .int a6]) (rest := [.ref (ad1 (3, mI g a0 - 1, 0)), .ref (ad1 (1, mI g a0 - 1, 0))]) ⟨hx, hb, hml, hown, hts⟩ (mX0_init l (3, mI g a0 - 1, 0) (Or.inr rfl) uE_s a1 a2 a3 a4 a5 a6) ⟨cn_of hts wk_X0_init wi_X0 wm_X4_62 sd_X0_init rfl rfl ⟨Nat.le_of_ble_eq_true rfl, Nat.le_of_ble_eq_true rfl⟩, rfl, hts _ wv_X0_init⟩ (P0.pre hC hS hH) rfl rfl hl.1 rfl (lv_room (Nat.le_of_ble_eq_true rfl)) dX4_lease_145 ⟨show 0 + 1 + 0 ≤ 1 by omega, show 0 + 6 + 0 ≤ 6 by omega⟩) hS (fun H locs hH hS => ?_)
                      rw [uE_uE] at hH
                      refine W.eq (g2 := F0 m 148 ls [.ref (ad1 (3, mI g a0 - 1, 0)), .ref (ad1 (1, mI g a0 - 1, 0))]) rfl ?_
                      refine r_putN hx hb hts hown hC hH hS (1, mI g a0 - 1, 0) (Or.inl ⟨(mI_n c9).1, rfl⟩) (fs := fM g ad (mI g a0 - 1)) (by rw [uE_n (by simp)]; rfl) rfl inX2 tyX2 tyX2_ok nmX2 7 (by decide) rfl wf_X4_56 rfl rfl (by simp [fM]) dX4_lease_148 (fun H locs hH hS => ?_)
                      have h8 : leaseC g a0 a1 a2 a3 a4 a5 a6 = 0 := by first | (simp [leaseC, c9, c16, c21, c41, c48, c62, c79, c91, c102, c115]; done) | (subst c21; simp [leaseC, c9, c16, c41, c62, c79, c91, c102, c115]; done) | exact absurd c21 c48 | exact absurd c48 c21 | (unfold leaseC; rw [if_neg (by simp [c9, c16, c21, c48, c62, c79, c91, c102, c115]), if_pos (Or.inl c41)])
                      refine e_xv hx hb hr hlocks h8 hS ⟨ad1, hE.tr Gr.rf (fun u h3 hu => ea u (fun q => h3 (by rw [q]))), ?_⟩ (show 0 + 1 + 0 ≤ 1 by omega) (show 0 + 6 + 0 ≤ 6 by omega) dX4_lease_151
                      refine Wo_nL ea hH ⟨Or.inr rfl, ?_⟩ ⟨Or.inl ⟨(mI_n c9).1, rfl⟩, ?_⟩ (fun u hu n1 n0 => ⟨Or.inl hu, ?_⟩)
                      · rw [uE_n (by simp), uE_s]
                      · rw [uE_s]
                      · rw [uE_n n0, uE_n n1]
                    · skip
                      refine W.eq (g2 := F0 m 118 ls [.ref (ad (3, mI g a0 - 1, 0))]) (by simp [lsO, va_rf, c115]) ?_
                      refine lv_ifnull hx hb dX4_lease_118 ?_
                      have h9 : leaseC g a0 a1 a2 a3 a4 a5 a6 = 3 := by first | (simp [leaseC, c9, c16, c21, c41, c48, c62, c79, c91, c102, c115]; done) | (subst c21; simp [leaseC, c9, c16, c41, c62, c79, c91, c102, c115]; done) | exact absurd c21 c48 | exact absurd c48 c21 | (unfold leaseC; rw [if_neg (by simp [c9, c16, c21, c48, c62, c79, c91, c102, c115]), if_pos (Or.inl c41)])
                      exact e_th (BX := fun H => ∃ ad : Tg → Nat, Ex g ad0 ad ∧ Wo D k b ad g M o H) (PE := xN [nIO, nIA, nIS] (leaseC g a0 a1 a2 a3 a4 a5 a6)) hlf (E := nIS) (by decide +kernel) wc_X4_39 wi_java_lang_IllegalStateException ax_IS gd_IS hx hb hts hown hC hlocks ht (by rw [hml]; exact hl.1) hS dX4_lease_121 dX4_lease_124 dX4_lease_125 dX4_lease_128 (fun H1 z o => ⟨ad, hE, hH.grow z o⟩) (Nat.le_of_ble_eq_true rfl) (Nat.le_of_ble_eq_true rfl) (show 0 + 1 ≤ 1 by omega) (show 0 + 6 ≤ 6 by omega) (show 0 + 1 ≤ 1 by omega) (show 0 + 6 ≤ 6 by omega) (by rw [h9]; exact ⟨by decide, rfl⟩)
                  · skip
                    have c102 := b2_0.mp c102
                    have h9 : leaseC g a0 a1 a2 a3 a4 a5 a6 = 2 := by first | (simp [leaseC, c9, c16, c21, c41, c48, c62, c79, c91, c102]; done) | (subst c21; simp [leaseC, c9, c16, c41, c62, c79, c91, c102]; done) | exact absurd c21 c48 | exact absurd c48 c21 | (unfold leaseC; rw [if_neg (by simp [c9, c16, c21, c48, c62, c79, c91, c102]), if_pos (Or.inl c41)])
                    exact e_th (BX := fun H => ∃ ad : Tg → Nat, Ex g ad0 ad ∧ Wo D k b ad g M o H) (PE := xN [nIO, nIA, nIS] (leaseC g a0 a1 a2 a3 a4 a5 a6)) hlf (E := nIA) (by decide +kernel) wc_X4_33 wi_java_lang_IllegalArgumentException ax_IA gd_IA hx hb hts hown hC hlocks ht (by rw [hml]; exact hl.1) hS dX4_lease_105 dX4_lease_108 dX4_lease_109 dX4_lease_112 (fun H1 z o => ⟨ad, hE, hH.grow z o⟩) (Nat.le_of_ble_eq_true rfl) (Nat.le_of_ble_eq_true rfl) (show 0 + 1 ≤ 1 by omega) (show 0 + 6 ≤ 6 by omega) (show 0 + 1 ≤ 1 by omega) (show 0 + 6 ≤ 6 by omega) (by rw [h9]; exact ⟨by decide, rfl⟩)
          · skip
            refine lv_bipush (v := 10) hx hb dX4_lease_51 (by decide) ?_
            refine lv_goto (tgt := 57) hx hb dX4_lease_53 (by decide) ?_
            refine lv_bipush (v := 10) hx hb dX4_lease_57 (by decide) ?_
            refine k_r (va_runS (As := [.int a3, .int 10, .int 10]) (rest := []) ⟨hx, hb, hml, hown, hts⟩ (mX4_isWithin l a3 10 10) ⟨cb_of hts wk_X4_isWithin wi_X4 wm_X4_29 sd_X4_isWithin rfl rfl ⟨Nat.le_of_ble_eq_true rfl, Nat.le_of_ble_eq_true rfl⟩, hts _ wz_X4_isWithin⟩ (P0.pre hC hS hH) rfl rfl hl.1 rfl (lv_room (Nat.le_of_ble_eq_true rfl)) dX4_lease_59 ⟨Nat.le_of_ble_eq_true rfl, Nat.le_of_ble_eq_true rfl⟩) ?_
            refine W.eq (g2 := F0 m 62 ls [.int (b2 (inB a3 10 10))]) rfl ?_
            refine lv_if_eq (tgt := 105) hx hb dX4_lease_62 (by decide) (fun c62 => ?_) (fun c62 => ?_)
            · skip
              have c62 := b2_0.mp c62
              have h9 : leaseC g a0 a1 a2 a3 a4 a5 a6 = 2 := by first | (simp [leaseC, c9, c16, c21, c41, c48, c62]; done) | (subst c21; simp [leaseC, c9, c16, c41, c62]; done) | exact absurd c21 c48 | exact absurd c48 c21 | (unfold leaseC; rw [if_neg (by simp [c9, c16, c21, c48, c62]), if_pos (Or.inl c41)])
              exact e_th (BX := fun H => ∃ ad : Tg → Nat, Ex g ad0 ad ∧ Wo D k b ad g M o H) (PE := xN [nIO, nIA, nIS] (leaseC g a0 a1 a2 a3 a4 a5 a6)) hlf (E := nIA) (by decide +kernel) wc_X4_33 wi_java_lang_IllegalArgumentException ax_IA gd_IA hx hb hts hown hC hlocks ht (by rw [hml]; exact hl.1) hS dX4_lease_105 dX4_lease_108 dX4_lease_109 dX4_lease_112 (fun H1 z o => ⟨ad, hE, hH.grow z o⟩) (Nat.le_of_ble_eq_true rfl) (Nat.le_of_ble_eq_true rfl) (show 0 + 1 ≤ 1 by omega) (show 0 + 6 ≤ 6 by omega) (show 0 + 1 ≤ 1 by omega) (show 0 + 6 ≤ 6 by omega) (by rw [h9]; exact ⟨by decide, rfl⟩)
            · skip
              have c62 := b2_n0.mp c62
              refine lv_iload hx hb dX4_lease_65 (lv_at hl 6 rfl) ?_
              refine lv_aload_n hx hb dX4_lease_67 rfl (lv_at hl 1 rfl) ?_
              refine g4 hx hb hts hown hC hH 3 (by decide) wf_X4_52 (v := .int (g.1 40 0)) rfl dX4_lease_68 ?_
              refine lv_iconst (v := 1) hx hb dX4_lease_71 (by decide) ?_
              refine lv_iadd hx hb dX4_lease_72 ?_
              refine lv_sipush (v := 10000) hx hb dX4_lease_73 (by decide) ?_
              refine k_r (va_runS (As := [.int a4, .int ((g.1 40 0) + 1), .int 10000]) (rest := []) ⟨hx, hb, hml, hown, hts⟩ (mX4_isWithin l a4 ((g.1 40 0) + 1) 10000) ⟨cb_of hts wk_X4_isWithin wi_X4 wm_X4_29 sd_X4_isWithin rfl rfl ⟨Nat.le_of_ble_eq_true rfl, Nat.le_of_ble_eq_true rfl⟩, hts _ wz_X4_isWithin⟩ (P0.pre hC hS hH) rfl rfl hl.1 rfl (lv_room (Nat.le_of_ble_eq_true rfl)) dX4_lease_76 ⟨Nat.le_of_ble_eq_true rfl, Nat.le_of_ble_eq_true rfl⟩) ?_
              refine W.eq (g2 := F0 m 79 ls [.int (b2 (inB a4 ((g.1 40 0) + 1) 10000))]) rfl ?_
              refine lv_if_eq (tgt := 105) hx hb dX4_lease_79 (by decide) (fun c79 => ?_) (fun c79 => ?_)
              · skip
                have c79 := b2_0.mp c79
                have h9 : leaseC g a0 a1 a2 a3 a4 a5 a6 = 2 := by first | (simp [leaseC, c9, c16, c21, c41, c48, c62, c79]; done) | (subst c21; simp [leaseC, c9, c16, c41, c62, c79]; done) | exact absurd c21 c48 | exact absurd c48 c21 | (unfold leaseC; rw [if_neg (by simp [c9, c16, c21, c48, c62, c79]), if_pos (Or.inl c41)])
                exact e_th (BX := fun H => ∃ ad : Tg → Nat, Ex g ad0 ad ∧ Wo D k b ad g M o H) (PE := xN [nIO, nIA, nIS] (leaseC g a0 a1 a2 a3 a4 a5 a6)) hlf (E := nIA) (by decide +kernel) wc_X4_33 wi_java_lang_IllegalArgumentException ax_IA gd_IA hx hb hts hown hC hlocks ht (by rw [hml]; exact hl.1) hS dX4_lease_105 dX4_lease_108 dX4_lease_109 dX4_lease_112 (fun H1 z o => ⟨ad, hE, hH.grow z o⟩) (Nat.le_of_ble_eq_true rfl) (Nat.le_of_ble_eq_true rfl) (show 0 + 1 ≤ 1 by omega) (show 0 + 6 ≤ 6 by omega) (show 0 + 1 ≤ 1 by omega) (show 0 + 6 ≤ 6 by omega) (by rw [h9]; exact ⟨by decide, rfl⟩)
              · skip
                have c79 := b2_n0.mp c79
                refine lv_iload hx hb dX4_lease_82 (lv_at hl 7 rfl) ?_
                refine lv_iconst (v := 0) hx hb dX4_lease_84 (by decide) ?_
                refine lv_sipush (v := 1000) hx hb dX4_lease_85 (by decide) ?_
                refine k_r (va_runS (As := [.int a5, .int 0, .int 1000]) (rest := []) ⟨hx, hb, hml, hown, hts⟩ (mX4_isWithin l a5 0 1000) ⟨cb_of hts wk_X4_isWithin wi_X4 wm_X4_29 sd_X4_isWithin rfl rfl ⟨Nat.le_of_ble_eq_true rfl, Nat.le_of_ble_eq_true rfl⟩, hts _ wz_X4_isWithin⟩ (P0.pre hC hS hH) rfl rfl hl.1 rfl (lv_room (Nat.le_of_ble_eq_true rfl)) dX4_lease_88 ⟨Nat.le_of_ble_eq_true rfl, Nat.le_of_ble_eq_true rfl⟩) ?_
                refine W.eq (g2 := F0 m 91 ls [.int (b2 (inB a5 0 1000))]) rfl ?_
                refine lv_if_eq (tgt := 105) hx hb dX4_lease_91 (by decide) (fun c91 => ?_) (fun c91 => ?_)
                · skip
                  have c91 := b2_0.mp c91
                  have h9 : leaseC g a0 a1 a2 a3 a4 a5 a6 = 2 := by first | (simp [leaseC, c9, c16, c21, c41, c48, c62, c79, c91]; done) | (subst c21; simp [leaseC, c9, c16, c41, c62, c79, c91]; done) | exact absurd c21 c48 | exact absurd c48 c21 | (unfold leaseC; rw [if_neg (by simp [c9, c16, c21, c48, c62, c79, c91]), if_pos (Or.inl c41)])
                  exact e_th (BX := fun H => ∃ ad : Tg → Nat, Ex g ad0 ad ∧ Wo D k b ad g M o H) (PE := xN [nIO, nIA, nIS] (leaseC g a0 a1 a2 a3 a4 a5 a6)) hlf (E := nIA) (by decide +kernel) wc_X4_33 wi_java_lang_IllegalArgumentException ax_IA gd_IA hx hb hts hown hC hlocks ht (by rw [hml]; exact hl.1) hS dX4_lease_105 dX4_lease_108 dX4_lease_109 dX4_lease_112 (fun H1 z o => ⟨ad, hE, hH.grow z o⟩) (Nat.le_of_ble_eq_true rfl) (Nat.le_of_ble_eq_true rfl) (show 0 + 1 ≤ 1 by omega) (show 0 + 6 ≤ 6 by omega) (show 0 + 1 ≤ 1 by omega) (show 0 + 6 ≤ 6 by omega) (by rw [h9]; exact ⟨by decide, rfl⟩)
                · skip
                  have c91 := b2_n0.mp c91
                  refine lv_iload hx hb dX4_lease_94 (lv_at hl 8 rfl) ?_
                  refine lv_iconst (v := 0) hx hb dX4_lease_96 (by decide) ?_
                  refine lv_bipush (v := 100) hx hb dX4_lease_97 (by decide) ?_
                  refine k_r (va_runS (As := [.int a6, .int 0, .int 100]) (rest := []) ⟨hx, hb, hml, hown, hts⟩ (mX4_isWithin l a6 0 100) ⟨cb_of hts wk_X4_isWithin wi_X4 wm_X4_29 sd_X4_isWithin rfl rfl ⟨Nat.le_of_ble_eq_true rfl, Nat.le_of_ble_eq_true rfl⟩, hts _ wz_X4_isWithin⟩ (P0.pre hC hS hH) rfl rfl hl.1 rfl (lv_room (Nat.le_of_ble_eq_true rfl)) dX4_lease_99 ⟨Nat.le_of_ble_eq_true rfl, Nat.le_of_ble_eq_true rfl⟩) ?_
                  refine W.eq (g2 := F0 m 102 ls [.int (b2 (inB a6 0 100))]) rfl ?_
                  refine lv_if_ne (tgt := 113) hx hb dX4_lease_102 (by decide) (fun c102 => ?_) (fun c102 => ?_)
                  · skip
                    have c102 := b2_n0.mp c102
                    refine lv_aload hx hb dX4_lease_113 (lv_at hl 0 rfl) ?_
                    refine g2N hx hb hts hown hC hH (mI g a0 - 1) (mI_n c9).1 7 (by decide) wf_X4_56 (v := va_rf (lsO ad (mI g a0 - 1) (g.2.1 2 (mI g a0 - 1)))) rfl dX4_lease_115 ?_
                    by_cases c115 : g.2.1 2 (mI g a0 - 1) = 0
                    · skip
                      refine W.eq (g2 := F0 m 118 ls [.null]) (by simp [lsO, va_rf, c115]) ?_
                      refine lv_ifnullN (tgt := 129) hx hb dX4_lease_118 (by decide) ?_
                      refine lv_aload hx hb dX4_lease_129 (lv_at hl 0 rfl) ?_
                      have hb0 : b ≤ s.heap.size := (show Hp D b (LW g.2.1) ad (eW k ad g M o) s.heap from hH).2.2.2
                      refine r_new hx hb hts hown hC hH hS hb0 (3, mI g a0 - 1, 0) (ci := 0) rfl inX0 tyX0 tyX0_ok wc_X4_60 wn_X0 wi_X0 [.int 0, .int 0, .int 0, .int 0, .int 0, .int 0] (fun j hj => by rcases (show j = 0 ∨ j = 1 ∨ j = 2 ∨ j = 3 ∨ j = 4 ∨ j = 5 by omega) with rfl | rfl | rfl | rfl | rfl | rfl <;> rfl) (show 0 + 1 ≤ 1 by omega) (show 0 + 6 ≤ 6 by omega) dX4_lease_131 (fun H hH hS => ?_)
                      obtain ⟨ad1, had⟩ : ∃ z, z = uA ad (3, mI g a0 - 1, 0) s.heap.size := ⟨_, rfl⟩
                      have ea : ∀ u : Tg, u ≠ (3, mI g a0 - 1, 0) → ad1 u = ad u := fun u h => by rw [had]; exact uA_n h
                      have ea1 : ad1 (3, mI g a0 - 1, 0) = s.heap.size := by rw [had]; exact uA_s
                      rw [← had] at hH
                      refine W.eq (g2 := F0 m 134 ls [.ref (ad1 (3, mI g a0 - 1, 0)), .ref (ad1 (1, mI g a0 - 1, 0))]) (by rw [ea1, ea (1, mI g a0 - 1, 0) (by simp)]) ?_
                      refine lv_dup hx hb dX4_lease_134 rfl ?_
                      refine lv_iload_n hx hb dX4_lease_135 rfl (lv_at hl 3 rfl) ?_
                      refine lv_iload_n hx hb dX4_lease_136 rfl (lv_at hl 4 rfl) ?_
                      refine lv_iload hx hb dX4_lease_137 (lv_at hl 5 rfl) ?_
                      refine lv_iload hx hb dX4_lease_139 (lv_at hl 6 rfl) ?_
                      refine lv_iload hx hb dX4_lease_141 (lv_at hl 7 rfl) ?_
                      refine lv_iload hx hb dX4_lease_143 (lv_at hl 8 rfl) ?_
                      refine k_w (va_runIN (As := [.int a1, .int a2, .int a3, .int a4, .int a5, .int a6]) (rest := [.ref (ad1 (3, mI g a0 - 1, 0)), .ref (ad1 (1, mI g a0 - 1, 0))]) ⟨hx, hb, hml, hown, hts⟩ (mX0_init l (3, mI g a0 - 1, 0) (Or.inr rfl) uE_s a1 a2 a3 a4 a5 a6) ⟨cn_of hts wk_X0_init wi_X0 wm_X4_62 sd_X0_init rfl rfl ⟨Nat.le_of_ble_eq_true rfl, Nat.le_of_ble_eq_true rfl⟩, rfl, hts _ wv_X0_init⟩ (P0.pre hC hS hH) rfl rfl hl.1 rfl (lv_room (Nat.le_of_ble_eq_true rfl)) dX4_lease_145 ⟨show 0 + 1 + 0 ≤ 1 by omega, show 0 + 6 + 0 ≤ 6 by omega⟩) hS (fun H locs hH hS => ?_)
                      rw [uE_uE] at hH
                      refine W.eq (g2 := F0 m 148 ls [.ref (ad1 (3, mI g a0 - 1, 0)), .ref (ad1 (1, mI g a0 - 1, 0))]) rfl ?_
                      refine r_putN hx hb hts hown hC hH hS (1, mI g a0 - 1, 0) (Or.inl ⟨(mI_n c9).1, rfl⟩) (fs := fM g ad (mI g a0 - 1)) (by rw [uE_n (by simp)]; rfl) rfl inX2 tyX2 tyX2_ok nmX2 7 (by decide) rfl wf_X4_56 rfl rfl (by simp [fM]) dX4_lease_148 (fun H locs hH hS => ?_)
                      have h8 : leaseC g a0 a1 a2 a3 a4 a5 a6 = 0 := by first | (simp [leaseC, c9, c16, c21, c41, c48, c62, c79, c91, c102, c115]; done) | (subst c21; simp [leaseC, c9, c16, c41, c62, c79, c91, c102, c115]; done) | exact absurd c21 c48 | exact absurd c48 c21 | (unfold leaseC; rw [if_neg (by simp [c9, c16, c21, c48, c62, c79, c91, c102, c115]), if_pos (Or.inl c41)])
                      refine e_xv hx hb hr hlocks h8 hS ⟨ad1, hE.tr Gr.rf (fun u h3 hu => ea u (fun q => h3 (by rw [q]))), ?_⟩ (show 0 + 1 + 0 ≤ 1 by omega) (show 0 + 6 + 0 ≤ 6 by omega) dX4_lease_151
                      refine Wo_nL ea hH ⟨Or.inr rfl, ?_⟩ ⟨Or.inl ⟨(mI_n c9).1, rfl⟩, ?_⟩ (fun u hu n1 n0 => ⟨Or.inl hu, ?_⟩)
                      · rw [uE_n (by simp), uE_s]
                      · rw [uE_s]
                      · rw [uE_n n0, uE_n n1]
                    · skip
                      refine W.eq (g2 := F0 m 118 ls [.ref (ad (3, mI g a0 - 1, 0))]) (by simp [lsO, va_rf, c115]) ?_
                      refine lv_ifnull hx hb dX4_lease_118 ?_
                      have h9 : leaseC g a0 a1 a2 a3 a4 a5 a6 = 3 := by first | (simp [leaseC, c9, c16, c21, c41, c48, c62, c79, c91, c102, c115]; done) | (subst c21; simp [leaseC, c9, c16, c41, c62, c79, c91, c102, c115]; done) | exact absurd c21 c48 | exact absurd c48 c21 | (unfold leaseC; rw [if_neg (by simp [c9, c16, c21, c48, c62, c79, c91, c102, c115]), if_pos (Or.inl c41)])
                      exact e_th (BX := fun H => ∃ ad : Tg → Nat, Ex g ad0 ad ∧ Wo D k b ad g M o H) (PE := xN [nIO, nIA, nIS] (leaseC g a0 a1 a2 a3 a4 a5 a6)) hlf (E := nIS) (by decide +kernel) wc_X4_39 wi_java_lang_IllegalStateException ax_IS gd_IS hx hb hts hown hC hlocks ht (by rw [hml]; exact hl.1) hS dX4_lease_121 dX4_lease_124 dX4_lease_125 dX4_lease_128 (fun H1 z o => ⟨ad, hE, hH.grow z o⟩) (Nat.le_of_ble_eq_true rfl) (Nat.le_of_ble_eq_true rfl) (show 0 + 1 ≤ 1 by omega) (show 0 + 6 ≤ 6 by omega) (show 0 + 1 ≤ 1 by omega) (show 0 + 6 ≤ 6 by omega) (by rw [h9]; exact ⟨by decide, rfl⟩)
                  · skip
                    have c102 := b2_0.mp c102
                    have h9 : leaseC g a0 a1 a2 a3 a4 a5 a6 = 2 := by first | (simp [leaseC, c9, c16, c21, c41, c48, c62, c79, c91, c102]; done) | (subst c21; simp [leaseC, c9, c16, c41, c62, c79, c91, c102]; done) | exact absurd c21 c48 | exact absurd c48 c21 | (unfold leaseC; rw [if_neg (by simp [c9, c16, c21, c48, c62, c79, c91, c102]), if_pos (Or.inl c41)])
                    exact e_th (BX := fun H => ∃ ad : Tg → Nat, Ex g ad0 ad ∧ Wo D k b ad g M o H) (PE := xN [nIO, nIA, nIS] (leaseC g a0 a1 a2 a3 a4 a5 a6)) hlf (E := nIA) (by decide +kernel) wc_X4_33 wi_java_lang_IllegalArgumentException ax_IA gd_IA hx hb hts hown hC hlocks ht (by rw [hml]; exact hl.1) hS dX4_lease_105 dX4_lease_108 dX4_lease_109 dX4_lease_112 (fun H1 z o => ⟨ad, hE, hH.grow z o⟩) (Nat.le_of_ble_eq_true rfl) (Nat.le_of_ble_eq_true rfl) (show 0 + 1 ≤ 1 by omega) (show 0 + 6 ≤ 6 by omega) (show 0 + 1 ≤ 1 by omega) (show 0 + 6 ≤ 6 by omega) (by rw [h9]; exact ⟨by decide, rfl⟩)
      · skip
        refine lv_iload_n hx hb dX4_lease_24 rfl (lv_at hl 4 rfl) ?_
        refine k_r (va_runS (As := [.int a2]) (rest := []) ⟨hx, hb, hml, hown, hts⟩ (mX4_isFarmer l a2) ⟨cb_of hts wk_X4_isFarmer wi_X4 wm_X4_46 sd_X4_isFarmer rfl rfl ⟨Nat.le_of_ble_eq_true rfl, Nat.le_of_ble_eq_true rfl⟩, hts _ wz_X4_isFarmer⟩ (P0.pre hC hS hH) rfl rfl hl.1 rfl (lv_room (Nat.le_of_ble_eq_true rfl)) dX4_lease_25 ⟨Nat.le_of_ble_eq_true rfl, Nat.le_of_ble_eq_true rfl⟩) ?_
        refine W.eq (g2 := F0 m 28 ls [.int (b2 (inB a2 0 5))]) rfl ?_
        refine lv_if_ne (tgt := 39) hx hb dX4_lease_28 (by decide) (fun c28 => ?_) (fun c28 => ?_)
        · skip
          have c28 := b2_n0.mp c28
          refine lv_iload_n hx hb dX4_lease_39 rfl (lv_at hl 3 rfl) ?_
          refine lv_iload_n hx hb dX4_lease_40 rfl (lv_at hl 4 rfl) ?_
          refine lv_icmp_eq (tgt := 105) hx hb dX4_lease_41 (by decide) (fun c41 => ?_) (fun c41 => ?_)
          · skip
            have h9 : leaseC g a0 a1 a2 a3 a4 a5 a6 = 2 := by first | (simp [leaseC, c9, c16, c21, c28, c41]; done) | (subst c21; simp [leaseC, c9, c16, c28, c41]; done) | (unfold leaseC; rw [if_neg (by simp [c9, c16, c21, c28]), if_pos (Or.inl c41)])
            exact e_th (BX := fun H => ∃ ad : Tg → Nat, Ex g ad0 ad ∧ Wo D k b ad g M o H) (PE := xN [nIO, nIA, nIS] (leaseC g a0 a1 a2 a3 a4 a5 a6)) hlf (E := nIA) (by decide +kernel) wc_X4_33 wi_java_lang_IllegalArgumentException ax_IA gd_IA hx hb hts hown hC hlocks ht (by rw [hml]; exact hl.1) hS dX4_lease_105 dX4_lease_108 dX4_lease_109 dX4_lease_112 (fun H1 z o => ⟨ad, hE, hH.grow z o⟩) (Nat.le_of_ble_eq_true rfl) (Nat.le_of_ble_eq_true rfl) (show 0 + 1 ≤ 1 by omega) (show 0 + 6 ≤ 6 by omega) (show 0 + 1 ≤ 1 by omega) (show 0 + 6 ≤ 6 by omega) (by rw [h9]; exact ⟨by decide, rfl⟩)
          · skip
            refine lv_iload hx hb dX4_lease_44 (lv_at hl 5 rfl) ?_
            refine lv_iload_n hx hb dX4_lease_46 rfl (lv_at hl 4 rfl) ?_
            refine lv_iconst (v := (-1)) hx hb dX4_lease_47 (by decide) ?_
            refine lv_icmp_ne (tgt := 56) hx hb dX4_lease_48 (by decide) (fun c48 => ?_) (fun c48 => ?_)
            · skip
              refine lv_iconst (v := 0) hx hb dX4_lease_56 (by decide) ?_
              refine lv_bipush (v := 10) hx hb dX4_lease_57 (by decide) ?_
              refine k_r (va_runS (As := [.int a3, .int 0, .int 10]) (rest := []) ⟨hx, hb, hml, hown, hts⟩ (mX4_isWithin l a3 0 10) ⟨cb_of hts wk_X4_isWithin wi_X4 wm_X4_29 sd_X4_isWithin rfl rfl ⟨Nat.le_of_ble_eq_true rfl, Nat.le_of_ble_eq_true rfl⟩, hts _ wz_X4_isWithin⟩ (P0.pre hC hS hH) rfl rfl hl.1 rfl (lv_room (Nat.le_of_ble_eq_true rfl)) dX4_lease_59 ⟨Nat.le_of_ble_eq_true rfl, Nat.le_of_ble_eq_true rfl⟩) ?_
              refine W.eq (g2 := F0 m 62 ls [.int (b2 (inB a3 0 10))]) rfl ?_
              refine lv_if_eq (tgt := 105) hx hb dX4_lease_62 (by decide) (fun c62 => ?_) (fun c62 => ?_)
              · skip
                have c62 := b2_0.mp c62
                have h9 : leaseC g a0 a1 a2 a3 a4 a5 a6 = 2 := by first | (simp [leaseC, c9, c16, c21, c28, c41, c48, c62]; done) | (subst c21; simp [leaseC, c9, c16, c28, c41, c62]; done) | exact absurd c21 c48 | exact absurd c48 c21 | (unfold leaseC; rw [if_neg (by simp [c9, c16, c21, c28, c48, c62]), if_pos (Or.inl c41)])
                exact e_th (BX := fun H => ∃ ad : Tg → Nat, Ex g ad0 ad ∧ Wo D k b ad g M o H) (PE := xN [nIO, nIA, nIS] (leaseC g a0 a1 a2 a3 a4 a5 a6)) hlf (E := nIA) (by decide +kernel) wc_X4_33 wi_java_lang_IllegalArgumentException ax_IA gd_IA hx hb hts hown hC hlocks ht (by rw [hml]; exact hl.1) hS dX4_lease_105 dX4_lease_108 dX4_lease_109 dX4_lease_112 (fun H1 z o => ⟨ad, hE, hH.grow z o⟩) (Nat.le_of_ble_eq_true rfl) (Nat.le_of_ble_eq_true rfl) (show 0 + 1 ≤ 1 by omega) (show 0 + 6 ≤ 6 by omega) (show 0 + 1 ≤ 1 by omega) (show 0 + 6 ≤ 6 by omega) (by rw [h9]; exact ⟨by decide, rfl⟩)
              · skip
                have c62 := b2_n0.mp c62
                refine lv_iload hx hb dX4_lease_65 (lv_at hl 6 rfl) ?_
                refine lv_aload_n hx hb dX4_lease_67 rfl (lv_at hl 1 rfl) ?_
                refine g4 hx hb hts hown hC hH 3 (by decide) wf_X4_52 (v := .int (g.1 40 0)) rfl dX4_lease_68 ?_
                refine lv_iconst (v := 1) hx hb dX4_lease_71 (by decide) ?_
                refine lv_iadd hx hb dX4_lease_72 ?_
                refine lv_sipush (v := 10000) hx hb dX4_lease_73 (by decide) ?_
                refine k_r (va_runS (As := [.int a4, .int ((g.1 40 0) + 1), .int 10000]) (rest := []) ⟨hx, hb, hml, hown, hts⟩ (mX4_isWithin l a4 ((g.1 40 0) + 1) 10000) ⟨cb_of hts wk_X4_isWithin wi_X4 wm_X4_29 sd_X4_isWithin rfl rfl ⟨Nat.le_of_ble_eq_true rfl, Nat.le_of_ble_eq_true rfl⟩, hts _ wz_X4_isWithin⟩ (P0.pre hC hS hH) rfl rfl hl.1 rfl (lv_room (Nat.le_of_ble_eq_true rfl)) dX4_lease_76 ⟨Nat.le_of_ble_eq_true rfl, Nat.le_of_ble_eq_true rfl⟩) ?_
                refine W.eq (g2 := F0 m 79 ls [.int (b2 (inB a4 ((g.1 40 0) + 1) 10000))]) rfl ?_
                refine lv_if_eq (tgt := 105) hx hb dX4_lease_79 (by decide) (fun c79 => ?_) (fun c79 => ?_)
                · skip
                  have c79 := b2_0.mp c79
                  have h9 : leaseC g a0 a1 a2 a3 a4 a5 a6 = 2 := by first | (simp [leaseC, c9, c16, c21, c28, c41, c48, c62, c79]; done) | (subst c21; simp [leaseC, c9, c16, c28, c41, c62, c79]; done) | exact absurd c21 c48 | exact absurd c48 c21 | (unfold leaseC; rw [if_neg (by simp [c9, c16, c21, c28, c48, c62, c79]), if_pos (Or.inl c41)])
                  exact e_th (BX := fun H => ∃ ad : Tg → Nat, Ex g ad0 ad ∧ Wo D k b ad g M o H) (PE := xN [nIO, nIA, nIS] (leaseC g a0 a1 a2 a3 a4 a5 a6)) hlf (E := nIA) (by decide +kernel) wc_X4_33 wi_java_lang_IllegalArgumentException ax_IA gd_IA hx hb hts hown hC hlocks ht (by rw [hml]; exact hl.1) hS dX4_lease_105 dX4_lease_108 dX4_lease_109 dX4_lease_112 (fun H1 z o => ⟨ad, hE, hH.grow z o⟩) (Nat.le_of_ble_eq_true rfl) (Nat.le_of_ble_eq_true rfl) (show 0 + 1 ≤ 1 by omega) (show 0 + 6 ≤ 6 by omega) (show 0 + 1 ≤ 1 by omega) (show 0 + 6 ≤ 6 by omega) (by rw [h9]; exact ⟨by decide, rfl⟩)
                · skip
                  have c79 := b2_n0.mp c79
                  refine lv_iload hx hb dX4_lease_82 (lv_at hl 7 rfl) ?_
                  refine lv_iconst (v := 0) hx hb dX4_lease_84 (by decide) ?_
                  refine lv_sipush (v := 1000) hx hb dX4_lease_85 (by decide) ?_
                  refine k_r (va_runS (As := [.int a5, .int 0, .int 1000]) (rest := []) ⟨hx, hb, hml, hown, hts⟩ (mX4_isWithin l a5 0 1000) ⟨cb_of hts wk_X4_isWithin wi_X4 wm_X4_29 sd_X4_isWithin rfl rfl ⟨Nat.le_of_ble_eq_true rfl, Nat.le_of_ble_eq_true rfl⟩, hts _ wz_X4_isWithin⟩ (P0.pre hC hS hH) rfl rfl hl.1 rfl (lv_room (Nat.le_of_ble_eq_true rfl)) dX4_lease_88 ⟨Nat.le_of_ble_eq_true rfl, Nat.le_of_ble_eq_true rfl⟩) ?_
                  refine W.eq (g2 := F0 m 91 ls [.int (b2 (inB a5 0 1000))]) rfl ?_
                  refine lv_if_eq (tgt := 105) hx hb dX4_lease_91 (by decide) (fun c91 => ?_) (fun c91 => ?_)
                  · skip
                    have c91 := b2_0.mp c91
                    have h9 : leaseC g a0 a1 a2 a3 a4 a5 a6 = 2 := by first | (simp [leaseC, c9, c16, c21, c28, c41, c48, c62, c79, c91]; done) | (subst c21; simp [leaseC, c9, c16, c28, c41, c62, c79, c91]; done) | exact absurd c21 c48 | exact absurd c48 c21 | (unfold leaseC; rw [if_neg (by simp [c9, c16, c21, c28, c48, c62, c79, c91]), if_pos (Or.inl c41)])
                    exact e_th (BX := fun H => ∃ ad : Tg → Nat, Ex g ad0 ad ∧ Wo D k b ad g M o H) (PE := xN [nIO, nIA, nIS] (leaseC g a0 a1 a2 a3 a4 a5 a6)) hlf (E := nIA) (by decide +kernel) wc_X4_33 wi_java_lang_IllegalArgumentException ax_IA gd_IA hx hb hts hown hC hlocks ht (by rw [hml]; exact hl.1) hS dX4_lease_105 dX4_lease_108 dX4_lease_109 dX4_lease_112 (fun H1 z o => ⟨ad, hE, hH.grow z o⟩) (Nat.le_of_ble_eq_true rfl) (Nat.le_of_ble_eq_true rfl) (show 0 + 1 ≤ 1 by omega) (show 0 + 6 ≤ 6 by omega) (show 0 + 1 ≤ 1 by omega) (show 0 + 6 ≤ 6 by omega) (by rw [h9]; exact ⟨by decide, rfl⟩)
                  · skip
                    have c91 := b2_n0.mp c91
                    refine lv_iload hx hb dX4_lease_94 (lv_at hl 8 rfl) ?_
                    refine lv_iconst (v := 0) hx hb dX4_lease_96 (by decide) ?_
                    refine lv_bipush (v := 100) hx hb dX4_lease_97 (by decide) ?_
                    refine k_r (va_runS (As := [.int a6, .int 0, .int 100]) (rest := []) ⟨hx, hb, hml, hown, hts⟩ (mX4_isWithin l a6 0 100) ⟨cb_of hts wk_X4_isWithin wi_X4 wm_X4_29 sd_X4_isWithin rfl rfl ⟨Nat.le_of_ble_eq_true rfl, Nat.le_of_ble_eq_true rfl⟩, hts _ wz_X4_isWithin⟩ (P0.pre hC hS hH) rfl rfl hl.1 rfl (lv_room (Nat.le_of_ble_eq_true rfl)) dX4_lease_99 ⟨Nat.le_of_ble_eq_true rfl, Nat.le_of_ble_eq_true rfl⟩) ?_
                    refine W.eq (g2 := F0 m 102 ls [.int (b2 (inB a6 0 100))]) rfl ?_
                    refine lv_if_ne (tgt := 113) hx hb dX4_lease_102 (by decide) (fun c102 => ?_) (fun c102 => ?_)
                    · skip
                      have c102 := b2_n0.mp c102
                      refine lv_aload hx hb dX4_lease_113 (lv_at hl 0 rfl) ?_
                      refine g2N hx hb hts hown hC hH (mI g a0 - 1) (mI_n c9).1 7 (by decide) wf_X4_56 (v := va_rf (lsO ad (mI g a0 - 1) (g.2.1 2 (mI g a0 - 1)))) rfl dX4_lease_115 ?_
                      by_cases c115 : g.2.1 2 (mI g a0 - 1) = 0
                      · skip
                        refine W.eq (g2 := F0 m 118 ls [.null]) (by simp [lsO, va_rf, c115]) ?_
                        refine lv_ifnullN (tgt := 129) hx hb dX4_lease_118 (by decide) ?_
                        refine lv_aload hx hb dX4_lease_129 (lv_at hl 0 rfl) ?_
                        have hb0 : b ≤ s.heap.size := (show Hp D b (LW g.2.1) ad (eW k ad g M o) s.heap from hH).2.2.2
                        refine r_new hx hb hts hown hC hH hS hb0 (3, mI g a0 - 1, 0) (ci := 0) rfl inX0 tyX0 tyX0_ok wc_X4_60 wn_X0 wi_X0 [.int 0, .int 0, .int 0, .int 0, .int 0, .int 0] (fun j hj => by rcases (show j = 0 ∨ j = 1 ∨ j = 2 ∨ j = 3 ∨ j = 4 ∨ j = 5 by omega) with rfl | rfl | rfl | rfl | rfl | rfl <;> rfl) (show 0 + 1 ≤ 1 by omega) (show 0 + 6 ≤ 6 by omega) dX4_lease_131 (fun H hH hS => ?_)
                        obtain ⟨ad1, had⟩ : ∃ z, z = uA ad (3, mI g a0 - 1, 0) s.heap.size := ⟨_, rfl⟩
                        have ea : ∀ u : Tg, u ≠ (3, mI g a0 - 1, 0) → ad1 u = ad u := fun u h => by rw [had]; exact uA_n h
                        have ea1 : ad1 (3, mI g a0 - 1, 0) = s.heap.size := by rw [had]; exact uA_s
                        rw [← had] at hH
                        refine W.eq (g2 := F0 m 134 ls [.ref (ad1 (3, mI g a0 - 1, 0)), .ref (ad1 (1, mI g a0 - 1, 0))]) (by rw [ea1, ea (1, mI g a0 - 1, 0) (by simp)]) ?_
                        refine lv_dup hx hb dX4_lease_134 rfl ?_
                        refine lv_iload_n hx hb dX4_lease_135 rfl (lv_at hl 3 rfl) ?_
                        refine lv_iload_n hx hb dX4_lease_136 rfl (lv_at hl 4 rfl) ?_
                        refine lv_iload hx hb dX4_lease_137 (lv_at hl 5 rfl) ?_
                        refine lv_iload hx hb dX4_lease_139 (lv_at hl 6 rfl) ?_
                        refine lv_iload hx hb dX4_lease_141 (lv_at hl 7 rfl) ?_
                        refine lv_iload hx hb dX4_lease_143 (lv_at hl 8 rfl) ?_
                        refine k_w (va_runIN (As := [.int a1, .int a2, .int a3, .int a4, .int a5, .int a6]) (rest := [.ref (ad1 (3, mI g a0 - 1, 0)), .ref (ad1 (1, mI g a0 - 1, 0))]) ⟨hx, hb, hml, hown, hts⟩ (mX0_init l (3, mI g a0 - 1, 0) (Or.inr rfl) uE_s a1 a2 a3 a4 a5 a6) ⟨cn_of hts wk_X0_init wi_X0 wm_X4_62 sd_X0_init rfl rfl ⟨Nat.le_of_ble_eq_true rfl, Nat.le_of_ble_eq_true rfl⟩, rfl, hts _ wv_X0_init⟩ (P0.pre hC hS hH) rfl rfl hl.1 rfl (lv_room (Nat.le_of_ble_eq_true rfl)) dX4_lease_145 ⟨show 0 + 1 + 0 ≤ 1 by omega, show 0 + 6 + 0 ≤ 6 by omega⟩) hS (fun H locs hH hS => ?_)
                        rw [uE_uE] at hH
                        refine W.eq (g2 := F0 m 148 ls [.ref (ad1 (3, mI g a0 - 1, 0)), .ref (ad1 (1, mI g a0 - 1, 0))]) rfl ?_
                        refine r_putN hx hb hts hown hC hH hS (1, mI g a0 - 1, 0) (Or.inl ⟨(mI_n c9).1, rfl⟩) (fs := fM g ad (mI g a0 - 1)) (by rw [uE_n (by simp)]; rfl) rfl inX2 tyX2 tyX2_ok nmX2 7 (by decide) rfl wf_X4_56 rfl rfl (by simp [fM]) dX4_lease_148 (fun H locs hH hS => ?_)
                        have h8 : leaseC g a0 a1 a2 a3 a4 a5 a6 = 0 := by first | (simp [leaseC, c9, c16, c21, c28, c41, c48, c62, c79, c91, c102, c115]; done) | (subst c21; simp [leaseC, c9, c16, c28, c41, c62, c79, c91, c102, c115]; done) | exact absurd c21 c48 | exact absurd c48 c21 | (unfold leaseC; rw [if_neg (by simp [c9, c16, c21, c28, c48, c62, c79, c91, c102, c115]), if_pos (Or.inl c41)])
                        refine e_xv hx hb hr hlocks h8 hS ⟨ad1, hE.tr Gr.rf (fun u h3 hu => ea u (fun q => h3 (by rw [q]))), ?_⟩ (show 0 + 1 + 0 ≤ 1 by omega) (show 0 + 6 + 0 ≤ 6 by omega) dX4_lease_151
                        refine Wo_nL ea hH ⟨Or.inr rfl, ?_⟩ ⟨Or.inl ⟨(mI_n c9).1, rfl⟩, ?_⟩ (fun u hu n1 n0 => ⟨Or.inl hu, ?_⟩)
                        · rw [uE_n (by simp), uE_s]
                        · rw [uE_s]
                        · rw [uE_n n0, uE_n n1]
                      · skip
                        refine W.eq (g2 := F0 m 118 ls [.ref (ad (3, mI g a0 - 1, 0))]) (by simp [lsO, va_rf, c115]) ?_
                        refine lv_ifnull hx hb dX4_lease_118 ?_
                        have h9 : leaseC g a0 a1 a2 a3 a4 a5 a6 = 3 := by first | (simp [leaseC, c9, c16, c21, c28, c41, c48, c62, c79, c91, c102, c115]; done) | (subst c21; simp [leaseC, c9, c16, c28, c41, c62, c79, c91, c102, c115]; done) | exact absurd c21 c48 | exact absurd c48 c21 | (unfold leaseC; rw [if_neg (by simp [c9, c16, c21, c28, c48, c62, c79, c91, c102, c115]), if_pos (Or.inl c41)])
                        exact e_th (BX := fun H => ∃ ad : Tg → Nat, Ex g ad0 ad ∧ Wo D k b ad g M o H) (PE := xN [nIO, nIA, nIS] (leaseC g a0 a1 a2 a3 a4 a5 a6)) hlf (E := nIS) (by decide +kernel) wc_X4_39 wi_java_lang_IllegalStateException ax_IS gd_IS hx hb hts hown hC hlocks ht (by rw [hml]; exact hl.1) hS dX4_lease_121 dX4_lease_124 dX4_lease_125 dX4_lease_128 (fun H1 z o => ⟨ad, hE, hH.grow z o⟩) (Nat.le_of_ble_eq_true rfl) (Nat.le_of_ble_eq_true rfl) (show 0 + 1 ≤ 1 by omega) (show 0 + 6 ≤ 6 by omega) (show 0 + 1 ≤ 1 by omega) (show 0 + 6 ≤ 6 by omega) (by rw [h9]; exact ⟨by decide, rfl⟩)
                    · skip
                      have c102 := b2_0.mp c102
                      have h9 : leaseC g a0 a1 a2 a3 a4 a5 a6 = 2 := by first | (simp [leaseC, c9, c16, c21, c28, c41, c48, c62, c79, c91, c102]; done) | (subst c21; simp [leaseC, c9, c16, c28, c41, c62, c79, c91, c102]; done) | exact absurd c21 c48 | exact absurd c48 c21 | (unfold leaseC; rw [if_neg (by simp [c9, c16, c21, c28, c48, c62, c79, c91, c102]), if_pos (Or.inl c41)])
                      exact e_th (BX := fun H => ∃ ad : Tg → Nat, Ex g ad0 ad ∧ Wo D k b ad g M o H) (PE := xN [nIO, nIA, nIS] (leaseC g a0 a1 a2 a3 a4 a5 a6)) hlf (E := nIA) (by decide +kernel) wc_X4_33 wi_java_lang_IllegalArgumentException ax_IA gd_IA hx hb hts hown hC hlocks ht (by rw [hml]; exact hl.1) hS dX4_lease_105 dX4_lease_108 dX4_lease_109 dX4_lease_112 (fun H1 z o => ⟨ad, hE, hH.grow z o⟩) (Nat.le_of_ble_eq_true rfl) (Nat.le_of_ble_eq_true rfl) (show 0 + 1 ≤ 1 by omega) (show 0 + 6 ≤ 6 by omega) (show 0 + 1 ≤ 1 by omega) (show 0 + 6 ≤ 6 by omega) (by rw [h9]; exact ⟨by decide, rfl⟩)
            · skip
              refine lv_bipush (v := 10) hx hb dX4_lease_51 (by decide) ?_
              refine lv_goto (tgt := 57) hx hb dX4_lease_53 (by decide) ?_
              refine lv_bipush (v := 10) hx hb dX4_lease_57 (by decide) ?_
              refine k_r (va_runS (As := [.int a3, .int 10, .int 10]) (rest := []) ⟨hx, hb, hml, hown, hts⟩ (mX4_isWithin l a3 10 10) ⟨cb_of hts wk_X4_isWithin wi_X4 wm_X4_29 sd_X4_isWithin rfl rfl ⟨Nat.le_of_ble_eq_true rfl, Nat.le_of_ble_eq_true rfl⟩, hts _ wz_X4_isWithin⟩ (P0.pre hC hS hH) rfl rfl hl.1 rfl (lv_room (Nat.le_of_ble_eq_true rfl)) dX4_lease_59 ⟨Nat.le_of_ble_eq_true rfl, Nat.le_of_ble_eq_true rfl⟩) ?_
              refine W.eq (g2 := F0 m 62 ls [.int (b2 (inB a3 10 10))]) rfl ?_
              refine lv_if_eq (tgt := 105) hx hb dX4_lease_62 (by decide) (fun c62 => ?_) (fun c62 => ?_)
              · skip
                have c62 := b2_0.mp c62
                have h9 : leaseC g a0 a1 a2 a3 a4 a5 a6 = 2 := by first | (simp [leaseC, c9, c16, c21, c28, c41, c48, c62]; done) | (subst c21; simp [leaseC, c9, c16, c28, c41, c62]; done) | exact absurd c21 c48 | exact absurd c48 c21 | (unfold leaseC; rw [if_neg (by simp [c9, c16, c21, c28, c48, c62]), if_pos (Or.inl c41)])
                exact e_th (BX := fun H => ∃ ad : Tg → Nat, Ex g ad0 ad ∧ Wo D k b ad g M o H) (PE := xN [nIO, nIA, nIS] (leaseC g a0 a1 a2 a3 a4 a5 a6)) hlf (E := nIA) (by decide +kernel) wc_X4_33 wi_java_lang_IllegalArgumentException ax_IA gd_IA hx hb hts hown hC hlocks ht (by rw [hml]; exact hl.1) hS dX4_lease_105 dX4_lease_108 dX4_lease_109 dX4_lease_112 (fun H1 z o => ⟨ad, hE, hH.grow z o⟩) (Nat.le_of_ble_eq_true rfl) (Nat.le_of_ble_eq_true rfl) (show 0 + 1 ≤ 1 by omega) (show 0 + 6 ≤ 6 by omega) (show 0 + 1 ≤ 1 by omega) (show 0 + 6 ≤ 6 by omega) (by rw [h9]; exact ⟨by decide, rfl⟩)
              · skip
                have c62 := b2_n0.mp c62
                refine lv_iload hx hb dX4_lease_65 (lv_at hl 6 rfl) ?_
                refine lv_aload_n hx hb dX4_lease_67 rfl (lv_at hl 1 rfl) ?_
                refine g4 hx hb hts hown hC hH 3 (by decide) wf_X4_52 (v := .int (g.1 40 0)) rfl dX4_lease_68 ?_
                refine lv_iconst (v := 1) hx hb dX4_lease_71 (by decide) ?_
                refine lv_iadd hx hb dX4_lease_72 ?_
                refine lv_sipush (v := 10000) hx hb dX4_lease_73 (by decide) ?_
                refine k_r (va_runS (As := [.int a4, .int ((g.1 40 0) + 1), .int 10000]) (rest := []) ⟨hx, hb, hml, hown, hts⟩ (mX4_isWithin l a4 ((g.1 40 0) + 1) 10000) ⟨cb_of hts wk_X4_isWithin wi_X4 wm_X4_29 sd_X4_isWithin rfl rfl ⟨Nat.le_of_ble_eq_true rfl, Nat.le_of_ble_eq_true rfl⟩, hts _ wz_X4_isWithin⟩ (P0.pre hC hS hH) rfl rfl hl.1 rfl (lv_room (Nat.le_of_ble_eq_true rfl)) dX4_lease_76 ⟨Nat.le_of_ble_eq_true rfl, Nat.le_of_ble_eq_true rfl⟩) ?_
                refine W.eq (g2 := F0 m 79 ls [.int (b2 (inB a4 ((g.1 40 0) + 1) 10000))]) rfl ?_
                refine lv_if_eq (tgt := 105) hx hb dX4_lease_79 (by decide) (fun c79 => ?_) (fun c79 => ?_)
                · skip
                  have c79 := b2_0.mp c79
                  have h9 : leaseC g a0 a1 a2 a3 a4 a5 a6 = 2 := by first | (simp [leaseC, c9, c16, c21, c28, c41, c48, c62, c79]; done) | (subst c21; simp [leaseC, c9, c16, c28, c41, c62, c79]; done) | exact absurd c21 c48 | exact absurd c48 c21 | (unfold leaseC; rw [if_neg (by simp [c9, c16, c21, c28, c48, c62, c79]), if_pos (Or.inl c41)])
                  exact e_th (BX := fun H => ∃ ad : Tg → Nat, Ex g ad0 ad ∧ Wo D k b ad g M o H) (PE := xN [nIO, nIA, nIS] (leaseC g a0 a1 a2 a3 a4 a5 a6)) hlf (E := nIA) (by decide +kernel) wc_X4_33 wi_java_lang_IllegalArgumentException ax_IA gd_IA hx hb hts hown hC hlocks ht (by rw [hml]; exact hl.1) hS dX4_lease_105 dX4_lease_108 dX4_lease_109 dX4_lease_112 (fun H1 z o => ⟨ad, hE, hH.grow z o⟩) (Nat.le_of_ble_eq_true rfl) (Nat.le_of_ble_eq_true rfl) (show 0 + 1 ≤ 1 by omega) (show 0 + 6 ≤ 6 by omega) (show 0 + 1 ≤ 1 by omega) (show 0 + 6 ≤ 6 by omega) (by rw [h9]; exact ⟨by decide, rfl⟩)
                · skip
                  have c79 := b2_n0.mp c79
                  refine lv_iload hx hb dX4_lease_82 (lv_at hl 7 rfl) ?_
                  refine lv_iconst (v := 0) hx hb dX4_lease_84 (by decide) ?_
                  refine lv_sipush (v := 1000) hx hb dX4_lease_85 (by decide) ?_
                  refine k_r (va_runS (As := [.int a5, .int 0, .int 1000]) (rest := []) ⟨hx, hb, hml, hown, hts⟩ (mX4_isWithin l a5 0 1000) ⟨cb_of hts wk_X4_isWithin wi_X4 wm_X4_29 sd_X4_isWithin rfl rfl ⟨Nat.le_of_ble_eq_true rfl, Nat.le_of_ble_eq_true rfl⟩, hts _ wz_X4_isWithin⟩ (P0.pre hC hS hH) rfl rfl hl.1 rfl (lv_room (Nat.le_of_ble_eq_true rfl)) dX4_lease_88 ⟨Nat.le_of_ble_eq_true rfl, Nat.le_of_ble_eq_true rfl⟩) ?_
                  refine W.eq (g2 := F0 m 91 ls [.int (b2 (inB a5 0 1000))]) rfl ?_
                  refine lv_if_eq (tgt := 105) hx hb dX4_lease_91 (by decide) (fun c91 => ?_) (fun c91 => ?_)
                  · skip
                    have c91 := b2_0.mp c91
                    have h9 : leaseC g a0 a1 a2 a3 a4 a5 a6 = 2 := by first | (simp [leaseC, c9, c16, c21, c28, c41, c48, c62, c79, c91]; done) | (subst c21; simp [leaseC, c9, c16, c28, c41, c62, c79, c91]; done) | exact absurd c21 c48 | exact absurd c48 c21 | (unfold leaseC; rw [if_neg (by simp [c9, c16, c21, c28, c48, c62, c79, c91]), if_pos (Or.inl c41)])
                    exact e_th (BX := fun H => ∃ ad : Tg → Nat, Ex g ad0 ad ∧ Wo D k b ad g M o H) (PE := xN [nIO, nIA, nIS] (leaseC g a0 a1 a2 a3 a4 a5 a6)) hlf (E := nIA) (by decide +kernel) wc_X4_33 wi_java_lang_IllegalArgumentException ax_IA gd_IA hx hb hts hown hC hlocks ht (by rw [hml]; exact hl.1) hS dX4_lease_105 dX4_lease_108 dX4_lease_109 dX4_lease_112 (fun H1 z o => ⟨ad, hE, hH.grow z o⟩) (Nat.le_of_ble_eq_true rfl) (Nat.le_of_ble_eq_true rfl) (show 0 + 1 ≤ 1 by omega) (show 0 + 6 ≤ 6 by omega) (show 0 + 1 ≤ 1 by omega) (show 0 + 6 ≤ 6 by omega) (by rw [h9]; exact ⟨by decide, rfl⟩)
                  · skip
                    have c91 := b2_n0.mp c91
                    refine lv_iload hx hb dX4_lease_94 (lv_at hl 8 rfl) ?_
                    refine lv_iconst (v := 0) hx hb dX4_lease_96 (by decide) ?_
                    refine lv_bipush (v := 100) hx hb dX4_lease_97 (by decide) ?_
                    refine k_r (va_runS (As := [.int a6, .int 0, .int 100]) (rest := []) ⟨hx, hb, hml, hown, hts⟩ (mX4_isWithin l a6 0 100) ⟨cb_of hts wk_X4_isWithin wi_X4 wm_X4_29 sd_X4_isWithin rfl rfl ⟨Nat.le_of_ble_eq_true rfl, Nat.le_of_ble_eq_true rfl⟩, hts _ wz_X4_isWithin⟩ (P0.pre hC hS hH) rfl rfl hl.1 rfl (lv_room (Nat.le_of_ble_eq_true rfl)) dX4_lease_99 ⟨Nat.le_of_ble_eq_true rfl, Nat.le_of_ble_eq_true rfl⟩) ?_
                    refine W.eq (g2 := F0 m 102 ls [.int (b2 (inB a6 0 100))]) rfl ?_
                    refine lv_if_ne (tgt := 113) hx hb dX4_lease_102 (by decide) (fun c102 => ?_) (fun c102 => ?_)
                    · skip
                      have c102 := b2_n0.mp c102
                      refine lv_aload hx hb dX4_lease_113 (lv_at hl 0 rfl) ?_
                      refine g2N hx hb hts hown hC hH (mI g a0 - 1) (mI_n c9).1 7 (by decide) wf_X4_56 (v := va_rf (lsO ad (mI g a0 - 1) (g.2.1 2 (mI g a0 - 1)))) rfl dX4_lease_115 ?_
                      by_cases c115 : g.2.1 2 (mI g a0 - 1) = 0
                      · skip
                        refine W.eq (g2 := F0 m 118 ls [.null]) (by simp [lsO, va_rf, c115]) ?_
                        refine lv_ifnullN (tgt := 129) hx hb dX4_lease_118 (by decide) ?_
                        refine lv_aload hx hb dX4_lease_129 (lv_at hl 0 rfl) ?_
                        have hb0 : b ≤ s.heap.size := (show Hp D b (LW g.2.1) ad (eW k ad g M o) s.heap from hH).2.2.2
                        refine r_new hx hb hts hown hC hH hS hb0 (3, mI g a0 - 1, 0) (ci := 0) rfl inX0 tyX0 tyX0_ok wc_X4_60 wn_X0 wi_X0 [.int 0, .int 0, .int 0, .int 0, .int 0, .int 0] (fun j hj => by rcases (show j = 0 ∨ j = 1 ∨ j = 2 ∨ j = 3 ∨ j = 4 ∨ j = 5 by omega) with rfl | rfl | rfl | rfl | rfl | rfl <;> rfl) (show 0 + 1 ≤ 1 by omega) (show 0 + 6 ≤ 6 by omega) dX4_lease_131 (fun H hH hS => ?_)
                        obtain ⟨ad1, had⟩ : ∃ z, z = uA ad (3, mI g a0 - 1, 0) s.heap.size := ⟨_, rfl⟩
                        have ea : ∀ u : Tg, u ≠ (3, mI g a0 - 1, 0) → ad1 u = ad u := fun u h => by rw [had]; exact uA_n h
                        have ea1 : ad1 (3, mI g a0 - 1, 0) = s.heap.size := by rw [had]; exact uA_s
                        rw [← had] at hH
                        refine W.eq (g2 := F0 m 134 ls [.ref (ad1 (3, mI g a0 - 1, 0)), .ref (ad1 (1, mI g a0 - 1, 0))]) (by rw [ea1, ea (1, mI g a0 - 1, 0) (by simp)]) ?_
                        refine lv_dup hx hb dX4_lease_134 rfl ?_
                        refine lv_iload_n hx hb dX4_lease_135 rfl (lv_at hl 3 rfl) ?_
                        refine lv_iload_n hx hb dX4_lease_136 rfl (lv_at hl 4 rfl) ?_
                        refine lv_iload hx hb dX4_lease_137 (lv_at hl 5 rfl) ?_
                        refine lv_iload hx hb dX4_lease_139 (lv_at hl 6 rfl) ?_
                        refine lv_iload hx hb dX4_lease_141 (lv_at hl 7 rfl) ?_
                        refine lv_iload hx hb dX4_lease_143 (lv_at hl 8 rfl) ?_
                        refine k_w (va_runIN (As := [.int a1, .int a2, .int a3, .int a4, .int a5, .int a6]) (rest := [.ref (ad1 (3, mI g a0 - 1, 0)), .ref (ad1 (1, mI g a0 - 1, 0))]) ⟨hx, hb, hml, hown, hts⟩ (mX0_init l (3, mI g a0 - 1, 0) (Or.inr rfl) uE_s a1 a2 a3 a4 a5 a6) ⟨cn_of hts wk_X0_init wi_X0 wm_X4_62 sd_X0_init rfl rfl ⟨Nat.le_of_ble_eq_true rfl, Nat.le_of_ble_eq_true rfl⟩, rfl, hts _ wv_X0_init⟩ (P0.pre hC hS hH) rfl rfl hl.1 rfl (lv_room (Nat.le_of_ble_eq_true rfl)) dX4_lease_145 ⟨show 0 + 1 + 0 ≤ 1 by omega, show 0 + 6 + 0 ≤ 6 by omega⟩) hS (fun H locs hH hS => ?_)
                        rw [uE_uE] at hH
                        refine W.eq (g2 := F0 m 148 ls [.ref (ad1 (3, mI g a0 - 1, 0)), .ref (ad1 (1, mI g a0 - 1, 0))]) rfl ?_
                        refine r_putN hx hb hts hown hC hH hS (1, mI g a0 - 1, 0) (Or.inl ⟨(mI_n c9).1, rfl⟩) (fs := fM g ad (mI g a0 - 1)) (by rw [uE_n (by simp)]; rfl) rfl inX2 tyX2 tyX2_ok nmX2 7 (by decide) rfl wf_X4_56 rfl rfl (by simp [fM]) dX4_lease_148 (fun H locs hH hS => ?_)
                        have h8 : leaseC g a0 a1 a2 a3 a4 a5 a6 = 0 := by first | (simp [leaseC, c9, c16, c21, c28, c41, c48, c62, c79, c91, c102, c115]; done) | (subst c21; simp [leaseC, c9, c16, c28, c41, c62, c79, c91, c102, c115]; done) | exact absurd c21 c48 | exact absurd c48 c21 | (unfold leaseC; rw [if_neg (by simp [c9, c16, c21, c28, c48, c62, c79, c91, c102, c115]), if_pos (Or.inl c41)])
                        refine e_xv hx hb hr hlocks h8 hS ⟨ad1, hE.tr Gr.rf (fun u h3 hu => ea u (fun q => h3 (by rw [q]))), ?_⟩ (show 0 + 1 + 0 ≤ 1 by omega) (show 0 + 6 + 0 ≤ 6 by omega) dX4_lease_151
                        refine Wo_nL ea hH ⟨Or.inr rfl, ?_⟩ ⟨Or.inl ⟨(mI_n c9).1, rfl⟩, ?_⟩ (fun u hu n1 n0 => ⟨Or.inl hu, ?_⟩)
                        · rw [uE_n (by simp), uE_s]
                        · rw [uE_s]
                        · rw [uE_n n0, uE_n n1]
                      · skip
                        refine W.eq (g2 := F0 m 118 ls [.ref (ad (3, mI g a0 - 1, 0))]) (by simp [lsO, va_rf, c115]) ?_
                        refine lv_ifnull hx hb dX4_lease_118 ?_
                        have h9 : leaseC g a0 a1 a2 a3 a4 a5 a6 = 3 := by first | (simp [leaseC, c9, c16, c21, c28, c41, c48, c62, c79, c91, c102, c115]; done) | (subst c21; simp [leaseC, c9, c16, c28, c41, c62, c79, c91, c102, c115]; done) | exact absurd c21 c48 | exact absurd c48 c21 | (unfold leaseC; rw [if_neg (by simp [c9, c16, c21, c28, c48, c62, c79, c91, c102, c115]), if_pos (Or.inl c41)])
                        exact e_th (BX := fun H => ∃ ad : Tg → Nat, Ex g ad0 ad ∧ Wo D k b ad g M o H) (PE := xN [nIO, nIA, nIS] (leaseC g a0 a1 a2 a3 a4 a5 a6)) hlf (E := nIS) (by decide +kernel) wc_X4_39 wi_java_lang_IllegalStateException ax_IS gd_IS hx hb hts hown hC hlocks ht (by rw [hml]; exact hl.1) hS dX4_lease_121 dX4_lease_124 dX4_lease_125 dX4_lease_128 (fun H1 z o => ⟨ad, hE, hH.grow z o⟩) (Nat.le_of_ble_eq_true rfl) (Nat.le_of_ble_eq_true rfl) (show 0 + 1 ≤ 1 by omega) (show 0 + 6 ≤ 6 by omega) (show 0 + 1 ≤ 1 by omega) (show 0 + 6 ≤ 6 by omega) (by rw [h9]; exact ⟨by decide, rfl⟩)
                    · skip
                      have c102 := b2_0.mp c102
                      have h9 : leaseC g a0 a1 a2 a3 a4 a5 a6 = 2 := by first | (simp [leaseC, c9, c16, c21, c28, c41, c48, c62, c79, c91, c102]; done) | (subst c21; simp [leaseC, c9, c16, c28, c41, c62, c79, c91, c102]; done) | exact absurd c21 c48 | exact absurd c48 c21 | (unfold leaseC; rw [if_neg (by simp [c9, c16, c21, c28, c48, c62, c79, c91, c102]), if_pos (Or.inl c41)])
                      exact e_th (BX := fun H => ∃ ad : Tg → Nat, Ex g ad0 ad ∧ Wo D k b ad g M o H) (PE := xN [nIO, nIA, nIS] (leaseC g a0 a1 a2 a3 a4 a5 a6)) hlf (E := nIA) (by decide +kernel) wc_X4_33 wi_java_lang_IllegalArgumentException ax_IA gd_IA hx hb hts hown hC hlocks ht (by rw [hml]; exact hl.1) hS dX4_lease_105 dX4_lease_108 dX4_lease_109 dX4_lease_112 (fun H1 z o => ⟨ad, hE, hH.grow z o⟩) (Nat.le_of_ble_eq_true rfl) (Nat.le_of_ble_eq_true rfl) (show 0 + 1 ≤ 1 by omega) (show 0 + 6 ≤ 6 by omega) (show 0 + 1 ≤ 1 by omega) (show 0 + 6 ≤ 6 by omega) (by rw [h9]; exact ⟨by decide, rfl⟩)
        · skip
          have c28 := b2_0.mp c28
          have h9 : leaseC g a0 a1 a2 a3 a4 a5 a6 = 1 := by first | (simp [leaseC, c9, c16, c21, c28]; done) | (subst c21; simp [leaseC, c9, c16, c28]; done)
          exact e_th (BX := fun H => ∃ ad : Tg → Nat, Ex g ad0 ad ∧ Wo D k b ad g M o H) (PE := xN [nIO, nIA, nIS] (leaseC g a0 a1 a2 a3 a4 a5 a6)) hlf (E := nIO) (by decide +kernel) wc_X4_49 wi_java_lang_IndexOutOfBoundsException ax_IO gd_IO hx hb hts hown hC hlocks ht (by rw [hml]; exact hl.1) hS dX4_lease_31 dX4_lease_34 dX4_lease_35 dX4_lease_38 (fun H1 z o => ⟨ad, hE, hH.grow z o⟩) (Nat.le_of_ble_eq_true rfl) (Nat.le_of_ble_eq_true rfl) (show 0 + 1 ≤ 1 by omega) (show 0 + 6 ≤ 6 by omega) (show 0 + 1 ≤ 1 by omega) (show 0 + 6 ≤ 6 by omega) (by rw [h9]; exact ⟨by decide, rfl⟩)
