/-! the law, call by call -/
set_option maxHeartbeats 4000000 in
set_option maxRecDepth 100000 in
theorem LB_sun {p : Program} {e : Env} {s : State} {m : MethodId} {below : List Frame} {meth : Method} {c : Code} {l : Launch} (hlf : l.stackTraces = false) {sb L : Nat} {xs : Nat → Int32} (hL : L ≤ 4096) (C0 : lw_At p s m meth c sb L xs) {D : va_G} {k : Nat → ClassId} (hC : Cs D k s.heap.size s) {i : Nat} (hi : 8 * i + 8 ≤ L) {H : Heap} {locs : List Loc} {cells slots : Nat} {ls : Array Slot} (hV : LV D k s sb i (nI (8 * i)) H locs cells slots ls) (kk : ∀ (H : Heap) (locs : List Loc) (cells slots : Nat) (ls : Array Slot), LV D k s sb (i + 1) (nI (8 * i)) H locs cells slots ls → W p l e room_1 s m #[Value.ref sb] below meth c H locs cells slots (lw_Z below #[Value.ref sb] s) (F0 m 1049 ls [])) : W p l e room_1 s m #[Value.ref sb] below meth c H locs cells slots (lw_Z below #[Value.ref sb] s) (F0 m 362 ls []) := by
  obtain ⟨hx, hb, hr, hml, hown, hts, hX, hbl, hlocks, hgv⟩ := id C0
  have hown : s.vm.findClass RL = some m.cls := hown
  have ha : ∀ w ∈ AW, w.before #[Value.ref sb] s = true := fun w h => hts w (List.mem_filter.mp h).1
  obtain ⟨ad, g, M, o, hH, hS, hI, hc, hs, hl⟩ := hV
  have htb := tb_le hI.1.2.1
  refine lv_aload_n hx hb dL_law_362 rfl (lv_at hl 1 rfl) ?_
  refine lv_aload_n hx hb dL_law_363 rfl (lv_at hl 0 rfl) ?_
  refine lv_iload hx hb dL_law_364 (lv_at hl 5 rfl) ?_
  refine lv_iconst (v := nI 1) hx hb dL_law_366 (by decide) ?_
  refine lv_iadd hx hb dL_law_367 ?_
  refine la_ld hx hb hX hbl hS hL hi 1 (by decide) dL_law_368 ?_
  refine lv_aload_n hx hb dL_law_369 rfl (lv_at hl 3 rfl) ?_
  have hI2 : SI (gO (sunC (la xs i 1)) (sx g 41 0 (la xs i 1)) g) (rO M (sunC (la xs i 1)) (up (rT M) 1 0 (la xs i 1))) := (S_sun hI (la xs i 1)).1
  have htm : tb g ≤ tb (gO (sunC (la xs i 1)) (sx g 41 0 (la xs i 1)) g) := tm_sun
  have htb2 := tb_le hI2.1.2.1
  refine k_w (vx_runSW (As := [.ref (ad (0, 0, 0)), .int (la xs i 1), .ref (ad (9, 0, 0))]) (rest := []) ⟨hx, hb, hml, hown, ha⟩ (mL_sun l hlf (la xs i 1)) (ch_of ha wk_L_sun wi_L wm_L_77 wz_L_sun sd_L_sun rfl rfl ⟨Nat.le_of_ble_eq_true rfl, Nat.le_of_ble_eq_true rfl⟩) (P0.pre hC hS hH) rfl rfl hl.1 rfl (lv_room (Nat.le_of_ble_eq_true rfl)) dL_law_370 ⟨show cells + (1) ≤ 601024 by omega, show slots + (6) ≤ 7293034 by omega⟩) hS (fun H1 locs1 hB1 hS => ?_)
  obtain ⟨ad2, o2, hE, hv, hH⟩ := hB1
  have hl : lv_has ls 8 [(0, .ref sb), (1, .ref (ad2 (0, 0, 0))), (2, .ref (ad2 (7, 0, 0))), (3, .ref (ad2 (9, 0, 0))), (4, .ref (ad2 (9, 1, 0))), (5, .int (nI (8 * i)))] := by rw [hE (0, 0, 0) (by decide) ⟨by decide, rfl⟩, hE (7, 0, 0) (by decide) ⟨rfl, rfl⟩, hE (9, 0, 0) (by decide) ⟨by decide, rfl⟩, hE (9, 1, 0) (by decide) ⟨by decide, rfl⟩]; exact hl
  refine W.eq (g2 := F0 m 373 ls [.int (nI (sunC (la xs i 1)))]) rfl ?_
  refine lv_istore (lv' := [(6, .int (nI (sunC (la xs i 1)))), (0, .ref sb), (1, .ref (ad2 (0, 0, 0))), (2, .ref (ad2 (7, 0, 0))), (3, .ref (ad2 (9, 0, 0))), (4, .ref (ad2 (9, 1, 0))), (5, .int (nI (8 * i)))]) hx hb dL_law_373 hl (by decide) rfl (fun ls hl => ?_)
  refine lv_aload_n hx hb dL_law_375 rfl (lv_at hl 3 rfl) ?_
  refine lv_aload_n hx hb dL_law_376 rfl (lv_at hl 1 rfl) ?_
  refine lv_iload hx hb dL_law_377 (lv_at hl 6 rfl) ?_
  refine lv_iconst (v := nI 1) hx hb dL_law_379 (by decide) ?_
  refine lv_iadd hx hb dL_law_380 ?_
  refine la_ld hx hb hX hbl hS hL hi 1 (by decide) dL_law_381 ?_
  have hm := mX5_sun l (D := D) (k := k) (b := s.heap.size) (ad := ad2) (g := gO (sunC (la xs i 1)) (sx g 41 0 (la xs i 1)) g) (o := o2) hI.RI (la xs i 1)
  refine k_w (va_runV (As := [.int (la xs i 1)]) (rest := []) ⟨hx, hb, hml, hown, ha⟩ hm ⟨cb_of ha wk_X5_sun wi_X5 wm_L_80 sd_X5_sun rfl rfl ⟨Nat.le_of_ble_eq_true rfl, Nat.le_of_ble_eq_true rfl⟩, ha _ wv_X5_sun, ha _ wl_X5_sun⟩ (P0.preV hC hS hH (Hp.recv hC.1 hH (7, 0, 0) ⟨rfl, rfl⟩ rfl rfl)) rfl rfl hl.1 rfl (lv_room (Nat.le_of_ble_eq_true rfl)) dL_law_382 ⟨show cells + (1) + 0 ≤ 601024 by omega, show slots + (6) + 0 ≤ 7293034 by omega⟩) hS (fun H1 locs1 hH hS => ?_)
  refine W.eq (g2 := F0 m 385 ls [.int (vO (sunC (la xs i 1)) (M 1 0))]) rfl ?_
  refine lv_istore (lv' := [(7, .int (vO (sunC (la xs i 1)) (M 1 0))), (6, .int (nI (sunC (la xs i 1)))), (0, .ref sb), (1, .ref (ad2 (0, 0, 0))), (2, .ref (ad2 (7, 0, 0))), (3, .ref (ad2 (9, 0, 0))), (4, .ref (ad2 (9, 1, 0))), (5, .int (nI (8 * i)))]) hx hb dL_law_385 hl (by decide) rfl (fun ls hl => ?_)
  refine lv_aload_n hx hb dL_law_387 rfl (lv_at hl 4 rfl) ?_
  refine k_r (va_runV (As := []) (rest := []) ⟨hx, hb, hml, hown, ha⟩ (mX5_thrown l (M := rO M (sunC (la xs i 1)) (up (rT M) 1 0 (la xs i 1)))) ⟨cb_of ha wk_X5_thrown wi_X5 wm_L_69 sd_X5_thrown rfl rfl ⟨Nat.le_of_ble_eq_true rfl, Nat.le_of_ble_eq_true rfl⟩, ha _ wv_X5_thrown, ha _ wl_X5_thrown⟩ (P0.preV hC hS hH (Hp.recv hC.1 hH (7, 0, 0) ⟨rfl, rfl⟩ rfl rfl)) rfl rfl hl.1 rfl (lv_room (Nat.le_of_ble_eq_true rfl)) dL_law_388 ⟨show cells + (1) + 0 + 0 ≤ 601024 by omega, show slots + (6) + 0 + 0 ≤ 7293034 by omega⟩) ?_
  refine W.eq (g2 := F0 m 391 ls [.int (nI (sunC (la xs i 1)))]) (by rw [th_eq (th_sun)]; rfl) ?_
  refine lv_iload hx hb dL_law_391 (lv_at hl 1 rfl) ?_
  refine lv_icmp_eq (tgt := 398) hx hb dL_law_393 (by decide) (fun _ => ?_) (fun cq => absurd rfl cq)
  refine lv_iload hx hb dL_law_398 (lv_at hl 1 rfl) ?_
  refine lv_if_ne (tgt := 415) hx hb dL_law_400 (by decide) (fun _ => ?_) (fun cz => ?_)
  · skip
    refine lv_goto (tgt := 1049) hx hb dL_law_415 (by decide) ?_
    exact kk H1 locs1 _ _ ls ⟨ad2, gO (sunC (la xs i 1)) (sx g 41 0 (la xs i 1)) g, rO M (sunC (la xs i 1)) (up (rT M) 1 0 (la xs i 1)), o2, hH, hS, hI2, by omega, by omega, lv_sub hl [2, 3, 4, 5, 6, 7] rfl⟩
  · skip
    have cz := c_0 (le_sun (la xs i 1)) cz
    refine lv_aload_n hx hb dL_law_403 rfl (lv_at hl 5 rfl) ?_
    refine lv_iconst (v := nI 0) hx hb dL_law_404 (by decide) ?_
    refine r_lald hx hb hC hH (9, 0, 0) ⟨by decide, rfl⟩ (f := o2.1) (n := 1) rfl (vp_in_nI (n := 0) (by decide) (by decide)) dL_law_405 ?_
    refine W.eq (g2 := F0 m 406 ls [.long (g.1 41 0).toInt64]) (by rw [← hv cz, nI_clamp (by decide)]) ?_
    refine lv_iload hx hb dL_law_406 (lv_at hl 0 rfl) ?_
    refine W.eq (g2 := F0 m 408 ls [.int (g.1 41 0), .long (g.1 41 0).toInt64]) (by rw [show vO (sunC (la xs i 1)) (M 1 0) = g.1 41 0 by rw [vO, if_pos cz]; exact (S_sun hI (la xs i 1)).2]) ?_
    refine lv_i2l (v := (g.1 41 0).toInt64) hx hb dL_law_408 rfl ?_
    refine W.lcmp hx hb dL_law_409 ?_
    refine W.eq (g2 := F0 m 410 ls [.int 0]) (by rw [cmp_0]) ?_
    refine lv_if_eq (tgt := 415) hx hb dL_law_410 (by decide) (fun _ => ?_) (fun cq => absurd rfl cq)
    refine lv_goto (tgt := 1049) hx hb dL_law_415 (by decide) ?_
    exact kk H1 locs1 _ _ ls ⟨ad2, gO (sunC (la xs i 1)) (sx g 41 0 (la xs i 1)) g, rO M (sunC (la xs i 1)) (up (rT M) 1 0 (la xs i 1)), o2, hH, hS, hI2, by omega, by omega, lv_sub hl [2, 3, 4, 5, 6, 7] rfl⟩

set_option maxHeartbeats 4000000 in
set_option maxRecDepth 100000 in
theorem LB_mast {p : Program} {e : Env} {s : State} {m : MethodId} {below : List Frame} {meth : Method} {c : Code} {l : Launch} (hlf : l.stackTraces = false) {sb L : Nat} {xs : Nat → Int32} (hL : L ≤ 4096) (C0 : lw_At p s m meth c sb L xs) {D : va_G} {k : Nat → ClassId} (hC : Cs D k s.heap.size s) {i : Nat} (hi : 8 * i + 8 ≤ L) {H : Heap} {locs : List Loc} {cells slots : Nat} {ls : Array Slot} (hV : LV D k s sb i (nI (8 * i)) H locs cells slots ls) (kk : ∀ (H : Heap) (locs : List Loc) (cells slots : Nat) (ls : Array Slot), LV D k s sb (i + 1) (nI (8 * i)) H locs cells slots ls → W p l e room_1 s m #[Value.ref sb] below meth c H locs cells slots (lw_Z below #[Value.ref sb] s) (F0 m 1049 ls [])) : W p l e room_1 s m #[Value.ref sb] below meth c H locs cells slots (lw_Z below #[Value.ref sb] s) (F0 m 116 ls []) := by
  obtain ⟨hx, hb, hr, hml, hown, hts, hX, hbl, hlocks, hgv⟩ := id C0
  have hown : s.vm.findClass RL = some m.cls := hown
  have ha : ∀ w ∈ AW, w.before #[Value.ref sb] s = true := fun w h => hts w (List.mem_filter.mp h).1
  obtain ⟨ad, g, M, o, hH, hS, hI, hc, hs, hl⟩ := hV
  have htb := tb_le hI.1.2.1
  refine lv_aload_n hx hb dL_law_116 rfl (lv_at hl 1 rfl) ?_
  refine lv_aload_n hx hb dL_law_117 rfl (lv_at hl 0 rfl) ?_
  refine lv_iload hx hb dL_law_118 (lv_at hl 5 rfl) ?_
  refine lv_iconst (v := nI 1) hx hb dL_law_120 (by decide) ?_
  refine lv_iadd hx hb dL_law_121 ?_
  refine la_ld hx hb hX hbl hS hL hi 1 (by decide) dL_law_122 ?_
  refine lv_aload_n hx hb dL_law_123 rfl (lv_at hl 0 rfl) ?_
  refine lv_iload hx hb dL_law_124 (lv_at hl 5 rfl) ?_
  refine lv_iconst (v := nI 2) hx hb dL_law_126 (by decide) ?_
  refine lv_iadd hx hb dL_law_127 ?_
  refine la_ld hx hb hX hbl hS hL hi 2 (by decide) dL_law_128 ?_
  refine lv_aload_n hx hb dL_law_129 rfl (lv_at hl 0 rfl) ?_
  refine lv_iload hx hb dL_law_130 (lv_at hl 5 rfl) ?_
  refine lv_iconst (v := nI 3) hx hb dL_law_132 (by decide) ?_
  refine lv_iadd hx hb dL_law_133 ?_
  refine la_ld hx hb hX hbl hS hL hi 3 (by decide) dL_law_134 ?_
  refine lv_aload_n hx hb dL_law_135 rfl (lv_at hl 0 rfl) ?_
  refine lv_iload hx hb dL_law_136 (lv_at hl 5 rfl) ?_
  refine lv_iconst (v := nI 4) hx hb dL_law_138 (by decide) ?_
  refine lv_iadd hx hb dL_law_139 ?_
  refine la_ld hx hb hX hbl hS hL hi 4 (by decide) dL_law_140 ?_
  refine lv_aload_n hx hb dL_law_141 rfl (lv_at hl 0 rfl) ?_
  refine lv_iload hx hb dL_law_142 (lv_at hl 5 rfl) ?_
  refine lv_iconst (v := nI 5) hx hb dL_law_144 (by decide) ?_
  refine lv_iadd hx hb dL_law_145 ?_
  refine la_ld hx hb hX hbl hS hL hi 5 (by decide) dL_law_146 ?_
  refine lv_aload_n hx hb dL_law_147 rfl (lv_at hl 0 rfl) ?_
  refine lv_iload hx hb dL_law_148 (lv_at hl 5 rfl) ?_
  refine lv_bipush (v := nI 6) hx hb dL_law_150 (by decide) ?_
  refine lv_iadd hx hb dL_law_152 ?_
  refine la_ld hx hb hX hbl hS hL hi 6 (by decide) dL_law_153 ?_
  refine lv_if_eq (tgt := 161) hx hb dL_law_154 (by decide) (fun c6 => ?_) (fun c6 => ?_)
  · skip
    refine lv_iconst (v := nI 0) hx hb dL_law_161 (by decide) ?_
    refine lv_aload_n hx hb dL_law_162 rfl (lv_at hl 3 rfl) ?_
    have hI2 : SI (gO (mastC g (la xs i 1) (la xs i 2) (la xs i 3) (la xs i 4) (la xs i 5)) (nwM g (l13 (nI (g.2.1 0 0)) (la xs i 1) (la xs i 2) (la xs i 3) (la xs i 4) (la xs i 5) (nI 0))) g) (rO M (mastC g (la xs i 1) (la xs i 2) (la xs i 3) (la xs i 4) (la xs i 5)) (rmG (rT M) (la xs i 1) (la xs i 2) (la xs i 3) (la xs i 4) (la xs i 5) (nI 0))) := (S_mast hI (la xs i 1) (la xs i 2) (la xs i 3) (la xs i 4) (la xs i 5) (nI 0)).1
    have htm : tb g ≤ tb (gO (mastC g (la xs i 1) (la xs i 2) (la xs i 3) (la xs i 4) (la xs i 5)) (nwM g (l13 (nI (g.2.1 0 0)) (la xs i 1) (la xs i 2) (la xs i 3) (la xs i 4) (la xs i 5) (nI 0))) g) := tm_mast
    have htb2 := tb_le hI2.1.2.1
    refine k_w (vx_runSW (As := [.ref (ad (0, 0, 0)), .int (la xs i 1), .int (la xs i 2), .int (la xs i 3), .int (la xs i 4), .int (la xs i 5), .int (nI 0), .ref (ad (9, 0, 0))]) (rest := []) ⟨hx, hb, hml, hown, ha⟩ (mL_mast l hlf hI.1.1 (la xs i 1) (la xs i 2) (la xs i 3) (la xs i 4) (la xs i 5) (nI 0) (by decide)) (ch_of ha wk_L_mast wi_L wm_L_63 wz_L_mast sd_L_mast rfl rfl ⟨Nat.le_of_ble_eq_true rfl, Nat.le_of_ble_eq_true rfl⟩) (P0.pre hC hS hH) rfl rfl hl.1 rfl (lv_room (Nat.le_of_ble_eq_true rfl)) dL_law_163 ⟨show cells + (1) ≤ 601024 by omega, show slots + (14) ≤ 7293034 by omega⟩) hS (fun H1 locs1 hB1 hS => ?_)
    obtain ⟨ad2, o2, hE, hv, hH⟩ := hB1
    have hl : lv_has ls 8 [(0, .ref sb), (1, .ref (ad2 (0, 0, 0))), (2, .ref (ad2 (7, 0, 0))), (3, .ref (ad2 (9, 0, 0))), (4, .ref (ad2 (9, 1, 0))), (5, .int (nI (8 * i)))] := by rw [hE (0, 0, 0) (by decide) ⟨by decide, rfl⟩, hE (7, 0, 0) (by decide) ⟨rfl, rfl⟩, hE (9, 0, 0) (by decide) ⟨by decide, rfl⟩, hE (9, 1, 0) (by decide) ⟨by decide, rfl⟩]; exact hl
    refine W.eq (g2 := F0 m 166 ls [.int (nI (mastC g (la xs i 1) (la xs i 2) (la xs i 3) (la xs i 4) (la xs i 5)))]) rfl ?_
    refine lv_istore (lv' := [(6, .int (nI (mastC g (la xs i 1) (la xs i 2) (la xs i 3) (la xs i 4) (la xs i 5)))), (0, .ref sb), (1, .ref (ad2 (0, 0, 0))), (2, .ref (ad2 (7, 0, 0))), (3, .ref (ad2 (9, 0, 0))), (4, .ref (ad2 (9, 1, 0))), (5, .int (nI (8 * i)))]) hx hb dL_law_166 hl (by decide) rfl (fun ls hl => ?_)
    refine lv_aload_n hx hb dL_law_168 rfl (lv_at hl 3 rfl) ?_
    refine lv_aload_n hx hb dL_law_169 rfl (lv_at hl 1 rfl) ?_
    refine lv_iload hx hb dL_law_170 (lv_at hl 6 rfl) ?_
    refine lv_iconst (v := nI 1) hx hb dL_law_172 (by decide) ?_
    refine lv_iadd hx hb dL_law_173 ?_
    refine la_ld hx hb hX hbl hS hL hi 1 (by decide) dL_law_174 ?_
    refine lv_aload_n hx hb dL_law_175 rfl (lv_at hl 1 rfl) ?_
    refine lv_iload hx hb dL_law_176 (lv_at hl 6 rfl) ?_
    refine lv_iconst (v := nI 2) hx hb dL_law_178 (by decide) ?_
    refine lv_iadd hx hb dL_law_179 ?_
    refine la_ld hx hb hX hbl hS hL hi 2 (by decide) dL_law_180 ?_
    refine lv_aload_n hx hb dL_law_181 rfl (lv_at hl 1 rfl) ?_
    refine lv_iload hx hb dL_law_182 (lv_at hl 6 rfl) ?_
    refine lv_iconst (v := nI 3) hx hb dL_law_184 (by decide) ?_
    refine lv_iadd hx hb dL_law_185 ?_
    refine la_ld hx hb hX hbl hS hL hi 3 (by decide) dL_law_186 ?_
    refine lv_aload_n hx hb dL_law_187 rfl (lv_at hl 1 rfl) ?_
    refine lv_iload hx hb dL_law_188 (lv_at hl 6 rfl) ?_
    refine lv_iconst (v := nI 4) hx hb dL_law_190 (by decide) ?_
    refine lv_iadd hx hb dL_law_191 ?_
    refine la_ld hx hb hX hbl hS hL hi 4 (by decide) dL_law_192 ?_
    refine lv_aload_n hx hb dL_law_193 rfl (lv_at hl 1 rfl) ?_
    refine lv_iload hx hb dL_law_194 (lv_at hl 6 rfl) ?_
    refine lv_iconst (v := nI 5) hx hb dL_law_196 (by decide) ?_
    refine lv_iadd hx hb dL_law_197 ?_
    refine la_ld hx hb hX hbl hS hL hi 5 (by decide) dL_law_198 ?_
    refine lv_aload_n hx hb dL_law_199 rfl (lv_at hl 1 rfl) ?_
    refine lv_iload hx hb dL_law_200 (lv_at hl 6 rfl) ?_
    refine lv_bipush (v := nI 6) hx hb dL_law_202 (by decide) ?_
    refine lv_iadd hx hb dL_law_204 ?_
    refine la_ld hx hb hX hbl hS hL hi 6 (by decide) dL_law_205 ?_
    refine lv_if_eq (tgt := 213) hx hb dL_law_206 (by decide) (fun _ => ?_) (fun c7 => absurd c6 c7)
    refine lv_iconst (v := nI 0) hx hb dL_law_213 (by decide) ?_
    have hm := mX5_mast l (D := D) (k := k) (b := s.heap.size) (ad := ad2) (g := gO (mastC g (la xs i 1) (la xs i 2) (la xs i 3) (la xs i 4) (la xs i 5)) (nwM g (l13 (nI (g.2.1 0 0)) (la xs i 1) (la xs i 2) (la xs i 3) (la xs i 4) (la xs i 5) (nI 0))) g) (o := o2) hI.RI (la xs i 1) (la xs i 2) (la xs i 3) (la xs i 4) (la xs i 5) (nI 0) (by decide)
    rw [rmC_eq hI (la xs i 1) (la xs i 2) (la xs i 3) (la xs i 4) (la xs i 5)] at hm
    refine k_w (va_runV (As := [.int (la xs i 1), .int (la xs i 2), .int (la xs i 3), .int (la xs i 4), .int (la xs i 5), .int (nI 0)]) (rest := []) ⟨hx, hb, hml, hown, ha⟩ hm ⟨cb_of ha wk_X5_mast wi_X5 wm_L_68 sd_X5_mast rfl rfl ⟨Nat.le_of_ble_eq_true rfl, Nat.le_of_ble_eq_true rfl⟩, ha _ wv_X5_mast, ha _ wl_X5_mast⟩ (P0.preV hC hS hH (Hp.recv hC.1 hH (7, 0, 0) ⟨rfl, rfl⟩ rfl rfl)) rfl rfl hl.1 rfl (lv_room (Nat.le_of_ble_eq_true rfl)) dL_law_214 ⟨show cells + (1) + 0 ≤ 601024 by omega, show slots + (14) + 0 ≤ 7293034 by omega⟩) hS (fun H1 locs1 hH hS => ?_)
    refine W.eq (g2 := F0 m 217 ls [.int (vO (mastC g (la xs i 1) (la xs i 2) (la xs i 3) (la xs i 4) (la xs i 5)) (nI (mN M)))]) rfl ?_
    refine lv_istore (lv' := [(7, .int (vO (mastC g (la xs i 1) (la xs i 2) (la xs i 3) (la xs i 4) (la xs i 5)) (nI (mN M)))), (6, .int (nI (mastC g (la xs i 1) (la xs i 2) (la xs i 3) (la xs i 4) (la xs i 5)))), (0, .ref sb), (1, .ref (ad2 (0, 0, 0))), (2, .ref (ad2 (7, 0, 0))), (3, .ref (ad2 (9, 0, 0))), (4, .ref (ad2 (9, 1, 0))), (5, .int (nI (8 * i)))]) hx hb dL_law_217 hl (by decide) rfl (fun ls hl => ?_)
    refine lv_aload_n hx hb dL_law_219 rfl (lv_at hl 4 rfl) ?_
    refine k_r (va_runV (As := []) (rest := []) ⟨hx, hb, hml, hown, ha⟩ (mX5_thrown l (M := rO M (mastC g (la xs i 1) (la xs i 2) (la xs i 3) (la xs i 4) (la xs i 5)) (rmG (rT M) (la xs i 1) (la xs i 2) (la xs i 3) (la xs i 4) (la xs i 5) (nI 0)))) ⟨cb_of ha wk_X5_thrown wi_X5 wm_L_69 sd_X5_thrown rfl rfl ⟨Nat.le_of_ble_eq_true rfl, Nat.le_of_ble_eq_true rfl⟩, ha _ wv_X5_thrown, ha _ wl_X5_thrown⟩ (P0.preV hC hS hH (Hp.recv hC.1 hH (7, 0, 0) ⟨rfl, rfl⟩ rfl rfl)) rfl rfl hl.1 rfl (lv_room (Nat.le_of_ble_eq_true rfl)) dL_law_220 ⟨show cells + (1) + 0 + 0 ≤ 601024 by omega, show slots + (14) + 0 + 0 ≤ 7293034 by omega⟩) ?_
    refine W.eq (g2 := F0 m 223 ls [.int (nI (mastC g (la xs i 1) (la xs i 2) (la xs i 3) (la xs i 4) (la xs i 5)))]) (by rw [th_eq (th_mast)]; rfl) ?_
    refine lv_iload hx hb dL_law_223 (lv_at hl 1 rfl) ?_
    refine lv_icmp_eq (tgt := 230) hx hb dL_law_225 (by decide) (fun _ => ?_) (fun cq => absurd rfl cq)
    refine lv_iload hx hb dL_law_230 (lv_at hl 1 rfl) ?_
    refine lv_if_ne (tgt := 247) hx hb dL_law_232 (by decide) (fun _ => ?_) (fun cz => ?_)
    · skip
      refine lv_goto (tgt := 1049) hx hb dL_law_247 (by decide) ?_
      exact kk H1 locs1 _ _ ls ⟨ad2, gO (mastC g (la xs i 1) (la xs i 2) (la xs i 3) (la xs i 4) (la xs i 5)) (nwM g (l13 (nI (g.2.1 0 0)) (la xs i 1) (la xs i 2) (la xs i 3) (la xs i 4) (la xs i 5) (nI 0))) g, rO M (mastC g (la xs i 1) (la xs i 2) (la xs i 3) (la xs i 4) (la xs i 5)) (rmG (rT M) (la xs i 1) (la xs i 2) (la xs i 3) (la xs i 4) (la xs i 5) (nI 0)), o2, hH, hS, hI2, by omega, by omega, lv_sub hl [2, 3, 4, 5, 6, 7] rfl⟩
    · skip
      have cz := c_0 (le_mast g (la xs i 1) (la xs i 2) (la xs i 3) (la xs i 4) (la xs i 5)) cz
      refine lv_aload_n hx hb dL_law_235 rfl (lv_at hl 5 rfl) ?_
      refine lv_iconst (v := nI 0) hx hb dL_law_236 (by decide) ?_
      refine r_lald hx hb hC hH (9, 0, 0) ⟨by decide, rfl⟩ (f := o2.1) (n := 1) rfl (vp_in_nI (n := 0) (by decide) (by decide)) dL_law_237 ?_
      refine W.eq (g2 := F0 m 238 ls [.long (nI (g.2.1 0 0)).toInt64]) (by rw [← hv cz, nI_clamp (by decide)]) ?_
      refine lv_iload hx hb dL_law_238 (lv_at hl 0 rfl) ?_
      refine W.eq (g2 := F0 m 240 ls [.int (nI (g.2.1 0 0)), .long (nI (g.2.1 0 0)).toInt64]) (by rw [show vO (mastC g (la xs i 1) (la xs i 2) (la xs i 3) (la xs i 4) (la xs i 5)) (nI (mN M)) = nI (g.2.1 0 0) by rw [vO, if_pos cz, mN_Rg hI.2.1 hI.1.1]]) ?_
      refine lv_i2l (v := (nI (g.2.1 0 0)).toInt64) hx hb dL_law_240 rfl ?_
      refine W.lcmp hx hb dL_law_241 ?_
      refine W.eq (g2 := F0 m 242 ls [.int 0]) (by rw [cmp_0]) ?_
      refine lv_if_eq (tgt := 247) hx hb dL_law_242 (by decide) (fun _ => ?_) (fun cq => absurd rfl cq)
      refine lv_goto (tgt := 1049) hx hb dL_law_247 (by decide) ?_
      exact kk H1 locs1 _ _ ls ⟨ad2, gO (mastC g (la xs i 1) (la xs i 2) (la xs i 3) (la xs i 4) (la xs i 5)) (nwM g (l13 (nI (g.2.1 0 0)) (la xs i 1) (la xs i 2) (la xs i 3) (la xs i 4) (la xs i 5) (nI 0))) g, rO M (mastC g (la xs i 1) (la xs i 2) (la xs i 3) (la xs i 4) (la xs i 5)) (rmG (rT M) (la xs i 1) (la xs i 2) (la xs i 3) (la xs i 4) (la xs i 5) (nI 0)), o2, hH, hS, hI2, by omega, by omega, lv_sub hl [2, 3, 4, 5, 6, 7] rfl⟩
  · skip
    refine lv_iconst (v := nI 1) hx hb dL_law_157 (by decide) ?_
    refine lv_goto (tgt := 162) hx hb dL_law_158 (by decide) ?_
    refine lv_aload_n hx hb dL_law_162 rfl (lv_at hl 3 rfl) ?_
    have hI2 : SI (gO (mastC g (la xs i 1) (la xs i 2) (la xs i 3) (la xs i 4) (la xs i 5)) (nwM g (l13 (nI (g.2.1 0 0)) (la xs i 1) (la xs i 2) (la xs i 3) (la xs i 4) (la xs i 5) (nI 1))) g) (rO M (mastC g (la xs i 1) (la xs i 2) (la xs i 3) (la xs i 4) (la xs i 5)) (rmG (rT M) (la xs i 1) (la xs i 2) (la xs i 3) (la xs i 4) (la xs i 5) (nI 1))) := (S_mast hI (la xs i 1) (la xs i 2) (la xs i 3) (la xs i 4) (la xs i 5) (nI 1)).1
    have htm : tb g ≤ tb (gO (mastC g (la xs i 1) (la xs i 2) (la xs i 3) (la xs i 4) (la xs i 5)) (nwM g (l13 (nI (g.2.1 0 0)) (la xs i 1) (la xs i 2) (la xs i 3) (la xs i 4) (la xs i 5) (nI 1))) g) := tm_mast
    have htb2 := tb_le hI2.1.2.1
    refine k_w (vx_runSW (As := [.ref (ad (0, 0, 0)), .int (la xs i 1), .int (la xs i 2), .int (la xs i 3), .int (la xs i 4), .int (la xs i 5), .int (nI 1), .ref (ad (9, 0, 0))]) (rest := []) ⟨hx, hb, hml, hown, ha⟩ (mL_mast l hlf hI.1.1 (la xs i 1) (la xs i 2) (la xs i 3) (la xs i 4) (la xs i 5) (nI 1) (by decide)) (ch_of ha wk_L_mast wi_L wm_L_63 wz_L_mast sd_L_mast rfl rfl ⟨Nat.le_of_ble_eq_true rfl, Nat.le_of_ble_eq_true rfl⟩) (P0.pre hC hS hH) rfl rfl hl.1 rfl (lv_room (Nat.le_of_ble_eq_true rfl)) dL_law_163 ⟨show cells + (1) ≤ 601024 by omega, show slots + (14) ≤ 7293034 by omega⟩) hS (fun H1 locs1 hB1 hS => ?_)
    obtain ⟨ad2, o2, hE, hv, hH⟩ := hB1
    have hl : lv_has ls 8 [(0, .ref sb), (1, .ref (ad2 (0, 0, 0))), (2, .ref (ad2 (7, 0, 0))), (3, .ref (ad2 (9, 0, 0))), (4, .ref (ad2 (9, 1, 0))), (5, .int (nI (8 * i)))] := by rw [hE (0, 0, 0) (by decide) ⟨by decide, rfl⟩, hE (7, 0, 0) (by decide) ⟨rfl, rfl⟩, hE (9, 0, 0) (by decide) ⟨by decide, rfl⟩, hE (9, 1, 0) (by decide) ⟨by decide, rfl⟩]; exact hl
    refine W.eq (g2 := F0 m 166 ls [.int (nI (mastC g (la xs i 1) (la xs i 2) (la xs i 3) (la xs i 4) (la xs i 5)))]) rfl ?_
    refine lv_istore (lv' := [(6, .int (nI (mastC g (la xs i 1) (la xs i 2) (la xs i 3) (la xs i 4) (la xs i 5)))), (0, .ref sb), (1, .ref (ad2 (0, 0, 0))), (2, .ref (ad2 (7, 0, 0))), (3, .ref (ad2 (9, 0, 0))), (4, .ref (ad2 (9, 1, 0))), (5, .int (nI (8 * i)))]) hx hb dL_law_166 hl (by decide) rfl (fun ls hl => ?_)
    refine lv_aload_n hx hb dL_law_168 rfl (lv_at hl 3 rfl) ?_
    refine lv_aload_n hx hb dL_law_169 rfl (lv_at hl 1 rfl) ?_
    refine lv_iload hx hb dL_law_170 (lv_at hl 6 rfl) ?_
    refine lv_iconst (v := nI 1) hx hb dL_law_172 (by decide) ?_
    refine lv_iadd hx hb dL_law_173 ?_
    refine la_ld hx hb hX hbl hS hL hi 1 (by decide) dL_law_174 ?_
    refine lv_aload_n hx hb dL_law_175 rfl (lv_at hl 1 rfl) ?_
    refine lv_iload hx hb dL_law_176 (lv_at hl 6 rfl) ?_
    refine lv_iconst (v := nI 2) hx hb dL_law_178 (by decide) ?_
    refine lv_iadd hx hb dL_law_179 ?_
    refine la_ld hx hb hX hbl hS hL hi 2 (by decide) dL_law_180 ?_
    refine lv_aload_n hx hb dL_law_181 rfl (lv_at hl 1 rfl) ?_
    refine lv_iload hx hb dL_law_182 (lv_at hl 6 rfl) ?_
    refine lv_iconst (v := nI 3) hx hb dL_law_184 (by decide) ?_
    refine lv_iadd hx hb dL_law_185 ?_
    refine la_ld hx hb hX hbl hS hL hi 3 (by decide) dL_law_186 ?_
    refine lv_aload_n hx hb dL_law_187 rfl (lv_at hl 1 rfl) ?_
    refine lv_iload hx hb dL_law_188 (lv_at hl 6 rfl) ?_
    refine lv_iconst (v := nI 4) hx hb dL_law_190 (by decide) ?_
    refine lv_iadd hx hb dL_law_191 ?_
    refine la_ld hx hb hX hbl hS hL hi 4 (by decide) dL_law_192 ?_
    refine lv_aload_n hx hb dL_law_193 rfl (lv_at hl 1 rfl) ?_
    refine lv_iload hx hb dL_law_194 (lv_at hl 6 rfl) ?_
    refine lv_iconst (v := nI 5) hx hb dL_law_196 (by decide) ?_
    refine lv_iadd hx hb dL_law_197 ?_
    refine la_ld hx hb hX hbl hS hL hi 5 (by decide) dL_law_198 ?_
    refine lv_aload_n hx hb dL_law_199 rfl (lv_at hl 1 rfl) ?_
    refine lv_iload hx hb dL_law_200 (lv_at hl 6 rfl) ?_
    refine lv_bipush (v := nI 6) hx hb dL_law_202 (by decide) ?_
    refine lv_iadd hx hb dL_law_204 ?_
    refine la_ld hx hb hX hbl hS hL hi 6 (by decide) dL_law_205 ?_
    refine lv_if_eq (tgt := 213) hx hb dL_law_206 (by decide) (fun c7 => absurd c7 c6) (fun _ => ?_)
    refine lv_iconst (v := nI 1) hx hb dL_law_209 (by decide) ?_
    refine lv_goto (tgt := 214) hx hb dL_law_210 (by decide) ?_
    have hm := mX5_mast l (D := D) (k := k) (b := s.heap.size) (ad := ad2) (g := gO (mastC g (la xs i 1) (la xs i 2) (la xs i 3) (la xs i 4) (la xs i 5)) (nwM g (l13 (nI (g.2.1 0 0)) (la xs i 1) (la xs i 2) (la xs i 3) (la xs i 4) (la xs i 5) (nI 1))) g) (o := o2) hI.RI (la xs i 1) (la xs i 2) (la xs i 3) (la xs i 4) (la xs i 5) (nI 1) (by decide)
    rw [rmC_eq hI (la xs i 1) (la xs i 2) (la xs i 3) (la xs i 4) (la xs i 5)] at hm
    refine k_w (va_runV (As := [.int (la xs i 1), .int (la xs i 2), .int (la xs i 3), .int (la xs i 4), .int (la xs i 5), .int (nI 1)]) (rest := []) ⟨hx, hb, hml, hown, ha⟩ hm ⟨cb_of ha wk_X5_mast wi_X5 wm_L_68 sd_X5_mast rfl rfl ⟨Nat.le_of_ble_eq_true rfl, Nat.le_of_ble_eq_true rfl⟩, ha _ wv_X5_mast, ha _ wl_X5_mast⟩ (P0.preV hC hS hH (Hp.recv hC.1 hH (7, 0, 0) ⟨rfl, rfl⟩ rfl rfl)) rfl rfl hl.1 rfl (lv_room (Nat.le_of_ble_eq_true rfl)) dL_law_214 ⟨show cells + (1) + 0 ≤ 601024 by omega, show slots + (14) + 0 ≤ 7293034 by omega⟩) hS (fun H1 locs1 hH hS => ?_)
    refine W.eq (g2 := F0 m 217 ls [.int (vO (mastC g (la xs i 1) (la xs i 2) (la xs i 3) (la xs i 4) (la xs i 5)) (nI (mN M)))]) rfl ?_
    refine lv_istore (lv' := [(7, .int (vO (mastC g (la xs i 1) (la xs i 2) (la xs i 3) (la xs i 4) (la xs i 5)) (nI (mN M)))), (6, .int (nI (mastC g (la xs i 1) (la xs i 2) (la xs i 3) (la xs i 4) (la xs i 5)))), (0, .ref sb), (1, .ref (ad2 (0, 0, 0))), (2, .ref (ad2 (7, 0, 0))), (3, .ref (ad2 (9, 0, 0))), (4, .ref (ad2 (9, 1, 0))), (5, .int (nI (8 * i)))]) hx hb dL_law_217 hl (by decide) rfl (fun ls hl => ?_)
    refine lv_aload_n hx hb dL_law_219 rfl (lv_at hl 4 rfl) ?_
    refine k_r (va_runV (As := []) (rest := []) ⟨hx, hb, hml, hown, ha⟩ (mX5_thrown l (M := rO M (mastC g (la xs i 1) (la xs i 2) (la xs i 3) (la xs i 4) (la xs i 5)) (rmG (rT M) (la xs i 1) (la xs i 2) (la xs i 3) (la xs i 4) (la xs i 5) (nI 1)))) ⟨cb_of ha wk_X5_thrown wi_X5 wm_L_69 sd_X5_thrown rfl rfl ⟨Nat.le_of_ble_eq_true rfl, Nat.le_of_ble_eq_true rfl⟩, ha _ wv_X5_thrown, ha _ wl_X5_thrown⟩ (P0.preV hC hS hH (Hp.recv hC.1 hH (7, 0, 0) ⟨rfl, rfl⟩ rfl rfl)) rfl rfl hl.1 rfl (lv_room (Nat.le_of_ble_eq_true rfl)) dL_law_220 ⟨show cells + (1) + 0 + 0 ≤ 601024 by omega, show slots + (14) + 0 + 0 ≤ 7293034 by omega⟩) ?_
    refine W.eq (g2 := F0 m 223 ls [.int (nI (mastC g (la xs i 1) (la xs i 2) (la xs i 3) (la xs i 4) (la xs i 5)))]) (by rw [th_eq (th_mast)]; rfl) ?_
    refine lv_iload hx hb dL_law_223 (lv_at hl 1 rfl) ?_
    refine lv_icmp_eq (tgt := 230) hx hb dL_law_225 (by decide) (fun _ => ?_) (fun cq => absurd rfl cq)
    refine lv_iload hx hb dL_law_230 (lv_at hl 1 rfl) ?_
    refine lv_if_ne (tgt := 247) hx hb dL_law_232 (by decide) (fun _ => ?_) (fun cz => ?_)
    · skip
      refine lv_goto (tgt := 1049) hx hb dL_law_247 (by decide) ?_
      exact kk H1 locs1 _ _ ls ⟨ad2, gO (mastC g (la xs i 1) (la xs i 2) (la xs i 3) (la xs i 4) (la xs i 5)) (nwM g (l13 (nI (g.2.1 0 0)) (la xs i 1) (la xs i 2) (la xs i 3) (la xs i 4) (la xs i 5) (nI 1))) g, rO M (mastC g (la xs i 1) (la xs i 2) (la xs i 3) (la xs i 4) (la xs i 5)) (rmG (rT M) (la xs i 1) (la xs i 2) (la xs i 3) (la xs i 4) (la xs i 5) (nI 1)), o2, hH, hS, hI2, by omega, by omega, lv_sub hl [2, 3, 4, 5, 6, 7] rfl⟩
    · skip
      have cz := c_0 (le_mast g (la xs i 1) (la xs i 2) (la xs i 3) (la xs i 4) (la xs i 5)) cz
      refine lv_aload_n hx hb dL_law_235 rfl (lv_at hl 5 rfl) ?_
      refine lv_iconst (v := nI 0) hx hb dL_law_236 (by decide) ?_
      refine r_lald hx hb hC hH (9, 0, 0) ⟨by decide, rfl⟩ (f := o2.1) (n := 1) rfl (vp_in_nI (n := 0) (by decide) (by decide)) dL_law_237 ?_
      refine W.eq (g2 := F0 m 238 ls [.long (nI (g.2.1 0 0)).toInt64]) (by rw [← hv cz, nI_clamp (by decide)]) ?_
      refine lv_iload hx hb dL_law_238 (lv_at hl 0 rfl) ?_
      refine W.eq (g2 := F0 m 240 ls [.int (nI (g.2.1 0 0)), .long (nI (g.2.1 0 0)).toInt64]) (by rw [show vO (mastC g (la xs i 1) (la xs i 2) (la xs i 3) (la xs i 4) (la xs i 5)) (nI (mN M)) = nI (g.2.1 0 0) by rw [vO, if_pos cz, mN_Rg hI.2.1 hI.1.1]]) ?_
      refine lv_i2l (v := (nI (g.2.1 0 0)).toInt64) hx hb dL_law_240 rfl ?_
      refine W.lcmp hx hb dL_law_241 ?_
      refine W.eq (g2 := F0 m 242 ls [.int 0]) (by rw [cmp_0]) ?_
      refine lv_if_eq (tgt := 247) hx hb dL_law_242 (by decide) (fun _ => ?_) (fun cq => absurd rfl cq)
      refine lv_goto (tgt := 1049) hx hb dL_law_247 (by decide) ?_
      exact kk H1 locs1 _ _ ls ⟨ad2, gO (mastC g (la xs i 1) (la xs i 2) (la xs i 3) (la xs i 4) (la xs i 5)) (nwM g (l13 (nI (g.2.1 0 0)) (la xs i 1) (la xs i 2) (la xs i 3) (la xs i 4) (la xs i 5) (nI 1))) g, rO M (mastC g (la xs i 1) (la xs i 2) (la xs i 3) (la xs i 4) (la xs i 5)) (rmG (rT M) (la xs i 1) (la xs i 2) (la xs i 3) (la xs i 4) (la xs i 5) (nI 1)), o2, hH, hS, hI2, by omega, by omega, lv_sub hl [2, 3, 4, 5, 6, 7] rfl⟩

set_option maxHeartbeats 4000000 in
set_option maxRecDepth 100000 in
theorem LB_lease {p : Program} {e : Env} {s : State} {m : MethodId} {below : List Frame} {meth : Method} {c : Code} {l : Launch} (hlf : l.stackTraces = false) {sb L : Nat} {xs : Nat → Int32} (hL : L ≤ 4096) (C0 : lw_At p s m meth c sb L xs) {D : va_G} {k : Nat → ClassId} (hC : Cs D k s.heap.size s) {i : Nat} (hi : 8 * i + 8 ≤ L) {H : Heap} {locs : List Loc} {cells slots : Nat} {ls : Array Slot} (hV : LV D k s sb i (nI (8 * i)) H locs cells slots ls) (kk : ∀ (H : Heap) (locs : List Loc) (cells slots : Nat) (ls : Array Slot), LV D k s sb (i + 1) (nI (8 * i)) H locs cells slots ls → W p l e room_1 s m #[Value.ref sb] below meth c H locs cells slots (lw_Z below #[Value.ref sb] s) (F0 m 1049 ls [])) : W p l e room_1 s m #[Value.ref sb] below meth c H locs cells slots (lw_Z below #[Value.ref sb] s) (F0 m 250 ls []) := by
  obtain ⟨hx, hb, hr, hml, hown, hts, hX, hbl, hlocks, hgv⟩ := id C0
  have hown : s.vm.findClass RL = some m.cls := hown
  have ha : ∀ w ∈ AW, w.before #[Value.ref sb] s = true := fun w h => hts w (List.mem_filter.mp h).1
  obtain ⟨ad, g, M, o, hH, hS, hI, hc, hs, hl⟩ := hV
  have htb := tb_le hI.1.2.1
  refine lv_aload_n hx hb dL_law_250 rfl (lv_at hl 1 rfl) ?_
  refine lv_aload_n hx hb dL_law_251 rfl (lv_at hl 0 rfl) ?_
  refine lv_iload hx hb dL_law_252 (lv_at hl 5 rfl) ?_
  refine lv_iconst (v := nI 1) hx hb dL_law_254 (by decide) ?_
  refine lv_iadd hx hb dL_law_255 ?_
  refine la_ld hx hb hX hbl hS hL hi 1 (by decide) dL_law_256 ?_
  refine lv_aload_n hx hb dL_law_257 rfl (lv_at hl 0 rfl) ?_
  refine lv_iload hx hb dL_law_258 (lv_at hl 5 rfl) ?_
  refine lv_iconst (v := nI 2) hx hb dL_law_260 (by decide) ?_
  refine lv_iadd hx hb dL_law_261 ?_
  refine la_ld hx hb hX hbl hS hL hi 2 (by decide) dL_law_262 ?_
  refine lv_aload_n hx hb dL_law_263 rfl (lv_at hl 0 rfl) ?_
  refine lv_iload hx hb dL_law_264 (lv_at hl 5 rfl) ?_
  refine lv_iconst (v := nI 3) hx hb dL_law_266 (by decide) ?_
  refine lv_iadd hx hb dL_law_267 ?_
  refine la_ld hx hb hX hbl hS hL hi 3 (by decide) dL_law_268 ?_
  refine lv_aload_n hx hb dL_law_269 rfl (lv_at hl 0 rfl) ?_
  refine lv_iload hx hb dL_law_270 (lv_at hl 5 rfl) ?_
  refine lv_iconst (v := nI 4) hx hb dL_law_272 (by decide) ?_
  refine lv_iadd hx hb dL_law_273 ?_
  refine la_ld hx hb hX hbl hS hL hi 4 (by decide) dL_law_274 ?_
  refine lv_aload_n hx hb dL_law_275 rfl (lv_at hl 0 rfl) ?_
  refine lv_iload hx hb dL_law_276 (lv_at hl 5 rfl) ?_
  refine lv_iconst (v := nI 5) hx hb dL_law_278 (by decide) ?_
  refine lv_iadd hx hb dL_law_279 ?_
  refine la_ld hx hb hX hbl hS hL hi 5 (by decide) dL_law_280 ?_
  refine lv_aload_n hx hb dL_law_281 rfl (lv_at hl 0 rfl) ?_
  refine lv_iload hx hb dL_law_282 (lv_at hl 5 rfl) ?_
  refine lv_bipush (v := nI 6) hx hb dL_law_284 (by decide) ?_
  refine lv_iadd hx hb dL_law_286 ?_
  refine la_ld hx hb hX hbl hS hL hi 6 (by decide) dL_law_287 ?_
  refine lv_aload_n hx hb dL_law_288 rfl (lv_at hl 0 rfl) ?_
  refine lv_iload hx hb dL_law_289 (lv_at hl 5 rfl) ?_
  refine lv_bipush (v := nI 7) hx hb dL_law_291 (by decide) ?_
  refine lv_iadd hx hb dL_law_293 ?_
  refine la_ld hx hb hX hbl hS hL hi 7 (by decide) dL_law_294 ?_
  have hI2 : SI (gO (leaseC g (la xs i 1) (la xs i 2) (la xs i 3) (la xs i 4) (la xs i 5) (la xs i 6) (la xs i 7)) (nwL g (mI g (la xs i 1) - 1) (l6 (la xs i 2) (la xs i 3) (la xs i 4) (la xs i 5) (la xs i 6) (la xs i 7))) g) (rO M (leaseC g (la xs i 1) (la xs i 2) (la xs i 3) (la xs i 4) (la xs i 5) (la xs i 6) (la xs i 7)) (rlG (rT M) (mI g (la xs i 1) - 1) (la xs i 2) (la xs i 3) (la xs i 4) (la xs i 5) (la xs i 6) (la xs i 7))) := S_lease hI (la xs i 1) (la xs i 2) (la xs i 3) (la xs i 4) (la xs i 5) (la xs i 6) (la xs i 7)
  have htm : tb g ≤ tb (gO (leaseC g (la xs i 1) (la xs i 2) (la xs i 3) (la xs i 4) (la xs i 5) (la xs i 6) (la xs i 7)) (nwL g (mI g (la xs i 1) - 1) (l6 (la xs i 2) (la xs i 3) (la xs i 4) (la xs i 5) (la xs i 6) (la xs i 7))) g) := tm_lease
  have htb2 := tb_le hI2.1.2.1
  refine k_w (vx_runSW (As := [.ref (ad (0, 0, 0)), .int (la xs i 1), .int (la xs i 2), .int (la xs i 3), .int (la xs i 4), .int (la xs i 5), .int (la xs i 6), .int (la xs i 7)]) (rest := []) ⟨hx, hb, hml, hown, ha⟩ (mL_lease l hlf hI.1.1 (la xs i 1) (la xs i 2) (la xs i 3) (la xs i 4) (la xs i 5) (la xs i 6) (la xs i 7)) (ch_of ha wk_L_lease wi_L wm_L_73 wz_L_lease sd_L_lease rfl rfl ⟨Nat.le_of_ble_eq_true rfl, Nat.le_of_ble_eq_true rfl⟩) (P0.pre hC hS hH) rfl rfl hl.1 rfl (lv_room (Nat.le_of_ble_eq_true rfl)) dL_law_295 ⟨show cells + (1) ≤ 601024 by omega, show slots + (6) ≤ 7293034 by omega⟩) hS (fun H1 locs1 hB1 hS => ?_)
  obtain ⟨ad2, o2, hE, hv, hH⟩ := hB1
  have hl : lv_has ls 8 [(0, .ref sb), (1, .ref (ad2 (0, 0, 0))), (2, .ref (ad2 (7, 0, 0))), (3, .ref (ad2 (9, 0, 0))), (4, .ref (ad2 (9, 1, 0))), (5, .int (nI (8 * i)))] := by rw [hE (0, 0, 0) (by decide) ⟨by decide, rfl⟩, hE (7, 0, 0) (by decide) ⟨rfl, rfl⟩, hE (9, 0, 0) (by decide) ⟨by decide, rfl⟩, hE (9, 1, 0) (by decide) ⟨by decide, rfl⟩]; exact hl
  refine W.eq (g2 := F0 m 298 ls [.int (nI (leaseC g (la xs i 1) (la xs i 2) (la xs i 3) (la xs i 4) (la xs i 5) (la xs i 6) (la xs i 7)))]) rfl ?_
  refine lv_istore (lv' := [(6, .int (nI (leaseC g (la xs i 1) (la xs i 2) (la xs i 3) (la xs i 4) (la xs i 5) (la xs i 6) (la xs i 7)))), (0, .ref sb), (1, .ref (ad2 (0, 0, 0))), (2, .ref (ad2 (7, 0, 0))), (3, .ref (ad2 (9, 0, 0))), (4, .ref (ad2 (9, 1, 0))), (5, .int (nI (8 * i)))]) hx hb dL_law_298 hl (by decide) rfl (fun ls hl => ?_)
  refine lv_aload_n hx hb dL_law_300 rfl (lv_at hl 3 rfl) ?_
  refine lv_aload_n hx hb dL_law_301 rfl (lv_at hl 1 rfl) ?_
  refine lv_iload hx hb dL_law_302 (lv_at hl 6 rfl) ?_
  refine lv_iconst (v := nI 1) hx hb dL_law_304 (by decide) ?_
  refine lv_iadd hx hb dL_law_305 ?_
  refine la_ld hx hb hX hbl hS hL hi 1 (by decide) dL_law_306 ?_
  refine lv_aload_n hx hb dL_law_307 rfl (lv_at hl 1 rfl) ?_
  refine lv_iload hx hb dL_law_308 (lv_at hl 6 rfl) ?_
  refine lv_iconst (v := nI 2) hx hb dL_law_310 (by decide) ?_
  refine lv_iadd hx hb dL_law_311 ?_
  refine la_ld hx hb hX hbl hS hL hi 2 (by decide) dL_law_312 ?_
  refine lv_aload_n hx hb dL_law_313 rfl (lv_at hl 1 rfl) ?_
  refine lv_iload hx hb dL_law_314 (lv_at hl 6 rfl) ?_
  refine lv_iconst (v := nI 3) hx hb dL_law_316 (by decide) ?_
  refine lv_iadd hx hb dL_law_317 ?_
  refine la_ld hx hb hX hbl hS hL hi 3 (by decide) dL_law_318 ?_
  refine lv_aload_n hx hb dL_law_319 rfl (lv_at hl 1 rfl) ?_
  refine lv_iload hx hb dL_law_320 (lv_at hl 6 rfl) ?_
  refine lv_iconst (v := nI 4) hx hb dL_law_322 (by decide) ?_
  refine lv_iadd hx hb dL_law_323 ?_
  refine la_ld hx hb hX hbl hS hL hi 4 (by decide) dL_law_324 ?_
  refine lv_aload_n hx hb dL_law_325 rfl (lv_at hl 1 rfl) ?_
  refine lv_iload hx hb dL_law_326 (lv_at hl 6 rfl) ?_
  refine lv_iconst (v := nI 5) hx hb dL_law_328 (by decide) ?_
  refine lv_iadd hx hb dL_law_329 ?_
  refine la_ld hx hb hX hbl hS hL hi 5 (by decide) dL_law_330 ?_
  refine lv_aload_n hx hb dL_law_331 rfl (lv_at hl 1 rfl) ?_
  refine lv_iload hx hb dL_law_332 (lv_at hl 6 rfl) ?_
  refine lv_bipush (v := nI 6) hx hb dL_law_334 (by decide) ?_
  refine lv_iadd hx hb dL_law_336 ?_
  refine la_ld hx hb hX hbl hS hL hi 6 (by decide) dL_law_337 ?_
  refine lv_aload_n hx hb dL_law_338 rfl (lv_at hl 1 rfl) ?_
  refine lv_iload hx hb dL_law_339 (lv_at hl 6 rfl) ?_
  refine lv_bipush (v := nI 7) hx hb dL_law_341 (by decide) ?_
  refine lv_iadd hx hb dL_law_343 ?_
  refine la_ld hx hb hX hbl hS hL hi 7 (by decide) dL_law_344 ?_
  have hm := mX5_lease l (D := D) (k := k) (b := s.heap.size) (ad := ad2) (g := gO (leaseC g (la xs i 1) (la xs i 2) (la xs i 3) (la xs i 4) (la xs i 5) (la xs i 6) (la xs i 7)) (nwL g (mI g (la xs i 1) - 1) (l6 (la xs i 2) (la xs i 3) (la xs i 4) (la xs i 5) (la xs i 6) (la xs i 7))) g) (o := o2) hI.RI (la xs i 1) (la xs i 2) (la xs i 3) (la xs i 4) (la xs i 5) (la xs i 6) (la xs i 7) (mI g (la xs i 1) - 1) (mI_q hI)
  rw [rlC_eq hI (la xs i 1) (la xs i 2) (la xs i 3) (la xs i 4) (la xs i 5) (la xs i 6) (la xs i 7)] at hm
  refine k_w (va_runV (As := [.int (la xs i 1), .int (la xs i 2), .int (la xs i 3), .int (la xs i 4), .int (la xs i 5), .int (la xs i 6), .int (la xs i 7)]) (rest := []) ⟨hx, hb, hml, hown, ha⟩ hm ⟨cb_of ha wk_X5_lease wi_X5 wm_L_76 sd_X5_lease rfl rfl ⟨Nat.le_of_ble_eq_true rfl, Nat.le_of_ble_eq_true rfl⟩, ha _ wv_X5_lease, ha _ wl_X5_lease⟩ (P0.preV hC hS hH (Hp.recv hC.1 hH (7, 0, 0) ⟨rfl, rfl⟩ rfl rfl)) rfl rfl hl.1 rfl (lv_room (Nat.le_of_ble_eq_true rfl)) dL_law_345 ⟨show cells + (1) + 0 ≤ 601024 by omega, show slots + (6) + 0 ≤ 7293034 by omega⟩) hS (fun H1 locs1 hH hS => ?_)
  refine W.eq (g2 := F0 m 348 ls []) rfl ?_
  refine lv_aload_n hx hb dL_law_348 rfl (lv_at hl 3 rfl) ?_
  refine k_r (va_runV (As := []) (rest := []) ⟨hx, hb, hml, hown, ha⟩ (mX5_thrown l (M := rO M (leaseC g (la xs i 1) (la xs i 2) (la xs i 3) (la xs i 4) (la xs i 5) (la xs i 6) (la xs i 7)) (rlG (rT M) (mI g (la xs i 1) - 1) (la xs i 2) (la xs i 3) (la xs i 4) (la xs i 5) (la xs i 6) (la xs i 7)))) ⟨cb_of ha wk_X5_thrown wi_X5 wm_L_69 sd_X5_thrown rfl rfl ⟨Nat.le_of_ble_eq_true rfl, Nat.le_of_ble_eq_true rfl⟩, ha _ wv_X5_thrown, ha _ wl_X5_thrown⟩ (P0.preV hC hS hH (Hp.recv hC.1 hH (7, 0, 0) ⟨rfl, rfl⟩ rfl rfl)) rfl rfl hl.1 rfl (lv_room (Nat.le_of_ble_eq_true rfl)) dL_law_349 ⟨show cells + (1) + 0 + 0 ≤ 601024 by omega, show slots + (6) + 0 + 0 ≤ 7293034 by omega⟩) ?_
  refine W.eq (g2 := F0 m 352 ls [.int (nI (leaseC g (la xs i 1) (la xs i 2) (la xs i 3) (la xs i 4) (la xs i 5) (la xs i 6) (la xs i 7)))]) (by rw [th_eq (th_lease)]; rfl) ?_
  refine lv_iload hx hb dL_law_352 (lv_at hl 0 rfl) ?_
  refine lv_icmp_eq (tgt := 359) hx hb dL_law_354 (by decide) (fun _ => ?_) (fun cq => absurd rfl cq)
  refine lv_goto (tgt := 1049) hx hb dL_law_359 (by decide) ?_
  exact kk H1 locs1 _ _ ls ⟨ad2, gO (leaseC g (la xs i 1) (la xs i 2) (la xs i 3) (la xs i 4) (la xs i 5) (la xs i 6) (la xs i 7)) (nwL g (mI g (la xs i 1) - 1) (l6 (la xs i 2) (la xs i 3) (la xs i 4) (la xs i 5) (la xs i 6) (la xs i 7))) g, rO M (leaseC g (la xs i 1) (la xs i 2) (la xs i 3) (la xs i 4) (la xs i 5) (la xs i 6) (la xs i 7)) (rlG (rT M) (mI g (la xs i 1) - 1) (la xs i 2) (la xs i 3) (la xs i 4) (la xs i 5) (la xs i 6) (la xs i 7)), o2, hH, hS, hI2, by omega, by omega, lv_sub hl [1, 2, 3, 4, 5, 6] rfl⟩

set_option maxHeartbeats 4000000 in
set_option maxRecDepth 100000 in
theorem LB_phone {p : Program} {e : Env} {s : State} {m : MethodId} {below : List Frame} {meth : Method} {c : Code} {l : Launch} (hlf : l.stackTraces = false) {sb L : Nat} {xs : Nat → Int32} (hL : L ≤ 4096) (C0 : lw_At p s m meth c sb L xs) {D : va_G} {k : Nat → ClassId} (hC : Cs D k s.heap.size s) {i : Nat} (hi : 8 * i + 8 ≤ L) {H : Heap} {locs : List Loc} {cells slots : Nat} {ls : Array Slot} (hV : LV D k s sb i (nI (8 * i)) H locs cells slots ls) (kk : ∀ (H : Heap) (locs : List Loc) (cells slots : Nat) (ls : Array Slot), LV D k s sb (i + 1) (nI (8 * i)) H locs cells slots ls → W p l e room_1 s m #[Value.ref sb] below meth c H locs cells slots (lw_Z below #[Value.ref sb] s) (F0 m 1049 ls [])) : W p l e room_1 s m #[Value.ref sb] below meth c H locs cells slots (lw_Z below #[Value.ref sb] s) (F0 m 418 ls []) := by
  obtain ⟨hx, hb, hr, hml, hown, hts, hX, hbl, hlocks, hgv⟩ := id C0
  have hown : s.vm.findClass RL = some m.cls := hown
  have ha : ∀ w ∈ AW, w.before #[Value.ref sb] s = true := fun w h => hts w (List.mem_filter.mp h).1
  obtain ⟨ad, g, M, o, hH, hS, hI, hc, hs, hl⟩ := hV
  have htb := tb_le hI.1.2.1
  refine lv_aload_n hx hb dL_law_418 rfl (lv_at hl 1 rfl) ?_
  refine lv_aload_n hx hb dL_law_419 rfl (lv_at hl 0 rfl) ?_
  refine lv_iload hx hb dL_law_420 (lv_at hl 5 rfl) ?_
  refine lv_iconst (v := nI 1) hx hb dL_law_422 (by decide) ?_
  refine lv_iadd hx hb dL_law_423 ?_
  refine la_ld hx hb hX hbl hS hL hi 1 (by decide) dL_law_424 ?_
  refine lv_aload_n hx hb dL_law_425 rfl (lv_at hl 3 rfl) ?_
  have hI2 : SI (gO (phC g (la xs i 1)) (nwP g (la xs i 1)) g) (rO M (phC g (la xs i 1)) (rphG (rT M) (la xs i 1))) := (S_phone hI (la xs i 1)).1
  have htm : tb g ≤ tb (gO (phC g (la xs i 1)) (nwP g (la xs i 1)) g) := tm_phone
  have htb2 := tb_le hI2.1.2.1
  refine k_w (vx_runSW (As := [.ref (ad (0, 0, 0)), .int (la xs i 1), .ref (ad (9, 0, 0))]) (rest := []) ⟨hx, hb, hml, hown, ha⟩ (mL_phone l hlf hI.1.1 (la xs i 1)) (ch_of ha wk_L_phone wi_L wm_L_81 wz_L_phone sd_L_phone rfl rfl ⟨Nat.le_of_ble_eq_true rfl, Nat.le_of_ble_eq_true rfl⟩) (P0.pre hC hS hH) rfl rfl hl.1 rfl (lv_room (Nat.le_of_ble_eq_true rfl)) dL_law_426 ⟨show cells + (1) ≤ 601024 by omega, show slots + (6) ≤ 7293034 by omega⟩) hS (fun H1 locs1 hB1 hS => ?_)
  obtain ⟨ad2, o2, hE, hv, hH⟩ := hB1
  have hl : lv_has ls 8 [(0, .ref sb), (1, .ref (ad2 (0, 0, 0))), (2, .ref (ad2 (7, 0, 0))), (3, .ref (ad2 (9, 0, 0))), (4, .ref (ad2 (9, 1, 0))), (5, .int (nI (8 * i)))] := by rw [hE (0, 0, 0) (by decide) ⟨by decide, rfl⟩, hE (7, 0, 0) (by decide) ⟨rfl, rfl⟩, hE (9, 0, 0) (by decide) ⟨by decide, rfl⟩, hE (9, 1, 0) (by decide) ⟨by decide, rfl⟩]; exact hl
  refine W.eq (g2 := F0 m 429 ls [.int (nI (phC g (la xs i 1)))]) rfl ?_
  refine lv_istore (lv' := [(6, .int (nI (phC g (la xs i 1)))), (0, .ref sb), (1, .ref (ad2 (0, 0, 0))), (2, .ref (ad2 (7, 0, 0))), (3, .ref (ad2 (9, 0, 0))), (4, .ref (ad2 (9, 1, 0))), (5, .int (nI (8 * i)))]) hx hb dL_law_429 hl (by decide) rfl (fun ls hl => ?_)
  refine lv_aload_n hx hb dL_law_431 rfl (lv_at hl 3 rfl) ?_
  refine lv_aload_n hx hb dL_law_432 rfl (lv_at hl 1 rfl) ?_
  refine lv_iload hx hb dL_law_433 (lv_at hl 6 rfl) ?_
  refine lv_iconst (v := nI 1) hx hb dL_law_435 (by decide) ?_
  refine lv_iadd hx hb dL_law_436 ?_
  refine la_ld hx hb hX hbl hS hL hi 1 (by decide) dL_law_437 ?_
  have hm := mX5_phone l (D := D) (k := k) (b := s.heap.size) (ad := ad2) (g := gO (phC g (la xs i 1)) (nwP g (la xs i 1)) g) (o := o2) hI.RI (la xs i 1)
  rw [rphC_eq hI (la xs i 1)] at hm
  refine k_w (va_runV (As := [.int (la xs i 1)]) (rest := []) ⟨hx, hb, hml, hown, ha⟩ hm ⟨cb_of ha wk_X5_phone wi_X5 wm_L_83 sd_X5_phone rfl rfl ⟨Nat.le_of_ble_eq_true rfl, Nat.le_of_ble_eq_true rfl⟩, ha _ wv_X5_phone, ha _ wl_X5_phone⟩ (P0.preV hC hS hH (Hp.recv hC.1 hH (7, 0, 0) ⟨rfl, rfl⟩ rfl rfl)) rfl rfl hl.1 rfl (lv_room (Nat.le_of_ble_eq_true rfl)) dL_law_438 ⟨show cells + (1) + 0 ≤ 601024 by omega, show slots + (6) + 0 ≤ 7293034 by omega⟩) hS (fun H1 locs1 hH hS => ?_)
  refine W.eq (g2 := F0 m 441 ls [.int (vO (phC g (la xs i 1)) (M 19 0 + 1 - 1))]) rfl ?_
  refine lv_istore (lv' := [(7, .int (vO (phC g (la xs i 1)) (M 19 0 + 1 - 1))), (6, .int (nI (phC g (la xs i 1)))), (0, .ref sb), (1, .ref (ad2 (0, 0, 0))), (2, .ref (ad2 (7, 0, 0))), (3, .ref (ad2 (9, 0, 0))), (4, .ref (ad2 (9, 1, 0))), (5, .int (nI (8 * i)))]) hx hb dL_law_441 hl (by decide) rfl (fun ls hl => ?_)
  refine lv_aload_n hx hb dL_law_443 rfl (lv_at hl 4 rfl) ?_
  refine k_r (va_runV (As := []) (rest := []) ⟨hx, hb, hml, hown, ha⟩ (mX5_thrown l (M := rO M (phC g (la xs i 1)) (rphG (rT M) (la xs i 1)))) ⟨cb_of ha wk_X5_thrown wi_X5 wm_L_69 sd_X5_thrown rfl rfl ⟨Nat.le_of_ble_eq_true rfl, Nat.le_of_ble_eq_true rfl⟩, ha _ wv_X5_thrown, ha _ wl_X5_thrown⟩ (P0.preV hC hS hH (Hp.recv hC.1 hH (7, 0, 0) ⟨rfl, rfl⟩ rfl rfl)) rfl rfl hl.1 rfl (lv_room (Nat.le_of_ble_eq_true rfl)) dL_law_444 ⟨show cells + (1) + 0 + 0 ≤ 601024 by omega, show slots + (6) + 0 + 0 ≤ 7293034 by omega⟩) ?_
  refine W.eq (g2 := F0 m 447 ls [.int (nI (phC g (la xs i 1)))]) (by rw [th_eq (th_phone)]; rfl) ?_
  refine lv_iload hx hb dL_law_447 (lv_at hl 1 rfl) ?_
  refine lv_icmp_eq (tgt := 454) hx hb dL_law_449 (by decide) (fun _ => ?_) (fun cq => absurd rfl cq)
  refine lv_iload hx hb dL_law_454 (lv_at hl 1 rfl) ?_
  refine lv_if_ne (tgt := 471) hx hb dL_law_456 (by decide) (fun _ => ?_) (fun cz => ?_)
  · skip
    refine lv_goto (tgt := 1049) hx hb dL_law_471 (by decide) ?_
    exact kk H1 locs1 _ _ ls ⟨ad2, gO (phC g (la xs i 1)) (nwP g (la xs i 1)) g, rO M (phC g (la xs i 1)) (rphG (rT M) (la xs i 1)), o2, hH, hS, hI2, by omega, by omega, lv_sub hl [2, 3, 4, 5, 6, 7] rfl⟩
  · skip
    have cz := c_0 (le_phone g (la xs i 1)) cz
    refine lv_aload_n hx hb dL_law_459 rfl (lv_at hl 5 rfl) ?_
    refine lv_iconst (v := nI 0) hx hb dL_law_460 (by decide) ?_
    refine r_lald hx hb hC hH (9, 0, 0) ⟨by decide, rfl⟩ (f := o2.1) (n := 1) rfl (vp_in_nI (n := 0) (by decide) (by decide)) dL_law_461 ?_
    refine W.eq (g2 := F0 m 462 ls [.long (nI (g.2.1 1 0)).toInt64]) (by rw [← hv cz, nI_clamp (by decide)]) ?_
    refine lv_iload hx hb dL_law_462 (lv_at hl 0 rfl) ?_
    refine W.eq (g2 := F0 m 464 ls [.int (nI (g.2.1 1 0)), .long (nI (g.2.1 1 0)).toInt64]) (by rw [show vO (phC g (la xs i 1)) (M 19 0 + 1 - 1) = nI (g.2.1 1 0) by rw [vO, if_pos cz]; exact (S_phone hI (la xs i 1)).2]) ?_
    refine lv_i2l (v := (nI (g.2.1 1 0)).toInt64) hx hb dL_law_464 rfl ?_
    refine W.lcmp hx hb dL_law_465 ?_
    refine W.eq (g2 := F0 m 466 ls [.int 0]) (by rw [cmp_0]) ?_
    refine lv_if_eq (tgt := 471) hx hb dL_law_466 (by decide) (fun _ => ?_) (fun cq => absurd rfl cq)
    refine lv_goto (tgt := 1049) hx hb dL_law_471 (by decide) ?_
    exact kk H1 locs1 _ _ ls ⟨ad2, gO (phC g (la xs i 1)) (nwP g (la xs i 1)) g, rO M (phC g (la xs i 1)) (rphG (rT M) (la xs i 1)), o2, hH, hS, hI2, by omega, by omega, lv_sub hl [2, 3, 4, 5, 6, 7] rfl⟩

set_option maxHeartbeats 4000000 in
set_option maxRecDepth 100000 in
theorem LB_call {p : Program} {e : Env} {s : State} {m : MethodId} {below : List Frame} {meth : Method} {c : Code} {l : Launch} (hlf : l.stackTraces = false) {sb L : Nat} {xs : Nat → Int32} (hL : L ≤ 4096) (C0 : lw_At p s m meth c sb L xs) {D : va_G} {k : Nat → ClassId} (hC : Cs D k s.heap.size s) {i : Nat} (hi : 8 * i + 8 ≤ L) {H : Heap} {locs : List Loc} {cells slots : Nat} {ls : Array Slot} (hV : LV D k s sb i (nI (8 * i)) H locs cells slots ls) (kk : ∀ (H : Heap) (locs : List Loc) (cells slots : Nat) (ls : Array Slot), LV D k s sb (i + 1) (nI (8 * i)) H locs cells slots ls → W p l e room_1 s m #[Value.ref sb] below meth c H locs cells slots (lw_Z below #[Value.ref sb] s) (F0 m 1049 ls [])) : W p l e room_1 s m #[Value.ref sb] below meth c H locs cells slots (lw_Z below #[Value.ref sb] s) (F0 m 474 ls []) := by
  obtain ⟨hx, hb, hr, hml, hown, hts, hX, hbl, hlocks, hgv⟩ := id C0
  have hown : s.vm.findClass RL = some m.cls := hown
  have ha : ∀ w ∈ AW, w.before #[Value.ref sb] s = true := fun w h => hts w (List.mem_filter.mp h).1
  obtain ⟨ad, g, M, o, hH, hS, hI, hc, hs, hl⟩ := hV
  have htb := tb_le hI.1.2.1
  refine lv_aload_n hx hb dL_law_474 rfl (lv_at hl 1 rfl) ?_
  refine lv_aload_n hx hb dL_law_475 rfl (lv_at hl 0 rfl) ?_
  refine lv_iload hx hb dL_law_476 (lv_at hl 5 rfl) ?_
  refine lv_iconst (v := nI 1) hx hb dL_law_478 (by decide) ?_
  refine lv_iadd hx hb dL_law_479 ?_
  refine la_ld hx hb hX hbl hS hL hi 1 (by decide) dL_law_480 ?_
  refine lv_aload_n hx hb dL_law_481 rfl (lv_at hl 3 rfl) ?_
  have hI2 : SI (gO (clC g (la xs i 1)) (clG g (pI g (la xs i 1) - 1)) g) (rO M (clC g (la xs i 1)) (rclG (rT M) (pI g (la xs i 1) - 1))) := (S_call hI (la xs i 1)).1
  have htm : tb g ≤ tb (gO (clC g (la xs i 1)) (clG g (pI g (la xs i 1) - 1)) g) := tm_call
  have htb2 := tb_le hI2.1.2.1
  refine k_w (vx_runSW (As := [.ref (ad (0, 0, 0)), .int (la xs i 1), .ref (ad (9, 0, 0))]) (rest := []) ⟨hx, hb, hml, hown, ha⟩ (mL_call l hlf hI.1.1 (la xs i 1)) (ch_of ha wk_L_call wi_L wm_L_84 wz_L_call sd_L_call rfl rfl ⟨Nat.le_of_ble_eq_true rfl, Nat.le_of_ble_eq_true rfl⟩) (P0.pre hC hS hH) rfl rfl hl.1 rfl (lv_room (Nat.le_of_ble_eq_true rfl)) dL_law_482 ⟨show cells + (1) ≤ 601024 by omega, show slots + (6) ≤ 7293034 by omega⟩) hS (fun H1 locs1 hB1 hS => ?_)
  obtain ⟨ad2, o2, hE, hv, hH⟩ := hB1
  have hl : lv_has ls 8 [(0, .ref sb), (1, .ref (ad2 (0, 0, 0))), (2, .ref (ad2 (7, 0, 0))), (3, .ref (ad2 (9, 0, 0))), (4, .ref (ad2 (9, 1, 0))), (5, .int (nI (8 * i)))] := by rw [hE (0, 0, 0) (by decide) ⟨by decide, rfl⟩, hE (7, 0, 0) (by decide) ⟨rfl, rfl⟩, hE (9, 0, 0) (by decide) ⟨by decide, rfl⟩, hE (9, 1, 0) (by decide) ⟨by decide, rfl⟩]; exact hl
  refine W.eq (g2 := F0 m 485 ls [.int (nI (clC g (la xs i 1)))]) rfl ?_
  refine lv_istore (lv' := [(6, .int (nI (clC g (la xs i 1)))), (0, .ref sb), (1, .ref (ad2 (0, 0, 0))), (2, .ref (ad2 (7, 0, 0))), (3, .ref (ad2 (9, 0, 0))), (4, .ref (ad2 (9, 1, 0))), (5, .int (nI (8 * i)))]) hx hb dL_law_485 hl (by decide) rfl (fun ls hl => ?_)
  refine lv_aload_n hx hb dL_law_487 rfl (lv_at hl 3 rfl) ?_
  refine lv_aload_n hx hb dL_law_488 rfl (lv_at hl 1 rfl) ?_
  refine lv_iload hx hb dL_law_489 (lv_at hl 6 rfl) ?_
  refine lv_iconst (v := nI 1) hx hb dL_law_491 (by decide) ?_
  refine lv_iadd hx hb dL_law_492 ?_
  refine la_ld hx hb hX hbl hS hL hi 1 (by decide) dL_law_493 ?_
  have hm := mX5_call l (D := D) (k := k) (b := s.heap.size) (ad := ad2) (g := gO (clC g (la xs i 1)) (clG g (pI g (la xs i 1) - 1)) g) (o := o2) hI.RI (la xs i 1) (pI g (la xs i 1) - 1) (pI_q hI)
  rw [clC_eq hI (la xs i 1)] at hm
  refine k_w (va_runV (As := [.int (la xs i 1)]) (rest := []) ⟨hx, hb, hml, hown, ha⟩ hm ⟨cb_of ha wk_X5_call wi_X5 wm_L_86 sd_X5_call rfl rfl ⟨Nat.le_of_ble_eq_true rfl, Nat.le_of_ble_eq_true rfl⟩, ha _ wv_X5_call, ha _ wl_X5_call⟩ (P0.preV hC hS hH (Hp.recv hC.1 hH (7, 0, 0) ⟨rfl, rfl⟩ rfl rfl)) rfl rfl hl.1 rfl (lv_room (Nat.le_of_ble_eq_true rfl)) dL_law_494 ⟨show cells + (1) + 0 ≤ 601024 by omega, show slots + (6) + 0 ≤ 7293034 by omega⟩) hS (fun H1 locs1 hH hS => ?_)
  refine W.eq (g2 := F0 m 497 ls [.int (vO (clC g (la xs i 1)) (rclG (rT M) (pI g (la xs i 1) - 1) 21 (pI g (la xs i 1) - 1)))]) rfl ?_
  refine lv_istore (lv' := [(7, .int (vO (clC g (la xs i 1)) (rclG (rT M) (pI g (la xs i 1) - 1) 21 (pI g (la xs i 1) - 1)))), (6, .int (nI (clC g (la xs i 1)))), (0, .ref sb), (1, .ref (ad2 (0, 0, 0))), (2, .ref (ad2 (7, 0, 0))), (3, .ref (ad2 (9, 0, 0))), (4, .ref (ad2 (9, 1, 0))), (5, .int (nI (8 * i)))]) hx hb dL_law_497 hl (by decide) rfl (fun ls hl => ?_)
  refine lv_aload_n hx hb dL_law_499 rfl (lv_at hl 4 rfl) ?_
  refine k_r (va_runV (As := []) (rest := []) ⟨hx, hb, hml, hown, ha⟩ (mX5_thrown l (M := rO M (clC g (la xs i 1)) (rclG (rT M) (pI g (la xs i 1) - 1)))) ⟨cb_of ha wk_X5_thrown wi_X5 wm_L_69 sd_X5_thrown rfl rfl ⟨Nat.le_of_ble_eq_true rfl, Nat.le_of_ble_eq_true rfl⟩, ha _ wv_X5_thrown, ha _ wl_X5_thrown⟩ (P0.preV hC hS hH (Hp.recv hC.1 hH (7, 0, 0) ⟨rfl, rfl⟩ rfl rfl)) rfl rfl hl.1 rfl (lv_room (Nat.le_of_ble_eq_true rfl)) dL_law_500 ⟨show cells + (1) + 0 + 0 ≤ 601024 by omega, show slots + (6) + 0 + 0 ≤ 7293034 by omega⟩) ?_
  refine W.eq (g2 := F0 m 503 ls [.int (nI (clC g (la xs i 1)))]) (by rw [th_eq (th_call)]; rfl) ?_
  refine lv_iload hx hb dL_law_503 (lv_at hl 1 rfl) ?_
  refine lv_icmp_eq (tgt := 510) hx hb dL_law_505 (by decide) (fun _ => ?_) (fun cq => absurd rfl cq)
  refine lv_iload hx hb dL_law_510 (lv_at hl 1 rfl) ?_
  refine lv_if_ne (tgt := 527) hx hb dL_law_512 (by decide) (fun _ => ?_) (fun cz => ?_)
  · skip
    refine lv_goto (tgt := 1049) hx hb dL_law_527 (by decide) ?_
    exact kk H1 locs1 _ _ ls ⟨ad2, gO (clC g (la xs i 1)) (clG g (pI g (la xs i 1) - 1)) g, rO M (clC g (la xs i 1)) (rclG (rT M) (pI g (la xs i 1) - 1)), o2, hH, hS, hI2, by omega, by omega, lv_sub hl [2, 3, 4, 5, 6, 7] rfl⟩
  · skip
    have cz := c_0 (le_call g (la xs i 1)) cz
    refine lv_aload_n hx hb dL_law_515 rfl (lv_at hl 5 rfl) ?_
    refine lv_iconst (v := nI 0) hx hb dL_law_516 (by decide) ?_
    refine r_lald hx hb hC hH (9, 0, 0) ⟨by decide, rfl⟩ (f := o2.1) (n := 1) rfl (vp_in_nI (n := 0) (by decide) (by decide)) dL_law_517 ?_
    refine W.eq (g2 := F0 m 518 ls [.long (clV g (pI g (la xs i 1) - 1)).toInt64]) (by rw [← hv cz, nI_clamp (by decide)]) ?_
    refine lv_iload hx hb dL_law_518 (lv_at hl 0 rfl) ?_
    refine W.eq (g2 := F0 m 520 ls [.int (clV g (pI g (la xs i 1) - 1)), .long (clV g (pI g (la xs i 1) - 1)).toInt64]) (by rw [show vO (clC g (la xs i 1)) (rclG (rT M) (pI g (la xs i 1) - 1) 21 (pI g (la xs i 1) - 1)) = clV g (pI g (la xs i 1) - 1) by rw [vO, if_pos cz]; exact (S_call hI (la xs i 1)).2 cz]) ?_
    refine lv_i2l (v := (clV g (pI g (la xs i 1) - 1)).toInt64) hx hb dL_law_520 rfl ?_
    refine W.lcmp hx hb dL_law_521 ?_
    refine W.eq (g2 := F0 m 522 ls [.int 0]) (by rw [cmp_0]) ?_
    refine lv_if_eq (tgt := 527) hx hb dL_law_522 (by decide) (fun _ => ?_) (fun cq => absurd rfl cq)
    refine lv_goto (tgt := 1049) hx hb dL_law_527 (by decide) ?_
    exact kk H1 locs1 _ _ ls ⟨ad2, gO (clC g (la xs i 1)) (clG g (pI g (la xs i 1) - 1)) g, rO M (clC g (la xs i 1)) (rclG (rT M) (pI g (la xs i 1) - 1)), o2, hH, hS, hI2, by omega, by omega, lv_sub hl [2, 3, 4, 5, 6, 7] rfl⟩

set_option maxHeartbeats 4000000 in
set_option maxRecDepth 100000 in
theorem LB_end {p : Program} {e : Env} {s : State} {m : MethodId} {below : List Frame} {meth : Method} {c : Code} {l : Launch} (hlf : l.stackTraces = false) {sb L : Nat} {xs : Nat → Int32} (hL : L ≤ 4096) (C0 : lw_At p s m meth c sb L xs) {D : va_G} {k : Nat → ClassId} (hC : Cs D k s.heap.size s) {i : Nat} (hi : 8 * i + 8 ≤ L) {H : Heap} {locs : List Loc} {cells slots : Nat} {ls : Array Slot} (hV : LV D k s sb i (nI (8 * i)) H locs cells slots ls) (kk : ∀ (H : Heap) (locs : List Loc) (cells slots : Nat) (ls : Array Slot), LV D k s sb (i + 1) (nI (8 * i)) H locs cells slots ls → W p l e room_1 s m #[Value.ref sb] below meth c H locs cells slots (lw_Z below #[Value.ref sb] s) (F0 m 1049 ls [])) : W p l e room_1 s m #[Value.ref sb] below meth c H locs cells slots (lw_Z below #[Value.ref sb] s) (F0 m 530 ls []) := by
  obtain ⟨hx, hb, hr, hml, hown, hts, hX, hbl, hlocks, hgv⟩ := id C0
  have hown : s.vm.findClass RL = some m.cls := hown
  have ha : ∀ w ∈ AW, w.before #[Value.ref sb] s = true := fun w h => hts w (List.mem_filter.mp h).1
  obtain ⟨ad, g, M, o, hH, hS, hI, hc, hs, hl⟩ := hV
  have htb := tb_le hI.1.2.1
  refine lv_aload_n hx hb dL_law_530 rfl (lv_at hl 1 rfl) ?_
  refine lv_aload_n hx hb dL_law_531 rfl (lv_at hl 0 rfl) ?_
  refine lv_iload hx hb dL_law_532 (lv_at hl 5 rfl) ?_
  refine lv_iconst (v := nI 1) hx hb dL_law_534 (by decide) ?_
  refine lv_iadd hx hb dL_law_535 ?_
  refine la_ld hx hb hX hbl hS hL hi 1 (by decide) dL_law_536 ?_
  refine lv_aload_n hx hb dL_law_537 rfl (lv_at hl 3 rfl) ?_
  obtain ⟨B, hB⟩ : ∃ B, B = tb (gO (enC g (la xs i 1)) (goG g (pI g (la xs i 1) - 1) (g.1 40 0)) g) - tb g := ⟨_, rfl⟩
  have hI2 : SI (gO (enC g (la xs i 1)) (goG g (pI g (la xs i 1) - 1) (g.1 40 0)) g) (rO M (enC g (la xs i 1)) (up (rT M) 21 (pI g (la xs i 1) - 1) (-1))) := (S_end hI (la xs i 1)).1
  have htm : tb g ≤ tb (gO (enC g (la xs i 1)) (goG g (pI g (la xs i 1) - 1) (g.1 40 0)) g) := tm_end hI
  have htb2 := tb_le hI2.1.2.1
  refine k_w (vx_runSW (As := [.ref (ad (0, 0, 0)), .int (la xs i 1), .ref (ad (9, 0, 0))]) (rest := []) ⟨hx, hb, hml, hown, ha⟩ (mL_end l hlf hI.1.1 (la xs i 1) B (by intro q; rw [hB]; exact tb_gB q)) (ch_of ha wk_L_end wi_L wm_L_87 wz_L_end sd_L_end rfl rfl ⟨Nat.le_of_ble_eq_true rfl, Nat.le_of_ble_eq_true rfl⟩) (P0.pre hC hS hH) rfl rfl hl.1 rfl (lv_room (Nat.le_of_ble_eq_true rfl)) dL_law_538 ⟨show cells + (3 * B + 1) ≤ 601024 by omega, show slots + (132 * B + 6) ≤ 7293034 by omega⟩) hS (fun H1 locs1 hB1 hS => ?_)
  obtain ⟨ad2, o2, hE, hv, hH⟩ := hB1
  have hl : lv_has ls 8 [(0, .ref sb), (1, .ref (ad2 (0, 0, 0))), (2, .ref (ad2 (7, 0, 0))), (3, .ref (ad2 (9, 0, 0))), (4, .ref (ad2 (9, 1, 0))), (5, .int (nI (8 * i)))] := by rw [hE (0, 0, 0) (by decide) ⟨by decide, rfl⟩, hE (7, 0, 0) (by decide) ⟨rfl, rfl⟩, hE (9, 0, 0) (by decide) ⟨by decide, rfl⟩, hE (9, 1, 0) (by decide) ⟨by decide, rfl⟩]; exact hl
  refine W.eq (g2 := F0 m 541 ls [.int (nI (enC g (la xs i 1)))]) rfl ?_
  refine lv_istore (lv' := [(6, .int (nI (enC g (la xs i 1)))), (0, .ref sb), (1, .ref (ad2 (0, 0, 0))), (2, .ref (ad2 (7, 0, 0))), (3, .ref (ad2 (9, 0, 0))), (4, .ref (ad2 (9, 1, 0))), (5, .int (nI (8 * i)))]) hx hb dL_law_541 hl (by decide) rfl (fun ls hl => ?_)
  refine lv_aload_n hx hb dL_law_543 rfl (lv_at hl 3 rfl) ?_
  refine lv_aload_n hx hb dL_law_544 rfl (lv_at hl 1 rfl) ?_
  refine lv_iload hx hb dL_law_545 (lv_at hl 6 rfl) ?_
  refine lv_iconst (v := nI 1) hx hb dL_law_547 (by decide) ?_
  refine lv_iadd hx hb dL_law_548 ?_
  refine la_ld hx hb hX hbl hS hL hi 1 (by decide) dL_law_549 ?_
  have hm := mX5_end l (D := D) (k := k) (b := s.heap.size) (ad := ad2) (g := gO (enC g (la xs i 1)) (goG g (pI g (la xs i 1) - 1) (g.1 40 0)) g) (o := o2) hI.RI (la xs i 1) (pI g (la xs i 1) - 1) (pI_q hI)
  rw [enC_eq hI (la xs i 1)] at hm
  refine k_w (va_runV (As := [.int (la xs i 1)]) (rest := []) ⟨hx, hb, hml, hown, ha⟩ hm ⟨cb_of ha wk_X5_end wi_X5 wm_L_89 sd_X5_end rfl rfl ⟨Nat.le_of_ble_eq_true rfl, Nat.le_of_ble_eq_true rfl⟩, ha _ wv_X5_end, ha _ wl_X5_end⟩ (P0.preV hC hS hH (Hp.recv hC.1 hH (7, 0, 0) ⟨rfl, rfl⟩ rfl rfl)) rfl rfl hl.1 rfl (lv_room (Nat.le_of_ble_eq_true rfl)) dL_law_550 ⟨show cells + (3 * B + 1) + 0 ≤ 601024 by omega, show slots + (132 * B + 6) + 0 ≤ 7293034 by omega⟩) hS (fun H1 locs1 hH hS => ?_)
  refine W.eq (g2 := F0 m 553 ls [.int (vO (enC g (la xs i 1)) (M 21 (pI g (la xs i 1) - 1)))]) rfl ?_
  refine lv_istore (lv' := [(7, .int (vO (enC g (la xs i 1)) (M 21 (pI g (la xs i 1) - 1)))), (6, .int (nI (enC g (la xs i 1)))), (0, .ref sb), (1, .ref (ad2 (0, 0, 0))), (2, .ref (ad2 (7, 0, 0))), (3, .ref (ad2 (9, 0, 0))), (4, .ref (ad2 (9, 1, 0))), (5, .int (nI (8 * i)))]) hx hb dL_law_553 hl (by decide) rfl (fun ls hl => ?_)
  refine lv_aload_n hx hb dL_law_555 rfl (lv_at hl 4 rfl) ?_
  refine k_r (va_runV (As := []) (rest := []) ⟨hx, hb, hml, hown, ha⟩ (mX5_thrown l (M := rO M (enC g (la xs i 1)) (up (rT M) 21 (pI g (la xs i 1) - 1) (-1)))) ⟨cb_of ha wk_X5_thrown wi_X5 wm_L_69 sd_X5_thrown rfl rfl ⟨Nat.le_of_ble_eq_true rfl, Nat.le_of_ble_eq_true rfl⟩, ha _ wv_X5_thrown, ha _ wl_X5_thrown⟩ (P0.preV hC hS hH (Hp.recv hC.1 hH (7, 0, 0) ⟨rfl, rfl⟩ rfl rfl)) rfl rfl hl.1 rfl (lv_room (Nat.le_of_ble_eq_true rfl)) dL_law_556 ⟨show cells + (3 * B + 1) + 0 + 0 ≤ 601024 by omega, show slots + (132 * B + 6) + 0 + 0 ≤ 7293034 by omega⟩) ?_
  refine W.eq (g2 := F0 m 559 ls [.int (nI (enC g (la xs i 1)))]) (by rw [th_eq (th_end)]; rfl) ?_
  refine lv_iload hx hb dL_law_559 (lv_at hl 1 rfl) ?_
  refine lv_icmp_eq (tgt := 566) hx hb dL_law_561 (by decide) (fun _ => ?_) (fun cq => absurd rfl cq)
  refine lv_iload hx hb dL_law_566 (lv_at hl 1 rfl) ?_
  refine lv_if_ne (tgt := 583) hx hb dL_law_568 (by decide) (fun _ => ?_) (fun cz => ?_)
  · skip
    refine lv_goto (tgt := 1049) hx hb dL_law_583 (by decide) ?_
    exact kk H1 locs1 _ _ ls ⟨ad2, gO (enC g (la xs i 1)) (goG g (pI g (la xs i 1) - 1) (g.1 40 0)) g, rO M (enC g (la xs i 1)) (up (rT M) 21 (pI g (la xs i 1) - 1) (-1)), o2, hH, hS, hI2, by omega, by omega, lv_sub hl [2, 3, 4, 5, 6, 7] rfl⟩
  · skip
    have cz := c_0 (le_end g (la xs i 1)) cz
    refine lv_aload_n hx hb dL_law_571 rfl (lv_at hl 5 rfl) ?_
    refine lv_iconst (v := nI 0) hx hb dL_law_572 (by decide) ?_
    refine r_lald hx hb hC hH (9, 0, 0) ⟨by decide, rfl⟩ (f := o2.1) (n := 1) rfl (vp_in_nI (n := 0) (by decide) (by decide)) dL_law_573 ?_
    refine W.eq (g2 := F0 m 574 ls [.long (cnI g (pI g (la xs i 1) - 1)).toInt64]) (by rw [← hv cz, nI_clamp (by decide)]) ?_
    refine lv_iload hx hb dL_law_574 (lv_at hl 0 rfl) ?_
    refine W.eq (g2 := F0 m 576 ls [.int (cnI g (pI g (la xs i 1) - 1)), .long (cnI g (pI g (la xs i 1) - 1)).toInt64]) (by rw [show vO (enC g (la xs i 1)) (M 21 (pI g (la xs i 1) - 1)) = cnI g (pI g (la xs i 1) - 1) by rw [vO, if_pos cz]; exact (S_end hI (la xs i 1)).2 cz]) ?_
    refine lv_i2l (v := (cnI g (pI g (la xs i 1) - 1)).toInt64) hx hb dL_law_576 rfl ?_
    refine W.lcmp hx hb dL_law_577 ?_
    refine W.eq (g2 := F0 m 578 ls [.int 0]) (by rw [cmp_0]) ?_
    refine lv_if_eq (tgt := 583) hx hb dL_law_578 (by decide) (fun _ => ?_) (fun cq => absurd rfl cq)
    refine lv_goto (tgt := 1049) hx hb dL_law_583 (by decide) ?_
    exact kk H1 locs1 _ _ ls ⟨ad2, gO (enC g (la xs i 1)) (goG g (pI g (la xs i 1) - 1) (g.1 40 0)) g, rO M (enC g (la xs i 1)) (up (rT M) 21 (pI g (la xs i 1) - 1) (-1)), o2, hH, hS, hI2, by omega, by omega, lv_sub hl [2, 3, 4, 5, 6, 7] rfl⟩

set_option maxHeartbeats 4000000 in
set_option maxRecDepth 100000 in
theorem LB_move {p : Program} {e : Env} {s : State} {m : MethodId} {below : List Frame} {meth : Method} {c : Code} {l : Launch} (hlf : l.stackTraces = false) {sb L : Nat} {xs : Nat → Int32} (hL : L ≤ 4096) (C0 : lw_At p s m meth c sb L xs) {D : va_G} {k : Nat → ClassId} (hC : Cs D k s.heap.size s) {i : Nat} (hi : 8 * i + 8 ≤ L) {H : Heap} {locs : List Loc} {cells slots : Nat} {ls : Array Slot} (hV : LV D k s sb i (nI (8 * i)) H locs cells slots ls) (kk : ∀ (H : Heap) (locs : List Loc) (cells slots : Nat) (ls : Array Slot), LV D k s sb (i + 1) (nI (8 * i)) H locs cells slots ls → W p l e room_1 s m #[Value.ref sb] below meth c H locs cells slots (lw_Z below #[Value.ref sb] s) (F0 m 1049 ls [])) : W p l e room_1 s m #[Value.ref sb] below meth c H locs cells slots (lw_Z below #[Value.ref sb] s) (F0 m 586 ls []) := by
  obtain ⟨hx, hb, hr, hml, hown, hts, hX, hbl, hlocks, hgv⟩ := id C0
  have hown : s.vm.findClass RL = some m.cls := hown
  have ha : ∀ w ∈ AW, w.before #[Value.ref sb] s = true := fun w h => hts w (List.mem_filter.mp h).1
  obtain ⟨ad, g, M, o, hH, hS, hI, hc, hs, hl⟩ := hV
  have htb := tb_le hI.1.2.1
  refine lv_aload_n hx hb dL_law_586 rfl (lv_at hl 1 rfl) ?_
  refine lv_aload_n hx hb dL_law_587 rfl (lv_at hl 0 rfl) ?_
  refine lv_iload hx hb dL_law_588 (lv_at hl 5 rfl) ?_
  refine lv_iconst (v := nI 1) hx hb dL_law_590 (by decide) ?_
  refine lv_iadd hx hb dL_law_591 ?_
  refine la_ld hx hb hX hbl hS hL hi 1 (by decide) dL_law_592 ?_
  refine lv_aload_n hx hb dL_law_593 rfl (lv_at hl 0 rfl) ?_
  refine lv_iload hx hb dL_law_594 (lv_at hl 5 rfl) ?_
  refine lv_iconst (v := nI 2) hx hb dL_law_596 (by decide) ?_
  refine lv_iadd hx hb dL_law_597 ?_
  refine la_ld hx hb hX hbl hS hL hi 2 (by decide) dL_law_598 ?_
  refine lv_aload_n hx hb dL_law_599 rfl (lv_at hl 3 rfl) ?_
  obtain ⟨B, hB⟩ : ∃ B, B = tb (gO (mvC g (la xs i 1) (la xs i 2)) (moveG g (pI g (la xs i 1) - 1) (la xs i 2)) g) - tb g := ⟨_, rfl⟩
  have hI2 : SI (gO (mvC g (la xs i 1) (la xs i 2)) (moveG g (pI g (la xs i 1) - 1) (la xs i 2)) g) (rO M (mvC g (la xs i 1) (la xs i 2)) (rmvG (rT M) (pI g (la xs i 1) - 1) (la xs i 2))) := (S_move hI (la xs i 1) (la xs i 2)).1
  have htm : tb g ≤ tb (gO (mvC g (la xs i 1) (la xs i 2)) (moveG g (pI g (la xs i 1) - 1) (la xs i 2)) g) := tm_move hI
  have htb2 := tb_le hI2.1.2.1
  refine k_w (vx_runSW (As := [.ref (ad (0, 0, 0)), .int (la xs i 1), .int (la xs i 2), .ref (ad (9, 0, 0))]) (rest := []) ⟨hx, hb, hml, hown, ha⟩ (mL_move l hlf hI.1.1 (la xs i 1) (la xs i 2) B (by intro q; rw [hB]; exact tb_gB q)) (ch_of ha wk_L_move wi_L wm_L_90 wz_L_move sd_L_move rfl rfl ⟨Nat.le_of_ble_eq_true rfl, Nat.le_of_ble_eq_true rfl⟩) (P0.pre hC hS hH) rfl rfl hl.1 rfl (lv_room (Nat.le_of_ble_eq_true rfl)) dL_law_600 ⟨show cells + (3 * B + 1) ≤ 601024 by omega, show slots + (132 * B + 6) ≤ 7293034 by omega⟩) hS (fun H1 locs1 hB1 hS => ?_)
  obtain ⟨ad2, o2, hE, hv, hH⟩ := hB1
  have hl : lv_has ls 8 [(0, .ref sb), (1, .ref (ad2 (0, 0, 0))), (2, .ref (ad2 (7, 0, 0))), (3, .ref (ad2 (9, 0, 0))), (4, .ref (ad2 (9, 1, 0))), (5, .int (nI (8 * i)))] := by rw [hE (0, 0, 0) (by decide) ⟨by decide, rfl⟩, hE (7, 0, 0) (by decide) ⟨rfl, rfl⟩, hE (9, 0, 0) (by decide) ⟨by decide, rfl⟩, hE (9, 1, 0) (by decide) ⟨by decide, rfl⟩]; exact hl
  refine W.eq (g2 := F0 m 603 ls [.int (nI (mvC g (la xs i 1) (la xs i 2)))]) rfl ?_
  refine lv_istore (lv' := [(6, .int (nI (mvC g (la xs i 1) (la xs i 2)))), (0, .ref sb), (1, .ref (ad2 (0, 0, 0))), (2, .ref (ad2 (7, 0, 0))), (3, .ref (ad2 (9, 0, 0))), (4, .ref (ad2 (9, 1, 0))), (5, .int (nI (8 * i)))]) hx hb dL_law_603 hl (by decide) rfl (fun ls hl => ?_)
  refine lv_aload_n hx hb dL_law_605 rfl (lv_at hl 3 rfl) ?_
  refine lv_aload_n hx hb dL_law_606 rfl (lv_at hl 1 rfl) ?_
  refine lv_iload hx hb dL_law_607 (lv_at hl 6 rfl) ?_
  refine lv_iconst (v := nI 1) hx hb dL_law_609 (by decide) ?_
  refine lv_iadd hx hb dL_law_610 ?_
  refine la_ld hx hb hX hbl hS hL hi 1 (by decide) dL_law_611 ?_
  refine lv_aload_n hx hb dL_law_612 rfl (lv_at hl 1 rfl) ?_
  refine lv_iload hx hb dL_law_613 (lv_at hl 6 rfl) ?_
  refine lv_iconst (v := nI 2) hx hb dL_law_615 (by decide) ?_
  refine lv_iadd hx hb dL_law_616 ?_
  refine la_ld hx hb hX hbl hS hL hi 2 (by decide) dL_law_617 ?_
  have hm := mX5_move l (D := D) (k := k) (b := s.heap.size) (ad := ad2) (g := gO (mvC g (la xs i 1) (la xs i 2)) (moveG g (pI g (la xs i 1) - 1) (la xs i 2)) g) (o := o2) hI.RI (la xs i 1) (la xs i 2) (pI g (la xs i 1) - 1) (pI_q hI)
  rw [mvC_eq hI (la xs i 1) (la xs i 2)] at hm
  refine k_w (va_runV (As := [.int (la xs i 1), .int (la xs i 2)]) (rest := []) ⟨hx, hb, hml, hown, ha⟩ hm ⟨cb_of ha wk_X5_move wi_X5 wm_L_93 sd_X5_move rfl rfl ⟨Nat.le_of_ble_eq_true rfl, Nat.le_of_ble_eq_true rfl⟩, ha _ wv_X5_move, ha _ wl_X5_move⟩ (P0.preV hC hS hH (Hp.recv hC.1 hH (7, 0, 0) ⟨rfl, rfl⟩ rfl rfl)) rfl rfl hl.1 rfl (lv_room (Nat.le_of_ble_eq_true rfl)) dL_law_618 ⟨show cells + (3 * B + 1) + 0 ≤ 601024 by omega, show slots + (132 * B + 6) + 0 ≤ 7293034 by omega⟩) hS (fun H1 locs1 hH hS => ?_)
  refine W.eq (g2 := F0 m 621 ls [.int (vO (mvC g (la xs i 1) (la xs i 2)) (rmvG (rT M) (pI g (la xs i 1) - 1) (la xs i 2) 21 (pI g (la xs i 1) - 1)))]) rfl ?_
  refine lv_istore (lv' := [(7, .int (vO (mvC g (la xs i 1) (la xs i 2)) (rmvG (rT M) (pI g (la xs i 1) - 1) (la xs i 2) 21 (pI g (la xs i 1) - 1)))), (6, .int (nI (mvC g (la xs i 1) (la xs i 2)))), (0, .ref sb), (1, .ref (ad2 (0, 0, 0))), (2, .ref (ad2 (7, 0, 0))), (3, .ref (ad2 (9, 0, 0))), (4, .ref (ad2 (9, 1, 0))), (5, .int (nI (8 * i)))]) hx hb dL_law_621 hl (by decide) rfl (fun ls hl => ?_)
  refine lv_aload_n hx hb dL_law_623 rfl (lv_at hl 4 rfl) ?_
  refine k_r (va_runV (As := []) (rest := []) ⟨hx, hb, hml, hown, ha⟩ (mX5_thrown l (M := rO M (mvC g (la xs i 1) (la xs i 2)) (rmvG (rT M) (pI g (la xs i 1) - 1) (la xs i 2)))) ⟨cb_of ha wk_X5_thrown wi_X5 wm_L_69 sd_X5_thrown rfl rfl ⟨Nat.le_of_ble_eq_true rfl, Nat.le_of_ble_eq_true rfl⟩, ha _ wv_X5_thrown, ha _ wl_X5_thrown⟩ (P0.preV hC hS hH (Hp.recv hC.1 hH (7, 0, 0) ⟨rfl, rfl⟩ rfl rfl)) rfl rfl hl.1 rfl (lv_room (Nat.le_of_ble_eq_true rfl)) dL_law_624 ⟨show cells + (3 * B + 1) + 0 + 0 ≤ 601024 by omega, show slots + (132 * B + 6) + 0 + 0 ≤ 7293034 by omega⟩) ?_
  refine W.eq (g2 := F0 m 627 ls [.int (nI (mvC g (la xs i 1) (la xs i 2)))]) (by rw [th_eq (th_move)]; rfl) ?_
  refine lv_iload hx hb dL_law_627 (lv_at hl 1 rfl) ?_
  refine lv_icmp_eq (tgt := 634) hx hb dL_law_629 (by decide) (fun _ => ?_) (fun cq => absurd rfl cq)
  refine lv_iload hx hb dL_law_634 (lv_at hl 1 rfl) ?_
  refine lv_if_ne (tgt := 651) hx hb dL_law_636 (by decide) (fun _ => ?_) (fun cz => ?_)
  · skip
    refine lv_goto (tgt := 1049) hx hb dL_law_651 (by decide) ?_
    exact kk H1 locs1 _ _ ls ⟨ad2, gO (mvC g (la xs i 1) (la xs i 2)) (moveG g (pI g (la xs i 1) - 1) (la xs i 2)) g, rO M (mvC g (la xs i 1) (la xs i 2)) (rmvG (rT M) (pI g (la xs i 1) - 1) (la xs i 2)), o2, hH, hS, hI2, by omega, by omega, lv_sub hl [2, 3, 4, 5, 6, 7] rfl⟩
  · skip
    have cz := c_0 (le_move g (la xs i 1) (la xs i 2)) cz
    refine lv_aload_n hx hb dL_law_639 rfl (lv_at hl 5 rfl) ?_
    refine lv_iconst (v := nI 0) hx hb dL_law_640 (by decide) ?_
    refine r_lald hx hb hC hH (9, 0, 0) ⟨by decide, rfl⟩ (f := o2.1) (n := 1) rfl (vp_in_nI (n := 0) (by decide) (by decide)) dL_law_641 ?_
    refine W.eq (g2 := F0 m 642 ls [.long (cnI (moveG g (pI g (la xs i 1) - 1) (la xs i 2)) (pI g (la xs i 1) - 1)).toInt64]) (by rw [← hv cz, nI_clamp (by decide)]) ?_
    refine lv_iload hx hb dL_law_642 (lv_at hl 0 rfl) ?_
    refine W.eq (g2 := F0 m 644 ls [.int (cnI (moveG g (pI g (la xs i 1) - 1) (la xs i 2)) (pI g (la xs i 1) - 1)), .long (cnI (moveG g (pI g (la xs i 1) - 1) (la xs i 2)) (pI g (la xs i 1) - 1)).toInt64]) (by rw [show vO (mvC g (la xs i 1) (la xs i 2)) (rmvG (rT M) (pI g (la xs i 1) - 1) (la xs i 2) 21 (pI g (la xs i 1) - 1)) = cnI (moveG g (pI g (la xs i 1) - 1) (la xs i 2)) (pI g (la xs i 1) - 1) by rw [vO, if_pos cz]; exact (S_move hI (la xs i 1) (la xs i 2)).2 cz]) ?_
    refine lv_i2l (v := (cnI (moveG g (pI g (la xs i 1) - 1) (la xs i 2)) (pI g (la xs i 1) - 1)).toInt64) hx hb dL_law_644 rfl ?_
    refine W.lcmp hx hb dL_law_645 ?_
    refine W.eq (g2 := F0 m 646 ls [.int 0]) (by rw [cmp_0]) ?_
    refine lv_if_eq (tgt := 651) hx hb dL_law_646 (by decide) (fun _ => ?_) (fun cq => absurd rfl cq)
    refine lv_goto (tgt := 1049) hx hb dL_law_651 (by decide) ?_
    exact kk H1 locs1 _ _ ls ⟨ad2, gO (mvC g (la xs i 1) (la xs i 2)) (moveG g (pI g (la xs i 1) - 1) (la xs i 2)) g, rO M (mvC g (la xs i 1) (la xs i 2)) (rmvG (rT M) (pI g (la xs i 1) - 1) (la xs i 2)), o2, hH, hS, hI2, by omega, by omega, lv_sub hl [2, 3, 4, 5, 6, 7] rfl⟩

set_option maxHeartbeats 4000000 in
set_option maxRecDepth 100000 in
theorem LB_pass {p : Program} {e : Env} {s : State} {m : MethodId} {below : List Frame} {meth : Method} {c : Code} {l : Launch} (hlf : l.stackTraces = false) {sb L : Nat} {xs : Nat → Int32} (hL : L ≤ 4096) (C0 : lw_At p s m meth c sb L xs) {D : va_G} {k : Nat → ClassId} (hC : Cs D k s.heap.size s) {i : Nat} (hi : 8 * i + 8 ≤ L) {H : Heap} {locs : List Loc} {cells slots : Nat} {ls : Array Slot} (hV : LV D k s sb i (nI (8 * i)) H locs cells slots ls) (kk : ∀ (H : Heap) (locs : List Loc) (cells slots : Nat) (ls : Array Slot), LV D k s sb (i + 1) (nI (8 * i)) H locs cells slots ls → W p l e room_1 s m #[Value.ref sb] below meth c H locs cells slots (lw_Z below #[Value.ref sb] s) (F0 m 1049 ls [])) : W p l e room_1 s m #[Value.ref sb] below meth c H locs cells slots (lw_Z below #[Value.ref sb] s) (F0 m 654 ls []) := by
  obtain ⟨hx, hb, hr, hml, hown, hts, hX, hbl, hlocks, hgv⟩ := id C0
  have hown : s.vm.findClass RL = some m.cls := hown
  have ha : ∀ w ∈ AW, w.before #[Value.ref sb] s = true := fun w h => hts w (List.mem_filter.mp h).1
  obtain ⟨ad, g, M, o, hH, hS, hI, hc, hs, hl⟩ := hV
  have htb := tb_le hI.1.2.1
  refine lv_aload_n hx hb dL_law_654 rfl (lv_at hl 1 rfl) ?_
  refine lv_aload_n hx hb dL_law_655 rfl (lv_at hl 0 rfl) ?_
  refine lv_iload hx hb dL_law_656 (lv_at hl 5 rfl) ?_
  refine lv_iconst (v := nI 1) hx hb dL_law_658 (by decide) ?_
  refine lv_iadd hx hb dL_law_659 ?_
  refine la_ld hx hb hX hbl hS hL hi 1 (by decide) dL_law_660 ?_
  refine lv_aload_n hx hb dL_law_661 rfl (lv_at hl 3 rfl) ?_
  obtain ⟨B, hB⟩ : ∃ B, B = tb (gO (paC g (la xs i 1)) (hrsG g (la xs i 1).toNatClampNeg) g) - tb g := ⟨_, rfl⟩
  have hI2 : SI (gO (paC g (la xs i 1)) (hrsG g (la xs i 1).toNatClampNeg) g) (rO M (paC g (la xs i 1)) (rhrsG (rT M) (la xs i 1).toNatClampNeg)) := (S_pass hI (la xs i 1)).1
  have htm : tb g ≤ tb (gO (paC g (la xs i 1)) (hrsG g (la xs i 1).toNatClampNeg) g) := tm_pass hI
  have htb2 := tb_le hI2.1.2.1
  refine k_w (vx_runSW (As := [.ref (ad (0, 0, 0)), .int (la xs i 1), .ref (ad (9, 0, 0))]) (rest := []) ⟨hx, hb, hml, hown, ha⟩ (mL_pass l hlf hI.1.1 (la xs i 1) B (by intro q; rw [hB]; exact tb_gB q)) (ch_of ha wk_L_pass wi_L wm_L_94 wz_L_pass sd_L_pass rfl rfl ⟨Nat.le_of_ble_eq_true rfl, Nat.le_of_ble_eq_true rfl⟩) (P0.pre hC hS hH) rfl rfl hl.1 rfl (lv_room (Nat.le_of_ble_eq_true rfl)) dL_law_662 ⟨show cells + (3 * B + 1) ≤ 601024 by omega, show slots + (132 * B + 6) ≤ 7293034 by omega⟩) hS (fun H1 locs1 hB1 hS => ?_)
  obtain ⟨ad2, o2, hE, hv, hH⟩ := hB1
  have hl : lv_has ls 8 [(0, .ref sb), (1, .ref (ad2 (0, 0, 0))), (2, .ref (ad2 (7, 0, 0))), (3, .ref (ad2 (9, 0, 0))), (4, .ref (ad2 (9, 1, 0))), (5, .int (nI (8 * i)))] := by rw [hE (0, 0, 0) (by decide) ⟨by decide, rfl⟩, hE (7, 0, 0) (by decide) ⟨rfl, rfl⟩, hE (9, 0, 0) (by decide) ⟨by decide, rfl⟩, hE (9, 1, 0) (by decide) ⟨by decide, rfl⟩]; exact hl
  refine W.eq (g2 := F0 m 665 ls [.int (nI (paC g (la xs i 1)))]) rfl ?_
  refine lv_istore (lv' := [(6, .int (nI (paC g (la xs i 1)))), (0, .ref sb), (1, .ref (ad2 (0, 0, 0))), (2, .ref (ad2 (7, 0, 0))), (3, .ref (ad2 (9, 0, 0))), (4, .ref (ad2 (9, 1, 0))), (5, .int (nI (8 * i)))]) hx hb dL_law_665 hl (by decide) rfl (fun ls hl => ?_)
  refine lv_aload_n hx hb dL_law_667 rfl (lv_at hl 3 rfl) ?_
  refine lv_aload_n hx hb dL_law_668 rfl (lv_at hl 1 rfl) ?_
  refine lv_iload hx hb dL_law_669 (lv_at hl 6 rfl) ?_
  refine lv_iconst (v := nI 1) hx hb dL_law_671 (by decide) ?_
  refine lv_iadd hx hb dL_law_672 ?_
  refine la_ld hx hb hX hbl hS hL hi 1 (by decide) dL_law_673 ?_
  have hm := mX5_pass l (D := D) (k := k) (b := s.heap.size) (ad := ad2) (g := gO (paC g (la xs i 1)) (hrsG g (la xs i 1).toNatClampNeg) g) (o := o2) hI.RI (la xs i 1) (la xs i 1).toNatClampNeg inB_100
  rw [paC_eq hI (la xs i 1)] at hm
  refine k_w (va_runV (As := [.int (la xs i 1)]) (rest := []) ⟨hx, hb, hml, hown, ha⟩ hm ⟨cb_of ha wk_X5_pass wi_X5 wm_L_96 sd_X5_pass rfl rfl ⟨Nat.le_of_ble_eq_true rfl, Nat.le_of_ble_eq_true rfl⟩, ha _ wv_X5_pass, ha _ wl_X5_pass⟩ (P0.preV hC hS hH (Hp.recv hC.1 hH (7, 0, 0) ⟨rfl, rfl⟩ rfl rfl)) rfl rfl hl.1 rfl (lv_room (Nat.le_of_ble_eq_true rfl)) dL_law_674 ⟨show cells + (3 * B + 1) + 0 ≤ 601024 by omega, show slots + (132 * B + 6) + 0 ≤ 7293034 by omega⟩) hS (fun H1 locs1 hH hS => ?_)
  refine W.eq (g2 := F0 m 677 ls [.int (vO (paC g (la xs i 1)) (rhrsG (rT M) (la xs i 1).toNatClampNeg 0 0))]) rfl ?_
  refine lv_istore (lv' := [(7, .int (vO (paC g (la xs i 1)) (rhrsG (rT M) (la xs i 1).toNatClampNeg 0 0))), (6, .int (nI (paC g (la xs i 1)))), (0, .ref sb), (1, .ref (ad2 (0, 0, 0))), (2, .ref (ad2 (7, 0, 0))), (3, .ref (ad2 (9, 0, 0))), (4, .ref (ad2 (9, 1, 0))), (5, .int (nI (8 * i)))]) hx hb dL_law_677 hl (by decide) rfl (fun ls hl => ?_)
  refine lv_aload_n hx hb dL_law_679 rfl (lv_at hl 4 rfl) ?_
  refine k_r (va_runV (As := []) (rest := []) ⟨hx, hb, hml, hown, ha⟩ (mX5_thrown l (M := rO M (paC g (la xs i 1)) (rhrsG (rT M) (la xs i 1).toNatClampNeg))) ⟨cb_of ha wk_X5_thrown wi_X5 wm_L_69 sd_X5_thrown rfl rfl ⟨Nat.le_of_ble_eq_true rfl, Nat.le_of_ble_eq_true rfl⟩, ha _ wv_X5_thrown, ha _ wl_X5_thrown⟩ (P0.preV hC hS hH (Hp.recv hC.1 hH (7, 0, 0) ⟨rfl, rfl⟩ rfl rfl)) rfl rfl hl.1 rfl (lv_room (Nat.le_of_ble_eq_true rfl)) dL_law_680 ⟨show cells + (3 * B + 1) + 0 + 0 ≤ 601024 by omega, show slots + (132 * B + 6) + 0 + 0 ≤ 7293034 by omega⟩) ?_
  refine W.eq (g2 := F0 m 683 ls [.int (nI (paC g (la xs i 1)))]) (by rw [th_eq (th_pass)]; rfl) ?_
  refine lv_iload hx hb dL_law_683 (lv_at hl 1 rfl) ?_
  refine lv_icmp_eq (tgt := 690) hx hb dL_law_685 (by decide) (fun _ => ?_) (fun cq => absurd rfl cq)
  refine lv_iload hx hb dL_law_690 (lv_at hl 1 rfl) ?_
  refine lv_if_ne (tgt := 707) hx hb dL_law_692 (by decide) (fun _ => ?_) (fun cz => ?_)
  · skip
    refine lv_goto (tgt := 1049) hx hb dL_law_707 (by decide) ?_
    exact kk H1 locs1 _ _ ls ⟨ad2, gO (paC g (la xs i 1)) (hrsG g (la xs i 1).toNatClampNeg) g, rO M (paC g (la xs i 1)) (rhrsG (rT M) (la xs i 1).toNatClampNeg), o2, hH, hS, hI2, by omega, by omega, lv_sub hl [2, 3, 4, 5, 6, 7] rfl⟩
  · skip
    have cz := c_0 (le_pass g (la xs i 1)) cz
    refine lv_aload_n hx hb dL_law_695 rfl (lv_at hl 5 rfl) ?_
    refine lv_iconst (v := nI 0) hx hb dL_law_696 (by decide) ?_
    refine r_lald hx hb hC hH (9, 0, 0) ⟨by decide, rfl⟩ (f := o2.1) (n := 1) rfl (vp_in_nI (n := 0) (by decide) (by decide)) dL_law_697 ?_
    refine W.eq (g2 := F0 m 698 ls [.long ((hrsG g (la xs i 1).toNatClampNeg).1 40 0).toInt64]) (by rw [← hv cz, nI_clamp (by decide)]) ?_
    refine lv_iload hx hb dL_law_698 (lv_at hl 0 rfl) ?_
    refine W.eq (g2 := F0 m 700 ls [.int ((hrsG g (la xs i 1).toNatClampNeg).1 40 0), .long ((hrsG g (la xs i 1).toNatClampNeg).1 40 0).toInt64]) (by rw [show vO (paC g (la xs i 1)) (rhrsG (rT M) (la xs i 1).toNatClampNeg 0 0) = (hrsG g (la xs i 1).toNatClampNeg).1 40 0 by rw [vO, if_pos cz]; exact (S_pass hI (la xs i 1)).2 cz]) ?_
    refine lv_i2l (v := ((hrsG g (la xs i 1).toNatClampNeg).1 40 0).toInt64) hx hb dL_law_700 rfl ?_
    refine W.lcmp hx hb dL_law_701 ?_
    refine W.eq (g2 := F0 m 702 ls [.int 0]) (by rw [cmp_0]) ?_
    refine lv_if_eq (tgt := 707) hx hb dL_law_702 (by decide) (fun _ => ?_) (fun cq => absurd rfl cq)
    refine lv_goto (tgt := 1049) hx hb dL_law_707 (by decide) ?_
    exact kk H1 locs1 _ _ ls ⟨ad2, gO (paC g (la xs i 1)) (hrsG g (la xs i 1).toNatClampNeg) g, rO M (paC g (la xs i 1)) (rhrsG (rT M) (la xs i 1).toNatClampNeg), o2, hH, hS, hI2, by omega, by omega, lv_sub hl [2, 3, 4, 5, 6, 7] rfl⟩

set_option maxHeartbeats 4000000 in
set_option maxRecDepth 100000 in
theorem LB_ofMast {p : Program} {e : Env} {s : State} {m : MethodId} {below : List Frame} {meth : Method} {c : Code} {l : Launch} (hlf : l.stackTraces = false) {sb L : Nat} {xs : Nat → Int32} (hL : L ≤ 4096) (C0 : lw_At p s m meth c sb L xs) {D : va_G} {k : Nat → ClassId} (hC : Cs D k s.heap.size s) {i : Nat} (hi : 8 * i + 8 ≤ L) {H : Heap} {locs : List Loc} {cells slots : Nat} {ls : Array Slot} (hV : LV D k s sb i (nI (8 * i)) H locs cells slots ls) (kk : ∀ (H : Heap) (locs : List Loc) (cells slots : Nat) (ls : Array Slot), LV D k s sb (i + 1) (nI (8 * i)) H locs cells slots ls → W p l e room_1 s m #[Value.ref sb] below meth c H locs cells slots (lw_Z below #[Value.ref sb] s) (F0 m 1049 ls [])) : W p l e room_1 s m #[Value.ref sb] below meth c H locs cells slots (lw_Z below #[Value.ref sb] s) (F0 m 710 ls []) := by
  obtain ⟨hx, hb, hr, hml, hown, hts, hX, hbl, hlocks, hgv⟩ := id C0
  have hown : s.vm.findClass RL = some m.cls := hown
  have ha : ∀ w ∈ AW, w.before #[Value.ref sb] s = true := fun w h => hts w (List.mem_filter.mp h).1
  obtain ⟨ad, g, M, o, hH, hS, hI, hc, hs, hl⟩ := hV
  have htb := tb_le hI.1.2.1
  refine lv_aload_n hx hb dL_law_710 rfl (lv_at hl 1 rfl) ?_
  refine lv_aload_n hx hb dL_law_711 rfl (lv_at hl 0 rfl) ?_
  refine lv_iload hx hb dL_law_712 (lv_at hl 5 rfl) ?_
  refine lv_iconst (v := nI 1) hx hb dL_law_714 (by decide) ?_
  refine lv_iadd hx hb dL_law_715 ?_
  refine la_ld hx hb hX hbl hS hL hi 1 (by decide) dL_law_716 ?_
  refine lv_aload_n hx hb dL_law_717 rfl (lv_at hl 0 rfl) ?_
  refine lv_iload hx hb dL_law_718 (lv_at hl 5 rfl) ?_
  refine lv_iconst (v := nI 2) hx hb dL_law_720 (by decide) ?_
  refine lv_iadd hx hb dL_law_721 ?_
  refine la_ld hx hb hX hbl hS hL hi 2 (by decide) dL_law_722 ?_
  refine lv_aload_n hx hb dL_law_723 rfl (lv_at hl 3 rfl) ?_
  have hI2 : SI (gO (omC g (la xs i 1) (la xs i 2)) (g) g) (rO M (omC g (la xs i 1) (la xs i 2)) (rT M)) := SI_read hI _
  have htm : tb g ≤ tb (gO (omC g (la xs i 1) (la xs i 2)) (g) g) := tm_id
  have htb2 := tb_le hI2.1.2.1
  refine k_w (vx_runSW (As := [.ref (ad (0, 0, 0)), .int (la xs i 1), .int (la xs i 2), .ref (ad (9, 0, 0))]) (rest := []) ⟨hx, hb, hml, hown, ha⟩ (mL_ofMast l hlf (la xs i 1) (la xs i 2)) (ch_of ha wk_L_ofMast wi_L wm_L_97 wz_L_ofMast sd_L_ofMast rfl rfl ⟨Nat.le_of_ble_eq_true rfl, Nat.le_of_ble_eq_true rfl⟩) (P0.pre hC hS hH) rfl rfl hl.1 rfl (lv_room (Nat.le_of_ble_eq_true rfl)) dL_law_724 ⟨show cells + (1) ≤ 601024 by omega, show slots + (6) ≤ 7293034 by omega⟩) hS (fun H1 locs1 hB1 hS => ?_)
  obtain ⟨ad2, o2, hE, hv, hH⟩ := hB1
  have hl : lv_has ls 8 [(0, .ref sb), (1, .ref (ad2 (0, 0, 0))), (2, .ref (ad2 (7, 0, 0))), (3, .ref (ad2 (9, 0, 0))), (4, .ref (ad2 (9, 1, 0))), (5, .int (nI (8 * i)))] := by rw [hE (0, 0, 0) (by decide) ⟨by decide, rfl⟩, hE (7, 0, 0) (by decide) ⟨rfl, rfl⟩, hE (9, 0, 0) (by decide) ⟨by decide, rfl⟩, hE (9, 1, 0) (by decide) ⟨by decide, rfl⟩]; exact hl
  refine W.eq (g2 := F0 m 727 ls [.int (nI (omC g (la xs i 1) (la xs i 2)))]) rfl ?_
  refine lv_istore (lv' := [(6, .int (nI (omC g (la xs i 1) (la xs i 2)))), (0, .ref sb), (1, .ref (ad2 (0, 0, 0))), (2, .ref (ad2 (7, 0, 0))), (3, .ref (ad2 (9, 0, 0))), (4, .ref (ad2 (9, 1, 0))), (5, .int (nI (8 * i)))]) hx hb dL_law_727 hl (by decide) rfl (fun ls hl => ?_)
  refine lv_aload_n hx hb dL_law_729 rfl (lv_at hl 3 rfl) ?_
  refine lv_aload_n hx hb dL_law_730 rfl (lv_at hl 1 rfl) ?_
  refine lv_iload hx hb dL_law_731 (lv_at hl 6 rfl) ?_
  refine lv_iconst (v := nI 1) hx hb dL_law_733 (by decide) ?_
  refine lv_iadd hx hb dL_law_734 ?_
  refine la_ld hx hb hX hbl hS hL hi 1 (by decide) dL_law_735 ?_
  refine lv_aload_n hx hb dL_law_736 rfl (lv_at hl 1 rfl) ?_
  refine lv_iload hx hb dL_law_737 (lv_at hl 6 rfl) ?_
  refine lv_iconst (v := nI 2) hx hb dL_law_739 (by decide) ?_
  refine lv_iadd hx hb dL_law_740 ?_
  refine la_ld hx hb hX hbl hS hL hi 2 (by decide) dL_law_741 ?_
  have hm := mX5_ofMast l (D := D) (k := k) (b := s.heap.size) (ad := ad2) (g := gO (omC g (la xs i 1) (la xs i 2)) (g) g) (o := o2) hI.RI (la xs i 1) (la xs i 2) (mI g (la xs i 1) - 1) (mI_q hI)
  rw [omC_eq hI (la xs i 1) (la xs i 2)] at hm
  refine k_w (va_runV (As := [.int (la xs i 1), .int (la xs i 2)]) (rest := []) ⟨hx, hb, hml, hown, ha⟩ hm ⟨cb_of ha wk_X5_ofMast wi_X5 wm_L_99 sd_X5_ofMast rfl rfl ⟨Nat.le_of_ble_eq_true rfl, Nat.le_of_ble_eq_true rfl⟩, ha _ wv_X5_ofMast, ha _ wl_X5_ofMast⟩ (P0.preV hC hS hH (Hp.recv hC.1 hH (7, 0, 0) ⟨rfl, rfl⟩ rfl rfl)) rfl rfl hl.1 rfl (lv_room (Nat.le_of_ble_eq_true rfl)) dL_law_742 ⟨show cells + (1) + 0 ≤ 601024 by omega, show slots + (6) + 0 ≤ 7293034 by omega⟩) hS (fun H1 locs1 hH hS => ?_)
  refine W.eq (g2 := F0 m 745 ls [.int (vO (omC g (la xs i 1) (la xs i 2)) (rofMV (rT M) (mI g (la xs i 1) - 1) (la xs i 2)))]) rfl ?_
  refine lv_istore (lv' := [(7, .int (vO (omC g (la xs i 1) (la xs i 2)) (rofMV (rT M) (mI g (la xs i 1) - 1) (la xs i 2)))), (6, .int (nI (omC g (la xs i 1) (la xs i 2)))), (0, .ref sb), (1, .ref (ad2 (0, 0, 0))), (2, .ref (ad2 (7, 0, 0))), (3, .ref (ad2 (9, 0, 0))), (4, .ref (ad2 (9, 1, 0))), (5, .int (nI (8 * i)))]) hx hb dL_law_745 hl (by decide) rfl (fun ls hl => ?_)
  refine lv_aload_n hx hb dL_law_747 rfl (lv_at hl 4 rfl) ?_
  refine k_r (va_runV (As := []) (rest := []) ⟨hx, hb, hml, hown, ha⟩ (mX5_thrown l (M := rO M (omC g (la xs i 1) (la xs i 2)) (rT M))) ⟨cb_of ha wk_X5_thrown wi_X5 wm_L_69 sd_X5_thrown rfl rfl ⟨Nat.le_of_ble_eq_true rfl, Nat.le_of_ble_eq_true rfl⟩, ha _ wv_X5_thrown, ha _ wl_X5_thrown⟩ (P0.preV hC hS hH (Hp.recv hC.1 hH (7, 0, 0) ⟨rfl, rfl⟩ rfl rfl)) rfl rfl hl.1 rfl (lv_room (Nat.le_of_ble_eq_true rfl)) dL_law_748 ⟨show cells + (1) + 0 + 0 ≤ 601024 by omega, show slots + (6) + 0 + 0 ≤ 7293034 by omega⟩) ?_
  refine W.eq (g2 := F0 m 751 ls [.int (nI (omC g (la xs i 1) (la xs i 2)))]) (by rw [th_eq (rT_26)]; rfl) ?_
  refine lv_iload hx hb dL_law_751 (lv_at hl 1 rfl) ?_
  refine lv_icmp_eq (tgt := 758) hx hb dL_law_753 (by decide) (fun _ => ?_) (fun cq => absurd rfl cq)
  refine lv_iload hx hb dL_law_758 (lv_at hl 1 rfl) ?_
  refine lv_if_ne (tgt := 775) hx hb dL_law_760 (by decide) (fun _ => ?_) (fun cz => ?_)
  · skip
    refine lv_goto (tgt := 1049) hx hb dL_law_775 (by decide) ?_
    exact kk H1 locs1 _ _ ls ⟨ad2, gO (omC g (la xs i 1) (la xs i 2)) (g) g, rO M (omC g (la xs i 1) (la xs i 2)) (rT M), o2, hH, hS, hI2, by omega, by omega, lv_sub hl [2, 3, 4, 5, 6, 7] rfl⟩
  · skip
    have cz := c_0 (le_ofMast g (la xs i 1) (la xs i 2)) cz
    refine lv_aload_n hx hb dL_law_763 rfl (lv_at hl 5 rfl) ?_
    refine lv_iconst (v := nI 0) hx hb dL_law_764 (by decide) ?_
    refine r_lald hx hb hC hH (9, 0, 0) ⟨by decide, rfl⟩ (f := o2.1) (n := 1) rfl (vp_in_nI (n := 0) (by decide) (by decide)) dL_law_765 ?_
    refine W.eq (g2 := F0 m 766 ls [.long (ofMV g (mI g (la xs i 1) - 1) (la xs i 2)).toInt64]) (by rw [← hv cz, nI_clamp (by decide)]) ?_
    refine lv_iload hx hb dL_law_766 (lv_at hl 0 rfl) ?_
    refine W.eq (g2 := F0 m 768 ls [.int (ofMV g (mI g (la xs i 1) - 1) (la xs i 2)), .long (ofMV g (mI g (la xs i 1) - 1) (la xs i 2)).toInt64]) (by rw [show vO (omC g (la xs i 1) (la xs i 2)) (rofMV (rT M) (mI g (la xs i 1) - 1) (la xs i 2)) = ofMV g (mI g (la xs i 1) - 1) (la xs i 2) by rw [vO, if_pos cz]; exact V_ofMast hI (la xs i 1) (la xs i 2) cz]) ?_
    refine lv_i2l (v := (ofMV g (mI g (la xs i 1) - 1) (la xs i 2)).toInt64) hx hb dL_law_768 rfl ?_
    refine W.lcmp hx hb dL_law_769 ?_
    refine W.eq (g2 := F0 m 770 ls [.int 0]) (by rw [cmp_0]) ?_
    refine lv_if_eq (tgt := 775) hx hb dL_law_770 (by decide) (fun _ => ?_) (fun cq => absurd rfl cq)
    refine lv_goto (tgt := 1049) hx hb dL_law_775 (by decide) ?_
    exact kk H1 locs1 _ _ ls ⟨ad2, gO (omC g (la xs i 1) (la xs i 2)) (g) g, rO M (omC g (la xs i 1) (la xs i 2)) (rT M), o2, hH, hS, hI2, by omega, by omega, lv_sub hl [2, 3, 4, 5, 6, 7] rfl⟩

set_option maxHeartbeats 4000000 in
set_option maxRecDepth 100000 in
theorem LB_trafficAnew {p : Program} {e : Env} {s : State} {m : MethodId} {below : List Frame} {meth : Method} {c : Code} {l : Launch} (hlf : l.stackTraces = false) {sb L : Nat} {xs : Nat → Int32} (hL : L ≤ 4096) (C0 : lw_At p s m meth c sb L xs) {D : va_G} {k : Nat → ClassId} (hC : Cs D k s.heap.size s) {i : Nat} (hi : 8 * i + 8 ≤ L) {H : Heap} {locs : List Loc} {cells slots : Nat} {ls : Array Slot} (hV : LV D k s sb i (nI (8 * i)) H locs cells slots ls) (kk : ∀ (H : Heap) (locs : List Loc) (cells slots : Nat) (ls : Array Slot), LV D k s sb (i + 1) (nI (8 * i)) H locs cells slots ls → W p l e room_1 s m #[Value.ref sb] below meth c H locs cells slots (lw_Z below #[Value.ref sb] s) (F0 m 1049 ls [])) : W p l e room_1 s m #[Value.ref sb] below meth c H locs cells slots (lw_Z below #[Value.ref sb] s) (F0 m 778 ls []) := by
  obtain ⟨hx, hb, hr, hml, hown, hts, hX, hbl, hlocks, hgv⟩ := id C0
  have hown : s.vm.findClass RL = some m.cls := hown
  have ha : ∀ w ∈ AW, w.before #[Value.ref sb] s = true := fun w h => hts w (List.mem_filter.mp h).1
  obtain ⟨ad, g, M, o, hH, hS, hI, hc, hs, hl⟩ := hV
  have htb := tb_le hI.1.2.1
  refine lv_aload_n hx hb dL_law_778 rfl (lv_at hl 1 rfl) ?_
  refine lv_aload_n hx hb dL_law_779 rfl (lv_at hl 0 rfl) ?_
  refine lv_iload hx hb dL_law_780 (lv_at hl 5 rfl) ?_
  refine lv_iconst (v := nI 1) hx hb dL_law_782 (by decide) ?_
  refine lv_iadd hx hb dL_law_783 ?_
  refine la_ld hx hb hX hbl hS hL hi 1 (by decide) dL_law_784 ?_
  refine lv_aload_n hx hb dL_law_785 rfl (lv_at hl 3 rfl) ?_
  have hI2 : SI (gO (taC g (la xs i 1)) (g) g) (rO M (taC g (la xs i 1)) (rT M)) := SI_read hI _
  have htm : tb g ≤ tb (gO (taC g (la xs i 1)) (g) g) := tm_id
  have htb2 := tb_le hI2.1.2.1
  refine k_w (vx_runSW (As := [.ref (ad (0, 0, 0)), .int (la xs i 1), .ref (ad (9, 0, 0))]) (rest := []) ⟨hx, hb, hml, hown, ha⟩ (mL_trafficAnew l hlf hI.1.1 (la xs i 1)) (ch_of ha wk_L_trafficAnew wi_L wm_L_100 wz_L_trafficAnew sd_L_trafficAnew rfl rfl ⟨Nat.le_of_ble_eq_true rfl, Nat.le_of_ble_eq_true rfl⟩) (P0.pre hC hS hH) rfl rfl hl.1 rfl (lv_room (Nat.le_of_ble_eq_true rfl)) dL_law_786 ⟨show cells + (1) ≤ 601024 by omega, show slots + (6) ≤ 7293034 by omega⟩) hS (fun H1 locs1 hB1 hS => ?_)
  obtain ⟨ad2, o2, hE, hv, hH⟩ := hB1
  have hl : lv_has ls 8 [(0, .ref sb), (1, .ref (ad2 (0, 0, 0))), (2, .ref (ad2 (7, 0, 0))), (3, .ref (ad2 (9, 0, 0))), (4, .ref (ad2 (9, 1, 0))), (5, .int (nI (8 * i)))] := by rw [hE (0, 0, 0) (by decide) ⟨by decide, rfl⟩, hE (7, 0, 0) (by decide) ⟨rfl, rfl⟩, hE (9, 0, 0) (by decide) ⟨by decide, rfl⟩, hE (9, 1, 0) (by decide) ⟨by decide, rfl⟩]; exact hl
  refine W.eq (g2 := F0 m 789 ls [.int (nI (taC g (la xs i 1)))]) rfl ?_
  refine lv_istore (lv' := [(6, .int (nI (taC g (la xs i 1)))), (0, .ref sb), (1, .ref (ad2 (0, 0, 0))), (2, .ref (ad2 (7, 0, 0))), (3, .ref (ad2 (9, 0, 0))), (4, .ref (ad2 (9, 1, 0))), (5, .int (nI (8 * i)))]) hx hb dL_law_789 hl (by decide) rfl (fun ls hl => ?_)
  refine lv_aload_n hx hb dL_law_791 rfl (lv_at hl 3 rfl) ?_
  refine lv_aload_n hx hb dL_law_792 rfl (lv_at hl 1 rfl) ?_
  refine lv_iload hx hb dL_law_793 (lv_at hl 6 rfl) ?_
  refine lv_iconst (v := nI 1) hx hb dL_law_795 (by decide) ?_
  refine lv_iadd hx hb dL_law_796 ?_
  refine la_ld hx hb hX hbl hS hL hi 1 (by decide) dL_law_797 ?_
  have hm := mX5_trafficAnew l (D := D) (k := k) (b := s.heap.size) (ad := ad2) (g := gO (taC g (la xs i 1)) (g) g) (o := o2) hI.RI (la xs i 1) (mI g (la xs i 1) - 1) (mI_q hI)
  rw [taC_eq hI (la xs i 1)] at hm
  refine k_w (va_runV (As := [.int (la xs i 1)]) (rest := []) ⟨hx, hb, hml, hown, ha⟩ hm ⟨cb_of ha wk_X5_trafficAnew wi_X5 wm_L_102 sd_X5_trafficAnew rfl rfl ⟨Nat.le_of_ble_eq_true rfl, Nat.le_of_ble_eq_true rfl⟩, ha _ wv_X5_trafficAnew, ha _ wl_X5_trafficAnew⟩ (P0.preV hC hS hH (Hp.recv hC.1 hH (7, 0, 0) ⟨rfl, rfl⟩ rfl rfl)) rfl rfl hl.1 rfl (lv_room (Nat.le_of_ble_eq_true rfl)) dL_law_798 ⟨show cells + (1) + 0 ≤ 601024 by omega, show slots + (6) + 0 ≤ 7293034 by omega⟩) hS (fun H1 locs1 hH hS => ?_)
  refine W.eq (g2 := F0 m 801 ls [.int (vO (taC g (la xs i 1)) (M 18 (mI g (la xs i 1) - 1)))]) rfl ?_
  refine lv_istore (lv' := [(7, .int (vO (taC g (la xs i 1)) (M 18 (mI g (la xs i 1) - 1)))), (6, .int (nI (taC g (la xs i 1)))), (0, .ref sb), (1, .ref (ad2 (0, 0, 0))), (2, .ref (ad2 (7, 0, 0))), (3, .ref (ad2 (9, 0, 0))), (4, .ref (ad2 (9, 1, 0))), (5, .int (nI (8 * i)))]) hx hb dL_law_801 hl (by decide) rfl (fun ls hl => ?_)
  refine lv_aload_n hx hb dL_law_803 rfl (lv_at hl 4 rfl) ?_
  refine k_r (va_runV (As := []) (rest := []) ⟨hx, hb, hml, hown, ha⟩ (mX5_thrown l (M := rO M (taC g (la xs i 1)) (rT M))) ⟨cb_of ha wk_X5_thrown wi_X5 wm_L_69 sd_X5_thrown rfl rfl ⟨Nat.le_of_ble_eq_true rfl, Nat.le_of_ble_eq_true rfl⟩, ha _ wv_X5_thrown, ha _ wl_X5_thrown⟩ (P0.preV hC hS hH (Hp.recv hC.1 hH (7, 0, 0) ⟨rfl, rfl⟩ rfl rfl)) rfl rfl hl.1 rfl (lv_room (Nat.le_of_ble_eq_true rfl)) dL_law_804 ⟨show cells + (1) + 0 + 0 ≤ 601024 by omega, show slots + (6) + 0 + 0 ≤ 7293034 by omega⟩) ?_
  refine W.eq (g2 := F0 m 807 ls [.int (nI (taC g (la xs i 1)))]) (by rw [th_eq (rT_26)]; rfl) ?_
  refine lv_iload hx hb dL_law_807 (lv_at hl 1 rfl) ?_
  refine lv_icmp_eq (tgt := 814) hx hb dL_law_809 (by decide) (fun _ => ?_) (fun cq => absurd rfl cq)
  refine lv_iload hx hb dL_law_814 (lv_at hl 1 rfl) ?_
  refine lv_if_ne (tgt := 831) hx hb dL_law_816 (by decide) (fun _ => ?_) (fun cz => ?_)
  · skip
    refine lv_goto (tgt := 1049) hx hb dL_law_831 (by decide) ?_
    exact kk H1 locs1 _ _ ls ⟨ad2, gO (taC g (la xs i 1)) (g) g, rO M (taC g (la xs i 1)) (rT M), o2, hH, hS, hI2, by omega, by omega, lv_sub hl [2, 3, 4, 5, 6, 7] rfl⟩
  · skip
    have cz := c_0 (le_trafficAnew g (la xs i 1)) cz
    refine lv_aload_n hx hb dL_law_819 rfl (lv_at hl 5 rfl) ?_
    refine lv_iconst (v := nI 0) hx hb dL_law_820 (by decide) ?_
    refine r_lald hx hb hC hH (9, 0, 0) ⟨by decide, rfl⟩ (f := o2.1) (n := 1) rfl (vp_in_nI (n := 0) (by decide) (by decide)) dL_law_821 ?_
    refine W.eq (g2 := F0 m 822 ls [.long (pnS g (mI g (la xs i 1) - 1) 12 (hbA g (mI g (la xs i 1) - 1) (nbk (g.2.1 4 (mI g (la xs i 1) - 1))) (nbk (g.2.1 4 (mI g (la xs i 1) - 1))))).toInt64]) (by rw [← hv cz, nI_clamp (by decide)]) ?_
    refine lv_iload hx hb dL_law_822 (lv_at hl 0 rfl) ?_
    refine W.eq (g2 := F0 m 824 ls [.int (pnS g (mI g (la xs i 1) - 1) 12 (hbA g (mI g (la xs i 1) - 1) (nbk (g.2.1 4 (mI g (la xs i 1) - 1))) (nbk (g.2.1 4 (mI g (la xs i 1) - 1))))), .long (pnS g (mI g (la xs i 1) - 1) 12 (hbA g (mI g (la xs i 1) - 1) (nbk (g.2.1 4 (mI g (la xs i 1) - 1))) (nbk (g.2.1 4 (mI g (la xs i 1) - 1))))).toInt64]) (by rw [show vO (taC g (la xs i 1)) (M 18 (mI g (la xs i 1) - 1)) = pnS g (mI g (la xs i 1) - 1) 12 (hbA g (mI g (la xs i 1) - 1) (nbk (g.2.1 4 (mI g (la xs i 1) - 1))) (nbk (g.2.1 4 (mI g (la xs i 1) - 1)))) by rw [vO, if_pos cz]; exact V_trafficAnew hI (la xs i 1) cz]) ?_
    refine lv_i2l (v := (pnS g (mI g (la xs i 1) - 1) 12 (hbA g (mI g (la xs i 1) - 1) (nbk (g.2.1 4 (mI g (la xs i 1) - 1))) (nbk (g.2.1 4 (mI g (la xs i 1) - 1))))).toInt64) hx hb dL_law_824 rfl ?_
    refine W.lcmp hx hb dL_law_825 ?_
    refine W.eq (g2 := F0 m 826 ls [.int 0]) (by rw [cmp_0]) ?_
    refine lv_if_eq (tgt := 831) hx hb dL_law_826 (by decide) (fun _ => ?_) (fun cq => absurd rfl cq)
    refine lv_goto (tgt := 1049) hx hb dL_law_831 (by decide) ?_
    exact kk H1 locs1 _ _ ls ⟨ad2, gO (taC g (la xs i 1)) (g) g, rO M (taC g (la xs i 1)) (rT M), o2, hH, hS, hI2, by omega, by omega, lv_sub hl [2, 3, 4, 5, 6, 7] rfl⟩

set_option maxHeartbeats 4000000 in
set_option maxRecDepth 100000 in
theorem LB_ofPhone {p : Program} {e : Env} {s : State} {m : MethodId} {below : List Frame} {meth : Method} {c : Code} {l : Launch} (hlf : l.stackTraces = false) {sb L : Nat} {xs : Nat → Int32} (hL : L ≤ 4096) (C0 : lw_At p s m meth c sb L xs) {D : va_G} {k : Nat → ClassId} (hC : Cs D k s.heap.size s) {i : Nat} (hi : 8 * i + 8 ≤ L) {H : Heap} {locs : List Loc} {cells slots : Nat} {ls : Array Slot} (hV : LV D k s sb i (nI (8 * i)) H locs cells slots ls) (kk : ∀ (H : Heap) (locs : List Loc) (cells slots : Nat) (ls : Array Slot), LV D k s sb (i + 1) (nI (8 * i)) H locs cells slots ls → W p l e room_1 s m #[Value.ref sb] below meth c H locs cells slots (lw_Z below #[Value.ref sb] s) (F0 m 1049 ls [])) : W p l e room_1 s m #[Value.ref sb] below meth c H locs cells slots (lw_Z below #[Value.ref sb] s) (F0 m 834 ls []) := by
  obtain ⟨hx, hb, hr, hml, hown, hts, hX, hbl, hlocks, hgv⟩ := id C0
  have hown : s.vm.findClass RL = some m.cls := hown
  have ha : ∀ w ∈ AW, w.before #[Value.ref sb] s = true := fun w h => hts w (List.mem_filter.mp h).1
  obtain ⟨ad, g, M, o, hH, hS, hI, hc, hs, hl⟩ := hV
  have htb := tb_le hI.1.2.1
  refine lv_aload_n hx hb dL_law_834 rfl (lv_at hl 1 rfl) ?_
  refine lv_aload_n hx hb dL_law_835 rfl (lv_at hl 0 rfl) ?_
  refine lv_iload hx hb dL_law_836 (lv_at hl 5 rfl) ?_
  refine lv_iconst (v := nI 1) hx hb dL_law_838 (by decide) ?_
  refine lv_iadd hx hb dL_law_839 ?_
  refine la_ld hx hb hX hbl hS hL hi 1 (by decide) dL_law_840 ?_
  refine lv_aload_n hx hb dL_law_841 rfl (lv_at hl 0 rfl) ?_
  refine lv_iload hx hb dL_law_842 (lv_at hl 5 rfl) ?_
  refine lv_iconst (v := nI 2) hx hb dL_law_844 (by decide) ?_
  refine lv_iadd hx hb dL_law_845 ?_
  refine la_ld hx hb hX hbl hS hL hi 2 (by decide) dL_law_846 ?_
  refine lv_aload_n hx hb dL_law_847 rfl (lv_at hl 3 rfl) ?_
  have hI2 : SI (gO (opC g (la xs i 1) (la xs i 2)) (g) g) (rO M (opC g (la xs i 1) (la xs i 2)) (rT M)) := SI_read hI _
  have htm : tb g ≤ tb (gO (opC g (la xs i 1) (la xs i 2)) (g) g) := tm_id
  have htb2 := tb_le hI2.1.2.1
  refine k_w (vx_runSW (As := [.ref (ad (0, 0, 0)), .int (la xs i 1), .int (la xs i 2), .ref (ad (9, 0, 0))]) (rest := []) ⟨hx, hb, hml, hown, ha⟩ (mL_ofPhone l hlf hI.1.1 (la xs i 1) (la xs i 2)) (ch_of ha wk_L_ofPhone wi_L wm_L_103 wz_L_ofPhone sd_L_ofPhone rfl rfl ⟨Nat.le_of_ble_eq_true rfl, Nat.le_of_ble_eq_true rfl⟩) (P0.pre hC hS hH) rfl rfl hl.1 rfl (lv_room (Nat.le_of_ble_eq_true rfl)) dL_law_848 ⟨show cells + (1) ≤ 601024 by omega, show slots + (6) ≤ 7293034 by omega⟩) hS (fun H1 locs1 hB1 hS => ?_)
  obtain ⟨ad2, o2, hE, hv, hH⟩ := hB1
  have hl : lv_has ls 8 [(0, .ref sb), (1, .ref (ad2 (0, 0, 0))), (2, .ref (ad2 (7, 0, 0))), (3, .ref (ad2 (9, 0, 0))), (4, .ref (ad2 (9, 1, 0))), (5, .int (nI (8 * i)))] := by rw [hE (0, 0, 0) (by decide) ⟨by decide, rfl⟩, hE (7, 0, 0) (by decide) ⟨rfl, rfl⟩, hE (9, 0, 0) (by decide) ⟨by decide, rfl⟩, hE (9, 1, 0) (by decide) ⟨by decide, rfl⟩]; exact hl
  refine W.eq (g2 := F0 m 851 ls [.int (nI (opC g (la xs i 1) (la xs i 2)))]) rfl ?_
  refine lv_istore (lv' := [(6, .int (nI (opC g (la xs i 1) (la xs i 2)))), (0, .ref sb), (1, .ref (ad2 (0, 0, 0))), (2, .ref (ad2 (7, 0, 0))), (3, .ref (ad2 (9, 0, 0))), (4, .ref (ad2 (9, 1, 0))), (5, .int (nI (8 * i)))]) hx hb dL_law_851 hl (by decide) rfl (fun ls hl => ?_)
  refine lv_aload_n hx hb dL_law_853 rfl (lv_at hl 3 rfl) ?_
  refine lv_aload_n hx hb dL_law_854 rfl (lv_at hl 1 rfl) ?_
  refine lv_iload hx hb dL_law_855 (lv_at hl 6 rfl) ?_
  refine lv_iconst (v := nI 1) hx hb dL_law_857 (by decide) ?_
  refine lv_iadd hx hb dL_law_858 ?_
  refine la_ld hx hb hX hbl hS hL hi 1 (by decide) dL_law_859 ?_
  refine lv_aload_n hx hb dL_law_860 rfl (lv_at hl 1 rfl) ?_
  refine lv_iload hx hb dL_law_861 (lv_at hl 6 rfl) ?_
  refine lv_iconst (v := nI 2) hx hb dL_law_863 (by decide) ?_
  refine lv_iadd hx hb dL_law_864 ?_
  refine la_ld hx hb hX hbl hS hL hi 2 (by decide) dL_law_865 ?_
  have hm := mX5_ofPhone l (D := D) (k := k) (b := s.heap.size) (ad := ad2) (g := gO (opC g (la xs i 1) (la xs i 2)) (g) g) (o := o2) hI.RI (la xs i 1) (la xs i 2) (pI g (la xs i 1) - 1) (pI_q hI)
  rw [opC_eq hI (la xs i 1) (la xs i 2)] at hm
  refine k_w (va_runV (As := [.int (la xs i 1), .int (la xs i 2)]) (rest := []) ⟨hx, hb, hml, hown, ha⟩ hm ⟨cb_of ha wk_X5_ofPhone wi_X5 wm_L_105 sd_X5_ofPhone rfl rfl ⟨Nat.le_of_ble_eq_true rfl, Nat.le_of_ble_eq_true rfl⟩, ha _ wv_X5_ofPhone, ha _ wl_X5_ofPhone⟩ (P0.preV hC hS hH (Hp.recv hC.1 hH (7, 0, 0) ⟨rfl, rfl⟩ rfl rfl)) rfl rfl hl.1 rfl (lv_room (Nat.le_of_ble_eq_true rfl)) dL_law_866 ⟨show cells + (1) + 0 ≤ 601024 by omega, show slots + (6) + 0 ≤ 7293034 by omega⟩) hS (fun H1 locs1 hH hS => ?_)
  refine W.eq (g2 := F0 m 869 ls [.int (vO (opC g (la xs i 1) (la xs i 2)) (rofPV (rT M) (pI g (la xs i 1) - 1) (la xs i 2)))]) rfl ?_
  refine lv_istore (lv' := [(7, .int (vO (opC g (la xs i 1) (la xs i 2)) (rofPV (rT M) (pI g (la xs i 1) - 1) (la xs i 2)))), (6, .int (nI (opC g (la xs i 1) (la xs i 2)))), (0, .ref sb), (1, .ref (ad2 (0, 0, 0))), (2, .ref (ad2 (7, 0, 0))), (3, .ref (ad2 (9, 0, 0))), (4, .ref (ad2 (9, 1, 0))), (5, .int (nI (8 * i)))]) hx hb dL_law_869 hl (by decide) rfl (fun ls hl => ?_)
  refine lv_aload_n hx hb dL_law_871 rfl (lv_at hl 4 rfl) ?_
  refine k_r (va_runV (As := []) (rest := []) ⟨hx, hb, hml, hown, ha⟩ (mX5_thrown l (M := rO M (opC g (la xs i 1) (la xs i 2)) (rT M))) ⟨cb_of ha wk_X5_thrown wi_X5 wm_L_69 sd_X5_thrown rfl rfl ⟨Nat.le_of_ble_eq_true rfl, Nat.le_of_ble_eq_true rfl⟩, ha _ wv_X5_thrown, ha _ wl_X5_thrown⟩ (P0.preV hC hS hH (Hp.recv hC.1 hH (7, 0, 0) ⟨rfl, rfl⟩ rfl rfl)) rfl rfl hl.1 rfl (lv_room (Nat.le_of_ble_eq_true rfl)) dL_law_872 ⟨show cells + (1) + 0 + 0 ≤ 601024 by omega, show slots + (6) + 0 + 0 ≤ 7293034 by omega⟩) ?_
  refine W.eq (g2 := F0 m 875 ls [.int (nI (opC g (la xs i 1) (la xs i 2)))]) (by rw [th_eq (rT_26)]; rfl) ?_
  refine lv_iload hx hb dL_law_875 (lv_at hl 1 rfl) ?_
  refine lv_icmp_eq (tgt := 882) hx hb dL_law_877 (by decide) (fun _ => ?_) (fun cq => absurd rfl cq)
  refine lv_iload hx hb dL_law_882 (lv_at hl 1 rfl) ?_
  refine lv_if_ne (tgt := 899) hx hb dL_law_884 (by decide) (fun _ => ?_) (fun cz => ?_)
  · skip
    refine lv_goto (tgt := 1049) hx hb dL_law_899 (by decide) ?_
    exact kk H1 locs1 _ _ ls ⟨ad2, gO (opC g (la xs i 1) (la xs i 2)) (g) g, rO M (opC g (la xs i 1) (la xs i 2)) (rT M), o2, hH, hS, hI2, by omega, by omega, lv_sub hl [2, 3, 4, 5, 6, 7] rfl⟩
  · skip
    have cz := c_0 (le_ofPhone g (la xs i 1) (la xs i 2)) cz
    refine lv_aload_n hx hb dL_law_887 rfl (lv_at hl 5 rfl) ?_
    refine lv_iconst (v := nI 0) hx hb dL_law_888 (by decide) ?_
    refine r_lald hx hb hC hH (9, 0, 0) ⟨by decide, rfl⟩ (f := o2.1) (n := 1) rfl (vp_in_nI (n := 0) (by decide) (by decide)) dL_law_889 ?_
    refine W.eq (g2 := F0 m 890 ls [.long (ofPV g (pI g (la xs i 1) - 1) (la xs i 2)).toInt64]) (by rw [← hv cz, nI_clamp (by decide)]) ?_
    refine lv_iload hx hb dL_law_890 (lv_at hl 0 rfl) ?_
    refine W.eq (g2 := F0 m 892 ls [.int (ofPV g (pI g (la xs i 1) - 1) (la xs i 2)), .long (ofPV g (pI g (la xs i 1) - 1) (la xs i 2)).toInt64]) (by rw [show vO (opC g (la xs i 1) (la xs i 2)) (rofPV (rT M) (pI g (la xs i 1) - 1) (la xs i 2)) = ofPV g (pI g (la xs i 1) - 1) (la xs i 2) by rw [vO, if_pos cz]; exact V_ofPhone hI (la xs i 1) (la xs i 2) cz]) ?_
    refine lv_i2l (v := (ofPV g (pI g (la xs i 1) - 1) (la xs i 2)).toInt64) hx hb dL_law_892 rfl ?_
    refine W.lcmp hx hb dL_law_893 ?_
    refine W.eq (g2 := F0 m 894 ls [.int 0]) (by rw [cmp_0]) ?_
    refine lv_if_eq (tgt := 899) hx hb dL_law_894 (by decide) (fun _ => ?_) (fun cq => absurd rfl cq)
    refine lv_goto (tgt := 1049) hx hb dL_law_899 (by decide) ?_
    exact kk H1 locs1 _ _ ls ⟨ad2, gO (opC g (la xs i 1) (la xs i 2)) (g) g, rO M (opC g (la xs i 1) (la xs i 2)) (rT M), o2, hH, hS, hI2, by omega, by omega, lv_sub hl [2, 3, 4, 5, 6, 7] rfl⟩

set_option maxHeartbeats 4000000 in
set_option maxRecDepth 100000 in
theorem LB_strength {p : Program} {e : Env} {s : State} {m : MethodId} {below : List Frame} {meth : Method} {c : Code} {l : Launch} (hlf : l.stackTraces = false) {sb L : Nat} {xs : Nat → Int32} (hL : L ≤ 4096) (C0 : lw_At p s m meth c sb L xs) {D : va_G} {k : Nat → ClassId} (hC : Cs D k s.heap.size s) {i : Nat} (hi : 8 * i + 8 ≤ L) {H : Heap} {locs : List Loc} {cells slots : Nat} {ls : Array Slot} (hV : LV D k s sb i (nI (8 * i)) H locs cells slots ls) (kk : ∀ (H : Heap) (locs : List Loc) (cells slots : Nat) (ls : Array Slot), LV D k s sb (i + 1) (nI (8 * i)) H locs cells slots ls → W p l e room_1 s m #[Value.ref sb] below meth c H locs cells slots (lw_Z below #[Value.ref sb] s) (F0 m 1049 ls [])) : W p l e room_1 s m #[Value.ref sb] below meth c H locs cells slots (lw_Z below #[Value.ref sb] s) (F0 m 902 ls []) := by
  obtain ⟨hx, hb, hr, hml, hown, hts, hX, hbl, hlocks, hgv⟩ := id C0
  have hown : s.vm.findClass RL = some m.cls := hown
  have ha : ∀ w ∈ AW, w.before #[Value.ref sb] s = true := fun w h => hts w (List.mem_filter.mp h).1
  obtain ⟨ad, g, M, o, hH, hS, hI, hc, hs, hl⟩ := hV
  have htb := tb_le hI.1.2.1
  refine lv_aload_n hx hb dL_law_902 rfl (lv_at hl 1 rfl) ?_
  refine lv_aload_n hx hb dL_law_903 rfl (lv_at hl 0 rfl) ?_
  refine lv_iload hx hb dL_law_904 (lv_at hl 5 rfl) ?_
  refine lv_iconst (v := nI 1) hx hb dL_law_906 (by decide) ?_
  refine lv_iadd hx hb dL_law_907 ?_
  refine la_ld hx hb hX hbl hS hL hi 1 (by decide) dL_law_908 ?_
  refine lv_aload hx hb dL_law_909 (lv_at hl 4 rfl) ?_
  have hI2 : SI (gO (stC g (la xs i 1)) (g) g) (rO M (stC g (la xs i 1)) (rT M)) := SI_read hI _
  have htm : tb g ≤ tb (gO (stC g (la xs i 1)) (g) g) := tm_id
  have htb2 := tb_le hI2.1.2.1
  refine k_w (vx_runSW (As := [.ref (ad (0, 0, 0)), .int (la xs i 1), .ref (ad (9, 1, 0))]) (rest := []) ⟨hx, hb, hml, hown, ha⟩ (mL_strength l hlf hI.1.1 (la xs i 1) (V_nan hI (la xs i 1)).1 (V_nan hI (la xs i 1)).2) (ch_of ha wk_L_strength wi_L wm_L_106 wz_L_strength sd_L_strength rfl rfl ⟨Nat.le_of_ble_eq_true rfl, Nat.le_of_ble_eq_true rfl⟩) (P0.pre hC hS hH) rfl rfl hl.1 rfl (lv_room (Nat.le_of_ble_eq_true rfl)) dL_law_911 ⟨show cells + (1) ≤ 601024 by omega, show slots + (6) ≤ 7293034 by omega⟩) hS (fun H1 locs1 hB1 hS => ?_)
  obtain ⟨ad2, o2, hE, hv, hH⟩ := hB1
  have hl : lv_has ls 8 [(0, .ref sb), (1, .ref (ad2 (0, 0, 0))), (2, .ref (ad2 (7, 0, 0))), (3, .ref (ad2 (9, 0, 0))), (4, .ref (ad2 (9, 1, 0))), (5, .int (nI (8 * i)))] := by rw [hE (0, 0, 0) (by decide) ⟨by decide, rfl⟩, hE (7, 0, 0) (by decide) ⟨rfl, rfl⟩, hE (9, 0, 0) (by decide) ⟨by decide, rfl⟩, hE (9, 1, 0) (by decide) ⟨by decide, rfl⟩]; exact hl
  refine W.eq (g2 := F0 m 914 ls [.int (nI (stC g (la xs i 1)))]) rfl ?_
  refine lv_istore (lv' := [(6, .int (nI (stC g (la xs i 1)))), (0, .ref sb), (1, .ref (ad2 (0, 0, 0))), (2, .ref (ad2 (7, 0, 0))), (3, .ref (ad2 (9, 0, 0))), (4, .ref (ad2 (9, 1, 0))), (5, .int (nI (8 * i)))]) hx hb dL_law_914 hl (by decide) rfl (fun ls hl => ?_)
  refine lv_aload_n hx hb dL_law_916 rfl (lv_at hl 3 rfl) ?_
  refine lv_aload_n hx hb dL_law_917 rfl (lv_at hl 1 rfl) ?_
  refine lv_iload hx hb dL_law_918 (lv_at hl 6 rfl) ?_
  refine lv_iconst (v := nI 1) hx hb dL_law_920 (by decide) ?_
  refine lv_iadd hx hb dL_law_921 ?_
  refine la_ld hx hb hX hbl hS hL hi 1 (by decide) dL_law_922 ?_
  have hm := mX5_strength l (D := D) (k := k) (b := s.heap.size) (ad := ad2) (g := gO (stC g (la xs i 1)) (g) g) (o := o2) hI.RI (la xs i 1) (pI g (la xs i 1) - 1) (pI_q hI) (V_rnan hI (la xs i 1))
  rw [stC_eq hI (la xs i 1)] at hm
  refine k_w (va_runV (As := [.int (la xs i 1)]) (rest := []) ⟨hx, hb, hml, hown, ha⟩ hm ⟨cb_of ha wk_X5_strength wi_X5 wm_L_109 sd_X5_strength rfl rfl ⟨Nat.le_of_ble_eq_true rfl, Nat.le_of_ble_eq_true rfl⟩, ha _ wv_X5_strength, ha _ wl_X5_strength⟩ (P0.preV hC hS hH (Hp.recv hC.1 hH (7, 0, 0) ⟨rfl, rfl⟩ rfl rfl)) rfl rfl hl.1 rfl (lv_room (Nat.le_of_ble_eq_true rfl)) dL_law_923 ⟨show cells + (1) + 0 ≤ 601024 by omega, show slots + (6) + 0 ≤ 7293034 by omega⟩) hS (fun H1 locs1 hH hS => ?_)
  refine W.eq (g2 := F0 m 926 ls [.float ((if stC g (la xs i 1) = 0 then rstV (rT M) (pI g (la xs i 1) - 1) else FP.fconst0))]) rfl ?_
  refine lv_fstore (lv' := [(7, .float ((if stC g (la xs i 1) = 0 then rstV (rT M) (pI g (la xs i 1) - 1) else FP.fconst0))), (6, .int (nI (stC g (la xs i 1)))), (0, .ref sb), (1, .ref (ad2 (0, 0, 0))), (2, .ref (ad2 (7, 0, 0))), (3, .ref (ad2 (9, 0, 0))), (4, .ref (ad2 (9, 1, 0))), (5, .int (nI (8 * i)))]) hx hb dL_law_926 hl (by decide) rfl (fun ls hl => ?_)
  refine lv_aload_n hx hb dL_law_928 rfl (lv_at hl 4 rfl) ?_
  refine k_r (va_runV (As := []) (rest := []) ⟨hx, hb, hml, hown, ha⟩ (mX5_thrown l (M := rO M (stC g (la xs i 1)) (rT M))) ⟨cb_of ha wk_X5_thrown wi_X5 wm_L_69 sd_X5_thrown rfl rfl ⟨Nat.le_of_ble_eq_true rfl, Nat.le_of_ble_eq_true rfl⟩, ha _ wv_X5_thrown, ha _ wl_X5_thrown⟩ (P0.preV hC hS hH (Hp.recv hC.1 hH (7, 0, 0) ⟨rfl, rfl⟩ rfl rfl)) rfl rfl hl.1 rfl (lv_room (Nat.le_of_ble_eq_true rfl)) dL_law_929 ⟨show cells + (1) + 0 + 0 ≤ 601024 by omega, show slots + (6) + 0 + 0 ≤ 7293034 by omega⟩) ?_
  refine W.eq (g2 := F0 m 932 ls [.int (nI (stC g (la xs i 1)))]) (by rw [th_eq (rT_26)]; rfl) ?_
  refine lv_iload hx hb dL_law_932 (lv_at hl 1 rfl) ?_
  refine lv_icmp_eq (tgt := 939) hx hb dL_law_934 (by decide) (fun _ => ?_) (fun cq => absurd rfl cq)
  refine lv_iload hx hb dL_law_939 (lv_at hl 1 rfl) ?_
  refine lv_if_ne (tgt := 977) hx hb dL_law_941 (by decide) (fun _ => ?_) (fun cz => ?_)
  · skip
    refine lv_goto (tgt := 1049) hx hb dL_law_977 (by decide) ?_
    exact kk H1 locs1 _ _ ls ⟨ad2, gO (stC g (la xs i 1)) (g) g, rO M (stC g (la xs i 1)) (rT M), o2, hH, hS, hI2, by omega, by omega, lv_sub hl [2, 3, 4, 5, 6, 7] rfl⟩
  · skip
    have cz := c_0 (le_strength g (la xs i 1)) cz
    refine lv_aload hx hb dL_law_944 (lv_at hl 6 rfl) ?_
    refine lv_iconst (v := nI 0) hx hb dL_law_946 (by decide) ?_
    refine r_dald hx hb hC hH (9, 1, 0) ⟨by decide, rfl⟩ (f := o2.2) (n := 1) rfl (vp_in_nI (n := 0) (by decide) (by decide)) dL_law_947 ?_
    refine W.eq (g2 := F0 m 948 ls [.double (FP.f2d (stV g (pI g (la xs i 1) - 1)))]) (by rw [← hv cz, nI_clamp (by decide)]) ?_
    refine lv_fload hx hb dL_law_948 (lv_at hl 0 rfl) ?_
    refine W.eq (g2 := F0 m 950 ls [.float (stV g (pI g (la xs i 1) - 1)), .double (FP.f2d (stV g (pI g (la xs i 1) - 1)))]) (by rw [show (if stC g (la xs i 1) = 0 then rstV (rT M) (pI g (la xs i 1) - 1) else FP.fconst0) = stV g (pI g (la xs i 1) - 1) by rw [if_pos cz]; exact V_strength hI (la xs i 1) cz]) ?_
    refine lv_f2d hx hb dL_law_950 ((V_nan hI (la xs i 1)).2 cz) ?_
    refine lv_dcmp hx hb dL_law_951 ?_
    refine W.eq (g2 := F0 m 952 ls [.int 0]) (by rw [dcm_0 (V_cmp hI (la xs i 1) cz)]) ?_
    refine lv_if_eq (tgt := 977) hx hb dL_law_952 (by decide) (fun _ => ?_) (fun cq => absurd rfl cq)
    refine lv_goto (tgt := 1049) hx hb dL_law_977 (by decide) ?_
    exact kk H1 locs1 _ _ ls ⟨ad2, gO (stC g (la xs i 1)) (g) g, rO M (stC g (la xs i 1)) (rT M), o2, hH, hS, hI2, by omega, by omega, lv_sub hl [2, 3, 4, 5, 6, 7] rfl⟩

set_option maxHeartbeats 4000000 in
set_option maxRecDepth 100000 in
theorem LB_paid {p : Program} {e : Env} {s : State} {m : MethodId} {below : List Frame} {meth : Method} {c : Code} {l : Launch} (hlf : l.stackTraces = false) {sb L : Nat} {xs : Nat → Int32} (hL : L ≤ 4096) (C0 : lw_At p s m meth c sb L xs) {D : va_G} {k : Nat → ClassId} (hC : Cs D k s.heap.size s) {i : Nat} (hi : 8 * i + 8 ≤ L) {H : Heap} {locs : List Loc} {cells slots : Nat} {ls : Array Slot} (hV : LV D k s sb i (nI (8 * i)) H locs cells slots ls) (kk : ∀ (H : Heap) (locs : List Loc) (cells slots : Nat) (ls : Array Slot), LV D k s sb (i + 1) (nI (8 * i)) H locs cells slots ls → W p l e room_1 s m #[Value.ref sb] below meth c H locs cells slots (lw_Z below #[Value.ref sb] s) (F0 m 1049 ls [])) : W p l e room_1 s m #[Value.ref sb] below meth c H locs cells slots (lw_Z below #[Value.ref sb] s) (F0 m 980 ls []) := by
  obtain ⟨hx, hb, hr, hml, hown, hts, hX, hbl, hlocks, hgv⟩ := id C0
  have hown : s.vm.findClass RL = some m.cls := hown
  have ha : ∀ w ∈ AW, w.before #[Value.ref sb] s = true := fun w h => hts w (List.mem_filter.mp h).1
  obtain ⟨ad, g, M, o, hH, hS, hI, hc, hs, hl⟩ := hV
  have htb := tb_le hI.1.2.1
  refine lv_aload_n hx hb dL_law_980 rfl (lv_at hl 1 rfl) ?_
  refine lv_aload_n hx hb dL_law_981 rfl (lv_at hl 0 rfl) ?_
  refine lv_iload hx hb dL_law_982 (lv_at hl 5 rfl) ?_
  refine lv_iconst (v := nI 1) hx hb dL_law_984 (by decide) ?_
  refine lv_iadd hx hb dL_law_985 ?_
  refine la_ld hx hb hX hbl hS hL hi 1 (by decide) dL_law_986 ?_
  refine lv_aload_n hx hb dL_law_987 rfl (lv_at hl 3 rfl) ?_
  have hI2 : SI (gO (pdC (la xs i 1)) (g) g) (rO M (pdC (la xs i 1)) (rT M)) := (S_paid hI (la xs i 1)).1
  have htm : tb g ≤ tb (gO (pdC (la xs i 1)) (g) g) := tm_id
  have htb2 := tb_le hI2.1.2.1
  refine k_w (vx_runSW (As := [.ref (ad (0, 0, 0)), .int (la xs i 1), .ref (ad (9, 0, 0))]) (rest := []) ⟨hx, hb, hml, hown, ha⟩ (mL_paid l hlf (la xs i 1)) (ch_of ha wk_L_paid wi_L wm_L_110 wz_L_paid sd_L_paid rfl rfl ⟨Nat.le_of_ble_eq_true rfl, Nat.le_of_ble_eq_true rfl⟩) (P0.pre hC hS hH) rfl rfl hl.1 rfl (lv_room (Nat.le_of_ble_eq_true rfl)) dL_law_988 ⟨show cells + (1) ≤ 601024 by omega, show slots + (6) ≤ 7293034 by omega⟩) hS (fun H1 locs1 hB1 hS => ?_)
  obtain ⟨ad2, o2, hE, hv, hH⟩ := hB1
  have hl : lv_has ls 8 [(0, .ref sb), (1, .ref (ad2 (0, 0, 0))), (2, .ref (ad2 (7, 0, 0))), (3, .ref (ad2 (9, 0, 0))), (4, .ref (ad2 (9, 1, 0))), (5, .int (nI (8 * i)))] := by rw [hE (0, 0, 0) (by decide) ⟨by decide, rfl⟩, hE (7, 0, 0) (by decide) ⟨rfl, rfl⟩, hE (9, 0, 0) (by decide) ⟨by decide, rfl⟩, hE (9, 1, 0) (by decide) ⟨by decide, rfl⟩]; exact hl
  refine W.eq (g2 := F0 m 991 ls [.int (nI (pdC (la xs i 1)))]) rfl ?_
  refine lv_istore (lv' := [(6, .int (nI (pdC (la xs i 1)))), (0, .ref sb), (1, .ref (ad2 (0, 0, 0))), (2, .ref (ad2 (7, 0, 0))), (3, .ref (ad2 (9, 0, 0))), (4, .ref (ad2 (9, 1, 0))), (5, .int (nI (8 * i)))]) hx hb dL_law_991 hl (by decide) rfl (fun ls hl => ?_)
  refine lv_aload_n hx hb dL_law_993 rfl (lv_at hl 3 rfl) ?_
  refine lv_aload_n hx hb dL_law_994 rfl (lv_at hl 1 rfl) ?_
  refine lv_iload hx hb dL_law_995 (lv_at hl 6 rfl) ?_
  refine lv_iconst (v := nI 1) hx hb dL_law_997 (by decide) ?_
  refine lv_iadd hx hb dL_law_998 ?_
  refine la_ld hx hb hX hbl hS hL hi 1 (by decide) dL_law_999 ?_
  have hm := mX5_paid l (D := D) (k := k) (b := s.heap.size) (ad := ad2) (g := gO (pdC (la xs i 1)) (g) g) (o := o2) hI.RI (la xs i 1)
  refine k_w (va_runV (As := [.int (la xs i 1)]) (rest := []) ⟨hx, hb, hml, hown, ha⟩ hm ⟨cb_of ha wk_X5_paid wi_X5 wm_L_112 sd_X5_paid rfl rfl ⟨Nat.le_of_ble_eq_true rfl, Nat.le_of_ble_eq_true rfl⟩, ha _ wv_X5_paid, ha _ wl_X5_paid⟩ (P0.preV hC hS hH (Hp.recv hC.1 hH (7, 0, 0) ⟨rfl, rfl⟩ rfl rfl)) rfl rfl hl.1 rfl (lv_room (Nat.le_of_ble_eq_true rfl)) dL_law_1000 ⟨show cells + (1) + 0 ≤ 601024 by omega, show slots + (6) + 0 ≤ 7293034 by omega⟩) hS (fun H1 locs1 hH hS => ?_)
  refine W.eq (g2 := F0 m 1003 ls [.int (vO (pdC (la xs i 1)) (M 25 (la xs i 1).toNatClampNeg))]) rfl ?_
  refine lv_istore (lv' := [(7, .int (vO (pdC (la xs i 1)) (M 25 (la xs i 1).toNatClampNeg))), (6, .int (nI (pdC (la xs i 1)))), (0, .ref sb), (1, .ref (ad2 (0, 0, 0))), (2, .ref (ad2 (7, 0, 0))), (3, .ref (ad2 (9, 0, 0))), (4, .ref (ad2 (9, 1, 0))), (5, .int (nI (8 * i)))]) hx hb dL_law_1003 hl (by decide) rfl (fun ls hl => ?_)
  refine lv_aload_n hx hb dL_law_1005 rfl (lv_at hl 4 rfl) ?_
  refine k_r (va_runV (As := []) (rest := []) ⟨hx, hb, hml, hown, ha⟩ (mX5_thrown l (M := rO M (pdC (la xs i 1)) (rT M))) ⟨cb_of ha wk_X5_thrown wi_X5 wm_L_69 sd_X5_thrown rfl rfl ⟨Nat.le_of_ble_eq_true rfl, Nat.le_of_ble_eq_true rfl⟩, ha _ wv_X5_thrown, ha _ wl_X5_thrown⟩ (P0.preV hC hS hH (Hp.recv hC.1 hH (7, 0, 0) ⟨rfl, rfl⟩ rfl rfl)) rfl rfl hl.1 rfl (lv_room (Nat.le_of_ble_eq_true rfl)) dL_law_1006 ⟨show cells + (1) + 0 + 0 ≤ 601024 by omega, show slots + (6) + 0 + 0 ≤ 7293034 by omega⟩) ?_
  refine W.eq (g2 := F0 m 1009 ls [.int (nI (pdC (la xs i 1)))]) (by rw [th_eq (rT_26)]; rfl) ?_
  refine lv_iload hx hb dL_law_1009 (lv_at hl 1 rfl) ?_
  refine lv_icmp_eq (tgt := 1016) hx hb dL_law_1011 (by decide) (fun _ => ?_) (fun cq => absurd rfl cq)
  refine lv_iload hx hb dL_law_1016 (lv_at hl 1 rfl) ?_
  refine lv_if_ne (tgt := 1033) hx hb dL_law_1018 (by decide) (fun _ => ?_) (fun cz => ?_)
  · skip
    refine lv_goto (tgt := 1049) hx hb dL_law_1033 (by decide) ?_
    exact kk H1 locs1 _ _ ls ⟨ad2, gO (pdC (la xs i 1)) (g) g, rO M (pdC (la xs i 1)) (rT M), o2, hH, hS, hI2, by omega, by omega, lv_sub hl [2, 3, 4, 5, 6, 7] rfl⟩
  · skip
    have cz := c_0 (le_paid (la xs i 1)) cz
    refine lv_aload_n hx hb dL_law_1021 rfl (lv_at hl 5 rfl) ?_
    refine lv_iconst (v := nI 0) hx hb dL_law_1022 (by decide) ?_
    refine r_lald hx hb hC hH (9, 0, 0) ⟨by decide, rfl⟩ (f := o2.1) (n := 1) rfl (vp_in_nI (n := 0) (by decide) (by decide)) dL_law_1023 ?_
    refine W.eq (g2 := F0 m 1024 ls [.long (g.1 42 (la xs i 1).toNatClampNeg).toInt64]) (by rw [← hv cz, nI_clamp (by decide)]) ?_
    refine lv_iload hx hb dL_law_1024 (lv_at hl 0 rfl) ?_
    refine W.eq (g2 := F0 m 1026 ls [.int (g.1 42 (la xs i 1).toNatClampNeg), .long (g.1 42 (la xs i 1).toNatClampNeg).toInt64]) (by rw [show vO (pdC (la xs i 1)) (M 25 (la xs i 1).toNatClampNeg) = g.1 42 (la xs i 1).toNatClampNeg by rw [vO, if_pos cz]; exact (S_paid hI (la xs i 1)).2 cz]) ?_
    refine lv_i2l (v := (g.1 42 (la xs i 1).toNatClampNeg).toInt64) hx hb dL_law_1026 rfl ?_
    refine W.lcmp hx hb dL_law_1027 ?_
    refine W.eq (g2 := F0 m 1028 ls [.int 0]) (by rw [cmp_0]) ?_
    refine lv_if_eq (tgt := 1033) hx hb dL_law_1028 (by decide) (fun _ => ?_) (fun cq => absurd rfl cq)
    refine lv_goto (tgt := 1049) hx hb dL_law_1033 (by decide) ?_
    exact kk H1 locs1 _ _ ls ⟨ad2, gO (pdC (la xs i 1)) (g) g, rO M (pdC (la xs i 1)) (rT M), o2, hH, hS, hI2, by omega, by omega, lv_sub hl [2, 3, 4, 5, 6, 7] rfl⟩
