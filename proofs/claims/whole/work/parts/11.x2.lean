/-! THE CLASS: hours of the log -/
set_option maxHeartbeats 4000000 in
set_option maxRecDepth 100000 in
theorem mX1_hours (l : Launch) {D : va_G} {k : Nat → ClassId} {b : Nat} {ad : Tg → Nat} {g : XS} {M : MF} {o : OF} (i : Nat) (hi : i < g.2.1 0 0) (j : Nat) (hj : 64 * j < g.2.1 4 i) : Met l yX1_hours (WS yX1_hours cX1_hours 3 (some .int)) ({ frames := 0, cells := 0, slots := 0, locals := 0 }) (P0 D k b (Wo D k b ad g M o) [.ref (ad (4, i, j))]) (Qr (some (.int (bsI g i j)))) 0 0 (fun _ => False) := by
  refine Met0 (by decide +kernel) (Nat.le_of_ble_eq_true rfl) (fun p e s m below meth c ls hx hb hr hts hown hml hlocks hnm hC hH hl => ?_)
  have hS : va_S (Fb b) s.heap s.heap [] := va_S.rf
  have hl : lv_has ls 3 [(0, .ref (ad (4, i, j)))] := hl
  refine lv_iconst (v := 0) hx hb dX1_hours_0 (by decide) ?_
  refine lv_istore_n (lv' := [(1, .int 0), (0, .ref (ad (4, i, j)))]) hx hb dX1_hours_1 rfl hl (by decide) rfl (fun ls hl => ?_)
  refine lv_iconst (v := nI 0) hx hb dX1_hours_2 (by decide) ?_
  refine lv_istore_n (lv' := [(2, .int (nI 0)), (1, .int 0), (0, .ref (ad (4, i, j)))]) hx hb dX1_hours_3 rfl hl (by decide) rfl (fun ls hl => ?_)
  refine loop_r (min 64 (g.2.1 4 i - 64 * j)) (fun q ls => lv_has ls 3 [(0, .ref (ad (4, i, j))), (1, .int (sumI (fun q => lcut (g.2.2 1 i) j q - lcut (g.2.2 0 i) j q) q)), (2, .int (nI q))]) (fun q hq ls hJ0 ih => ?_) (fun ls hJ0 => ?_) (lv_sub hl [2, 1, 0] rfl)
  · skip
    have hl := hJ0
    refine lv_iload_n hx hb dX1_hours_4 rfl (lv_at hl 2 rfl) ?_
    refine lv_aload_n hx hb dX1_hours_5 rfl (lv_at hl 0 rfl) ?_
    refine g1 hx hb hts hown hC hH i j hi hj 3 (by decide) wf_X1_22 (v := .int (nI (min 64 (g.2.1 4 i - 64 * j)))) rfl dX1_hours_6 ?_
    refine lv_icmp_ge (tgt := 40) hx hb dX1_hours_9 (by decide) (fun c9 => absurd c9 (nI_ge hq (by omega))) (fun c9 => ?_)
    refine lv_iload_n hx hb dX1_hours_12 rfl (lv_at hl 2 rfl) ?_
    refine lv_bipush (v := nI 64) hx hb dX1_hours_13 (by decide) ?_
    refine lv_icmp_ge (tgt := 40) hx hb dX1_hours_15 (by decide) (fun c15 => absurd c15 (nI_ge (show q < 64 by omega) (by decide))) (fun c15 => ?_)
    refine lv_iload_n hx hb dX1_hours_18 rfl (lv_at hl 1 rfl) ?_
    refine lv_aload_n hx hb dX1_hours_19 rfl (lv_at hl 0 rfl) ?_
    refine g1 hx hb hts hown hC hH i j hi hj 1 (by decide) wf_X1_15 (v := .ref (ad (6, i, j))) rfl dX1_hours_20 ?_
    refine lv_iload_n hx hb dX1_hours_23 rfl (lv_at hl 2 rfl) ?_
    refine l6Ld hx hb hC hH i j hi hj (q := q) (by omega) dX1_hours_24 ?_
    refine lv_aload_n hx hb dX1_hours_25 rfl (lv_at hl 0 rfl) ?_
    refine g1 hx hb hts hown hC hH i j hi hj 0 (by decide) wf_X1_9 (v := .ref (ad (5, i, j))) rfl dX1_hours_26 ?_
    refine lv_iload_n hx hb dX1_hours_29 rfl (lv_at hl 2 rfl) ?_
    refine l5Ld hx hb hC hH i j hi hj (q := q) (by omega) dX1_hours_30 ?_
    refine lv_isub hx hb dX1_hours_31 ?_
    refine lv_iadd hx hb dX1_hours_32 ?_
    refine lv_istore_n (lv' := [(1, .int ((sumI (fun q => lcut (g.2.2 1 i) j q - lcut (g.2.2 0 i) j q) q) + ((lcut (g.2.2 1 i) j q) - (lcut (g.2.2 0 i) j q)))), (0, .ref (ad (4, i, j))), (2, .int (nI q))]) hx hb dX1_hours_33 rfl hl (by decide) rfl (fun ls hl => ?_)
    refine lv_iinc (v := nI (q + 1)) (lv' := [(2, .int (nI (q + 1))), (1, .int ((sumI (fun q => lcut (g.2.2 1 i) j q - lcut (g.2.2 0 i) j q) q) + ((lcut (g.2.2 1 i) j q) - (lcut (g.2.2 0 i) j q)))), (0, .ref (ad (4, i, j)))]) hx hb dX1_hours_34 hl (k := 2) rfl (by rw [← nI_add]; rfl) (by decide) rfl (fun ls hl => ?_)
    refine lv_goto (tgt := 4) hx hb dX1_hours_37 (by decide) ?_
    exact ih ls (lv_sub hl [2, 1, 0] rfl)
  · skip
    have hl := hJ0
    refine lv_iload_n hx hb dX1_hours_4 rfl (lv_at hl 2 rfl) ?_
    refine lv_aload_n hx hb dX1_hours_5 rfl (lv_at hl 0 rfl) ?_
    refine g1 hx hb hts hown hC hH i j hi hj 3 (by decide) wf_X1_22 (v := .int (nI (min 64 (g.2.1 4 i - 64 * j)))) rfl dX1_hours_6 ?_
    refine lv_icmp_ge (tgt := 40) hx hb dX1_hours_9 (by decide) (fun c9 => ?_) (fun c9 => absurd (nI_le (Nat.le_refl _) (by omega)) c9)
    refine lv_iload_n hx hb dX1_hours_40 rfl (lv_at hl 1 rfl) ?_
    exact e_i hx hb hr hlocks rfl dX1_hours_41

set_option maxHeartbeats 4000000 in
set_option maxRecDepth 100000 in
theorem mX2_hoursOfLog (l : Launch) {D : va_G} {k : Nat → ClassId} {b : Nat} {ad : Tg → Nat} {g : XS} {M : MF} {o : OF} (i : Nat) (hi : i < g.2.1 0 0) : Met l yX2_hoursOfLog (WS yX2_hoursOfLog cX2_hoursOfLog 3 (some .int)) ({ frames := 1, cells := 0, slots := 0, locals := 22 }) (P0 D k b (Wo D k b ad g M o) [.ref (ad (1, i, 0))]) (Qr (some (.int (hbA g i (nbk (g.2.1 4 i)) (nbk (g.2.1 4 i)))))) 0 0 (fun _ => False) := by
  refine Met0 (by decide +kernel) (Nat.le_of_ble_eq_true rfl) (fun p e s m below meth c ls hx hb hr hts hown hml hlocks hnm hC hH hl => ?_)
  have hS : va_S (Fb b) s.heap s.heap [] := va_S.rf
  have hl : lv_has ls 3 [(0, .ref (ad (1, i, 0)))] := hl
  refine lv_iconst (v := 0) hx hb dX2_hoursOfLog_0 (by decide) ?_
  refine lv_istore_n (lv' := [(1, .int 0), (0, .ref (ad (1, i, 0)))]) hx hb dX2_hoursOfLog_1 rfl hl (by decide) rfl (fun ls hl => ?_)
  refine lv_aload_n hx hb dX2_hoursOfLog_2 rfl (lv_at hl 1 rfl) ?_
  refine g2 hx hb hts hown hC hH i hi 13 (by decide) wf_X2_63 (v := va_rf (lgO ad i (g.2.1 4 i))) rfl dX2_hoursOfLog_3 ?_
  refine W.eq (g2 := F0 m 6 ls [va_rf (bfO ad i (nbk (g.2.1 4 i) - 0))]) (by rw [lgO_bf]; rfl) ?_
  refine lv_astore_nO (lv' := [(2, va_rf (bfO ad i (nbk (g.2.1 4 i) - 0))), (1, .int 0), (0, .ref (ad (1, i, 0)))]) hx hb dX2_hoursOfLog_6 rfl hl (by decide) rfl (fun ls hl => ?_)
  refine loop_r (nbk (g.2.1 4 i)) (fun t ls => lv_has ls 3 [(0, .ref (ad (1, i, 0))), (1, .int (hbA g i (nbk (g.2.1 4 i)) t)), (2, va_rf (bfO ad i (nbk (g.2.1 4 i) - t)))]) (fun t ht ls hJ0 ih => ?_) (fun ls hJ0 => ?_) (lv_sub hl [2, 1, 0] rfl)
  · skip
    have hl := hJ0
    obtain ⟨z, hz⟩ : ∃ z, nbk (g.2.1 4 i) - t = z + 1 := ⟨nbk (g.2.1 4 i) - t - 1, by omega⟩
    have hz2 : 64 * z < g.2.1 4 i := by unfold nbk at hz; omega
    rw [hz, bfO_s] at hl
    have hl : lv_has ls 3 [(0, .ref (ad (1, i, 0))), (1, .int (hbA g i (nbk (g.2.1 4 i)) t)), (2, .ref (ad (4, i, z)))] := hl
    refine lv_aload_n hx hb dX2_hoursOfLog_7 rfl (lv_at hl 2 rfl) ?_
    refine lv_ifnull hx hb dX2_hoursOfLog_8 ?_
    refine lv_iload_n hx hb dX2_hoursOfLog_11 rfl (lv_at hl 1 rfl) ?_
    refine lv_aload_n hx hb dX2_hoursOfLog_12 rfl (lv_at hl 2 rfl) ?_
    refine k_r (va_runVN (As := []) (rest := [.int (hbA g i (nbk (g.2.1 4 i)) t)]) ⟨hx, hb, hml, hown, hts⟩ (mX1_hours l i hi z hz2) ⟨cn_of hts wk_X1_hours wi_X1 wm_X2_80 sd_X1_hours rfl rfl ⟨Nat.le_of_ble_eq_true rfl, Nat.le_of_ble_eq_true rfl⟩, hts _ wv_X1_hours, hts _ wl_X1_hours⟩ (P0.preV hC hS hH (Hp.recv hC.1 hH (4, i, z) ⟨hi, hz2⟩ rfl rfl)) rfl rfl hl.1 rfl (lv_room (Nat.le_of_ble_eq_true rfl)) dX2_hoursOfLog_13 ⟨Nat.le_of_ble_eq_true rfl, Nat.le_of_ble_eq_true rfl⟩) ?_
    refine W.eq (g2 := F0 m 16 ls [.int (bsI g i z), .int (hbA g i (nbk (g.2.1 4 i)) t)]) rfl ?_
    refine lv_iadd hx hb dX2_hoursOfLog_16 ?_
    refine lv_istore_n (lv' := [(1, .int ((hbA g i (nbk (g.2.1 4 i)) t) + (bsI g i z))), (0, .ref (ad (1, i, 0))), (2, .ref (ad (4, i, z)))]) hx hb dX2_hoursOfLog_17 rfl hl (by decide) rfl (fun ls hl => ?_)
    refine lv_aload_n hx hb dX2_hoursOfLog_18 rfl (lv_at hl 2 rfl) ?_
    refine g1N hx hb hts hown hC hH i z hi hz2 2 (by decide) wf_X2_84 (v := va_rf (bfO ad i z)) rfl dX2_hoursOfLog_19 ?_
    refine lv_astore_nO (lv' := [(2, va_rf (bfO ad i z)), (1, .int ((hbA g i (nbk (g.2.1 4 i)) t) + (bsI g i z))), (0, .ref (ad (1, i, 0)))]) hx hb dX2_hoursOfLog_22 rfl hl (by decide) rfl (fun ls hl => ?_)
    refine lv_goto (tgt := 7) hx hb dX2_hoursOfLog_23 (by decide) ?_
    refine ih ls ?_
    have h9 : nbk (g.2.1 4 i) - (t + 1) = z := by omega
    have h8 : hbA g i (nbk (g.2.1 4 i)) (t + 1) = hbA g i (nbk (g.2.1 4 i)) t + bsI g i z := by rw [← h9]; rfl
    rw [h8, h9]
    exact lv_sub hl [2, 1, 0] rfl
  · skip
    have hl := hJ0
    rw [Nat.sub_self, bfO_z] at hl
    have hl : lv_has ls 3 [(0, .ref (ad (1, i, 0))), (1, .int (hbA g i (nbk (g.2.1 4 i)) (nbk (g.2.1 4 i)))), (2, .null)] := hl
    refine lv_aload_nN hx hb dX2_hoursOfLog_7 rfl (lv_at hl 2 rfl) ?_
    refine lv_ifnullN (tgt := 26) hx hb dX2_hoursOfLog_8 (by decide) ?_
    refine lv_iload_n hx hb dX2_hoursOfLog_26 rfl (lv_at hl 1 rfl) ?_
    exact e_i hx hb hr hlocks rfl dX2_hoursOfLog_27
