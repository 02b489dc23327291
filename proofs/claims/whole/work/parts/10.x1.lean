/-! THE CLASS: methods that only read -/
theorem sd_L_call : Sd yL_call 3 := by decide +kernel
theorem sd_L_end : Sd yL_end 3 := by decide +kernel
theorem sd_L_lease : Sd yL_lease 8 := by decide +kernel
theorem sd_L_mast : Sd yL_mast 8 := by decide +kernel
theorem sd_L_move : Sd yL_move 4 := by decide +kernel
theorem sd_L_ofMast : Sd yL_ofMast 4 := by decide +kernel
theorem sd_L_ofPhone : Sd yL_ofPhone 4 := by decide +kernel
theorem sd_L_paid : Sd yL_paid 3 := by decide +kernel
theorem sd_L_pass : Sd yL_pass 3 := by decide +kernel
theorem sd_L_phone : Sd yL_phone 3 := by decide +kernel
theorem sd_L_strength : Sd yL_strength 3 := by decide +kernel
theorem sd_L_sun : Sd yL_sun 3 := by decide +kernel
theorem sd_L_trafficAnew : Sd yL_trafficAnew 3 := by decide +kernel
theorem sd_X0_init : Sd yX0_init 6 := by decide +kernel
theorem sd_X1_add : Sd yX1_add 2 := by decide +kernel
theorem sd_X1_hours : Sd yX1_hours 0 := by decide +kernel
theorem sd_X1_init : Sd yX1_init 1 := by decide +kernel
theorem sd_X1_isFull : Sd yX1_isFull 0 := by decide +kernel
theorem sd_X2_canTake : Sd yX2_canTake 1 := by decide +kernel
theorem sd_X2_covers : Sd yX2_covers 1 := by decide +kernel
theorem sd_X2_distanceTo : Sd yX2_distanceTo 1 := by decide +kernel
theorem sd_X2_hoursOfLog : Sd yX2_hoursOfLog 0 := by decide +kernel
theorem sd_X2_init : Sd yX2_init 7 := by decide +kernel
theorem sd_X2_isOn : Sd yX2_isOn 0 := by decide +kernel
theorem sd_X2_logStay : Sd yX2_logStay 2 := by decide +kernel
theorem sd_X2_takePower : Sd yX2_takePower 1 := by decide +kernel
theorem sd_X3_carrierNumber : Sd yX3_carrierNumber 0 := by decide +kernel
theorem sd_X3_comeTo : Sd yX3_comeTo 2 := by decide +kernel
theorem sd_X3_goAway : Sd yX3_goAway 1 := by decide +kernel
theorem sd_X3_init : Sd yX3_init 1 := by decide +kernel
theorem sd_X4_call : Sd yX4_call 1 := by decide +kernel
theorem sd_X4_countTraffic : Sd yX4_countTraffic 0 := by decide +kernel
theorem sd_X4_end : Sd yX4_end 1 := by decide +kernel
theorem sd_X4_endLeases : Sd yX4_endLeases 0 := by decide +kernel
theorem sd_X4_handOverOrDrop : Sd yX4_handOverOrDrop 1 := by decide +kernel
theorem sd_X4_holes : Sd yX4_holes 0 := by decide +kernel
theorem sd_X4_init : Sd yX4_init 0 := by decide +kernel
theorem sd_X4_isCovered : Sd yX4_isCovered 1 := by decide +kernel
theorem sd_X4_isFarmer : Sd yX4_isFarmer 1 := by decide +kernel
theorem sd_X4_isPlace : Sd yX4_isPlace 1 := by decide +kernel
theorem sd_X4_isWithin : Sd yX4_isWithin 3 := by decide +kernel
theorem sd_X4_lease : Sd yX4_lease 7 := by decide +kernel
theorem sd_X4_leaveMastsThatAreNotOn : Sd yX4_leaveMastsThatAreNotOn 0 := by decide +kernel
theorem sd_X4_letAnHourGoBy : Sd yX4_letAnHourGoBy 0 := by decide +kernel
theorem sd_X4_mast : Sd yX4_mast 6 := by decide +kernel
theorem sd_X4_mastAt : Sd yX4_mastAt 1 := by decide +kernel
theorem sd_X4_move : Sd yX4_move 2 := by decide +kernel
theorem sd_X4_nearestFree : Sd yX4_nearestFree 1 := by decide +kernel
theorem sd_X4_ofMast : Sd yX4_ofMast 2 := by decide +kernel
theorem sd_X4_ofPhone : Sd yX4_ofPhone 2 := by decide +kernel
theorem sd_X4_paid : Sd yX4_paid 1 := by decide +kernel
theorem sd_X4_pass : Sd yX4_pass 1 := by decide +kernel
theorem sd_X4_pay : Sd yX4_pay 2 := by decide +kernel
theorem sd_X4_payRent : Sd yX4_payRent 2 := by decide +kernel
theorem sd_X4_payRents : Sd yX4_payRents 0 := by decide +kernel
theorem sd_X4_phone : Sd yX4_phone 1 := by decide +kernel
theorem sd_X4_phoneAt : Sd yX4_phoneAt 1 := by decide +kernel
theorem sd_X4_powerMasts : Sd yX4_powerMasts 0 := by decide +kernel
theorem sd_X4_strength : Sd yX4_strength 1 := by decide +kernel
theorem sd_X4_sun : Sd yX4_sun 1 := by decide +kernel
theorem sd_X4_trafficAnew : Sd yX4_trafficAnew 1 := by decide +kernel
theorem sd_X5_apart : Sd yX5_apart 2 := by decide +kernel
theorem sd_X5_call : Sd yX5_call 1 := by decide +kernel
theorem sd_X5_carries : Sd yX5_carries 1 := by decide +kernel
theorem sd_X5_covers : Sd yX5_covers 2 := by decide +kernel
theorem sd_X5_end : Sd yX5_end 1 := by decide +kernel
theorem sd_X5_handOver : Sd yX5_handOver 1 := by decide +kernel
theorem sd_X5_holes : Sd yX5_holes 0 := by decide +kernel
theorem sd_X5_hourGoesBy : Sd yX5_hourGoesBy 0 := by decide +kernel
theorem sd_X5_in : Sd yX5_in 3 := by decide +kernel
theorem sd_X5_init : Sd yX5_init 0 := by decide +kernel
theorem sd_X5_isFarmer : Sd yX5_isFarmer 1 := by decide +kernel
theorem sd_X5_isLeased : Sd yX5_isLeased 1 := by decide +kernel
theorem sd_X5_isMast : Sd yX5_isMast 1 := by decide +kernel
theorem sd_X5_isOn : Sd yX5_isOn 1 := by decide +kernel
theorem sd_X5_isPhone : Sd yX5_isPhone 1 := by decide +kernel
theorem sd_X5_lease : Sd yX5_lease 7 := by decide +kernel
theorem sd_X5_mast : Sd yX5_mast 6 := by decide +kernel
theorem sd_X5_mastFor : Sd yX5_mastFor 1 := by decide +kernel
theorem sd_X5_move : Sd yX5_move 2 := by decide +kernel
theorem sd_X5_ofMast : Sd yX5_ofMast 2 := by decide +kernel
theorem sd_X5_ofPhone : Sd yX5_ofPhone 2 := by decide +kernel
theorem sd_X5_paid : Sd yX5_paid 1 := by decide +kernel
theorem sd_X5_pass : Sd yX5_pass 1 := by decide +kernel
theorem sd_X5_payRent : Sd yX5_payRent 1 := by decide +kernel
theorem sd_X5_phone : Sd yX5_phone 1 := by decide +kernel
theorem sd_X5_power : Sd yX5_power 1 := by decide +kernel
theorem sd_X5_strength : Sd yX5_strength 1 := by decide +kernel
theorem sd_X5_sun : Sd yX5_sun 1 := by decide +kernel
theorem sd_X5_thrown : Sd yX5_thrown 0 := by decide +kernel
theorem sd_X5_trafficAnew : Sd yX5_trafficAnew 1 := by decide +kernel
set_option maxHeartbeats 4000000 in
set_option maxRecDepth 100000 in
theorem mX4_isWithin (l : Launch) {D : va_G} {k : Nat → ClassId} {b : Nat} {ad : Tg → Nat} {g : XS} {M : MF} {o : OF} (a0 a1 a2 : Int32) : Met l yX4_isWithin (WS yX4_isWithin cX4_isWithin 3 (some .boolean)) ({ frames := 0, cells := 0, slots := 0, locals := 0 }) (P0 D k b (Wo D k b ad g M o) [.int a0, .int a1, .int a2]) (Qr (some (.int (b2 (inB a0 a1 a2))))) 0 0 (fun _ => False) := by
  refine Met0 (by decide +kernel) (Nat.le_of_ble_eq_true rfl) (fun p e s m below meth c ls hx hb hr hts hown hml hlocks hnm hC hH hl => ?_)
  have hS : va_S (Fb b) s.heap s.heap [] := va_S.rf
  have hl : lv_has ls 3 [(0, .int a0), (1, .int a1), (2, .int a2)] := hl
  refine lv_iload_n hx hb dX4_isWithin_0 rfl (lv_at hl 1 rfl) ?_
  refine lv_iload_n hx hb dX4_isWithin_1 rfl (lv_at hl 0 rfl) ?_
  refine lv_icmp_gt (tgt := 14) hx hb dX4_isWithin_2 (by decide) (fun c2 => ?_) (fun c2 => ?_)
  · skip
    have c2x := Int32.not_le.mpr c2
    refine lv_iconst (v := 0) hx hb dX4_isWithin_14 (by decide) ?_
    exact e_z hx hb hr hlocks (by simp [inB, b2, c2, c2x]) rfl dX4_isWithin_15
  · skip
    have c2x := Int32.not_lt.mp c2
    refine lv_iload_n hx hb dX4_isWithin_5 rfl (lv_at hl 0 rfl) ?_
    refine lv_iload_n hx hb dX4_isWithin_6 rfl (lv_at hl 2 rfl) ?_
    refine lv_icmp_gt (tgt := 14) hx hb dX4_isWithin_7 (by decide) (fun c7 => ?_) (fun c7 => ?_)
    · skip
      have c7x := Int32.not_le.mpr c7
      refine lv_iconst (v := 0) hx hb dX4_isWithin_14 (by decide) ?_
      exact e_z hx hb hr hlocks (by simp [inB, b2, c2, c2x, c7, c7x]) rfl dX4_isWithin_15
    · skip
      have c7x := Int32.not_lt.mp c7
      refine lv_iconst (v := 1) hx hb dX4_isWithin_10 (by decide) ?_
      refine lv_goto (tgt := 15) hx hb dX4_isWithin_11 (by decide) ?_
      exact e_z hx hb hr hlocks (by simp [inB, b2, c2, c2x, c7, c7x]) rfl dX4_isWithin_15

set_option maxHeartbeats 4000000 in
set_option maxRecDepth 100000 in
theorem mX4_isPlace (l : Launch) {D : va_G} {k : Nat → ClassId} {b : Nat} {ad : Tg → Nat} {g : XS} {M : MF} {o : OF} (a0 : Int32) : Met l yX4_isPlace (WS yX4_isPlace cX4_isPlace 1 (some .boolean)) ({ frames := 1, cells := 0, slots := 0, locals := 22 }) (P0 D k b (Wo D k b ad g M o) [.int a0]) (Qr (some (.int (b2 (inB a0 0 99))))) 0 0 (fun _ => False) := by
  refine Met0 (by decide +kernel) (Nat.le_of_ble_eq_true rfl) (fun p e s m below meth c ls hx hb hr hts hown hml hlocks hnm hC hH hl => ?_)
  have hS : va_S (Fb b) s.heap s.heap [] := va_S.rf
  have hl : lv_has ls 1 [(0, .int a0)] := hl
  refine lv_iload_n hx hb dX4_isPlace_0 rfl (lv_at hl 0 rfl) ?_
  refine lv_iconst (v := 0) hx hb dX4_isPlace_1 (by decide) ?_
  refine lv_bipush (v := 99) hx hb dX4_isPlace_2 (by decide) ?_
  refine k_r (va_runS (As := [.int a0, .int 0, .int 99]) (rest := []) ⟨hx, hb, hml, hown, hts⟩ (mX4_isWithin l a0 0 99) ⟨cb_of hts wk_X4_isWithin wi_X4 wm_X4_29 sd_X4_isWithin rfl rfl ⟨Nat.le_of_ble_eq_true rfl, Nat.le_of_ble_eq_true rfl⟩, hts _ wz_X4_isWithin⟩ (P0.pre hC hS hH) rfl rfl hl.1 rfl (lv_room (Nat.le_of_ble_eq_true rfl)) dX4_isPlace_4 ⟨Nat.le_of_ble_eq_true rfl, Nat.le_of_ble_eq_true rfl⟩) ?_
  refine W.eq (g2 := F0 m 7 ls [.int (b2 (inB a0 0 99))]) rfl ?_
  exact e_z hx hb hr hlocks rfl b2_z dX4_isPlace_7

set_option maxHeartbeats 4000000 in
set_option maxRecDepth 100000 in
theorem mX4_isFarmer (l : Launch) {D : va_G} {k : Nat → ClassId} {b : Nat} {ad : Tg → Nat} {g : XS} {M : MF} {o : OF} (a0 : Int32) : Met l yX4_isFarmer (WS yX4_isFarmer cX4_isFarmer 1 (some .boolean)) ({ frames := 1, cells := 0, slots := 0, locals := 22 }) (P0 D k b (Wo D k b ad g M o) [.int a0]) (Qr (some (.int (b2 (inB a0 0 5))))) 0 0 (fun _ => False) := by
  refine Met0 (by decide +kernel) (Nat.le_of_ble_eq_true rfl) (fun p e s m below meth c ls hx hb hr hts hown hml hlocks hnm hC hH hl => ?_)
  have hS : va_S (Fb b) s.heap s.heap [] := va_S.rf
  have hl : lv_has ls 1 [(0, .int a0)] := hl
  refine lv_iload_n hx hb dX4_isFarmer_0 rfl (lv_at hl 0 rfl) ?_
  refine lv_iconst (v := 0) hx hb dX4_isFarmer_1 (by decide) ?_
  refine lv_iconst (v := 5) hx hb dX4_isFarmer_2 (by decide) ?_
  refine k_r (va_runS (As := [.int a0, .int 0, .int 5]) (rest := []) ⟨hx, hb, hml, hown, hts⟩ (mX4_isWithin l a0 0 5) ⟨cb_of hts wk_X4_isWithin wi_X4 wm_X4_29 sd_X4_isWithin rfl rfl ⟨Nat.le_of_ble_eq_true rfl, Nat.le_of_ble_eq_true rfl⟩, hts _ wz_X4_isWithin⟩ (P0.pre hC hS hH) rfl rfl hl.1 rfl (lv_room (Nat.le_of_ble_eq_true rfl)) dX4_isFarmer_3 ⟨Nat.le_of_ble_eq_true rfl, Nat.le_of_ble_eq_true rfl⟩) ?_
  refine W.eq (g2 := F0 m 6 ls [.int (b2 (inB a0 0 5))]) rfl ?_
  exact e_z hx hb hr hlocks rfl b2_z dX4_isFarmer_6

set_option maxHeartbeats 4000000 in
set_option maxRecDepth 100000 in
theorem mX2_isOn (l : Launch) {D : va_G} {k : Nat → ClassId} {b : Nat} {ad : Tg → Nat} {g : XS} {M : MF} {o : OF} (i : Nat) (hi : i < g.2.1 0 0) : Met l yX2_isOn (WS yX2_isOn cX2_isOn 1 (some .boolean)) ({ frames := 0, cells := 0, slots := 0, locals := 0 }) (P0 D k b (Wo D k b ad g M o) [.ref (ad (1, i, 0))]) (Qr (some (.int (b2 (onB g i))))) 0 0 (fun _ => False) := by
  refine Met0 (by decide +kernel) (Nat.le_of_ble_eq_true rfl) (fun p e s m below meth c ls hx hb hr hts hown hml hlocks hnm hC hH hl => ?_)
  have hS : va_S (Fb b) s.heap s.heap [] := va_S.rf
  have hl : lv_has ls 1 [(0, .ref (ad (1, i, 0)))] := hl
  refine lv_aload_n hx hb dX2_isOn_0 rfl (lv_at hl 0 rfl) ?_
  refine g2 hx hb hts hown hC hH i hi 7 (by decide) wf_X2_34 (v := va_rf (lsO ad i (g.2.1 2 i))) rfl dX2_isOn_1 ?_
  by_cases c1 : g.2.1 2 i = 0
  · skip
    refine W.eq (g2 := F0 m 4 ls [.null]) (by simp [lsO, va_rf, c1]) ?_
    refine lv_ifnullN (tgt := 18) hx hb dX2_isOn_4 (by decide) ?_
    refine lv_iconst (v := 0) hx hb dX2_isOn_18 (by decide) ?_
    exact e_z hx hb hr hlocks (by simp [onB, b2, c1]) rfl dX2_isOn_19
  · skip
    refine W.eq (g2 := F0 m 4 ls [.ref (ad (3, i, 0))]) (by simp [lsO, va_rf, c1]) ?_
    refine lv_ifnull hx hb dX2_isOn_4 ?_
    refine lv_aload_n hx hb dX2_isOn_7 rfl (lv_at hl 0 rfl) ?_
    refine g2 hx hb hts hown hC hH i hi 8 (by decide) wf_X2_38 (v := .int (g.1 8 i)) rfl dX2_isOn_8 ?_
    refine lv_if_ne (tgt := 18) hx hb dX2_isOn_11 (by decide) (fun c11 => ?_) (fun c11 => ?_)
    · skip
      refine lv_iconst (v := 0) hx hb dX2_isOn_18 (by decide) ?_
      exact e_z hx hb hr hlocks (by simp [onB, b2, c1, c11]) rfl dX2_isOn_19
    · skip
      refine lv_iconst (v := 1) hx hb dX2_isOn_14 (by decide) ?_
      refine lv_goto (tgt := 19) hx hb dX2_isOn_15 (by decide) ?_
      exact e_z hx hb hr hlocks (by simp [onB, b2, c1, c11]) rfl dX2_isOn_19

set_option maxHeartbeats 4000000 in
set_option maxRecDepth 100000 in
theorem mX2_distanceTo (l : Launch) {D : va_G} {k : Nat → ClassId} {b : Nat} {ad : Tg → Nat} {g : XS} {M : MF} {o : OF} (i : Nat) (hi : i < g.2.1 0 0) (a0 : Int32) : Met l yX2_distanceTo (WS yX2_distanceTo cX2_distanceTo 2 (some .int)) ({ frames := 1, cells := 0, slots := 0, locals := 13 }) (P0 D k b (Wo D k b ad g M o) [.ref (ad (1, i, 0)), .int a0]) (Qr (some (.int (dsI g i a0)))) 0 0 (fun _ => False) := by
  refine Met0 (by decide +kernel) (Nat.le_of_ble_eq_true rfl) (fun p e s m below meth c ls hx hb hr hts hown hml hlocks hnm hC hH hl => ?_)
  have hS : va_S (Fb b) s.heap s.heap [] := va_S.rf
  have hl : lv_has ls 2 [(0, .ref (ad (1, i, 0))), (1, .int a0)] := hl
  refine lv_iload_n hx hb dX2_distanceTo_0 rfl (lv_at hl 1 rfl) ?_
  refine lv_aload_n hx hb dX2_distanceTo_1 rfl (lv_at hl 0 rfl) ?_
  refine g2 hx hb hts hown hC hH i hi 1 (by decide) wf_X2_15 (v := .int (g.1 1 i)) rfl dX2_distanceTo_2 ?_
  refine lv_isub hx hb dX2_distanceTo_5 ?_
  refine va_mabs hx hb (by rw [hml]; exact hl.1.symm) hown (hts _ wm_X2_41) (hts _ wz_abs) (hts _ wi_J9) (hts _ wk_abs) (Nat.le_of_ble_eq_true rfl) (Nat.le_of_ble_eq_true rfl) (Nat.zero_le _) (Nat.zero_le _) dX2_distanceTo_6 ?_
  exact e_i hx hb hr hlocks rfl dX2_distanceTo_9

set_option maxHeartbeats 4000000 in
set_option maxRecDepth 100000 in
theorem mX2_covers (l : Launch) {D : va_G} {k : Nat → ClassId} {b : Nat} {ad : Tg → Nat} {g : XS} {M : MF} {o : OF} (i : Nat) (hi : i < g.2.1 0 0) (a0 : Int32) : Met l yX2_covers (WS yX2_covers cX2_covers 2 (some .boolean)) ({ frames := 2, cells := 0, slots := 0, locals := 34 }) (P0 D k b (Wo D k b ad g M o) [.ref (ad (1, i, 0)), .int a0]) (Qr (some (.int (b2 (cvB g i a0))))) 0 0 (fun _ => False) := by
  refine Met0 (by decide +kernel) (Nat.le_of_ble_eq_true rfl) (fun p e s m below meth c ls hx hb hr hts hown hml hlocks hnm hC hH hl => ?_)
  have hS : va_S (Fb b) s.heap s.heap [] := va_S.rf
  have hl : lv_has ls 2 [(0, .ref (ad (1, i, 0))), (1, .int a0)] := hl
  refine lv_aload_n hx hb dX2_covers_0 rfl (lv_at hl 0 rfl) ?_
  refine lv_iload_n hx hb dX2_covers_1 rfl (lv_at hl 1 rfl) ?_
  refine k_r (va_runV (As := [.int a0]) (rest := []) ⟨hx, hb, hml, hown, hts⟩ (mX2_distanceTo l i hi a0) ⟨cb_of hts wk_X2_distanceTo wi_X2 wm_X2_47 sd_X2_distanceTo rfl rfl ⟨Nat.le_of_ble_eq_true rfl, Nat.le_of_ble_eq_true rfl⟩, hts _ wv_X2_distanceTo, hts _ wl_X2_distanceTo⟩ (P0.preV hC hS hH (Hp.recv hC.1 hH (1, i, 0) ⟨hi, rfl⟩ rfl rfl)) rfl rfl hl.1 rfl (lv_room (Nat.le_of_ble_eq_true rfl)) dX2_covers_2 ⟨Nat.le_of_ble_eq_true rfl, Nat.le_of_ble_eq_true rfl⟩) ?_
  refine W.eq (g2 := F0 m 5 ls [.int (dsI g i a0)]) rfl ?_
  refine lv_aload_n hx hb dX2_covers_5 rfl (lv_at hl 0 rfl) ?_
  refine g2 hx hb hts hown hC hH i hi 2 (by decide) wf_X2_18 (v := .int (g.1 2 i)) rfl dX2_covers_6 ?_
  refine lv_icmp_gt (tgt := 16) hx hb dX2_covers_9 (by decide) (fun c9 => ?_) (fun c9 => ?_)
  · skip
    have c9x := Int32.not_le.mpr c9
    refine lv_iconst (v := 0) hx hb dX2_covers_16 (by decide) ?_
    exact e_z hx hb hr hlocks (by simp [cvB, b2, c9, c9x]) rfl dX2_covers_17
  · skip
    have c9x := Int32.not_lt.mp c9
    refine lv_iconst (v := 1) hx hb dX2_covers_12 (by decide) ?_
    refine lv_goto (tgt := 17) hx hb dX2_covers_13 (by decide) ?_
    exact e_z hx hb hr hlocks (by simp [cvB, b2, c9, c9x]) rfl dX2_covers_17

set_option maxHeartbeats 4000000 in
set_option maxRecDepth 100000 in
theorem mX2_canTake (l : Launch) {D : va_G} {k : Nat → ClassId} {b : Nat} {ad : Tg → Nat} {g : XS} {M : MF} {o : OF} (i : Nat) (hi : i < g.2.1 0 0) (a0 : Int32) : Met l yX2_canTake (WS yX2_canTake cX2_canTake 2 (some .boolean)) ({ frames := 3, cells := 0, slots := 0, locals := 55 }) (P0 D k b (Wo D k b ad g M o) [.ref (ad (1, i, 0)), .int a0]) (Qr (some (.int (b2 (ctB g i a0))))) 0 0 (fun _ => False) := by
  refine Met0 (by decide +kernel) (Nat.le_of_ble_eq_true rfl) (fun p e s m below meth c ls hx hb hr hts hown hml hlocks hnm hC hH hl => ?_)
  have hS : va_S (Fb b) s.heap s.heap [] := va_S.rf
  have hl : lv_has ls 2 [(0, .ref (ad (1, i, 0))), (1, .int a0)] := hl
  refine lv_aload_n hx hb dX2_canTake_0 rfl (lv_at hl 0 rfl) ?_
  refine k_r (va_runV (As := []) (rest := []) ⟨hx, hb, hml, hown, hts⟩ (mX2_isOn l i hi) ⟨cb_of hts wk_X2_isOn wi_X2 wm_X2_50 sd_X2_isOn rfl rfl ⟨Nat.le_of_ble_eq_true rfl, Nat.le_of_ble_eq_true rfl⟩, hts _ wv_X2_isOn, hts _ wl_X2_isOn⟩ (P0.preV hC hS hH (Hp.recv hC.1 hH (1, i, 0) ⟨hi, rfl⟩ rfl rfl)) rfl rfl hl.1 rfl (lv_room (Nat.le_of_ble_eq_true rfl)) dX2_canTake_1 ⟨Nat.le_of_ble_eq_true rfl, Nat.le_of_ble_eq_true rfl⟩) ?_
  refine W.eq (g2 := F0 m 4 ls [.int (b2 (onB g i))]) rfl ?_
  refine lv_if_eq (tgt := 30) hx hb dX2_canTake_4 (by decide) (fun c4 => ?_) (fun c4 => ?_)
  · skip
    have c4 := b2_0.mp c4
    refine lv_iconst (v := 0) hx hb dX2_canTake_30 (by decide) ?_
    exact e_z hx hb hr hlocks (by simp [ctB, b2, c4]) rfl dX2_canTake_31
  · skip
    have c4 := b2_n0.mp c4
    refine lv_aload_n hx hb dX2_canTake_7 rfl (lv_at hl 0 rfl) ?_
    refine lv_iload_n hx hb dX2_canTake_8 rfl (lv_at hl 1 rfl) ?_
    refine k_r (va_runV (As := [.int a0]) (rest := []) ⟨hx, hb, hml, hown, hts⟩ (mX2_covers l i hi a0) ⟨cb_of hts wk_X2_covers wi_X2 wm_X2_54 sd_X2_covers rfl rfl ⟨Nat.le_of_ble_eq_true rfl, Nat.le_of_ble_eq_true rfl⟩, hts _ wv_X2_covers, hts _ wl_X2_covers⟩ (P0.preV hC hS hH (Hp.recv hC.1 hH (1, i, 0) ⟨hi, rfl⟩ rfl rfl)) rfl rfl hl.1 rfl (lv_room (Nat.le_of_ble_eq_true rfl)) dX2_canTake_9 ⟨Nat.le_of_ble_eq_true rfl, Nat.le_of_ble_eq_true rfl⟩) ?_
    refine W.eq (g2 := F0 m 12 ls [.int (b2 (cvB g i a0))]) rfl ?_
    refine lv_if_eq (tgt := 30) hx hb dX2_canTake_12 (by decide) (fun c12 => ?_) (fun c12 => ?_)
    · skip
      have c12 := b2_0.mp c12
      refine lv_iconst (v := 0) hx hb dX2_canTake_30 (by decide) ?_
      exact e_z hx hb hr hlocks (by simp [ctB, b2, c4, c12]) rfl dX2_canTake_31
    · skip
      have c12 := b2_n0.mp c12
      refine lv_aload_n hx hb dX2_canTake_15 rfl (lv_at hl 0 rfl) ?_
      refine g2 hx hb hts hown hC hH i hi 9 (by decide) wf_X2_58 (v := .int (g.1 9 i)) rfl dX2_canTake_16 ?_
      refine lv_aload_n hx hb dX2_canTake_19 rfl (lv_at hl 0 rfl) ?_
      refine g2 hx hb hts hown hC hH i hi 3 (by decide) wf_X2_21 (v := .int (g.1 3 i)) rfl dX2_canTake_20 ?_
      refine lv_icmp_ge (tgt := 30) hx hb dX2_canTake_23 (by decide) (fun c23 => ?_) (fun c23 => ?_)
      · skip
        have c23x := Int32.not_lt.mpr c23
        refine lv_iconst (v := 0) hx hb dX2_canTake_30 (by decide) ?_
        exact e_z hx hb hr hlocks (by simp [ctB, b2, c4, c12, c23, c23x]) rfl dX2_canTake_31
      · skip
        have c23x := Int32.not_le.mp c23
        refine lv_iconst (v := 1) hx hb dX2_canTake_26 (by decide) ?_
        refine lv_goto (tgt := 31) hx hb dX2_canTake_27 (by decide) ?_
        exact e_z hx hb hr hlocks (by simp [ctB, b2, c4, c12, c23, c23x]) rfl dX2_canTake_31

set_option maxHeartbeats 4000000 in
set_option maxRecDepth 100000 in
theorem mX3_carrierNumber (l : Launch) {D : va_G} {k : Nat → ClassId} {b : Nat} {ad : Tg → Nat} {g : XS} {M : MF} {o : OF} (q : Nat) (hq : q < g.2.1 1 0) (hI : XI g) : Met l yX3_carrierNumber (WS yX3_carrierNumber cX3_carrierNumber 1 (some .int)) ({ frames := 0, cells := 0, slots := 0, locals := 0 }) (P0 D k b (Wo D k b ad g M o) [.ref (ad (2, q, 0))]) (Qr (some (.int (cnI g q)))) 0 0 (fun _ => False) := by
  refine Met0 (by decide +kernel) (Nat.le_of_ble_eq_true rfl) (fun p e s m below meth c ls hx hb hr hts hown hml hlocks hnm hC hH hl => ?_)
  have hS : va_S (Fb b) s.heap s.heap [] := va_S.rf
  have hl : lv_has ls 1 [(0, .ref (ad (2, q, 0)))] := hl
  refine lv_aload_n hx hb dX3_carrierNumber_0 rfl (lv_at hl 0 rfl) ?_
  refine g3 hx hb hts hown hC hH q hq 1 (by decide) wf_X3_15 (v := va_rf (mrO ad (g.2.1 3 q))) rfl dX3_carrierNumber_1 ?_
  by_cases c1 : g.2.1 3 q = 0
  · skip
    refine W.eq (g2 := F0 m 4 ls [.null]) (by simp [mrO, va_rf, c1]) ?_
    refine lv_ifnonnullN hx hb dX3_carrierNumber_4 ?_
    refine lv_iconst (v := (-1)) hx hb dX3_carrierNumber_7 (by decide) ?_
    refine lv_goto (tgt := 18) hx hb dX3_carrierNumber_8 (by decide) ?_
    exact e_i hx hb hr hlocks (by simp [cnI, c1]) dX3_carrierNumber_18
  · skip
    refine W.eq (g2 := F0 m 4 ls [.ref (ad (1, g.2.1 3 q - 1, 0))]) (by simp [mrO, va_rf, c1]) ?_
    refine lv_ifnonnull (tgt := 11) hx hb dX3_carrierNumber_4 (by decide) ?_
    refine lv_aload_n hx hb dX3_carrierNumber_11 rfl (lv_at hl 0 rfl) ?_
    refine g3 hx hb hts hown hC hH q hq 1 (by decide) wf_X3_15 (v := va_rf (mrO ad (g.2.1 3 q))) rfl dX3_carrierNumber_12 ?_
    refine W.eq (g2 := F0 m 15 ls [.ref (ad (1, g.2.1 3 q - 1, 0))]) (by simp [mrO, va_rf, c1]) ?_
    refine g2N hx hb hts hown hC hH (g.2.1 3 q - 1) (by have := hI.2.2.1 q hq; omega) 0 (by decide) wf_X3_19 (v := .int (g.1 0 (g.2.1 3 q - 1))) rfl dX3_carrierNumber_15 ?_
    exact e_i hx hb hr hlocks (by simp [cnI, c1]) dX3_carrierNumber_18

set_option maxHeartbeats 4000000 in
set_option maxRecDepth 100000 in
theorem mX1_isFull (l : Launch) {D : va_G} {k : Nat → ClassId} {b : Nat} {ad : Tg → Nat} {g : XS} {M : MF} {o : OF} (i : Nat) (hi : i < g.2.1 0 0) (j : Nat) (hj : 64 * j < g.2.1 4 i) : Met l yX1_isFull (WS yX1_isFull cX1_isFull 1 (some .boolean)) ({ frames := 0, cells := 0, slots := 0, locals := 0 }) (P0 D k b (Wo D k b ad g M o) [.ref (ad (4, i, j))]) (Qr (some (.int (b2 (decide (nI 64 ≤ nI (min 64 (g.2.1 4 i - 64 * j)))))))) 0 0 (fun _ => False) := by
  refine Met0 (by decide +kernel) (Nat.le_of_ble_eq_true rfl) (fun p e s m below meth c ls hx hb hr hts hown hml hlocks hnm hC hH hl => ?_)
  have hS : va_S (Fb b) s.heap s.heap [] := va_S.rf
  have hl : lv_has ls 1 [(0, .ref (ad (4, i, j)))] := hl
  refine lv_aload_n hx hb dX1_isFull_0 rfl (lv_at hl 0 rfl) ?_
  refine g1 hx hb hts hown hC hH i j hi hj 3 (by decide) wf_X1_22 (v := .int (nI (min 64 (g.2.1 4 i - 64 * j)))) rfl dX1_isFull_1 ?_
  refine lv_bipush (v := 64) hx hb dX1_isFull_4 (by decide) ?_
  refine lv_icmp_lt (tgt := 13) hx hb dX1_isFull_6 (by decide) (fun c6 => ?_) (fun c6 => ?_)
  · skip
    have c6x := Int32.not_le.mpr c6
    refine lv_iconst (v := 0) hx hb dX1_isFull_13 (by decide) ?_
    exact e_z hx hb hr hlocks (by simp [b2, show nI 64 = 64 from rfl, c6, c6x]) rfl dX1_isFull_14
  · skip
    have c6x := Int32.not_lt.mp c6
    refine lv_iconst (v := 1) hx hb dX1_isFull_9 (by decide) ?_
    refine lv_goto (tgt := 14) hx hb dX1_isFull_10 (by decide) ?_
    exact e_z hx hb hr hlocks (by simp [b2, show nI 64 = 64 from rfl, c6, c6x]) rfl dX1_isFull_14
