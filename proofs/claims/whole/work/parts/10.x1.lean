/-! THE CLASS: methods that only read -/
theorem cvA_up {g : XS} {p : Int32} {i : Nat} (hi : i < 8) (h : cvA g p (i + 1) = true) : cvA g p 8 = true := by
  have key : ∀ z, i + 1 + z ≤ 8 → cvA g p (i + 1 + z) = true := by
    intro z
    induction z with
    | zero => intro _; exact h
    | succ z ih => intro hz; show (cvA g p (i + 1 + z) || _) = true; rw [ih (by omega)]; rfl
  have := key (7 - i) (by omega)
  rwa [show i + 1 + (7 - i) = 8 by omega] at this
theorem sd_L_call : Sd yL_call 3 := by decide +kernel
theorem sd_L_end : Sd yL_end 3 := by decide +kernel
theorem sd_L_lease : Sd yL_lease 8 := by decide +kernel
theorem sd_L_mast : Sd yL_mast 8 := by decide +kernel
theorem sd_L_move : Sd yL_move 4 := by decide +kernel
theorem sd_L_ofMast : Sd yL_ofMast 4 := by decide +kernel
theorem sd_L_ofPhone : Sd yL_ofPhone 4 := by decide +kernel
theorem sd_L_paid : Sd yL_paid 3 := by decide +kernel
theorem sd_L_pass : Sd yL_pass 3 := by decide +kernel
theorem sd_L_phone : Sd yL_phone 3 := by decide +kernel
theorem sd_L_strength : Sd yL_strength 3 := by decide +kernel
theorem sd_L_sun : Sd yL_sun 3 := by decide +kernel
theorem sd_L_trafficAnew : Sd yL_trafficAnew 3 := by decide +kernel
theorem sd_X0_init : Sd yX0_init 6 := by decide +kernel
theorem sd_X1_add : Sd yX1_add 2 := by decide +kernel
theorem sd_X1_hours : Sd yX1_hours 0 := by decide +kernel
theorem sd_X1_init : Sd yX1_init 1 := by decide +kernel
theorem sd_X1_isFull : Sd yX1_isFull 0 := by decide +kernel
theorem sd_X2_covers : Sd yX2_covers 1 := by decide +kernel
theorem sd_X2_distanceTo : Sd yX2_distanceTo 1 := by decide +kernel
theorem sd_X2_hasRoom : Sd yX2_hasRoom 0 := by decide +kernel
theorem sd_X2_hoursOfLog : Sd yX2_hoursOfLog 0 := by decide +kernel
theorem sd_X2_init : Sd yX2_init 7 := by decide +kernel
theorem sd_X2_isOn : Sd yX2_isOn 0 := by decide +kernel
theorem sd_X2_logStay : Sd yX2_logStay 2 := by decide +kernel
theorem sd_X2_takePower : Sd yX2_takePower 1 := by decide +kernel
theorem sd_X3_carrierNumber : Sd yX3_carrierNumber 0 := by decide +kernel
theorem sd_X3_comeTo : Sd yX3_comeTo 2 := by decide +kernel
theorem sd_X3_goAway : Sd yX3_goAway 1 := by decide +kernel
theorem sd_X3_init : Sd yX3_init 1 := by decide +kernel
theorem sd_X4_call : Sd yX4_call 1 := by decide +kernel
theorem sd_X4_countTraffic : Sd yX4_countTraffic 0 := by decide +kernel
theorem sd_X4_end : Sd yX4_end 1 := by decide +kernel
theorem sd_X4_endLeases : Sd yX4_endLeases 0 := by decide +kernel
theorem sd_X4_handOverOrDrop : Sd yX4_handOverOrDrop 1 := by decide +kernel
theorem sd_X4_holes : Sd yX4_holes 0 := by decide +kernel
theorem sd_X4_init : Sd yX4_init 0 := by decide +kernel
theorem sd_X4_isCovered : Sd yX4_isCovered 1 := by decide +kernel
theorem sd_X4_isFarmer : Sd yX4_isFarmer 1 := by decide +kernel
theorem sd_X4_isPlace : Sd yX4_isPlace 1 := by decide +kernel
theorem sd_X4_isWithin : Sd yX4_isWithin 3 := by decide +kernel
theorem sd_X4_lease : Sd yX4_lease 7 := by decide +kernel
theorem sd_X4_leaveMastsThatAreNotOn : Sd yX4_leaveMastsThatAreNotOn 0 := by decide +kernel
theorem sd_X4_letAnHourGoBy : Sd yX4_letAnHourGoBy 0 := by decide +kernel
theorem sd_X4_mast : Sd yX4_mast 6 := by decide +kernel
theorem sd_X4_mastAt : Sd yX4_mastAt 1 := by decide +kernel
theorem sd_X4_move : Sd yX4_move 2 := by decide +kernel
theorem sd_X4_nearestFree : Sd yX4_nearestFree 1 := by decide +kernel
theorem sd_X4_ofMast : Sd yX4_ofMast 2 := by decide +kernel
theorem sd_X4_ofPhone : Sd yX4_ofPhone 2 := by decide +kernel
theorem sd_X4_paid : Sd yX4_paid 1 := by decide +kernel
theorem sd_X4_pass : Sd yX4_pass 1 := by decide +kernel
theorem sd_X4_pay : Sd yX4_pay 2 := by decide +kernel
theorem sd_X4_payRent : Sd yX4_payRent 2 := by decide +kernel
theorem sd_X4_payRents : Sd yX4_payRents 0 := by decide +kernel
theorem sd_X4_phone : Sd yX4_phone 1 := by decide +kernel
theorem sd_X4_phoneAt : Sd yX4_phoneAt 1 := by decide +kernel
theorem sd_X4_powerMasts : Sd yX4_powerMasts 0 := by decide +kernel
theorem sd_X4_strength : Sd yX4_strength 1 := by decide +kernel
theorem sd_X4_sun : Sd yX4_sun 1 := by decide +kernel
theorem sd_X4_trafficAnew : Sd yX4_trafficAnew 1 := by decide +kernel
theorem sd_X5_apart : Sd yX5_apart 2 := by decide +kernel
theorem sd_X5_call : Sd yX5_call 1 := by decide +kernel
theorem sd_X5_carries : Sd yX5_carries 1 := by decide +kernel
theorem sd_X5_covers : Sd yX5_covers 2 := by decide +kernel
theorem sd_X5_end : Sd yX5_end 1 := by decide +kernel
theorem sd_X5_handOver : Sd yX5_handOver 1 := by decide +kernel
theorem sd_X5_holes : Sd yX5_holes 0 := by decide +kernel
theorem sd_X5_hourGoesBy : Sd yX5_hourGoesBy 0 := by decide +kernel
theorem sd_X5_in : Sd yX5_in 3 := by decide +kernel
theorem sd_X5_init : Sd yX5_init 0 := by decide +kernel
theorem sd_X5_isFarmer : Sd yX5_isFarmer 1 := by decide +kernel
theorem sd_X5_isLeased : Sd yX5_isLeased 1 := by decide +kernel
theorem sd_X5_isMast : Sd yX5_isMast 1 := by decide +kernel
theorem sd_X5_isOn : Sd yX5_isOn 1 := by decide +kernel
theorem sd_X5_isPhone : Sd yX5_isPhone 1 := by decide +kernel
theorem sd_X5_lease : Sd yX5_lease 7 := by decide +kernel
theorem sd_X5_mast : Sd yX5_mast 6 := by decide +kernel
theorem sd_X5_mastFor : Sd yX5_mastFor 1 := by decide +kernel
theorem sd_X5_move : Sd yX5_move 2 := by decide +kernel
theorem sd_X5_ofMast : Sd yX5_ofMast 2 := by decide +kernel
theorem sd_X5_ofPhone : Sd yX5_ofPhone 2 := by decide +kernel
theorem sd_X5_paid : Sd yX5_paid 1 := by decide +kernel
theorem sd_X5_pass : Sd yX5_pass 1 := by decide +kernel
theorem sd_X5_payRent : Sd yX5_payRent 1 := by decide +kernel
theorem sd_X5_phone : Sd yX5_phone 1 := by decide +kernel
theorem sd_X5_power : Sd yX5_power 1 := by decide +kernel
theorem sd_X5_strength : Sd yX5_strength 1 := by decide +kernel
theorem sd_X5_sun : Sd yX5_sun 1 := by decide +kernel
theorem sd_X5_thrown : Sd yX5_thrown 0 := by decide +kernel
theorem sd_X5_trafficAnew : Sd yX5_trafficAnew 1 := by decide +kernel
set_option maxHeartbeats 4000000 in
set_option maxRecDepth 100000 in
theorem mX4_isWithin (l : Launch) {D : va_G} {k : Nat → ClassId} {b : Nat} {B : Heap → Prop} (a0 a1 a2 : Int32) : Met l yX4_isWithin (WS yX4_isWithin cX4_isWithin 3 (some .boolean)) ({ frames := 0, cells := 0, slots := 0, locals := 0 }) (P0 D k b (B) [.int a0, .int a1, .int a2]) (Qr (some (.int (b2 (inB a0 a1 a2))))) 0 0 (fun _ => False) := by
  refine Met0 (by decide +kernel) (Nat.le_of_ble_eq_true rfl) (fun p e s m below meth c ls hx hb hr hts hown hml hlocks hnm hC hH hl => ?_)
  have hS : va_S (Fb b) s.heap s.heap [] := va_S.rf
  have hl : lv_has ls 3 [(0, .int a0), (1, .int a1), (2, .int a2)] := hl
  refine lv_iload_n hx hb dX4_isWithin_0 rfl (lv_at hl 1 rfl) ?_
  refine lv_iload_n hx hb dX4_isWithin_1 rfl (lv_at hl 0 rfl) ?_
  refine lv_icmp_gt (tgt := 14) hx hb dX4_isWithin_2 (by decide) (fun c2 => ?_) (fun c2 => ?_)
  · skip
    have c2x := Int32.not_le.mpr c2
    refine lv_iconst (v := 0) hx hb dX4_isWithin_14 (by decide) ?_
    exact e_z hx hb hr hlocks (by simp [inB, b2, c2, c2x]) rfl dX4_isWithin_15
  · skip
    have c2x := Int32.not_lt.mp c2
    refine lv_iload_n hx hb dX4_isWithin_5 rfl (lv_at hl 0 rfl) ?_
    refine lv_iload_n hx hb dX4_isWithin_6 rfl (lv_at hl 2 rfl) ?_
    refine lv_icmp_gt (tgt := 14) hx hb dX4_isWithin_7 (by decide) (fun c7 => ?_) (fun c7 => ?_)
    · skip
      have c7x := Int32.not_le.mpr c7
      refine lv_iconst (v := 0) hx hb dX4_isWithin_14 (by decide) ?_
      exact e_z hx hb hr hlocks (by simp [inB, b2, c2, c2x, c7, c7x]) rfl dX4_isWithin_15
    · skip
      have c7x := Int32.not_lt.mp c7
      refine lv_iconst (v := 1) hx hb dX4_isWithin_10 (by decide) ?_
      refine lv_goto (tgt := 15) hx hb dX4_isWithin_11 (by decide) ?_
      exact e_z hx hb hr hlocks (by simp [inB, b2, c2, c2x, c7, c7x]) rfl dX4_isWithin_15

set_option maxHeartbeats 4000000 in
set_option maxRecDepth 100000 in
theorem mX4_isPlace (l : Launch) {D : va_G} {k : Nat → ClassId} {b : Nat} {ad : Tg → Nat} {g : XS} {M : MF} {o : OF} (a0 : Int32) : Met l yX4_isPlace (WS yX4_isPlace cX4_isPlace 1 (some .boolean)) ({ frames := 1, cells := 0, slots := 0, locals := 22 }) (P0 D k b (Wo D k b ad g M o) [.int a0]) (Qr (some (.int (b2 (inB a0 0 99))))) 0 0 (fun _ => False) := by
  refine Met0 (by decide +kernel) (Nat.le_of_ble_eq_true rfl) (fun p e s m below meth c ls hx hb hr hts hown hml hlocks hnm hC hH hl => ?_)
  have hS : va_S (Fb b) s.heap s.heap [] := va_S.rf
  have hl : lv_has ls 1 [(0, .int a0)] := hl
  refine lv_iload_n hx hb dX4_isPlace_0 rfl (lv_at hl 0 rfl) ?_
  refine lv_iconst (v := 0) hx hb dX4_isPlace_1 (by decide) ?_
  refine lv_bipush (v := 99) hx hb dX4_isPlace_2 (by decide) ?_
  refine k_r (va_runS (As := [.int a0, .int 0, .int 99]) (rest := []) ⟨hx, hb, hml, hown, hts⟩ (mX4_isWithin l a0 0 99) ⟨cb_of hts wk_X4_isWithin wi_X4 wm_X4_29 sd_X4_isWithin rfl rfl ⟨Nat.le_of_ble_eq_true rfl, Nat.le_of_ble_eq_true rfl⟩, hts _ wz_X4_isWithin⟩ (P0.pre hC hS hH) rfl rfl hl.1 rfl (lv_room (Nat.le_of_ble_eq_true rfl)) dX4_isPlace_4 ⟨Nat.le_of_ble_eq_true rfl, Nat.le_of_ble_eq_true rfl⟩) ?_
  refine W.eq (g2 := F0 m 7 ls [.int (b2 (inB a0 0 99))]) rfl ?_
  exact e_z hx hb hr hlocks rfl b2_z dX4_isPlace_7

set_option maxHeartbeats 4000000 in
set_option maxRecDepth 100000 in
theorem mX4_isFarmer (l : Launch) {D : va_G} {k : Nat → ClassId} {b : Nat} {ad : Tg → Nat} {g : XS} {M : MF} {o : OF} (a0 : Int32) : Met l yX4_isFarmer (WS yX4_isFarmer cX4_isFarmer 1 (some .boolean)) ({ frames := 1, cells := 0, slots := 0, locals := 22 }) (P0 D k b (Wo D k b ad g M o) [.int a0]) (Qr (some (.int (b2 (inB a0 0 5))))) 0 0 (fun _ => False) := by
  refine Met0 (by decide +kernel) (Nat.le_of_ble_eq_true rfl) (fun p e s m below meth c ls hx hb hr hts hown hml hlocks hnm hC hH hl => ?_)
  have hS : va_S (Fb b) s.heap s.heap [] := va_S.rf
  have hl : lv_has ls 1 [(0, .int a0)] := hl
  refine lv_iload_n hx hb dX4_isFarmer_0 rfl (lv_at hl 0 rfl) ?_
  refine lv_iconst (v := 0) hx hb dX4_isFarmer_1 (by decide) ?_
  refine lv_iconst (v := 5) hx hb dX4_isFarmer_2 (by decide) ?_
  refine k_r (va_runS (As := [.int a0, .int 0, .int 5]) (rest := []) ⟨hx, hb, hml, hown, hts⟩ (mX4_isWithin l a0 0 5) ⟨cb_of hts wk_X4_isWithin wi_X4 wm_X4_29 sd_X4_isWithin rfl rfl ⟨Nat.le_of_ble_eq_true rfl, Nat.le_of_ble_eq_true rfl⟩, hts _ wz_X4_isWithin⟩ (P0.pre hC hS hH) rfl rfl hl.1 rfl (lv_room (Nat.le_of_ble_eq_true rfl)) dX4_isFarmer_3 ⟨Nat.le_of_ble_eq_true rfl, Nat.le_of_ble_eq_true rfl⟩) ?_
  refine W.eq (g2 := F0 m 6 ls [.int (b2 (inB a0 0 5))]) rfl ?_
  exact e_z hx hb hr hlocks rfl b2_z dX4_isFarmer_6

set_option maxHeartbeats 4000000 in
set_option maxRecDepth 100000 in
theorem mX2_isOn (l : Launch) {D : va_G} {k : Nat → ClassId} {b : Nat} {ad : Tg → Nat} {g : XS} {M : MF} {o : OF} (i : Nat) (hi : i < g.2.1 0 0) : Met l yX2_isOn (WS yX2_isOn cX2_isOn 1 (some .boolean)) ({ frames := 0, cells := 0, slots := 0, locals := 0 }) (P0 D k b (Wo D k b ad g M o) [.ref (ad (1, i, 0))]) (Qr (some (.int (b2 (onB g i))))) 0 0 (fun _ => False) := by
  refine Met0 (by decide +kernel) (Nat.le_of_ble_eq_true rfl) (fun p e s m below meth c ls hx hb hr hts hown hml hlocks hnm hC hH hl => ?_)
  have hS : va_S (Fb b) s.heap s.heap [] := va_S.rf
  have hl : lv_has ls 1 [(0, .ref (ad (1, i, 0)))] := hl
  refine lv_aload_n hx hb dX2_isOn_0 rfl (lv_at hl 0 rfl) ?_
  refine g2 hx hb hts hown hC hH i hi 7 (by decide) wf_X2_34 (v := va_rf (lsO ad i (g.2.1 2 i))) rfl dX2_isOn_1 ?_
  by_cases c1 : g.2.1 2 i = 0
  · skip
    refine W.eq (g2 := F0 m 4 ls [.null]) (by simp [lsO, va_rf, c1]) ?_
    refine lv_ifnullN (tgt := 18) hx hb dX2_isOn_4 (by decide) ?_
    refine lv_iconst (v := 0) hx hb dX2_isOn_18 (by decide) ?_
    exact e_z hx hb hr hlocks (by simp [onB, b2, c1]) rfl dX2_isOn_19
  · skip
    refine W.eq (g2 := F0 m 4 ls [.ref (ad (3, i, 0))]) (by simp [lsO, va_rf, c1]) ?_
    refine lv_ifnull hx hb dX2_isOn_4 ?_
    refine lv_aload_n hx hb dX2_isOn_7 rfl (lv_at hl 0 rfl) ?_
    refine g2 hx hb hts hown hC hH i hi 8 (by decide) wf_X2_38 (v := .int (g.1 8 i)) rfl dX2_isOn_8 ?_
    refine lv_if_ne (tgt := 18) hx hb dX2_isOn_11 (by decide) (fun c11 => ?_) (fun c11 => ?_)
    · skip
      refine lv_iconst (v := 0) hx hb dX2_isOn_18 (by decide) ?_
      exact e_z hx hb hr hlocks (by simp [onB, b2, c1, c11]) rfl dX2_isOn_19
    · skip
      refine lv_iconst (v := 1) hx hb dX2_isOn_14 (by decide) ?_
      refine lv_goto (tgt := 19) hx hb dX2_isOn_15 (by decide) ?_
      exact e_z hx hb hr hlocks (by simp [onB, b2, c1, c11]) rfl dX2_isOn_19

set_option maxHeartbeats 4000000 in
set_option maxRecDepth 100000 in
theorem mX2_distanceTo (l : Launch) {D : va_G} {k : Nat → ClassId} {b : Nat} {ad : Tg → Nat} {g : XS} {M : MF} {o : OF} (i : Nat) (hi : i < g.2.1 0 0) (a0 : Int32) : Met l yX2_distanceTo (WS yX2_distanceTo cX2_distanceTo 2 (some .int)) ({ frames := 1, cells := 0, slots := 0, locals := 13 }) (P0 D k b (Wo D k b ad g M o) [.ref (ad (1, i, 0)), .int a0]) (Qr (some (.int (dsI g i a0)))) 0 0 (fun _ => False) := by
  refine Met0 (by decide +kernel) (Nat.le_of_ble_eq_true rfl) (fun p e s m below meth c ls hx hb hr hts hown hml hlocks hnm hC hH hl => ?_)
  have hS : va_S (Fb b) s.heap s.heap [] := va_S.rf
  have hl : lv_has ls 2 [(0, .ref (ad (1, i, 0))), (1, .int a0)] := hl
  refine lv_iload_n hx hb dX2_distanceTo_0 rfl (lv_at hl 1 rfl) ?_
  refine lv_aload_n hx hb dX2_distanceTo_1 rfl (lv_at hl 0 rfl) ?_
  refine g2 hx hb hts hown hC hH i hi 1 (by decide) wf_X2_15 (v := .int (g.1 1 i)) rfl dX2_distanceTo_2 ?_
  refine lv_isub hx hb dX2_distanceTo_5 ?_
  refine va_mabs hx hb (by rw [hml]; exact hl.1.symm) hown (hts _ wm_X2_41) (hts _ wz_abs) (hts _ wi_J9) (hts _ wk_abs) (Nat.le_of_ble_eq_true rfl) (Nat.le_of_ble_eq_true rfl) (Nat.zero_le _) (Nat.zero_le _) dX2_distanceTo_6 ?_
  exact e_i hx hb hr hlocks rfl dX2_distanceTo_9

set_option maxHeartbeats 4000000 in
set_option maxRecDepth 100000 in
theorem mX2_covers (l : Launch) {D : va_G} {k : Nat → ClassId} {b : Nat} {ad : Tg → Nat} {g : XS} {M : MF} {o : OF} (i : Nat) (hi : i < g.2.1 0 0) (a0 : Int32) : Met l yX2_covers (WS yX2_covers cX2_covers 2 (some .boolean)) ({ frames := 2, cells := 0, slots := 0, locals := 34 }) (P0 D k b (Wo D k b ad g M o) [.ref (ad (1, i, 0)), .int a0]) (Qr (some (.int (b2 (cvB g i a0))))) 0 0 (fun _ => False) := by
  refine Met0 (by decide +kernel) (Nat.le_of_ble_eq_true rfl) (fun p e s m below meth c ls hx hb hr hts hown hml hlocks hnm hC hH hl => ?_)
  have hS : va_S (Fb b) s.heap s.heap [] := va_S.rf
  have hl : lv_has ls 2 [(0, .ref (ad (1, i, 0))), (1, .int a0)] := hl
  refine lv_aload_n hx hb dX2_covers_0 rfl (lv_at hl 0 rfl) ?_
  refine lv_iload_n hx hb dX2_covers_1 rfl (lv_at hl 1 rfl) ?_
  refine k_r (va_runV (As := [.int a0]) (rest := []) ⟨hx, hb, hml, hown, hts⟩ (mX2_distanceTo l i hi a0) ⟨cb_of hts wk_X2_distanceTo wi_X2 wm_X2_47 sd_X2_distanceTo rfl rfl ⟨Nat.le_of_ble_eq_true rfl, Nat.le_of_ble_eq_true rfl⟩, hts _ wv_X2_distanceTo, hts _ wl_X2_distanceTo⟩ (P0.preV hC hS hH (Hp.recv hC.1 hH (1, i, 0) ⟨hi, rfl⟩ rfl rfl)) rfl rfl hl.1 rfl (lv_room (Nat.le_of_ble_eq_true rfl)) dX2_covers_2 ⟨Nat.le_of_ble_eq_true rfl, Nat.le_of_ble_eq_true rfl⟩) ?_
  refine W.eq (g2 := F0 m 5 ls [.int (dsI g i a0)]) rfl ?_
  refine lv_aload_n hx hb dX2_covers_5 rfl (lv_at hl 0 rfl) ?_
  refine g2 hx hb hts hown hC hH i hi 2 (by decide) wf_X2_18 (v := .int (g.1 2 i)) rfl dX2_covers_6 ?_
  refine lv_icmp_gt (tgt := 16) hx hb dX2_covers_9 (by decide) (fun c9 => ?_) (fun c9 => ?_)
  · skip
    have c9x := Int32.not_le.mpr c9
    refine lv_iconst (v := 0) hx hb dX2_covers_16 (by decide) ?_
    exact e_z hx hb hr hlocks (by simp [cvB, b2, c9, c9x]) rfl dX2_covers_17
  · skip
    have c9x := Int32.not_lt.mp c9
    refine lv_iconst (v := 1) hx hb dX2_covers_12 (by decide) ?_
    refine lv_goto (tgt := 17) hx hb dX2_covers_13 (by decide) ?_
    exact e_z hx hb hr hlocks (by simp [cvB, b2, c9, c9x]) rfl dX2_covers_17

def rmB (g : XS) (i : Nat) : Bool := decide (g.1 9 i < g.1 3 i)
theorem ctB_rm (g : XS) (i : Nat) (p : Int32) : ctB g i p = (onB g i && cvB g i p && rmB g i) := rfl
set_option maxHeartbeats 4000000 in
set_option maxRecDepth 100000 in
theorem mX2_hasRoom (l : Launch) {D : va_G} {k : Nat → ClassId} {b : Nat} {ad : Tg → Nat} {g : XS} {M : MF} {o : OF} (i : Nat) (hi : i < g.2.1 0 0) : Met l yX2_hasRoom (WS yX2_hasRoom cX2_hasRoom 1 (some .boolean)) ({ frames := 0, cells := 0, slots := 0, locals := 0 }) (P0 D k b (Wo D k b ad g M o) [.ref (ad (1, i, 0))]) (Qr (some (.int (b2 (rmB g i))))) 0 0 (fun _ => False) := by
  refine Met0 (by decide +kernel) (Nat.le_of_ble_eq_true rfl) (fun p e s m below meth c ls hx hb hr hts hown hml hlocks hnm hC hH hl => ?_)
  have hS : va_S (Fb b) s.heap s.heap [] := va_S.rf
  have hl : lv_has ls 1 [(0, .ref (ad (1, i, 0)))] := hl
  refine lv_aload_n hx hb dX2_hasRoom_0 rfl (lv_at hl 0 rfl) ?_
  refine g2 hx hb hts hown hC hH i hi 9 (by decide) wf_X2_50 (v := .int (g.1 9 i)) rfl dX2_hasRoom_1 ?_
  refine lv_aload_n hx hb dX2_hasRoom_4 rfl (lv_at hl 0 rfl) ?_
  refine g2 hx hb hts hown hC hH i hi 3 (by decide) wf_X2_21 (v := .int (g.1 3 i)) rfl dX2_hasRoom_5 ?_
  refine lv_icmp_ge (tgt := 15) hx hb dX2_hasRoom_8 (by decide) (fun c8 => ?_) (fun c8 => ?_)
  · skip
    have c8x := Int32.not_lt.mpr c8
    refine lv_iconst (v := 0) hx hb dX2_hasRoom_15 (by decide) ?_
    exact e_z hx hb hr hlocks (by simp [rmB, b2, c8, c8x]) rfl dX2_hasRoom_16
  · skip
    have c8x := Int32.not_le.mp c8
    refine lv_iconst (v := 1) hx hb dX2_hasRoom_11 (by decide) ?_
    refine lv_goto (tgt := 16) hx hb dX2_hasRoom_12 (by decide) ?_
    exact e_z hx hb hr hlocks (by simp [rmB, b2, c8, c8x]) rfl dX2_hasRoom_16

set_option maxHeartbeats 4000000 in
set_option maxRecDepth 100000 in
theorem mX3_carrierNumber (l : Launch) {D : va_G} {k : Nat → ClassId} {b : Nat} {ad : Tg → Nat} {g : XS} {M : MF} {o : OF} (q : Nat) (hq : q < g.2.1 1 0) (hI : XI g) : Met l yX3_carrierNumber (WS yX3_carrierNumber cX3_carrierNumber 1 (some .int)) ({ frames := 0, cells := 0, slots := 0, locals := 0 }) (P0 D k b (Wo D k b ad g M o) [.ref (ad (2, q, 0))]) (Qr (some (.int (cnI g q)))) 0 0 (fun _ => False) := by
  refine Met0 (by decide +kernel) (Nat.le_of_ble_eq_true rfl) (fun p e s m below meth c ls hx hb hr hts hown hml hlocks hnm hC hH hl => ?_)
  have hS : va_S (Fb b) s.heap s.heap [] := va_S.rf
  have hl : lv_has ls 1 [(0, .ref (ad (2, q, 0)))] := hl
  refine lv_aload_n hx hb dX3_carrierNumber_0 rfl (lv_at hl 0 rfl) ?_
  refine g3 hx hb hts hown hC hH q hq 1 (by decide) wf_X3_15 (v := va_rf (mrO ad (g.2.1 3 q))) rfl dX3_carrierNumber_1 ?_
  by_cases c1 : g.2.1 3 q = 0
  · skip
    refine W.eq (g2 := F0 m 4 ls [.null]) (by simp [mrO, va_rf, c1]) ?_
    refine lv_ifnonnullN hx hb dX3_carrierNumber_4 ?_
    refine lv_iconst (v := (-1)) hx hb dX3_carrierNumber_7 (by decide) ?_
    refine lv_goto (tgt := 18) hx hb dX3_carrierNumber_8 (by decide) ?_
    exact e_i hx hb hr hlocks (by simp [cnI, c1]) dX3_carrierNumber_18
  · skip
    refine W.eq (g2 := F0 m 4 ls [.ref (ad (1, (g.2.1 3 q) - 1, 0))]) (by simp [mrO, va_rf, c1]) ?_
    refine lv_ifnonnull (tgt := 11) hx hb dX3_carrierNumber_4 (by decide) ?_
    refine lv_aload_n hx hb dX3_carrierNumber_11 rfl (lv_at hl 0 rfl) ?_
    refine g3 hx hb hts hown hC hH q hq 1 (by decide) wf_X3_15 (v := va_rf (mrO ad (g.2.1 3 q))) rfl dX3_carrierNumber_12 ?_
    refine W.eq (g2 := F0 m 15 ls [.ref (ad (1, (g.2.1 3 q) - 1, 0))]) (by simp [mrO, va_rf, c1]) ?_
    refine g2N hx hb hts hown hC hH ((g.2.1 3 q) - 1) (by have := hI.2.2.1 q hq; omega) 0 (by decide) wf_X3_19 (v := .int (g.1 0 ((g.2.1 3 q) - 1))) rfl dX3_carrierNumber_15 ?_
    exact e_i hx hb hr hlocks (by simp [cnI, c1]) dX3_carrierNumber_18

set_option maxHeartbeats 4000000 in
set_option maxRecDepth 100000 in
theorem mX1_isFull (l : Launch) {D : va_G} {k : Nat → ClassId} {b : Nat} {ad : Tg → Nat} {g : XS} {M : MF} {o : OF} (i : Nat) (hi : i < g.2.1 0 0) (j : Nat) (hj : 64 * j < g.2.1 4 i) : Met l yX1_isFull (WS yX1_isFull cX1_isFull 1 (some .boolean)) ({ frames := 0, cells := 0, slots := 0, locals := 0 }) (P0 D k b (Wo D k b ad g M o) [.ref (ad (4, i, j))]) (Qr (some (.int (b2 (decide (nI 64 ≤ nI (min 64 (g.2.1 4 i - 64 * j)))))))) 0 0 (fun _ => False) := by
  refine Met0 (by decide +kernel) (Nat.le_of_ble_eq_true rfl) (fun p e s m below meth c ls hx hb hr hts hown hml hlocks hnm hC hH hl => ?_)
  have hS : va_S (Fb b) s.heap s.heap [] := va_S.rf
  have hl : lv_has ls 1 [(0, .ref (ad (4, i, j)))] := hl
  refine lv_aload_n hx hb dX1_isFull_0 rfl (lv_at hl 0 rfl) ?_
  refine g1 hx hb hts hown hC hH i j hi hj 3 (by decide) wf_X1_22 (v := .int (nI (min 64 (g.2.1 4 i - 64 * j)))) rfl dX1_isFull_1 ?_
  refine lv_bipush (v := 64) hx hb dX1_isFull_4 (by decide) ?_
  refine lv_icmp_lt (tgt := 13) hx hb dX1_isFull_6 (by decide) (fun c6 => ?_) (fun c6 => ?_)
  · skip
    have c6x := Int32.not_le.mpr c6
    refine lv_iconst (v := 0) hx hb dX1_isFull_13 (by decide) ?_
    exact e_z hx hb hr hlocks (by simp [b2, show nI 64 = 64 from rfl, c6, c6x]) rfl dX1_isFull_14
  · skip
    have c6x := Int32.not_lt.mp c6
    refine lv_iconst (v := 1) hx hb dX1_isFull_9 (by decide) ?_
    refine lv_goto (tgt := 14) hx hb dX1_isFull_10 (by decide) ?_
    exact e_z hx hb hr hlocks (by simp [b2, show nI 64 = 64 from rfl, c6, c6x]) rfl dX1_isFull_14

set_option maxHeartbeats 4000000 in
set_option maxRecDepth 100000 in
theorem mX4_mastAt (l : Launch) {D : va_G} {k : Nat → ClassId} {b : Nat} {ad : Tg → Nat} {g : XS} {M : MF} {o : OF} (a0 : Int32) : Met l yX4_mastAt (WS yX4_mastAt cX4_mastAt 2 (some (.object "Mastline$Mast"))) ({ frames := 1, cells := 0, slots := 0, locals := 22 }) (P0 D k b (Wo D k b ad g M o) [.ref (ad (0, 0, 0)), .int a0]) (Qr (some (va_rf (mrO ad (mI g a0))))) 0 0 (fun _ => False) := by
  refine Met0 (by decide +kernel) (Nat.le_of_ble_eq_true rfl) (fun p e s m below meth c ls hx hb hr hts hown hml hlocks hnm hC hH hl => ?_)
  have hS : va_S (Fb b) s.heap s.heap [] := va_S.rf
  have hl : lv_has ls 2 [(0, .ref (ad (0, 0, 0))), (1, .int a0)] := hl
  refine lv_iload_n hx hb dX4_mastAt_0 rfl (lv_at hl 1 rfl) ?_
  refine lv_iconst (v := 0) hx hb dX4_mastAt_1 (by decide) ?_
  refine lv_aload_n hx hb dX4_mastAt_2 rfl (lv_at hl 0 rfl) ?_
  refine g4 hx hb hts hown hC hH 0 (by decide) wf_X4_11 (v := .ref (ad (0, 1, 0))) rfl dX4_mastAt_3 ?_
  refine mLen hx hb hC hH dX4_mastAt_6 ?_
  refine lv_iconst (v := 1) hx hb dX4_mastAt_7 (by decide) ?_
  refine lv_isub hx hb dX4_mastAt_8 ?_
  refine k_r (va_runS (As := [.int a0, .int 0, .int ((nI 8) - 1)]) (rest := []) ⟨hx, hb, hml, hown, hts⟩ (mX4_isWithin l a0 0 ((nI 8) - 1)) ⟨cb_of hts wk_X4_isWithin wi_X4 wm_X4_29 sd_X4_isWithin rfl rfl ⟨Nat.le_of_ble_eq_true rfl, Nat.le_of_ble_eq_true rfl⟩, hts _ wz_X4_isWithin⟩ (P0.pre hC hS hH) rfl rfl hl.1 rfl (lv_room (Nat.le_of_ble_eq_true rfl)) dX4_mastAt_9 ⟨Nat.le_of_ble_eq_true rfl, Nat.le_of_ble_eq_true rfl⟩) ?_
  refine W.eq (g2 := F0 m 12 ls [.int (b2 (inB a0 0 ((nI 8) - 1)))]) rfl ?_
  refine lv_if_eq (tgt := 24) hx hb dX4_mastAt_12 (by decide) (fun c12 => ?_) (fun c12 => ?_)
  · skip
    have c12 := b2_0.mp c12
    refine lv_null hx hb dX4_mastAt_24 ?_
    exact e_a hx hb hr hlocks (by rw [mI_0 (show inB a0 0 7 = false from c12)]; rfl) (Or.inl rfl) dX4_mastAt_25
  · skip
    have c12 := b2_n0.mp c12
    have h7 : inB a0 0 7 = true := c12
    obtain ⟨j, hj, rfl⟩ := inB_nI (n := 7) rfl (by decide) h7
    refine lv_aload_n hx hb dX4_mastAt_15 rfl (lv_at hl 0 rfl) ?_
    refine g4 hx hb hts hown hC hH 0 (by decide) wf_X4_11 (v := .ref (ad (0, 1, 0))) rfl dX4_mastAt_16 ?_
    refine lv_iload_n hx hb dX4_mastAt_19 rfl (lv_at hl 1 rfl) ?_
    refine mLd hx hb hC hH (i := j) (by omega) dX4_mastAt_20 ?_
    by_cases c20 : j < g.2.1 0 0
    · skip
      refine W.eq (g2 := F0 m 21 ls [.ref (ad (1, j, 0))]) (by simp [maO, c20, va_rf]) ?_
      refine lv_goto (tgt := 25) hx hb dX4_mastAt_21 (by decide) ?_
      exact e_a hx hb hr hlocks (by rw [mI_1 c20 (by omega)]; rfl) (Or.inr ⟨_, rfl⟩) dX4_mastAt_25
    · skip
      refine W.eq (g2 := F0 m 21 ls [.null]) (by simp [maO, c20, va_rf]) ?_
      refine lv_goto (tgt := 25) hx hb dX4_mastAt_21 (by decide) ?_
      exact e_a hx hb hr hlocks (by rw [mI_2 c20 (by omega)]; rfl) (Or.inl rfl) dX4_mastAt_25

set_option maxHeartbeats 4000000 in
set_option maxRecDepth 100000 in
theorem mX4_phoneAt (l : Launch) {D : va_G} {k : Nat → ClassId} {b : Nat} {ad : Tg → Nat} {g : XS} {M : MF} {o : OF} (a0 : Int32) : Met l yX4_phoneAt (WS yX4_phoneAt cX4_phoneAt 2 (some (.object "Mastline$Phone"))) ({ frames := 1, cells := 0, slots := 0, locals := 22 }) (P0 D k b (Wo D k b ad g M o) [.ref (ad (0, 0, 0)), .int a0]) (Qr (some (va_rf (prO ad (pI g a0))))) 0 0 (fun _ => False) := by
  refine Met0 (by decide +kernel) (Nat.le_of_ble_eq_true rfl) (fun p e s m below meth c ls hx hb hr hts hown hml hlocks hnm hC hH hl => ?_)
  have hS : va_S (Fb b) s.heap s.heap [] := va_S.rf
  have hl : lv_has ls 2 [(0, .ref (ad (0, 0, 0))), (1, .int a0)] := hl
  refine lv_iload_n hx hb dX4_phoneAt_0 rfl (lv_at hl 1 rfl) ?_
  refine lv_iconst (v := 0) hx hb dX4_phoneAt_1 (by decide) ?_
  refine lv_aload_n hx hb dX4_phoneAt_2 rfl (lv_at hl 0 rfl) ?_
  refine g4 hx hb hts hown hC hH 1 (by decide) wf_X4_17 (v := .ref (ad (0, 2, 0))) rfl dX4_phoneAt_3 ?_
  refine pLen hx hb hC hH dX4_phoneAt_6 ?_
  refine lv_iconst (v := 1) hx hb dX4_phoneAt_7 (by decide) ?_
  refine lv_isub hx hb dX4_phoneAt_8 ?_
  refine k_r (va_runS (As := [.int a0, .int 0, .int ((nI 12) - 1)]) (rest := []) ⟨hx, hb, hml, hown, hts⟩ (mX4_isWithin l a0 0 ((nI 12) - 1)) ⟨cb_of hts wk_X4_isWithin wi_X4 wm_X4_29 sd_X4_isWithin rfl rfl ⟨Nat.le_of_ble_eq_true rfl, Nat.le_of_ble_eq_true rfl⟩, hts _ wz_X4_isWithin⟩ (P0.pre hC hS hH) rfl rfl hl.1 rfl (lv_room (Nat.le_of_ble_eq_true rfl)) dX4_phoneAt_9 ⟨Nat.le_of_ble_eq_true rfl, Nat.le_of_ble_eq_true rfl⟩) ?_
  refine W.eq (g2 := F0 m 12 ls [.int (b2 (inB a0 0 ((nI 12) - 1)))]) rfl ?_
  refine lv_if_eq (tgt := 24) hx hb dX4_phoneAt_12 (by decide) (fun c12 => ?_) (fun c12 => ?_)
  · skip
    have c12 := b2_0.mp c12
    refine lv_null hx hb dX4_phoneAt_24 ?_
    exact e_a hx hb hr hlocks (by rw [pI_0 (show inB a0 0 11 = false from c12)]; rfl) (Or.inl rfl) dX4_phoneAt_25
  · skip
    have c12 := b2_n0.mp c12
    have h7 : inB a0 0 11 = true := c12
    obtain ⟨j, hj, rfl⟩ := inB_nI (n := 11) rfl (by decide) h7
    refine lv_aload_n hx hb dX4_phoneAt_15 rfl (lv_at hl 0 rfl) ?_
    refine g4 hx hb hts hown hC hH 1 (by decide) wf_X4_17 (v := .ref (ad (0, 2, 0))) rfl dX4_phoneAt_16 ?_
    refine lv_iload_n hx hb dX4_phoneAt_19 rfl (lv_at hl 1 rfl) ?_
    refine pLd hx hb hC hH (i := j) (by omega) dX4_phoneAt_20 ?_
    by_cases c20 : j < g.2.1 1 0
    · skip
      refine W.eq (g2 := F0 m 21 ls [.ref (ad (2, j, 0))]) (by simp [phO, c20, va_rf]) ?_
      refine lv_goto (tgt := 25) hx hb dX4_phoneAt_21 (by decide) ?_
      exact e_a hx hb hr hlocks (by rw [pI_1 c20 (by omega)]; rfl) (Or.inr ⟨_, rfl⟩) dX4_phoneAt_25
    · skip
      refine W.eq (g2 := F0 m 21 ls [.null]) (by simp [phO, c20, va_rf]) ?_
      refine lv_goto (tgt := 25) hx hb dX4_phoneAt_21 (by decide) ?_
      exact e_a hx hb hr hlocks (by rw [pI_2 c20 (by omega)]; rfl) (Or.inl rfl) dX4_phoneAt_25

set_option maxHeartbeats 4000000 in
set_option maxRecDepth 100000 in
theorem mX4_nearestFree (l : Launch) {D : va_G} {k : Nat → ClassId} {b : Nat} {ad : Tg → Nat} {g : XS} {M : MF} {o : OF} (a0 : Int32) : Met l yX4_nearestFree (WS yX4_nearestFree cX4_nearestFree 7 (some (.object "Mastline$Mast"))) ({ frames := 3, cells := 0, slots := 0, locals := 55 }) (P0 D k b (Wo D k b ad g M o) [.ref (ad (0, 0, 0)), .int a0]) (Qr (some (va_rf (mrO ad (nf g a0 8))))) 0 0 (fun _ => False) := by
  refine Met0 (by decide +kernel) (Nat.le_of_ble_eq_true rfl) (fun p e s m below meth c ls hx hb hr hts hown hml hlocks hnm hC hH hl => ?_)
  have hS : va_S (Fb b) s.heap s.heap [] := va_S.rf
  have hl : lv_has ls 7 [(0, .ref (ad (0, 0, 0))), (1, .int a0)] := hl
  refine lv_null hx hb dX4_nearestFree_0 ?_
  refine lv_astore_nN (lv' := [(2, .null), (0, .ref (ad (0, 0, 0))), (1, .int a0)]) hx hb dX4_nearestFree_1 rfl hl (by decide) rfl (fun ls hl => ?_)
  refine lv_aload_n hx hb dX4_nearestFree_2 rfl (lv_at hl 1 rfl) ?_
  refine g4 hx hb hts hown hC hH 0 (by decide) wf_X4_11 (v := .ref (ad (0, 1, 0))) rfl dX4_nearestFree_3 ?_
  refine lv_astore_n (lv' := [(3, .ref (ad (0, 1, 0))), (2, .null), (0, .ref (ad (0, 0, 0))), (1, .int a0)]) hx hb dX4_nearestFree_6 rfl hl (by decide) rfl (fun ls hl => ?_)
  refine lv_aload_n hx hb dX4_nearestFree_7 rfl (lv_at hl 0 rfl) ?_
  refine mLen hx hb hC hH dX4_nearestFree_8 ?_
  refine lv_istore (lv' := [(4, .int (nI 8)), (3, .ref (ad (0, 1, 0))), (2, .null), (0, .ref (ad (0, 0, 0))), (1, .int a0)]) hx hb dX4_nearestFree_9 hl (by decide) rfl (fun ls hl => ?_)
  refine lv_iconst (v := nI 0) hx hb dX4_nearestFree_11 (by decide) ?_
  refine lv_istore (lv' := [(5, .int (nI 0)), (4, .int (nI 8)), (3, .ref (ad (0, 1, 0))), (2, .null), (0, .ref (ad (0, 0, 0))), (1, .int a0)]) hx hb dX4_nearestFree_12 hl (by decide) rfl (fun ls hl => ?_)
  refine loop_r 8 (fun i ls => lv_has ls 7 [(0, .ref (ad (0, 0, 0))), (1, .int a0), (2, va_rf (mrO ad (nf g a0 i))), (3, .ref (ad (0, 1, 0))), (4, .int (nI 8)), (5, .int (nI i))]) (fun i hi ls hJ0 ih => ?_) (fun ls hJ0 => ?_) (lv_sub hl [4, 5, 3, 2, 1, 0] rfl)
  · skip
    have hl := hJ0
    refine lv_iload hx hb dX4_nearestFree_14 (lv_at hl 5 rfl) ?_
    refine lv_iload hx hb dX4_nearestFree_16 (lv_at hl 4 rfl) ?_
    refine lv_icmp_ge (tgt := 84) hx hb dX4_nearestFree_18 (by decide) (fun c18 => absurd c18 (nI_ge hi (by decide))) (fun c18 => ?_)
    refine lv_aload_n hx hb dX4_nearestFree_21 rfl (lv_at hl 3 rfl) ?_
    refine lv_iload hx hb dX4_nearestFree_22 (lv_at hl 5 rfl) ?_
    refine mLd hx hb hC hH (i := i) hi dX4_nearestFree_24 ?_
    by_cases c24 : i < g.2.1 0 0
    · skip
      refine W.eq (g2 := F0 m 25 ls [.ref (ad (1, i, 0))]) (by simp [maO, c24, va_rf]) ?_
      refine lv_astore (lv' := [(6, .ref (ad (1, i, 0))), (0, .ref (ad (0, 0, 0))), (1, .int a0), (2, va_rf (mrO ad (nf g a0 i))), (3, .ref (ad (0, 1, 0))), (4, .int (nI 8)), (5, .int (nI i))]) hx hb dX4_nearestFree_25 hl (by decide) rfl (fun ls hl => ?_)
      refine lv_aload hx hb dX4_nearestFree_27 (lv_at hl 0 rfl) ?_
      refine lv_ifnull hx hb dX4_nearestFree_29 ?_
      refine lv_aload hx hb dX4_nearestFree_32 (lv_at hl 0 rfl) ?_
      refine k_r (va_runVN (As := []) (rest := []) ⟨hx, hb, hml, hown, hts⟩ (mX2_isOn l i c24) ⟨cn_of hts wk_X2_isOn wi_X2 wm_X4_112 sd_X2_isOn rfl rfl ⟨Nat.le_of_ble_eq_true rfl, Nat.le_of_ble_eq_true rfl⟩, hts _ wv_X2_isOn, hts _ wl_X2_isOn⟩ (P0.preV hC hS hH (Hp.recv hC.1 hH (1, i, 0) ⟨c24, rfl⟩ rfl rfl)) rfl rfl hl.1 rfl (lv_room (Nat.le_of_ble_eq_true rfl)) dX4_nearestFree_34 ⟨Nat.le_of_ble_eq_true rfl, Nat.le_of_ble_eq_true rfl⟩) ?_
      refine W.eq (g2 := F0 m 37 ls [.int (b2 (onB g i))]) rfl ?_
      refine lv_if_eq (tgt := 78) hx hb dX4_nearestFree_37 (by decide) (fun c37 => ?_) (fun c37 => ?_)
      · skip
        have c37 := b2_0.mp c37
        refine lv_iinc (v := nI (i + 1)) (lv' := [(5, .int (nI (i + 1))), (6, .ref (ad (1, i, 0))), (0, .ref (ad (0, 0, 0))), (1, .int a0), (2, va_rf (mrO ad (nf g a0 i))), (3, .ref (ad (0, 1, 0))), (4, .int (nI 8))]) hx hb dX4_nearestFree_78 hl (k := 6) rfl (by rw [← nI_add]; rfl) (by decide) rfl (fun ls hl => ?_)
        refine lv_goto (tgt := 14) hx hb dX4_nearestFree_81 (by decide) ?_
        have h9 : nf g a0 (i + 1) = nf g a0 i := by simp [nf, ctB_rm, c24, c37]
        refine ih ls ?_
        rw [h9]
        exact lv_sub hl [2, 3, 4, 5, 6, 0] rfl
      · skip
        have c37 := b2_n0.mp c37
        refine lv_aload hx hb dX4_nearestFree_40 (lv_at hl 0 rfl) ?_
        refine k_r (va_runVN (As := []) (rest := []) ⟨hx, hb, hml, hown, hts⟩ (mX2_hasRoom l i c24) ⟨cn_of hts wk_X2_hasRoom wi_X2 wm_X4_153 sd_X2_hasRoom rfl rfl ⟨Nat.le_of_ble_eq_true rfl, Nat.le_of_ble_eq_true rfl⟩, hts _ wv_X2_hasRoom, hts _ wl_X2_hasRoom⟩ (P0.preV hC hS hH (Hp.recv hC.1 hH (1, i, 0) ⟨c24, rfl⟩ rfl rfl)) rfl rfl hl.1 rfl (lv_room (Nat.le_of_ble_eq_true rfl)) dX4_nearestFree_42 ⟨Nat.le_of_ble_eq_true rfl, Nat.le_of_ble_eq_true rfl⟩) ?_
        refine W.eq (g2 := F0 m 45 ls [.int (b2 (rmB g i))]) rfl ?_
        refine lv_if_eq (tgt := 78) hx hb dX4_nearestFree_45 (by decide) (fun c45 => ?_) (fun c45 => ?_)
        · skip
          have c45 := b2_0.mp c45
          refine lv_iinc (v := nI (i + 1)) (lv' := [(5, .int (nI (i + 1))), (6, .ref (ad (1, i, 0))), (0, .ref (ad (0, 0, 0))), (1, .int a0), (2, va_rf (mrO ad (nf g a0 i))), (3, .ref (ad (0, 1, 0))), (4, .int (nI 8))]) hx hb dX4_nearestFree_78 hl (k := 6) rfl (by rw [← nI_add]; rfl) (by decide) rfl (fun ls hl => ?_)
          refine lv_goto (tgt := 14) hx hb dX4_nearestFree_81 (by decide) ?_
          have h9 : nf g a0 (i + 1) = nf g a0 i := by simp [nf, ctB_rm, c24, c37, c45]
          refine ih ls ?_
          rw [h9]
          exact lv_sub hl [2, 3, 4, 5, 6, 0] rfl
        · skip
          have c45 := b2_n0.mp c45
          refine lv_aload hx hb dX4_nearestFree_48 (lv_at hl 0 rfl) ?_
          refine lv_iload_n hx hb dX4_nearestFree_50 rfl (lv_at hl 2 rfl) ?_
          refine k_r (va_runVN (As := [.int a0]) (rest := []) ⟨hx, hb, hml, hown, hts⟩ (mX2_covers l i c24 a0) ⟨cn_of hts wk_X2_covers wi_X2 wm_X4_102 sd_X2_covers rfl rfl ⟨Nat.le_of_ble_eq_true rfl, Nat.le_of_ble_eq_true rfl⟩, hts _ wv_X2_covers, hts _ wl_X2_covers⟩ (P0.preV hC hS hH (Hp.recv hC.1 hH (1, i, 0) ⟨c24, rfl⟩ rfl rfl)) rfl rfl hl.1 rfl (lv_room (Nat.le_of_ble_eq_true rfl)) dX4_nearestFree_51 ⟨Nat.le_of_ble_eq_true rfl, Nat.le_of_ble_eq_true rfl⟩) ?_
          refine W.eq (g2 := F0 m 54 ls [.int (b2 (cvB g i a0))]) rfl ?_
          refine lv_if_eq (tgt := 78) hx hb dX4_nearestFree_54 (by decide) (fun c54 => ?_) (fun c54 => ?_)
          · skip
            have c54 := b2_0.mp c54
            refine lv_iinc (v := nI (i + 1)) (lv' := [(5, .int (nI (i + 1))), (6, .ref (ad (1, i, 0))), (0, .ref (ad (0, 0, 0))), (1, .int a0), (2, va_rf (mrO ad (nf g a0 i))), (3, .ref (ad (0, 1, 0))), (4, .int (nI 8))]) hx hb dX4_nearestFree_78 hl (k := 6) rfl (by rw [← nI_add]; rfl) (by decide) rfl (fun ls hl => ?_)
            refine lv_goto (tgt := 14) hx hb dX4_nearestFree_81 (by decide) ?_
            have h9 : nf g a0 (i + 1) = nf g a0 i := by simp [nf, ctB_rm, c24, c37, c45, c54]
            refine ih ls ?_
            rw [h9]
            exact lv_sub hl [2, 3, 4, 5, 6, 0] rfl
          · skip
            have c54 := b2_n0.mp c54
            refine lv_aload_nO hx hb dX4_nearestFree_57 rfl (lv_at hl 3 rfl) ?_
            refine lv_ifnullO (tgt := 75) hx hb dX4_nearestFree_58 (by decide) (fun c58 => ?_) (fun c58a c58 => ?_)
            · skip
              have c58 := mrO_0.mp c58
              have hl : lv_has ls 7 [(6, .ref (ad (1, i, 0))), (0, .ref (ad (0, 0, 0))), (1, .int a0), (2, .null), (3, .ref (ad (0, 1, 0))), (4, .int (nI 8)), (5, .int (nI i))] := by simpa [mrO, va_rf, c58] using hl
              refine lv_aload hx hb dX4_nearestFree_75 (lv_at hl 0 rfl) ?_
              refine lv_astore_n (lv' := [(2, .ref (ad (1, i, 0))), (6, .ref (ad (1, i, 0))), (0, .ref (ad (0, 0, 0))), (1, .int a0), (3, .ref (ad (0, 1, 0))), (4, .int (nI 8)), (5, .int (nI i))]) hx hb dX4_nearestFree_77 rfl hl (by decide) rfl (fun ls hl => ?_)
              refine lv_iinc (v := nI (i + 1)) (lv' := [(5, .int (nI (i + 1))), (2, .ref (ad (1, i, 0))), (6, .ref (ad (1, i, 0))), (0, .ref (ad (0, 0, 0))), (1, .int a0), (3, .ref (ad (0, 1, 0))), (4, .int (nI 8))]) hx hb dX4_nearestFree_78 hl (k := 6) rfl (by rw [← nI_add]; rfl) (by decide) rfl (fun ls hl => ?_)
              refine lv_goto (tgt := 14) hx hb dX4_nearestFree_81 (by decide) ?_
              have h9 : nf g a0 (i + 1) = i + 1 := by simp [nf, ctB_rm, c24, c37, c45, c54, c58]
              refine ih ls ?_
              rw [h9, mrO_s]
              exact lv_sub hl [3, 4, 1, 5, 6, 0] rfl
            · skip
              have c58 := mt mrO_0.mpr (by rw [c58]; exact Option.some_ne_none _)
              have hl : lv_has ls 7 [(6, .ref (ad (1, i, 0))), (0, .ref (ad (0, 0, 0))), (1, .int a0), (2, .ref (ad (1, nf g a0 i - 1, 0))), (3, .ref (ad (0, 1, 0))), (4, .int (nI 8)), (5, .int (nI i))] := by simpa [mrO, va_rf, c58] using hl
              refine lv_aload hx hb dX4_nearestFree_61 (lv_at hl 0 rfl) ?_
              refine lv_iload_n hx hb dX4_nearestFree_63 rfl (lv_at hl 2 rfl) ?_
              refine k_r (va_runVN (As := [.int a0]) (rest := []) ⟨hx, hb, hml, hown, hts⟩ (mX2_distanceTo l i c24 a0) ⟨cn_of hts wk_X2_distanceTo wi_X2 wm_X4_146 sd_X2_distanceTo rfl rfl ⟨Nat.le_of_ble_eq_true rfl, Nat.le_of_ble_eq_true rfl⟩, hts _ wv_X2_distanceTo, hts _ wl_X2_distanceTo⟩ (P0.preV hC hS hH (Hp.recv hC.1 hH (1, i, 0) ⟨c24, rfl⟩ rfl rfl)) rfl rfl hl.1 rfl (lv_room (Nat.le_of_ble_eq_true rfl)) dX4_nearestFree_64 ⟨Nat.le_of_ble_eq_true rfl, Nat.le_of_ble_eq_true rfl⟩) ?_
              refine W.eq (g2 := F0 m 67 ls [.int (dsI g i a0)]) rfl ?_
              refine lv_aload_n hx hb dX4_nearestFree_67 rfl (lv_at hl 3 rfl) ?_
              refine lv_iload_n hx hb dX4_nearestFree_68 rfl (lv_at hl 2 rfl) ?_
              refine k_r (va_runVN (As := [.int a0]) (rest := [.int (dsI g i a0)]) ⟨hx, hb, hml, hown, hts⟩ (mX2_distanceTo l (nf g a0 i - 1) (by have := (nf_le g a0 i).2 c58; omega) a0) ⟨cn_of hts wk_X2_distanceTo wi_X2 wm_X4_146 sd_X2_distanceTo rfl rfl ⟨Nat.le_of_ble_eq_true rfl, Nat.le_of_ble_eq_true rfl⟩, hts _ wv_X2_distanceTo, hts _ wl_X2_distanceTo⟩ (P0.preV hC hS hH (Hp.recv hC.1 hH (1, nf g a0 i - 1, 0) ⟨(by have := (nf_le g a0 i).2 c58; omega), rfl⟩ rfl rfl)) rfl rfl hl.1 rfl (lv_room (Nat.le_of_ble_eq_true rfl)) dX4_nearestFree_69 ⟨Nat.le_of_ble_eq_true rfl, Nat.le_of_ble_eq_true rfl⟩) ?_
              refine W.eq (g2 := F0 m 72 ls [.int (dsI g (nf g a0 i - 1) a0), .int (dsI g i a0)]) rfl ?_
              refine lv_icmp_ge (tgt := 78) hx hb dX4_nearestFree_72 (by decide) (fun c72 => ?_) (fun c72 => ?_)
              · skip
                have c72x := Int32.not_lt.mpr c72
                refine lv_iinc (v := nI (i + 1)) (lv' := [(5, .int (nI (i + 1))), (6, .ref (ad (1, i, 0))), (0, .ref (ad (0, 0, 0))), (1, .int a0), (2, .ref (ad (1, nf g a0 i - 1, 0))), (3, .ref (ad (0, 1, 0))), (4, .int (nI 8))]) hx hb dX4_nearestFree_78 hl (k := 6) rfl (by rw [← nI_add]; rfl) (by decide) rfl (fun ls hl => ?_)
                refine lv_goto (tgt := 14) hx hb dX4_nearestFree_81 (by decide) ?_
                have h9 : nf g a0 (i + 1) = nf g a0 i := by simp [nf, ctB_rm, c24, c37, c45, c54, c58, c72, c72x]
                refine ih ls ?_
                rw [h9, mrO_1 c58]
                exact lv_sub hl [2, 3, 4, 5, 6, 0] rfl
              · skip
                have c72x := Int32.not_le.mp c72
                refine lv_aload hx hb dX4_nearestFree_75 (lv_at hl 0 rfl) ?_
                refine lv_astore_n (lv' := [(2, .ref (ad (1, i, 0))), (6, .ref (ad (1, i, 0))), (0, .ref (ad (0, 0, 0))), (1, .int a0), (3, .ref (ad (0, 1, 0))), (4, .int (nI 8)), (5, .int (nI i))]) hx hb dX4_nearestFree_77 rfl hl (by decide) rfl (fun ls hl => ?_)
                refine lv_iinc (v := nI (i + 1)) (lv' := [(5, .int (nI (i + 1))), (2, .ref (ad (1, i, 0))), (6, .ref (ad (1, i, 0))), (0, .ref (ad (0, 0, 0))), (1, .int a0), (3, .ref (ad (0, 1, 0))), (4, .int (nI 8))]) hx hb dX4_nearestFree_78 hl (k := 6) rfl (by rw [← nI_add]; rfl) (by decide) rfl (fun ls hl => ?_)
                refine lv_goto (tgt := 14) hx hb dX4_nearestFree_81 (by decide) ?_
                have h9 : nf g a0 (i + 1) = i + 1 := by simp [nf, ctB_rm, c24, c37, c45, c54, c58, c72, c72x]
                refine ih ls ?_
                rw [h9, mrO_s]
                exact lv_sub hl [3, 4, 1, 5, 6, 0] rfl
    · skip
      refine W.eq (g2 := F0 m 25 ls [.null]) (by simp [maO, c24, va_rf]) ?_
      refine lv_astoreN (lv' := [(6, .null), (0, .ref (ad (0, 0, 0))), (1, .int a0), (2, va_rf (mrO ad (nf g a0 i))), (3, .ref (ad (0, 1, 0))), (4, .int (nI 8)), (5, .int (nI i))]) hx hb dX4_nearestFree_25 hl (by decide) rfl (fun ls hl => ?_)
      refine lv_aloadN hx hb dX4_nearestFree_27 (lv_at hl 0 rfl) ?_
      refine lv_ifnullN (tgt := 78) hx hb dX4_nearestFree_29 (by decide) ?_
      refine lv_iinc (v := nI (i + 1)) (lv' := [(5, .int (nI (i + 1))), (6, .null), (0, .ref (ad (0, 0, 0))), (1, .int a0), (2, va_rf (mrO ad (nf g a0 i))), (3, .ref (ad (0, 1, 0))), (4, .int (nI 8))]) hx hb dX4_nearestFree_78 hl (k := 6) rfl (by rw [← nI_add]; rfl) (by decide) rfl (fun ls hl => ?_)
      refine lv_goto (tgt := 14) hx hb dX4_nearestFree_81 (by decide) ?_
      have h9 : nf g a0 (i + 1) = nf g a0 i := by simp [nf, ctB_rm, c24]
      refine ih ls ?_
      rw [h9]
      exact lv_sub hl [2, 3, 4, 5, 6, 0] rfl
  · skip
    have hl := hJ0
    refine lv_iload hx hb dX4_nearestFree_14 (lv_at hl 5 rfl) ?_
    refine lv_iload hx hb dX4_nearestFree_16 (lv_at hl 4 rfl) ?_
    refine lv_icmp_ge (tgt := 84) hx hb dX4_nearestFree_18 (by decide) (fun c18 => ?_) (fun c18 => absurd (nI_le (Nat.le_refl _) (by decide)) c18)
    refine lv_aload_nO hx hb dX4_nearestFree_84 rfl (lv_at hl 2 rfl) ?_
    exact e_a hx hb hr hlocks rfl (va_rf_or _) dX4_nearestFree_85

set_option maxHeartbeats 4000000 in
set_option maxRecDepth 100000 in
theorem mX4_isCovered (l : Launch) {D : va_G} {k : Nat → ClassId} {b : Nat} {ad : Tg → Nat} {g : XS} {M : MF} {o : OF} (a0 : Int32) : Met l yX4_isCovered (WS yX4_isCovered cX4_isCovered 6 (some .boolean)) ({ frames := 3, cells := 0, slots := 0, locals := 55 }) (P0 D k b (Wo D k b ad g M o) [.ref (ad (0, 0, 0)), .int a0]) (Qr (some (.int (b2 (cvA g a0 8))))) 0 0 (fun _ => False) := by
  refine Met0 (by decide +kernel) (Nat.le_of_ble_eq_true rfl) (fun p e s m below meth c ls hx hb hr hts hown hml hlocks hnm hC hH hl => ?_)
  have hS : va_S (Fb b) s.heap s.heap [] := va_S.rf
  have hl : lv_has ls 6 [(0, .ref (ad (0, 0, 0))), (1, .int a0)] := hl
  refine lv_aload_n hx hb dX4_isCovered_0 rfl (lv_at hl 0 rfl) ?_
  refine g4 hx hb hts hown hC hH 0 (by decide) wf_X4_11 (v := .ref (ad (0, 1, 0))) rfl dX4_isCovered_1 ?_
  refine lv_astore_n (lv' := [(2, .ref (ad (0, 1, 0))), (0, .ref (ad (0, 0, 0))), (1, .int a0)]) hx hb dX4_isCovered_4 rfl hl (by decide) rfl (fun ls hl => ?_)
  refine lv_aload_n hx hb dX4_isCovered_5 rfl (lv_at hl 0 rfl) ?_
  refine mLen hx hb hC hH dX4_isCovered_6 ?_
  refine lv_istore_n (lv' := [(3, .int (nI 8)), (2, .ref (ad (0, 1, 0))), (0, .ref (ad (0, 0, 0))), (1, .int a0)]) hx hb dX4_isCovered_7 rfl hl (by decide) rfl (fun ls hl => ?_)
  refine lv_iconst (v := nI 0) hx hb dX4_isCovered_8 (by decide) ?_
  refine lv_istore (lv' := [(4, .int (nI 0)), (3, .int (nI 8)), (2, .ref (ad (0, 1, 0))), (0, .ref (ad (0, 0, 0))), (1, .int a0)]) hx hb dX4_isCovered_9 hl (by decide) rfl (fun ls hl => ?_)
  refine loop_r 8 (fun i ls => lv_has ls 6 [(0, .ref (ad (0, 0, 0))), (1, .int a0), (2, .ref (ad (0, 1, 0))), (3, .int (nI 8)), (4, .int (nI i))] ∧ cvA g a0 i = false) (fun i hi ls hJ0 ih => ?_) (fun ls hJ0 => ?_) ⟨lv_sub hl [3, 4, 2, 1, 0] rfl, rfl⟩
  · skip
    obtain ⟨hl, hJ⟩ := hJ0
    refine lv_iload hx hb dX4_isCovered_11 (lv_at hl 4 rfl) ?_
    refine lv_iload_n hx hb dX4_isCovered_13 rfl (lv_at hl 3 rfl) ?_
    refine lv_icmp_ge (tgt := 53) hx hb dX4_isCovered_14 (by decide) (fun c14 => absurd c14 (nI_ge hi (by decide))) (fun c14 => ?_)
    refine lv_aload_n hx hb dX4_isCovered_17 rfl (lv_at hl 2 rfl) ?_
    refine lv_iload hx hb dX4_isCovered_18 (lv_at hl 4 rfl) ?_
    refine mLd hx hb hC hH (i := i) hi dX4_isCovered_20 ?_
    by_cases c20 : i < g.2.1 0 0
    · skip
      refine W.eq (g2 := F0 m 21 ls [.ref (ad (1, i, 0))]) (by simp [maO, c20, va_rf]) ?_
      refine lv_astore (lv' := [(5, .ref (ad (1, i, 0))), (0, .ref (ad (0, 0, 0))), (1, .int a0), (2, .ref (ad (0, 1, 0))), (3, .int (nI 8)), (4, .int (nI i))]) hx hb dX4_isCovered_21 hl (by decide) rfl (fun ls hl => ?_)
      refine lv_aload hx hb dX4_isCovered_23 (lv_at hl 0 rfl) ?_
      refine lv_ifnull hx hb dX4_isCovered_25 ?_
      refine lv_aload hx hb dX4_isCovered_28 (lv_at hl 0 rfl) ?_
      refine k_r (va_runVN (As := []) (rest := []) ⟨hx, hb, hml, hown, hts⟩ (mX2_isOn l i c20) ⟨cn_of hts wk_X2_isOn wi_X2 wm_X4_112 sd_X2_isOn rfl rfl ⟨Nat.le_of_ble_eq_true rfl, Nat.le_of_ble_eq_true rfl⟩, hts _ wv_X2_isOn, hts _ wl_X2_isOn⟩ (P0.preV hC hS hH (Hp.recv hC.1 hH (1, i, 0) ⟨c20, rfl⟩ rfl rfl)) rfl rfl hl.1 rfl (lv_room (Nat.le_of_ble_eq_true rfl)) dX4_isCovered_30 ⟨Nat.le_of_ble_eq_true rfl, Nat.le_of_ble_eq_true rfl⟩) ?_
      refine W.eq (g2 := F0 m 33 ls [.int (b2 (onB g i))]) rfl ?_
      refine lv_if_eq (tgt := 47) hx hb dX4_isCovered_33 (by decide) (fun c33 => ?_) (fun c33 => ?_)
      · skip
        have c33 := b2_0.mp c33
        refine lv_iinc (v := nI (i + 1)) (lv' := [(4, .int (nI (i + 1))), (5, .ref (ad (1, i, 0))), (0, .ref (ad (0, 0, 0))), (1, .int a0), (2, .ref (ad (0, 1, 0))), (3, .int (nI 8))]) hx hb dX4_isCovered_47 hl (k := 5) rfl (by rw [← nI_add]; rfl) (by decide) rfl (fun ls hl => ?_)
        refine lv_goto (tgt := 11) hx hb dX4_isCovered_50 (by decide) ?_
        exact ih ls ⟨lv_sub hl [2, 3, 4, 5, 0] rfl, by simp [cvA, hJ, c20, c33]⟩
      · skip
        have c33 := b2_n0.mp c33
        refine lv_aload hx hb dX4_isCovered_36 (lv_at hl 0 rfl) ?_
        refine lv_iload_n hx hb dX4_isCovered_38 rfl (lv_at hl 2 rfl) ?_
        refine k_r (va_runVN (As := [.int a0]) (rest := []) ⟨hx, hb, hml, hown, hts⟩ (mX2_covers l i c20 a0) ⟨cn_of hts wk_X2_covers wi_X2 wm_X4_102 sd_X2_covers rfl rfl ⟨Nat.le_of_ble_eq_true rfl, Nat.le_of_ble_eq_true rfl⟩, hts _ wv_X2_covers, hts _ wl_X2_covers⟩ (P0.preV hC hS hH (Hp.recv hC.1 hH (1, i, 0) ⟨c20, rfl⟩ rfl rfl)) rfl rfl hl.1 rfl (lv_room (Nat.le_of_ble_eq_true rfl)) dX4_isCovered_39 ⟨Nat.le_of_ble_eq_true rfl, Nat.le_of_ble_eq_true rfl⟩) ?_
        refine W.eq (g2 := F0 m 42 ls [.int (b2 (cvB g i a0))]) rfl ?_
        refine lv_if_eq (tgt := 47) hx hb dX4_isCovered_42 (by decide) (fun c42 => ?_) (fun c42 => ?_)
        · skip
          have c42 := b2_0.mp c42
          refine lv_iinc (v := nI (i + 1)) (lv' := [(4, .int (nI (i + 1))), (5, .ref (ad (1, i, 0))), (0, .ref (ad (0, 0, 0))), (1, .int a0), (2, .ref (ad (0, 1, 0))), (3, .int (nI 8))]) hx hb dX4_isCovered_47 hl (k := 5) rfl (by rw [← nI_add]; rfl) (by decide) rfl (fun ls hl => ?_)
          refine lv_goto (tgt := 11) hx hb dX4_isCovered_50 (by decide) ?_
          exact ih ls ⟨lv_sub hl [2, 3, 4, 5, 0] rfl, by simp [cvA, hJ, c20, c33, c42]⟩
        · skip
          have c42 := b2_n0.mp c42
          refine lv_iconst (v := 1) hx hb dX4_isCovered_45 (by decide) ?_
          have h9 : cvA g a0 (i + 1) = true := by simp [cvA, c20, c33, c42]
          exact e_z hx hb hr hlocks (by rw [cvA_up hi h9]; rfl) rfl dX4_isCovered_46
    · skip
      refine W.eq (g2 := F0 m 21 ls [.null]) (by simp [maO, c20, va_rf]) ?_
      refine lv_astoreN (lv' := [(5, .null), (0, .ref (ad (0, 0, 0))), (1, .int a0), (2, .ref (ad (0, 1, 0))), (3, .int (nI 8)), (4, .int (nI i))]) hx hb dX4_isCovered_21 hl (by decide) rfl (fun ls hl => ?_)
      refine lv_aloadN hx hb dX4_isCovered_23 (lv_at hl 0 rfl) ?_
      refine lv_ifnullN (tgt := 47) hx hb dX4_isCovered_25 (by decide) ?_
      refine lv_iinc (v := nI (i + 1)) (lv' := [(4, .int (nI (i + 1))), (5, .null), (0, .ref (ad (0, 0, 0))), (1, .int a0), (2, .ref (ad (0, 1, 0))), (3, .int (nI 8))]) hx hb dX4_isCovered_47 hl (k := 5) rfl (by rw [← nI_add]; rfl) (by decide) rfl (fun ls hl => ?_)
      refine lv_goto (tgt := 11) hx hb dX4_isCovered_50 (by decide) ?_
      exact ih ls ⟨lv_sub hl [2, 3, 4, 5, 0] rfl, by simp [cvA, hJ, c20]⟩
  · skip
    obtain ⟨hl, hJ⟩ := hJ0
    refine lv_iload hx hb dX4_isCovered_11 (lv_at hl 4 rfl) ?_
    refine lv_iload_n hx hb dX4_isCovered_13 rfl (lv_at hl 3 rfl) ?_
    refine lv_icmp_ge (tgt := 53) hx hb dX4_isCovered_14 (by decide) (fun c14 => ?_) (fun c14 => absurd (nI_le (Nat.le_refl _) (by decide)) c14)
    refine lv_iconst (v := 0) hx hb dX4_isCovered_53 (by decide) ?_
    exact e_z hx hb hr hlocks (by rw [hJ]; rfl) rfl dX4_isCovered_54

set_option maxHeartbeats 4000000 in
set_option maxRecDepth 100000 in
theorem mX4_holes (l : Launch) {D : va_G} {k : Nat → ClassId} {b : Nat} {ad : Tg → Nat} {g : XS} {M : MF} {o : OF}  : Met l yX4_holes (WS yX4_holes cX4_holes 3 (some .int)) ({ frames := 4, cells := 0, slots := 0, locals := 80 }) (P0 D k b (Wo D k b ad g M o) [.ref (ad (0, 0, 0))]) (Qr (some (.int (hlI g 100)))) 0 0 (fun _ => False) := by
  refine Met0 (by decide +kernel) (Nat.le_of_ble_eq_true rfl) (fun p e s m below meth c ls hx hb hr hts hown hml hlocks hnm hC hH hl => ?_)
  have hS : va_S (Fb b) s.heap s.heap [] := va_S.rf
  have hl : lv_has ls 3 [(0, .ref (ad (0, 0, 0)))] := hl
  refine lv_iconst (v := 0) hx hb dX4_holes_0 (by decide) ?_
  refine lv_istore_n (lv' := [(1, .int 0), (0, .ref (ad (0, 0, 0)))]) hx hb dX4_holes_1 rfl hl (by decide) rfl (fun ls hl => ?_)
  refine lv_iconst (v := nI 0) hx hb dX4_holes_2 (by decide) ?_
  refine lv_istore_n (lv' := [(2, .int (nI 0)), (1, .int 0), (0, .ref (ad (0, 0, 0)))]) hx hb dX4_holes_3 rfl hl (by decide) rfl (fun ls hl => ?_)
  refine loop_r 100 (fun i ls => lv_has ls 3 [(0, .ref (ad (0, 0, 0))), (1, .int (hlI g i)), (2, .int (nI i))]) (fun i hi ls hJ0 ih => ?_) (fun ls hJ0 => ?_) (lv_sub hl [2, 1, 0] rfl)
  · skip
    have hl := hJ0
    refine lv_iload_n hx hb dX4_holes_4 rfl (lv_at hl 2 rfl) ?_
    refine lv_bipush (v := nI 100) hx hb dX4_holes_5 (by decide) ?_
    refine lv_icmp_ge (tgt := 27) hx hb dX4_holes_7 (by decide) (fun c7 => absurd c7 (nI_ge hi (by decide))) (fun c7 => ?_)
    refine lv_aload_n hx hb dX4_holes_10 rfl (lv_at hl 0 rfl) ?_
    refine lv_iload_n hx hb dX4_holes_11 rfl (lv_at hl 2 rfl) ?_
    refine k_r (va_runV (As := [.int (nI i)]) (rest := []) ⟨hx, hb, hml, hown, hts⟩ (mX4_isCovered l (nI i)) ⟨cb_of hts wk_X4_isCovered wi_X4 wm_X4_150 sd_X4_isCovered rfl rfl ⟨Nat.le_of_ble_eq_true rfl, Nat.le_of_ble_eq_true rfl⟩, hts _ wv_X4_isCovered, hts _ wl_X4_isCovered⟩ (P0.preV hC hS hH (Hp.recv hC.1 hH (0, 0, 0) ⟨by decide, rfl⟩ rfl rfl)) rfl rfl hl.1 rfl (lv_room (Nat.le_of_ble_eq_true rfl)) dX4_holes_12 ⟨Nat.le_of_ble_eq_true rfl, Nat.le_of_ble_eq_true rfl⟩) ?_
    refine W.eq (g2 := F0 m 15 ls [.int (b2 (cvA g (nI i) 8))]) rfl ?_
    refine lv_if_ne (tgt := 21) hx hb dX4_holes_15 (by decide) (fun c15 => ?_) (fun c15 => ?_)
    · skip
      have c15 := b2_n0.mp c15
      refine lv_iinc (v := nI (i + 1)) (lv' := [(2, .int (nI (i + 1))), (0, .ref (ad (0, 0, 0))), (1, .int (hlI g i))]) hx hb dX4_holes_21 hl (k := 2) rfl (by rw [← nI_add]; rfl) (by decide) rfl (fun ls hl => ?_)
      refine lv_goto (tgt := 4) hx hb dX4_holes_24 (by decide) ?_
      refine ih ls ?_
      have h9 : hlI g (i + 1) = hlI g i := by simp [hlI, c15]
      rw [h9]
      exact lv_sub hl [1, 2, 0] rfl
    · skip
      have c15 := b2_0.mp c15
      refine lv_iinc (v := (hlI g i) + 1) (lv' := [(1, .int ((hlI g i) + 1)), (0, .ref (ad (0, 0, 0))), (2, .int (nI i))]) hx hb dX4_holes_18 hl (k := 1) rfl rfl (by decide) rfl (fun ls hl => ?_)
      refine lv_iinc (v := nI (i + 1)) (lv' := [(2, .int (nI (i + 1))), (1, .int ((hlI g i) + 1)), (0, .ref (ad (0, 0, 0)))]) hx hb dX4_holes_21 hl (k := 2) rfl (by rw [← nI_add]; rfl) (by decide) rfl (fun ls hl => ?_)
      refine lv_goto (tgt := 4) hx hb dX4_holes_24 (by decide) ?_
      refine ih ls ?_
      have h9 : hlI g (i + 1) = (hlI g i) + 1 := by simp [hlI, c15]
      rw [h9]
      exact lv_sub hl [2, 1, 0] rfl
  · skip
    have hl := hJ0
    refine lv_iload_n hx hb dX4_holes_4 rfl (lv_at hl 2 rfl) ?_
    refine lv_bipush (v := nI 100) hx hb dX4_holes_5 (by decide) ?_
    refine lv_icmp_ge (tgt := 27) hx hb dX4_holes_7 (by decide) (fun c7 => ?_) (fun c7 => absurd (nI_le (Nat.le_refl _) (by decide)) c7)
    refine lv_iload_n hx hb dX4_holes_27 rfl (lv_at hl 1 rfl) ?_
    exact e_i hx hb hr hlocks rfl dX4_holes_28
