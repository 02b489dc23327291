/-! THE REFERENCE: what callers call -/
def rO (M : MF) (C : Nat) (G : MF) : MF := if C = 0 then G else up M 26 0 (nI C)
theorem rO_0 {M : MF} {C : Nat} {G : MF} (h : C = 0) : rO M C G = G := if_pos h
theorem rO_n {M : MF} {C : Nat} {G : MF} (h : ¬ C = 0) : rO M C G = up M 26 0 (nI C) := if_neg h
def vO (C : Nat) (V : Int32) : Int32 := if C = 0 then V else 0
abbrev rT (M : MF) : MF := up M 26 0 0
theorem RI.T {M : MF} (h : RI M) {v : Int32} : RI (up M 26 0 v) := h.put (by decide) (by decide) (by decide) (by decide) (by decide)
def rclC (M : MF) (a0 : Int32) (q : Nat) : Nat := if isPB M a0 = false then 1 else if M 21 q = -1 then 0 else 2
def renC (M : MF) (a0 : Int32) (q : Nat) : Nat := if isPB M a0 = false then 1 else if M 21 q = -1 then 2 else 0
def rmvC (M : MF) (a0 a1 : Int32) : Nat := if isPB M a0 = false then 1 else if inB a1 0 99 = false then 2 else 0
def rpaC (M : MF) (a0 : Int32) : Nat := if inB a0 1 100 = false then 1 else if M 0 0 + a0 ≤ 10000 then 0 else 2
def romC (M : MF) (a0 a1 : Int32) : Nat := if isMB M a0 = false then 1 else if inB a1 0 5 = false then 2 else 0
def rtaC (M : MF) (a0 : Int32) : Nat := if isMB M a0 = false then 1 else 0
def ropC (M : MF) (a0 a1 : Int32) : Nat := if isPB M a0 = false then 1 else if inB a1 0 4 = false then 2 else 0
def rstC (M : MF) (a0 : Int32) : Nat := if isPB M a0 = false then 1 else 0
set_option maxHeartbeats 4000000 in
set_option maxRecDepth 100000 in
theorem mX5_sun (l : Launch) {D : va_G} {k : Nat → ClassId} {b : Nat} {ad : Tg → Nat} {g : XS} {M : MF} {o : OF} (hR : RI M) (a0 : Int32) : Met l yX5_sun (WS yX5_sun cX5_sun 3 (some .int)) ({ frames := 1, cells := 0, slots := 0, locals := 22 }) (P0 D k b (Wo D k b ad g M o) [.ref (ad (7, 0, 0)), .int a0]) (Qw b (some (.int (vO (sunC a0) (M 1 0)))) (Wo D k b ad g (rO M (sunC a0) (up (rT M) 1 0 a0)) o)) 0 0 (Fb b) := by
  refine Met0 (by decide +kernel) (Nat.le_of_ble_eq_true rfl) (fun p e s m below meth c ls hx hb hr hts hown hml hlocks hnm hC hH hl => ?_)
  have hS : va_S (Fb b) s.heap s.heap [] := va_S.rf
  have hl : lv_has ls 3 [(0, .ref (ad (7, 0, 0))), (1, .int a0)] := hl
  have h8 := hR.1
  have h12 := hR.2.2.1
  refine lv_aload_n hx hb dX5_sun_0 rfl (lv_at hl 0 rfl) ?_
  refine lv_iload_n hx hb dX5_sun_1 rfl (lv_at hl 1 rfl) ?_
  refine lv_iconst (v := 0) hx hb dX5_sun_2 (by decide) ?_
  refine lv_bipush (v := 10) hx hb dX5_sun_3 (by decide) ?_
  refine k_r (va_runS (As := [.int a0, .int 0, .int 10]) (rest := [.ref (ad (7, 0, 0))]) ⟨hx, hb, hml, hown, hts⟩ (mX5_in l a0 0 10) ⟨cb_of hts wk_X5_in wi_X5 wm_X5_84 sd_X5_in rfl rfl ⟨Nat.le_of_ble_eq_true rfl, Nat.le_of_ble_eq_true rfl⟩, hts _ wz_X5_in⟩ (P0.pre hC hS hH) rfl rfl hl.1 rfl (lv_room (Nat.le_of_ble_eq_true rfl)) dX5_sun_5 ⟨Nat.le_of_ble_eq_true rfl, Nat.le_of_ble_eq_true rfl⟩) ?_
  refine W.eq (g2 := F0 m 8 ls [.int (b2 (inB a0 0 10)), .ref (ad (7, 0, 0))]) rfl ?_
  refine lv_if_eq (tgt := 15) hx hb dX5_sun_8 (by decide) (fun c8 => ?_) (fun c8 => ?_)
  · skip
    have c8 := b2_0.mp c8
    refine lv_iconst (v := 1) hx hb dX5_sun_15 (by decide) ?_
    refine p5 hx hb hts hown hC hH hS 26 (by decide) (by decide) rfl wf_X5_77 rfl rfl dX5_sun_16 (fun H locs (hH : Wo D k b ad g (up M 26 0 1) o H) hS => ?_)
    refine lv_aload_n hx hb dX5_sun_19 rfl (lv_at hl 0 rfl) ?_
    refine g5 hx hb hts hown hC hH 26 (by decide) wf_X5_77 (v := .int 1) rfl dX5_sun_20 ?_
    refine W.eq (g2 := F0 m 23 ls [.int 1]) rfl ?_
    refine lv_if_le (tgt := 28) hx hb dX5_sun_23 (by decide) (fun c => absurd c (by decide)) (fun _ => ?_)
    refine lv_iconst (v := 0) hx hb dX5_sun_26 (by decide) ?_
    have h8 : sunC a0 = 1 := by simp [sunC, c8]
    have h9 : rO M (sunC a0) (up (rT M) 1 0 a0) = up M 26 0 1 := by rw [rO_n (by rw [h8]; decide), h8]; rfl
    exact e_wi hx hb hr hlocks (by unfold vO; rw [if_neg (by rw [h8]; decide)]; first | done | rfl) hS (by rw [h9]; exact hH) (Nat.le_refl _) (Nat.le_refl _) dX5_sun_27
  · skip
    have c8 := b2_n0.mp c8
    refine lv_iconst (v := 0) hx hb dX5_sun_11 (by decide) ?_
    refine lv_goto (tgt := 16) hx hb dX5_sun_12 (by decide) ?_
    refine p5 hx hb hts hown hC hH hS 26 (by decide) (by decide) rfl wf_X5_77 rfl rfl dX5_sun_16 (fun H locs (hH : Wo D k b ad g (up M 26 0 0) o H) hS => ?_)
    refine lv_aload_n hx hb dX5_sun_19 rfl (lv_at hl 0 rfl) ?_
    refine g5 hx hb hts hown hC hH 26 (by decide) wf_X5_77 (v := .int 0) rfl dX5_sun_20 ?_
    refine W.eq (g2 := F0 m 23 ls [.int 0]) rfl ?_
    refine lv_if_le (tgt := 28) hx hb dX5_sun_23 (by decide) (fun _ => ?_) (fun c => absurd c (by decide))
    refine lv_aload_n hx hb dX5_sun_28 rfl (lv_at hl 0 rfl) ?_
    refine g5 hx hb hts hown hC hH 1 (by decide) wf_X5_108 (v := .int (M 1 0)) rfl dX5_sun_29 ?_
    refine W.eq (g2 := F0 m 32 ls [.int (M 1 0)]) rfl ?_
    refine lv_istore_n (lv' := [(2, .int (M 1 0)), (0, .ref (ad (7, 0, 0))), (1, .int a0)]) hx hb dX5_sun_32 rfl hl (by decide) rfl (fun ls hl => ?_)
    refine lv_aload_n hx hb dX5_sun_33 rfl (lv_at hl 1 rfl) ?_
    refine lv_iload_n hx hb dX5_sun_34 rfl (lv_at hl 2 rfl) ?_
    refine p5 hx hb hts hown hC hH hS 1 (by decide) (by decide) rfl wf_X5_108 rfl rfl dX5_sun_35 (fun H locs (hH : Wo D k b ad g (up (up M 26 0 0) 1 0 a0) o H) hS => ?_)
    refine lv_iload_n hx hb dX5_sun_38 rfl (lv_at hl 0 rfl) ?_
    have h8 : sunC a0 = 0 := by simp [sunC, c8]
    have h9 : rO M (sunC a0) (up (rT M) 1 0 a0) = up (up M 26 0 0) 1 0 a0 := (rO_0 h8).trans (rfl)
    exact e_wi hx hb hr hlocks (by unfold vO; rw [if_pos h8]; first | done | rfl) hS (by rw [h9]; exact hH) (Nat.le_refl _) (Nat.le_refl _) dX5_sun_39

set_option maxHeartbeats 4000000 in
set_option maxRecDepth 100000 in
theorem mX5_paid (l : Launch) {D : va_G} {k : Nat → ClassId} {b : Nat} {ad : Tg → Nat} {g : XS} {M : MF} {o : OF} (hR : RI M) (a0 : Int32) : Met l yX5_paid (WS yX5_paid cX5_paid 2 (some .int)) ({ frames := 2, cells := 0, slots := 0, locals := 42 }) (P0 D k b (Wo D k b ad g M o) [.ref (ad (7, 0, 0)), .int a0]) (Qw b (some (.int (vO (pdC a0) (M 25 a0.toNatClampNeg)))) (Wo D k b ad g (rO M (pdC a0) (rT M)) o)) 0 0 (Fb b) := by
  refine Met0 (by decide +kernel) (Nat.le_of_ble_eq_true rfl) (fun p e s m below meth c ls hx hb hr hts hown hml hlocks hnm hC hH hl => ?_)
  have hS : va_S (Fb b) s.heap s.heap [] := va_S.rf
  have hl : lv_has ls 2 [(0, .ref (ad (7, 0, 0))), (1, .int a0)] := hl
  have h8 := hR.1
  have h12 := hR.2.2.1
  refine lv_aload_n hx hb dX5_paid_0 rfl (lv_at hl 0 rfl) ?_
  refine lv_iload_n hx hb dX5_paid_1 rfl (lv_at hl 1 rfl) ?_
  refine k_r (va_runS (As := [.int a0]) (rest := [.ref (ad (7, 0, 0))]) ⟨hx, hb, hml, hown, hts⟩ (mX5_isFarmer l a0) ⟨cb_of hts wk_X5_isFarmer wi_X5 wm_X5_102 sd_X5_isFarmer rfl rfl ⟨Nat.le_of_ble_eq_true rfl, Nat.le_of_ble_eq_true rfl⟩, hts _ wz_X5_isFarmer⟩ (P0.pre hC hS hH) rfl rfl hl.1 rfl (lv_room (Nat.le_of_ble_eq_true rfl)) dX5_paid_2 ⟨Nat.le_of_ble_eq_true rfl, Nat.le_of_ble_eq_true rfl⟩) ?_
  refine W.eq (g2 := F0 m 5 ls [.int (b2 (inB a0 0 5)), .ref (ad (7, 0, 0))]) rfl ?_
  refine lv_if_eq (tgt := 12) hx hb dX5_paid_5 (by decide) (fun c5 => ?_) (fun c5 => ?_)
  · skip
    have c5 := b2_0.mp c5
    refine lv_iconst (v := 1) hx hb dX5_paid_12 (by decide) ?_
    refine p5 hx hb hts hown hC hH hS 26 (by decide) (by decide) rfl wf_X5_77 rfl rfl dX5_paid_13 (fun H locs (hH : Wo D k b ad g (up M 26 0 1) o H) hS => ?_)
    refine lv_aload_n hx hb dX5_paid_16 rfl (lv_at hl 0 rfl) ?_
    refine g5 hx hb hts hown hC hH 26 (by decide) wf_X5_77 (v := .int 1) rfl dX5_paid_17 ?_
    refine W.eq (g2 := F0 m 20 ls [.int 1]) rfl ?_
    refine lv_if_ne (tgt := 32) hx hb dX5_paid_20 (by decide) (fun _ => ?_) (fun c => absurd c (by decide))
    refine lv_iconst (v := 0) hx hb dX5_paid_32 (by decide) ?_
    have h8 : pdC a0 = 1 := by simp [pdC, c5]
    have h9 : rO M (pdC a0) (rT M) = up M 26 0 1 := by rw [rO_n (by rw [h8]; decide), h8]; rfl
    exact e_wi hx hb hr hlocks (by unfold vO; rw [if_neg (by rw [h8]; decide)]; first | done | rfl) hS (by rw [h9]; exact hH) (Nat.le_refl _) (Nat.le_refl _) dX5_paid_33
  · skip
    have c5 := b2_n0.mp c5
    refine lv_iconst (v := 0) hx hb dX5_paid_8 (by decide) ?_
    refine lv_goto (tgt := 13) hx hb dX5_paid_9 (by decide) ?_
    refine p5 hx hb hts hown hC hH hS 26 (by decide) (by decide) rfl wf_X5_77 rfl rfl dX5_paid_13 (fun H locs (hH : Wo D k b ad g (up M 26 0 0) o H) hS => ?_)
    refine lv_aload_n hx hb dX5_paid_16 rfl (lv_at hl 0 rfl) ?_
    refine g5 hx hb hts hown hC hH 26 (by decide) wf_X5_77 (v := .int 0) rfl dX5_paid_17 ?_
    refine W.eq (g2 := F0 m 20 ls [.int 0]) rfl ?_
    refine lv_if_ne (tgt := 32) hx hb dX5_paid_20 (by decide) (fun c => absurd c (by decide)) (fun _ => ?_)
    refine lv_aload_n hx hb dX5_paid_23 rfl (lv_at hl 0 rfl) ?_
    refine g5 hx hb hts hown hC hH 25 (by decide) wf_X5_74 (v := .ref (ad (8, 25, 0))) rfl dX5_paid_24 ?_
    refine lv_iload_n hx hb dX5_paid_27 rfl (lv_at hl 1 rfl) ?_
    refine rLd hx hb hC hH 25 (by decide) (by decide) (inB_vp c5) dX5_paid_28 ?_
    refine W.eq (g2 := F0 m 29 ls [.int (M 25 a0.toNatClampNeg)]) (by simp [up]) ?_
    refine lv_goto (tgt := 33) hx hb dX5_paid_29 (by decide) ?_
    have h8 : pdC a0 = 0 := by simp [pdC, c5]
    have h9 : rO M (pdC a0) (rT M) = up M 26 0 0 := (rO_0 h8).trans (rfl)
    exact e_wi hx hb hr hlocks (by unfold vO; rw [if_pos h8]; first | done | rfl) hS (by rw [h9]; exact hH) (Nat.le_refl _) (Nat.le_refl _) dX5_paid_33

set_option maxHeartbeats 4000000 in
set_option maxRecDepth 100000 in
theorem mX5_trafficAnew (l : Launch) {D : va_G} {k : Nat → ClassId} {b : Nat} {ad : Tg → Nat} {g : XS} {M : MF} {o : OF} (hR : RI M) (a0 : Int32) (i : Nat) (hq : isMB M a0 = true → i < mN M ∧ a0 = nI i) : Met l yX5_trafficAnew (WS yX5_trafficAnew cX5_trafficAnew 2 (some .int)) ({ frames := 2, cells := 0, slots := 0, locals := 43 }) (P0 D k b (Wo D k b ad g M o) [.ref (ad (7, 0, 0)), .int a0]) (Qw b (some (.int (vO (rtaC M a0) (M 18 i)))) (Wo D k b ad g (rO M (rtaC M a0) (rT M)) o)) 0 0 (Fb b) := by
  refine Met0 (by decide +kernel) (Nat.le_of_ble_eq_true rfl) (fun p e s m below meth c ls hx hb hr hts hown hml hlocks hnm hC hH hl => ?_)
  have hS : va_S (Fb b) s.heap s.heap [] := va_S.rf
  have hl : lv_has ls 2 [(0, .ref (ad (7, 0, 0))), (1, .int a0)] := hl
  have h8 := hR.1
  have h12 := hR.2.2.1
  refine lv_aload_n hx hb dX5_trafficAnew_0 rfl (lv_at hl 0 rfl) ?_
  refine lv_aload_n hx hb dX5_trafficAnew_1 rfl (lv_at hl 0 rfl) ?_
  refine lv_iload_n hx hb dX5_trafficAnew_2 rfl (lv_at hl 1 rfl) ?_
  refine k_r (va_runV (As := [.int a0]) (rest := [.ref (ad (7, 0, 0))]) ⟨hx, hb, hml, hown, hts⟩ (mX5_isMast l (M := M) a0) ⟨cb_of hts wk_X5_isMast wi_X5 wm_X5_99 sd_X5_isMast rfl rfl ⟨Nat.le_of_ble_eq_true rfl, Nat.le_of_ble_eq_true rfl⟩, hts _ wv_X5_isMast, hts _ wl_X5_isMast⟩ (P0.preV hC hS hH (Hp.recv hC.1 hH (7, 0, 0) ⟨rfl, rfl⟩ rfl rfl)) rfl rfl hl.1 rfl (lv_room (Nat.le_of_ble_eq_true rfl)) dX5_trafficAnew_3 ⟨Nat.le_of_ble_eq_true rfl, Nat.le_of_ble_eq_true rfl⟩) ?_
  refine W.eq (g2 := F0 m 6 ls [.int (b2 (isMB M a0)), .ref (ad (7, 0, 0))]) rfl ?_
  refine lv_if_eq (tgt := 13) hx hb dX5_trafficAnew_6 (by decide) (fun c6 => ?_) (fun c6 => ?_)
  · skip
    have c6 := b2_0.mp c6
    refine lv_iconst (v := 1) hx hb dX5_trafficAnew_13 (by decide) ?_
    refine p5 hx hb hts hown hC hH hS 26 (by decide) (by decide) rfl wf_X5_77 rfl rfl dX5_trafficAnew_14 (fun H locs (hH : Wo D k b ad g (up M 26 0 1) o H) hS => ?_)
    refine lv_aload_n hx hb dX5_trafficAnew_17 rfl (lv_at hl 0 rfl) ?_
    refine g5 hx hb hts hown hC hH 26 (by decide) wf_X5_77 (v := .int 1) rfl dX5_trafficAnew_18 ?_
    refine W.eq (g2 := F0 m 21 ls [.int 1]) rfl ?_
    refine lv_if_ne (tgt := 33) hx hb dX5_trafficAnew_21 (by decide) (fun _ => ?_) (fun c => absurd c (by decide))
    refine lv_iconst (v := 0) hx hb dX5_trafficAnew_33 (by decide) ?_
    have h8 : rtaC M a0 = 1 := by simp [rtaC, c6]
    have h9 : rO M (rtaC M a0) (rT M) = up M 26 0 1 := by rw [rO_n (by rw [h8]; decide), h8]; rfl
    exact e_wi hx hb hr hlocks (by unfold vO; rw [if_neg (by rw [h8]; decide)]; first | done | rfl) hS (by rw [h9]; exact hH) (Nat.le_refl _) (Nat.le_refl _) dX5_trafficAnew_34
  · skip
    have c6 := b2_n0.mp c6
    obtain ⟨hj, h7⟩ := hq c6
    have hl : lv_has ls 2 [(0, .ref (ad (7, 0, 0))), (1, .int (nI i))] := by rw [← h7]; exact hl
    refine lv_iconst (v := 0) hx hb dX5_trafficAnew_9 (by decide) ?_
    refine lv_goto (tgt := 14) hx hb dX5_trafficAnew_10 (by decide) ?_
    refine p5 hx hb hts hown hC hH hS 26 (by decide) (by decide) rfl wf_X5_77 rfl rfl dX5_trafficAnew_14 (fun H locs (hH : Wo D k b ad g (up M 26 0 0) o H) hS => ?_)
    refine lv_aload_n hx hb dX5_trafficAnew_17 rfl (lv_at hl 0 rfl) ?_
    refine g5 hx hb hts hown hC hH 26 (by decide) wf_X5_77 (v := .int 0) rfl dX5_trafficAnew_18 ?_
    refine W.eq (g2 := F0 m 21 ls [.int 0]) rfl ?_
    refine lv_if_ne (tgt := 33) hx hb dX5_trafficAnew_21 (by decide) (fun c => absurd c (by decide)) (fun _ => ?_)
    refine lv_aload_n hx hb dX5_trafficAnew_24 rfl (lv_at hl 0 rfl) ?_
    refine g5 hx hb hts hown hC hH 18 (by decide) wf_X5_56 (v := .ref (ad (8, 18, 0))) rfl dX5_trafficAnew_25 ?_
    refine lv_iload_n hx hb dX5_trafficAnew_28 rfl (lv_at hl 1 rfl) ?_
    refine rLdN hx hb hC hH 18 (by decide) (by decide) (i := i) (show i < 8 by omega) dX5_trafficAnew_29 ?_
    refine W.eq (g2 := F0 m 30 ls [.int (M 18 i)]) (by simp [up]) ?_
    refine lv_goto (tgt := 34) hx hb dX5_trafficAnew_30 (by decide) ?_
    have h8 : rtaC M a0 = 0 := by simp [rtaC, c6]
    have h9 : rO M (rtaC M a0) (rT M) = up M 26 0 0 := (rO_0 h8).trans (rfl)
    exact e_wi hx hb hr hlocks (by unfold vO; rw [if_pos h8]; first | done | rfl) hS (by rw [h9]; exact hH) (Nat.le_refl _) (Nat.le_refl _) dX5_trafficAnew_34

set_option maxHeartbeats 4000000 in
set_option maxRecDepth 100000 in
theorem mX5_call (l : Launch) {D : va_G} {k : Nat → ClassId} {b : Nat} {ad : Tg → Nat} {g : XS} {M : MF} {o : OF} (hR : RI M) (a0 : Int32) (q : Nat) (hq : isPB M a0 = true → q < pN M ∧ a0 = nI q) : Met l yX5_call (WS yX5_call cX5_call 2 (some .int)) ({ frames := 3, cells := 0, slots := 0, locals := 69 }) (P0 D k b (Wo D k b ad g M o) [.ref (ad (7, 0, 0)), .int a0]) (Qw b (some (.int (vO (rclC M a0 q) ((rclG (rT M) q) 21 q)))) (Wo D k b ad g (rO M (rclC M a0 q) (rclG (rT M) q)) o)) 0 0 (Fb b) := by
  refine Met0 (by decide +kernel) (Nat.le_of_ble_eq_true rfl) (fun p e s m below meth c ls hx hb hr hts hown hml hlocks hnm hC hH hl => ?_)
  have hS : va_S (Fb b) s.heap s.heap [] := va_S.rf
  have hl : lv_has ls 2 [(0, .ref (ad (7, 0, 0))), (1, .int a0)] := hl
  have h8 := hR.1
  have h12 := hR.2.2.1
  refine lv_aload_n hx hb dX5_call_0 rfl (lv_at hl 0 rfl) ?_
  refine lv_aload_n hx hb dX5_call_1 rfl (lv_at hl 0 rfl) ?_
  refine lv_iload_n hx hb dX5_call_2 rfl (lv_at hl 1 rfl) ?_
  refine k_r (va_runV (As := [.int a0]) (rest := [.ref (ad (7, 0, 0))]) ⟨hx, hb, hml, hown, hts⟩ (mX5_isPhone l (M := M) a0) ⟨cb_of hts wk_X5_isPhone wi_X5 wm_X5_122 sd_X5_isPhone rfl rfl ⟨Nat.le_of_ble_eq_true rfl, Nat.le_of_ble_eq_true rfl⟩, hts _ wv_X5_isPhone, hts _ wl_X5_isPhone⟩ (P0.preV hC hS hH (Hp.recv hC.1 hH (7, 0, 0) ⟨rfl, rfl⟩ rfl rfl)) rfl rfl hl.1 rfl (lv_room (Nat.le_of_ble_eq_true rfl)) dX5_call_3 ⟨Nat.le_of_ble_eq_true rfl, Nat.le_of_ble_eq_true rfl⟩) ?_
  refine W.eq (g2 := F0 m 6 ls [.int (b2 (isPB M a0)), .ref (ad (7, 0, 0))]) rfl ?_
  refine lv_if_ne (tgt := 13) hx hb dX5_call_6 (by decide) (fun c6 => ?_) (fun c6 => ?_)
  · skip
    have c6 := b2_n0.mp c6
    obtain ⟨hj, h7⟩ := hq c6
    have hl : lv_has ls 2 [(0, .ref (ad (7, 0, 0))), (1, .int (nI q))] := by rw [← h7]; exact hl
    refine lv_aload_n hx hb dX5_call_13 rfl (lv_at hl 0 rfl) ?_
    refine g5 hx hb hts hown hC hH 21 (by decide) wf_X5_62 (v := .ref (ad (8, 21, 0))) rfl dX5_call_14 ?_
    refine lv_iload_n hx hb dX5_call_17 rfl (lv_at hl 1 rfl) ?_
    refine rLdN hx hb hC hH 21 (by decide) (by decide) (i := q) (show q < 12 by omega) dX5_call_18 ?_
    refine lv_iconst (v := (-1)) hx hb dX5_call_19 (by decide) ?_
    refine lv_icmp_eq (tgt := 27) hx hb dX5_call_20 (by decide) (fun c20 => ?_) (fun c20 => ?_)
    · skip
      refine lv_iconst (v := 0) hx hb dX5_call_27 (by decide) ?_
      refine p5 hx hb hts hown hC hH hS 26 (by decide) (by decide) rfl wf_X5_77 rfl rfl dX5_call_28 (fun H locs (hH : Wo D k b ad g (up M 26 0 0) o H) hS => ?_)
      refine lv_aload_n hx hb dX5_call_31 rfl (lv_at hl 0 rfl) ?_
      refine g5 hx hb hts hown hC hH 26 (by decide) wf_X5_77 (v := .int 0) rfl dX5_call_32 ?_
      refine W.eq (g2 := F0 m 35 ls [.int 0]) rfl ?_
      refine lv_if_le (tgt := 40) hx hb dX5_call_35 (by decide) (fun _ => ?_) (fun c => absurd c (by decide))
      refine lv_aload_n hx hb dX5_call_40 rfl (lv_at hl 0 rfl) ?_
      refine g5 hx hb hts hown hC hH 21 (by decide) wf_X5_62 (v := .ref (ad (8, 21, 0))) rfl dX5_call_41 ?_
      refine lv_iload_n hx hb dX5_call_44 rfl (lv_at hl 1 rfl) ?_
      refine lv_aload_n hx hb dX5_call_45 rfl (lv_at hl 0 rfl) ?_
      refine lv_aload_n hx hb dX5_call_46 rfl (lv_at hl 0 rfl) ?_
      refine g5 hx hb hts hown hC hH 20 (by decide) wf_X5_59 (v := .ref (ad (8, 20, 0))) rfl dX5_call_47 ?_
      refine lv_iload_n hx hb dX5_call_50 rfl (lv_at hl 1 rfl) ?_
      refine rLdN hx hb hC hH 20 (by decide) (by decide) (i := q) (show q < 12 by omega) dX5_call_51 ?_
      refine W.eq (g2 := F0 m 52 ls [.int (M 20 q), .ref (ad (7, 0, 0)), .int (nI q), .ref (ad (8, 21, 0))]) (by simp [up]) ?_
      refine k_r (va_runV (As := [.int (M 20 q)]) (rest := [.int (nI q), .ref (ad (8, 21, 0))]) ⟨hx, hb, hml, hown, hts⟩ (mX5_mastFor l (M := (up M 26 0 0)) hR.T (M 20 q)) ⟨cb_of hts wk_X5_mastFor wi_X5 wm_X5_125 sd_X5_mastFor rfl rfl ⟨Nat.le_of_ble_eq_true rfl, Nat.le_of_ble_eq_true rfl⟩, hts _ wv_X5_mastFor, hts _ wl_X5_mastFor⟩ (P0.preV hC hS hH (Hp.recv hC.1 hH (7, 0, 0) ⟨rfl, rfl⟩ rfl rfl)) rfl rfl hl.1 rfl (lv_room (Nat.le_of_ble_eq_true rfl)) dX5_call_52 ⟨Nat.le_of_ble_eq_true rfl, Nat.le_of_ble_eq_true rfl⟩) ?_
      refine W.eq (g2 := F0 m 55 ls [.int (cdI (mf (up M 26 0 0) (M 20 q) (mN (up M 26 0 0)))), .int (nI q), .ref (ad (8, 21, 0))]) rfl ?_
      refine rStN hx hb hC hH hS 21 (by decide) (by decide) (i := q) (show q < 12 by omega) dX5_call_55 (fun H locs (hH : Wo D k b ad g (up (up M 26 0 0) 21 q (cdI (mf (up M 26 0 0) (M 20 q) (mN (up M 26 0 0))))) o H) hS => ?_)
      refine lv_aload_n hx hb dX5_call_56 rfl (lv_at hl 0 rfl) ?_
      refine g5 hx hb hts hown hC hH 22 (by decide) wf_X5_65 (v := .ref (ad (8, 22, 0))) rfl dX5_call_57 ?_
      refine lv_iload_n hx hb dX5_call_60 rfl (lv_at hl 1 rfl) ?_
      refine lv_dup2_11 hx hb dX5_call_61 rfl rfl ?_
      refine rLdN hx hb hC hH 22 (by decide) (by decide) (i := q) (show q < 12 by omega) dX5_call_62 ?_
      refine W.eq (g2 := F0 m 63 ls [.int (M 22 q), .int (nI q), .ref (ad (8, 22, 0))]) (by simp [up]) ?_
      refine lv_aload_n hx hb dX5_call_63 rfl (lv_at hl 0 rfl) ?_
      refine g5 hx hb hts hown hC hH 21 (by decide) wf_X5_62 (v := .ref (ad (8, 21, 0))) rfl dX5_call_64 ?_
      refine lv_iload_n hx hb dX5_call_67 rfl (lv_at hl 1 rfl) ?_
      refine rLdN hx hb hC hH 21 (by decide) (by decide) (i := q) (show q < 12 by omega) dX5_call_68 ?_
      refine W.eq (g2 := F0 m 69 ls [.int (cdI (mf (up M 26 0 0) (M 20 q) (mN (up M 26 0 0)))), .int (M 22 q), .int (nI q), .ref (ad (8, 22, 0))]) (by simp [up]) ?_
      refine lv_iconst (v := (-1)) hx hb dX5_call_69 (by decide) ?_
      refine lv_icmp_ne (tgt := 77) hx hb dX5_call_70 (by decide) (fun c70 => ?_) (fun c70 => ?_)
      · skip
        refine lv_iconst (v := 0) hx hb dX5_call_77 (by decide) ?_
        refine lv_iadd hx hb dX5_call_78 ?_
        refine rStN hx hb hC hH hS 22 (by decide) (by decide) (i := q) (show q < 12 by omega) dX5_call_79 (fun H locs (hH : Wo D k b ad g (up (up (up M 26 0 0) 21 q (cdI (mf (up M 26 0 0) (M 20 q) (mN (up M 26 0 0))))) 22 q ((M 22 q) + 0)) o H) hS => ?_)
        refine lv_aload_n hx hb dX5_call_80 rfl (lv_at hl 0 rfl) ?_
        refine g5 hx hb hts hown hC hH 21 (by decide) wf_X5_62 (v := .ref (ad (8, 21, 0))) rfl dX5_call_81 ?_
        refine lv_iload_n hx hb dX5_call_84 rfl (lv_at hl 1 rfl) ?_
        refine rLdN hx hb hC hH 21 (by decide) (by decide) (i := q) (show q < 12 by omega) dX5_call_85 ?_
        refine W.eq (g2 := F0 m 86 ls [.int (cdI (mf (up M 26 0 0) (M 20 q) (mN (up M 26 0 0))))]) (by simp [up]) ?_
        have h8 : rclC M a0 q = 0 := by simp [rclC, c6, c20, c70]
        have h9 : rO M (rclC M a0 q) (rclG (rT M) q) = up (up (up M 26 0 0) 21 q (cdI (mf (up M 26 0 0) (M 20 q) (mN (up M 26 0 0))))) 22 q ((M 22 q) + 0) := (rO_0 h8).trans (by unfold rclG; rw [if_neg (show ¬ cdI (mf (rT M) (rT M 20 q) (mN (rT M))) = -1 from c70)]; first | done | rfl)
        exact e_wi hx hb hr hlocks (by unfold vO; rw [if_pos h8]; first | done | (unfold rclG; rw [up_f (by decide), up_s]; first | done | rfl)) hS (by rw [h9]; exact hH) (Nat.le_refl _) (Nat.le_refl _) dX5_call_86
      · skip
        refine lv_iconst (v := 1) hx hb dX5_call_73 (by decide) ?_
        refine lv_goto (tgt := 78) hx hb dX5_call_74 (by decide) ?_
        refine lv_iadd hx hb dX5_call_78 ?_
        refine rStN hx hb hC hH hS 22 (by decide) (by decide) (i := q) (show q < 12 by omega) dX5_call_79 (fun H locs (hH : Wo D k b ad g (up (up (up M 26 0 0) 21 q (cdI (mf (up M 26 0 0) (M 20 q) (mN (up M 26 0 0))))) 22 q ((M 22 q) + 1)) o H) hS => ?_)
        refine lv_aload_n hx hb dX5_call_80 rfl (lv_at hl 0 rfl) ?_
        refine g5 hx hb hts hown hC hH 21 (by decide) wf_X5_62 (v := .ref (ad (8, 21, 0))) rfl dX5_call_81 ?_
        refine lv_iload_n hx hb dX5_call_84 rfl (lv_at hl 1 rfl) ?_
        refine rLdN hx hb hC hH 21 (by decide) (by decide) (i := q) (show q < 12 by omega) dX5_call_85 ?_
        refine W.eq (g2 := F0 m 86 ls [.int (cdI (mf (up M 26 0 0) (M 20 q) (mN (up M 26 0 0))))]) (by simp [up]) ?_
        have h8 : rclC M a0 q = 0 := by simp [rclC, c6, c20, c70]
        have h9 : rO M (rclC M a0 q) (rclG (rT M) q) = up (up (up M 26 0 0) 21 q (cdI (mf (up M 26 0 0) (M 20 q) (mN (up M 26 0 0))))) 22 q ((M 22 q) + 1) := (rO_0 h8).trans (by unfold rclG; rw [if_pos (show cdI (mf (rT M) (rT M 20 q) (mN (rT M))) = -1 from c70)]; first | done | rfl)
        exact e_wi hx hb hr hlocks (by unfold vO; rw [if_pos h8]; first | done | (unfold rclG; rw [up_f (by decide), up_s]; first | done | rfl)) hS (by rw [h9]; exact hH) (Nat.le_refl _) (Nat.le_refl _) dX5_call_86
    · skip
      refine lv_iconst (v := 2) hx hb dX5_call_23 (by decide) ?_
      refine lv_goto (tgt := 28) hx hb dX5_call_24 (by decide) ?_
      refine p5 hx hb hts hown hC hH hS 26 (by decide) (by decide) rfl wf_X5_77 rfl rfl dX5_call_28 (fun H locs (hH : Wo D k b ad g (up M 26 0 2) o H) hS => ?_)
      refine lv_aload_n hx hb dX5_call_31 rfl (lv_at hl 0 rfl) ?_
      refine g5 hx hb hts hown hC hH 26 (by decide) wf_X5_77 (v := .int 2) rfl dX5_call_32 ?_
      refine W.eq (g2 := F0 m 35 ls [.int 2]) rfl ?_
      refine lv_if_le (tgt := 40) hx hb dX5_call_35 (by decide) (fun c => absurd c (by decide)) (fun _ => ?_)
      refine lv_iconst (v := 0) hx hb dX5_call_38 (by decide) ?_
      have h8 : rclC M a0 q = 2 := by simp [rclC, c6, c20]
      have h9 : rO M (rclC M a0 q) (rclG (rT M) q) = up M 26 0 2 := by rw [rO_n (by rw [h8]; decide), h8]; rfl
      exact e_wi hx hb hr hlocks (by unfold vO; rw [if_neg (by rw [h8]; decide)]; first | done | rfl) hS (by rw [h9]; exact hH) (Nat.le_refl _) (Nat.le_refl _) dX5_call_39
  · skip
    have c6 := b2_0.mp c6
    refine lv_iconst (v := 1) hx hb dX5_call_9 (by decide) ?_
    refine lv_goto (tgt := 28) hx hb dX5_call_10 (by decide) ?_
    refine p5 hx hb hts hown hC hH hS 26 (by decide) (by decide) rfl wf_X5_77 rfl rfl dX5_call_28 (fun H locs (hH : Wo D k b ad g (up M 26 0 1) o H) hS => ?_)
    refine lv_aload_n hx hb dX5_call_31 rfl (lv_at hl 0 rfl) ?_
    refine g5 hx hb hts hown hC hH 26 (by decide) wf_X5_77 (v := .int 1) rfl dX5_call_32 ?_
    refine W.eq (g2 := F0 m 35 ls [.int 1]) rfl ?_
    refine lv_if_le (tgt := 40) hx hb dX5_call_35 (by decide) (fun c => absurd c (by decide)) (fun _ => ?_)
    refine lv_iconst (v := 0) hx hb dX5_call_38 (by decide) ?_
    have h8 : rclC M a0 q = 1 := by simp [rclC, c6]
    have h9 : rO M (rclC M a0 q) (rclG (rT M) q) = up M 26 0 1 := by rw [rO_n (by rw [h8]; decide), h8]; rfl
    exact e_wi hx hb hr hlocks (by unfold vO; rw [if_neg (by rw [h8]; decide)]; first | done | rfl) hS (by rw [h9]; exact hH) (Nat.le_refl _) (Nat.le_refl _) dX5_call_39

set_option maxHeartbeats 4000000 in
set_option maxRecDepth 100000 in
theorem mX5_end (l : Launch) {D : va_G} {k : Nat → ClassId} {b : Nat} {ad : Tg → Nat} {g : XS} {M : MF} {o : OF} (hR : RI M) (a0 : Int32) (q : Nat) (hq : isPB M a0 = true → q < pN M ∧ a0 = nI q) : Met l yX5_end (WS yX5_end cX5_end 3 (some .int)) ({ frames := 2, cells := 0, slots := 0, locals := 43 }) (P0 D k b (Wo D k b ad g M o) [.ref (ad (7, 0, 0)), .int a0]) (Qw b (some (.int (vO (renC M a0 q) (M 21 q)))) (Wo D k b ad g (rO M (renC M a0 q) (up (rT M) 21 q (-1))) o)) 0 0 (Fb b) := by
  refine Met0 (by decide +kernel) (Nat.le_of_ble_eq_true rfl) (fun p e s m below meth c ls hx hb hr hts hown hml hlocks hnm hC hH hl => ?_)
  have hS : va_S (Fb b) s.heap s.heap [] := va_S.rf
  have hl : lv_has ls 3 [(0, .ref (ad (7, 0, 0))), (1, .int a0)] := hl
  have h8 := hR.1
  have h12 := hR.2.2.1
  refine lv_aload_n hx hb dX5_end_0 rfl (lv_at hl 0 rfl) ?_
  refine lv_aload_n hx hb dX5_end_1 rfl (lv_at hl 0 rfl) ?_
  refine lv_iload_n hx hb dX5_end_2 rfl (lv_at hl 1 rfl) ?_
  refine k_r (va_runV (As := [.int a0]) (rest := [.ref (ad (7, 0, 0))]) ⟨hx, hb, hml, hown, hts⟩ (mX5_isPhone l (M := M) a0) ⟨cb_of hts wk_X5_isPhone wi_X5 wm_X5_122 sd_X5_isPhone rfl rfl ⟨Nat.le_of_ble_eq_true rfl, Nat.le_of_ble_eq_true rfl⟩, hts _ wv_X5_isPhone, hts _ wl_X5_isPhone⟩ (P0.preV hC hS hH (Hp.recv hC.1 hH (7, 0, 0) ⟨rfl, rfl⟩ rfl rfl)) rfl rfl hl.1 rfl (lv_room (Nat.le_of_ble_eq_true rfl)) dX5_end_3 ⟨Nat.le_of_ble_eq_true rfl, Nat.le_of_ble_eq_true rfl⟩) ?_
  refine W.eq (g2 := F0 m 6 ls [.int (b2 (isPB M a0)), .ref (ad (7, 0, 0))]) rfl ?_
  refine lv_if_ne (tgt := 13) hx hb dX5_end_6 (by decide) (fun c6 => ?_) (fun c6 => ?_)
  · skip
    have c6 := b2_n0.mp c6
    obtain ⟨hj, h7⟩ := hq c6
    have hl : lv_has ls 3 [(0, .ref (ad (7, 0, 0))), (1, .int (nI q))] := by rw [← h7]; exact hl
    refine lv_aload_n hx hb dX5_end_13 rfl (lv_at hl 0 rfl) ?_
    refine g5 hx hb hts hown hC hH 21 (by decide) wf_X5_62 (v := .ref (ad (8, 21, 0))) rfl dX5_end_14 ?_
    refine lv_iload_n hx hb dX5_end_17 rfl (lv_at hl 1 rfl) ?_
    refine rLdN hx hb hC hH 21 (by decide) (by decide) (i := q) (show q < 12 by omega) dX5_end_18 ?_
    refine lv_iconst (v := (-1)) hx hb dX5_end_19 (by decide) ?_
    refine lv_icmp_ne (tgt := 27) hx hb dX5_end_20 (by decide) (fun c20 => ?_) (fun c20 => ?_)
    · skip
      refine lv_iconst (v := 0) hx hb dX5_end_27 (by decide) ?_
      refine p5 hx hb hts hown hC hH hS 26 (by decide) (by decide) rfl wf_X5_77 rfl rfl dX5_end_28 (fun H locs (hH : Wo D k b ad g (up M 26 0 0) o H) hS => ?_)
      refine lv_aload_n hx hb dX5_end_31 rfl (lv_at hl 0 rfl) ?_
      refine g5 hx hb hts hown hC hH 26 (by decide) wf_X5_77 (v := .int 0) rfl dX5_end_32 ?_
      refine W.eq (g2 := F0 m 35 ls [.int 0]) rfl ?_
      refine lv_if_le (tgt := 40) hx hb dX5_end_35 (by decide) (fun _ => ?_) (fun c => absurd c (by decide))
      refine lv_aload_n hx hb dX5_end_40 rfl (lv_at hl 0 rfl) ?_
      refine g5 hx hb hts hown hC hH 21 (by decide) wf_X5_62 (v := .ref (ad (8, 21, 0))) rfl dX5_end_41 ?_
      refine lv_iload_n hx hb dX5_end_44 rfl (lv_at hl 1 rfl) ?_
      refine rLdN hx hb hC hH 21 (by decide) (by decide) (i := q) (show q < 12 by omega) dX5_end_45 ?_
      refine W.eq (g2 := F0 m 46 ls [.int (M 21 q)]) (by simp [up]) ?_
      refine lv_istore_n (lv' := [(2, .int (M 21 q)), (0, .ref (ad (7, 0, 0))), (1, .int (nI q))]) hx hb dX5_end_46 rfl hl (by decide) rfl (fun ls hl => ?_)
      refine lv_aload_n hx hb dX5_end_47 rfl (lv_at hl 1 rfl) ?_
      refine g5 hx hb hts hown hC hH 21 (by decide) wf_X5_62 (v := .ref (ad (8, 21, 0))) rfl dX5_end_48 ?_
      refine lv_iload_n hx hb dX5_end_51 rfl (lv_at hl 2 rfl) ?_
      refine lv_iconst (v := (-1)) hx hb dX5_end_52 (by decide) ?_
      refine rStN hx hb hC hH hS 21 (by decide) (by decide) (i := q) (show q < 12 by omega) dX5_end_53 (fun H locs (hH : Wo D k b ad g (up (up M 26 0 0) 21 q (-1)) o H) hS => ?_)
      refine lv_iload_n hx hb dX5_end_54 rfl (lv_at hl 0 rfl) ?_
      have h8 : renC M a0 q = 0 := by simp [renC, c6, c20]
      have h9 : rO M (renC M a0 q) (up (rT M) 21 q (-1)) = up (up M 26 0 0) 21 q (-1) := (rO_0 h8).trans (rfl)
      exact e_wi hx hb hr hlocks (by unfold vO; rw [if_pos h8]; first | done | rfl) hS (by rw [h9]; exact hH) (Nat.le_refl _) (Nat.le_refl _) dX5_end_55
    · skip
      refine lv_iconst (v := 2) hx hb dX5_end_23 (by decide) ?_
      refine lv_goto (tgt := 28) hx hb dX5_end_24 (by decide) ?_
      refine p5 hx hb hts hown hC hH hS 26 (by decide) (by decide) rfl wf_X5_77 rfl rfl dX5_end_28 (fun H locs (hH : Wo D k b ad g (up M 26 0 2) o H) hS => ?_)
      refine lv_aload_n hx hb dX5_end_31 rfl (lv_at hl 0 rfl) ?_
      refine g5 hx hb hts hown hC hH 26 (by decide) wf_X5_77 (v := .int 2) rfl dX5_end_32 ?_
      refine W.eq (g2 := F0 m 35 ls [.int 2]) rfl ?_
      refine lv_if_le (tgt := 40) hx hb dX5_end_35 (by decide) (fun c => absurd c (by decide)) (fun _ => ?_)
      refine lv_iconst (v := 0) hx hb dX5_end_38 (by decide) ?_
      have h8 : renC M a0 q = 2 := by simp [renC, c6, c20]
      have h9 : rO M (renC M a0 q) (up (rT M) 21 q (-1)) = up M 26 0 2 := by rw [rO_n (by rw [h8]; decide), h8]; rfl
      exact e_wi hx hb hr hlocks (by unfold vO; rw [if_neg (by rw [h8]; decide)]; first | done | rfl) hS (by rw [h9]; exact hH) (Nat.le_refl _) (Nat.le_refl _) dX5_end_39
  · skip
    have c6 := b2_0.mp c6
    refine lv_iconst (v := 1) hx hb dX5_end_9 (by decide) ?_
    refine lv_goto (tgt := 28) hx hb dX5_end_10 (by decide) ?_
    refine p5 hx hb hts hown hC hH hS 26 (by decide) (by decide) rfl wf_X5_77 rfl rfl dX5_end_28 (fun H locs (hH : Wo D k b ad g (up M 26 0 1) o H) hS => ?_)
    refine lv_aload_n hx hb dX5_end_31 rfl (lv_at hl 0 rfl) ?_
    refine g5 hx hb hts hown hC hH 26 (by decide) wf_X5_77 (v := .int 1) rfl dX5_end_32 ?_
    refine W.eq (g2 := F0 m 35 ls [.int 1]) rfl ?_
    refine lv_if_le (tgt := 40) hx hb dX5_end_35 (by decide) (fun c => absurd c (by decide)) (fun _ => ?_)
    refine lv_iconst (v := 0) hx hb dX5_end_38 (by decide) ?_
    have h8 : renC M a0 q = 1 := by simp [renC, c6]
    have h9 : rO M (renC M a0 q) (up (rT M) 21 q (-1)) = up M 26 0 1 := by rw [rO_n (by rw [h8]; decide), h8]; rfl
    exact e_wi hx hb hr hlocks (by unfold vO; rw [if_neg (by rw [h8]; decide)]; first | done | rfl) hS (by rw [h9]; exact hH) (Nat.le_refl _) (Nat.le_refl _) dX5_end_39

set_option maxHeartbeats 4000000 in
set_option maxRecDepth 100000 in
theorem mX5_ofPhone (l : Launch) {D : va_G} {k : Nat → ClassId} {b : Nat} {ad : Tg → Nat} {g : XS} {M : MF} {o : OF} (hR : RI M) (a0 a1 : Int32) (q : Nat) (hq : isPB M a0 = true → q < pN M ∧ a0 = nI q) : Met l yX5_ofPhone (WS yX5_ofPhone cX5_ofPhone 3 (some .int)) ({ frames := 2, cells := 0, slots := 0, locals := 43 }) (P0 D k b (Wo D k b ad g M o) [.ref (ad (7, 0, 0)), .int a0, .int a1]) (Qw b (some (.int (vO (ropC M a0 a1) (rofPV (rT M) q a1)))) (Wo D k b ad g (rO M (ropC M a0 a1) (rT M)) o)) 0 0 (Fb b) := by
  refine Met0 (by decide +kernel) (Nat.le_of_ble_eq_true rfl) (fun p e s m below meth c ls hx hb hr hts hown hml hlocks hnm hC hH hl => ?_)
  have hS : va_S (Fb b) s.heap s.heap [] := va_S.rf
  have hl : lv_has ls 3 [(0, .ref (ad (7, 0, 0))), (1, .int a0), (2, .int a1)] := hl
  have h8 := hR.1
  have h12 := hR.2.2.1
  refine lv_aload_n hx hb dX5_ofPhone_0 rfl (lv_at hl 0 rfl) ?_
  refine lv_aload_n hx hb dX5_ofPhone_1 rfl (lv_at hl 0 rfl) ?_
  refine lv_iload_n hx hb dX5_ofPhone_2 rfl (lv_at hl 1 rfl) ?_
  refine k_r (va_runV (As := [.int a0]) (rest := [.ref (ad (7, 0, 0))]) ⟨hx, hb, hml, hown, hts⟩ (mX5_isPhone l (M := M) a0) ⟨cb_of hts wk_X5_isPhone wi_X5 wm_X5_122 sd_X5_isPhone rfl rfl ⟨Nat.le_of_ble_eq_true rfl, Nat.le_of_ble_eq_true rfl⟩, hts _ wv_X5_isPhone, hts _ wl_X5_isPhone⟩ (P0.preV hC hS hH (Hp.recv hC.1 hH (7, 0, 0) ⟨rfl, rfl⟩ rfl rfl)) rfl rfl hl.1 rfl (lv_room (Nat.le_of_ble_eq_true rfl)) dX5_ofPhone_3 ⟨Nat.le_of_ble_eq_true rfl, Nat.le_of_ble_eq_true rfl⟩) ?_
  refine W.eq (g2 := F0 m 6 ls [.int (b2 (isPB M a0)), .ref (ad (7, 0, 0))]) rfl ?_
  refine lv_if_ne (tgt := 13) hx hb dX5_ofPhone_6 (by decide) (fun c6 => ?_) (fun c6 => ?_)
  · skip
    have c6 := b2_n0.mp c6
    obtain ⟨hj, h7⟩ := hq c6
    have hl : lv_has ls 3 [(0, .ref (ad (7, 0, 0))), (1, .int (nI q)), (2, .int a1)] := by rw [← h7]; exact hl
    refine lv_iload_n hx hb dX5_ofPhone_13 rfl (lv_at hl 2 rfl) ?_
    refine lv_iconst (v := 0) hx hb dX5_ofPhone_14 (by decide) ?_
    refine lv_iconst (v := 4) hx hb dX5_ofPhone_15 (by decide) ?_
    refine k_r (va_runS (As := [.int a1, .int 0, .int 4]) (rest := [.ref (ad (7, 0, 0))]) ⟨hx, hb, hml, hown, hts⟩ (mX5_in l a1 0 4) ⟨cb_of hts wk_X5_in wi_X5 wm_X5_84 sd_X5_in rfl rfl ⟨Nat.le_of_ble_eq_true rfl, Nat.le_of_ble_eq_true rfl⟩, hts _ wz_X5_in⟩ (P0.pre hC hS hH) rfl rfl hl.1 rfl (lv_room (Nat.le_of_ble_eq_true rfl)) dX5_ofPhone_16 ⟨Nat.le_of_ble_eq_true rfl, Nat.le_of_ble_eq_true rfl⟩) ?_
    refine W.eq (g2 := F0 m 19 ls [.int (b2 (inB a1 0 4)), .ref (ad (7, 0, 0))]) rfl ?_
    refine lv_if_ne (tgt := 26) hx hb dX5_ofPhone_19 (by decide) (fun c19 => ?_) (fun c19 => ?_)
    · skip
      have c19 := b2_n0.mp c19
      refine lv_iconst (v := 0) hx hb dX5_ofPhone_26 (by decide) ?_
      refine p5 hx hb hts hown hC hH hS 26 (by decide) (by decide) rfl wf_X5_77 rfl rfl dX5_ofPhone_27 (fun H locs (hH : Wo D k b ad g (up M 26 0 0) o H) hS => ?_)
      refine lv_aload_n hx hb dX5_ofPhone_30 rfl (lv_at hl 0 rfl) ?_
      refine g5 hx hb hts hown hC hH 26 (by decide) wf_X5_77 (v := .int 0) rfl dX5_ofPhone_31 ?_
      refine W.eq (g2 := F0 m 34 ls [.int 0]) rfl ?_
      refine lv_if_le (tgt := 39) hx hb dX5_ofPhone_34 (by decide) (fun _ => ?_) (fun c => absurd c (by decide))
      refine lv_iload_n hx hb dX5_ofPhone_39 rfl (lv_at hl 2 rfl) ?_
      refine lv_if_ne (tgt := 52) hx hb dX5_ofPhone_40 (by decide) (fun c40 => ?_) (fun c40 => ?_)
      · skip
        refine lv_iload_n hx hb dX5_ofPhone_52 rfl (lv_at hl 2 rfl) ?_
        refine lv_iconst (v := 1) hx hb dX5_ofPhone_53 (by decide) ?_
        refine lv_icmp_ne (tgt := 66) hx hb dX5_ofPhone_54 (by decide) (fun c54 => ?_) (fun c54 => ?_)
        · skip
          refine lv_iload_n hx hb dX5_ofPhone_66 rfl (lv_at hl 2 rfl) ?_
          refine lv_iconst (v := 2) hx hb dX5_ofPhone_67 (by decide) ?_
          refine lv_icmp_ne (tgt := 80) hx hb dX5_ofPhone_68 (by decide) (fun c68 => ?_) (fun c68 => ?_)
          · skip
            refine lv_iload_n hx hb dX5_ofPhone_80 rfl (lv_at hl 2 rfl) ?_
            refine lv_iconst (v := 3) hx hb dX5_ofPhone_81 (by decide) ?_
            refine lv_icmp_ne (tgt := 94) hx hb dX5_ofPhone_82 (by decide) (fun c82 => ?_) (fun c82 => ?_)
            · skip
              refine lv_aload_n hx hb dX5_ofPhone_94 rfl (lv_at hl 0 rfl) ?_
              refine g5 hx hb hts hown hC hH 24 (by decide) wf_X5_71 (v := .ref (ad (8, 24, 0))) rfl dX5_ofPhone_95 ?_
              refine lv_iload_n hx hb dX5_ofPhone_98 rfl (lv_at hl 1 rfl) ?_
              refine rLdN hx hb hC hH 24 (by decide) (by decide) (i := q) (show q < 12 by omega) dX5_ofPhone_99 ?_
              refine W.eq (g2 := F0 m 100 ls [.int (M 24 q)]) (by simp [up]) ?_
              have h8 : ropC M a0 a1 = 0 := by simp [ropC, c6, c19]
              have h9 : rO M (ropC M a0 a1) (rT M) = up M 26 0 0 := (rO_0 h8).trans (rfl)
              exact e_wi hx hb hr hlocks (by unfold vO; rw [if_pos h8]; first | done | (simp [rofPV, up, c6, c19, c40, c54, c68, c82])) hS (by rw [h9]; exact hH) (Nat.le_refl _) (Nat.le_refl _) dX5_ofPhone_100
            · skip
              refine lv_aload_n hx hb dX5_ofPhone_85 rfl (lv_at hl 0 rfl) ?_
              refine g5 hx hb hts hown hC hH 23 (by decide) wf_X5_68 (v := .ref (ad (8, 23, 0))) rfl dX5_ofPhone_86 ?_
              refine lv_iload_n hx hb dX5_ofPhone_89 rfl (lv_at hl 1 rfl) ?_
              refine rLdN hx hb hC hH 23 (by decide) (by decide) (i := q) (show q < 12 by omega) dX5_ofPhone_90 ?_
              refine W.eq (g2 := F0 m 91 ls [.int (M 23 q)]) (by simp [up]) ?_
              refine lv_goto (tgt := 100) hx hb dX5_ofPhone_91 (by decide) ?_
              have h8 : ropC M a0 a1 = 0 := by simp [ropC, c6, c19]
              have h9 : rO M (ropC M a0 a1) (rT M) = up M 26 0 0 := (rO_0 h8).trans (rfl)
              exact e_wi hx hb hr hlocks (by unfold vO; rw [if_pos h8]; first | done | (simp [rofPV, up, c6, c19, c40, c54, c68, c82])) hS (by rw [h9]; exact hH) (Nat.le_refl _) (Nat.le_refl _) dX5_ofPhone_100
          · skip
            refine lv_aload_n hx hb dX5_ofPhone_71 rfl (lv_at hl 0 rfl) ?_
            refine g5 hx hb hts hown hC hH 22 (by decide) wf_X5_65 (v := .ref (ad (8, 22, 0))) rfl dX5_ofPhone_72 ?_
            refine lv_iload_n hx hb dX5_ofPhone_75 rfl (lv_at hl 1 rfl) ?_
            refine rLdN hx hb hC hH 22 (by decide) (by decide) (i := q) (show q < 12 by omega) dX5_ofPhone_76 ?_
            refine W.eq (g2 := F0 m 77 ls [.int (M 22 q)]) (by simp [up]) ?_
            refine lv_goto (tgt := 100) hx hb dX5_ofPhone_77 (by decide) ?_
            have h8 : ropC M a0 a1 = 0 := by simp [ropC, c6, c19]
            have h9 : rO M (ropC M a0 a1) (rT M) = up M 26 0 0 := (rO_0 h8).trans (rfl)
            exact e_wi hx hb hr hlocks (by unfold vO; rw [if_pos h8]; first | done | (simp [rofPV, up, c6, c19, c40, c54, c68])) hS (by rw [h9]; exact hH) (Nat.le_refl _) (Nat.le_refl _) dX5_ofPhone_100
        · skip
          refine lv_aload_n hx hb dX5_ofPhone_57 rfl (lv_at hl 0 rfl) ?_
          refine g5 hx hb hts hown hC hH 21 (by decide) wf_X5_62 (v := .ref (ad (8, 21, 0))) rfl dX5_ofPhone_58 ?_
          refine lv_iload_n hx hb dX5_ofPhone_61 rfl (lv_at hl 1 rfl) ?_
          refine rLdN hx hb hC hH 21 (by decide) (by decide) (i := q) (show q < 12 by omega) dX5_ofPhone_62 ?_
          refine W.eq (g2 := F0 m 63 ls [.int (M 21 q)]) (by simp [up]) ?_
          refine lv_goto (tgt := 100) hx hb dX5_ofPhone_63 (by decide) ?_
          have h8 : ropC M a0 a1 = 0 := by simp [ropC, c6, c19]
          have h9 : rO M (ropC M a0 a1) (rT M) = up M 26 0 0 := (rO_0 h8).trans (rfl)
          exact e_wi hx hb hr hlocks (by unfold vO; rw [if_pos h8]; first | done | (simp [rofPV, up, c6, c19, c40, c54])) hS (by rw [h9]; exact hH) (Nat.le_refl _) (Nat.le_refl _) dX5_ofPhone_100
      · skip
        refine lv_aload_n hx hb dX5_ofPhone_43 rfl (lv_at hl 0 rfl) ?_
        refine g5 hx hb hts hown hC hH 20 (by decide) wf_X5_59 (v := .ref (ad (8, 20, 0))) rfl dX5_ofPhone_44 ?_
        refine lv_iload_n hx hb dX5_ofPhone_47 rfl (lv_at hl 1 rfl) ?_
        refine rLdN hx hb hC hH 20 (by decide) (by decide) (i := q) (show q < 12 by omega) dX5_ofPhone_48 ?_
        refine W.eq (g2 := F0 m 49 ls [.int (M 20 q)]) (by simp [up]) ?_
        refine lv_goto (tgt := 100) hx hb dX5_ofPhone_49 (by decide) ?_
        have h8 : ropC M a0 a1 = 0 := by simp [ropC, c6, c19]
        have h9 : rO M (ropC M a0 a1) (rT M) = up M 26 0 0 := (rO_0 h8).trans (rfl)
        exact e_wi hx hb hr hlocks (by unfold vO; rw [if_pos h8]; first | done | (simp [rofPV, up, c6, c19, c40])) hS (by rw [h9]; exact hH) (Nat.le_refl _) (Nat.le_refl _) dX5_ofPhone_100
    · skip
      have c19 := b2_0.mp c19
      refine lv_iconst (v := 2) hx hb dX5_ofPhone_22 (by decide) ?_
      refine lv_goto (tgt := 27) hx hb dX5_ofPhone_23 (by decide) ?_
      refine p5 hx hb hts hown hC hH hS 26 (by decide) (by decide) rfl wf_X5_77 rfl rfl dX5_ofPhone_27 (fun H locs (hH : Wo D k b ad g (up M 26 0 2) o H) hS => ?_)
      refine lv_aload_n hx hb dX5_ofPhone_30 rfl (lv_at hl 0 rfl) ?_
      refine g5 hx hb hts hown hC hH 26 (by decide) wf_X5_77 (v := .int 2) rfl dX5_ofPhone_31 ?_
      refine W.eq (g2 := F0 m 34 ls [.int 2]) rfl ?_
      refine lv_if_le (tgt := 39) hx hb dX5_ofPhone_34 (by decide) (fun c => absurd c (by decide)) (fun _ => ?_)
      refine lv_iconst (v := 0) hx hb dX5_ofPhone_37 (by decide) ?_
      have h8 : ropC M a0 a1 = 2 := by simp [ropC, c6, c19]
      have h9 : rO M (ropC M a0 a1) (rT M) = up M 26 0 2 := by rw [rO_n (by rw [h8]; decide), h8]; rfl
      exact e_wi hx hb hr hlocks (by unfold vO; rw [if_neg (by rw [h8]; decide)]; first | done | rfl) hS (by rw [h9]; exact hH) (Nat.le_refl _) (Nat.le_refl _) dX5_ofPhone_38
  · skip
    have c6 := b2_0.mp c6
    refine lv_iconst (v := 1) hx hb dX5_ofPhone_9 (by decide) ?_
    refine lv_goto (tgt := 27) hx hb dX5_ofPhone_10 (by decide) ?_
    refine p5 hx hb hts hown hC hH hS 26 (by decide) (by decide) rfl wf_X5_77 rfl rfl dX5_ofPhone_27 (fun H locs (hH : Wo D k b ad g (up M 26 0 1) o H) hS => ?_)
    refine lv_aload_n hx hb dX5_ofPhone_30 rfl (lv_at hl 0 rfl) ?_
    refine g5 hx hb hts hown hC hH 26 (by decide) wf_X5_77 (v := .int 1) rfl dX5_ofPhone_31 ?_
    refine W.eq (g2 := F0 m 34 ls [.int 1]) rfl ?_
    refine lv_if_le (tgt := 39) hx hb dX5_ofPhone_34 (by decide) (fun c => absurd c (by decide)) (fun _ => ?_)
    refine lv_iconst (v := 0) hx hb dX5_ofPhone_37 (by decide) ?_
    have h8 : ropC M a0 a1 = 1 := by simp [ropC, c6]
    have h9 : rO M (ropC M a0 a1) (rT M) = up M 26 0 1 := by rw [rO_n (by rw [h8]; decide), h8]; rfl
    exact e_wi hx hb hr hlocks (by unfold vO; rw [if_neg (by rw [h8]; decide)]; first | done | rfl) hS (by rw [h9]; exact hH) (Nat.le_refl _) (Nat.le_refl _) dX5_ofPhone_38
