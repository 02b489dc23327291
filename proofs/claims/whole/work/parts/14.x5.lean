/-! THE CLASS: a stay is logged -/
theorem Wo_log {D : va_G} {k : Nat → ClassId} {b : Nat} {ad ad2 : Tg → Nat} {g : XS} {M : MF} {o : OF} {H : Heap} {L2 : Tg → Prop} {w2 : Tg → va_E} {i j : Nat} {a0 a1 : Int32} (hj : j = g.2.1 4 i / 64) (hz : ¬ a1 ≤ a0) (hA : ∀ u : Tg, u ≠ (4, i, j) → u ≠ (5, i, j) → u ≠ (6, i, j) → ad2 u = ad u) (hh : Hp D b L2 ad2 w2 H)
    (h4 : L2 (4, i, j) ∧ w2 (4, i, j) = .inr (1, [.ref (ad2 (5, i, j)), .ref (ad2 (6, i, j)), va_rf (bfO ad2 i j), .int (nI (g.2.1 4 i % 64 + 1))]))
    (h5 : L2 (5, i, j) ∧ w2 (5, i, j) = .inl (k 0, 64, .inl (upd (lcut (g.2.2 0 i) j) (g.2.1 4 i % 64) a0))) (h6 : L2 (6, i, j) ∧ w2 (6, i, j) = .inl (k 0, 64, .inl (upd (lcut (g.2.2 1 i) j) (g.2.1 4 i % 64) a1)))
    (h1 : L2 (1, i, 0) ∧ w2 (1, i, 0) = .inr (2, (fM g ad2 i).set 13 (.ref (ad2 (4, i, j))))) (ho : ∀ t : Tg, LW g.2.1 t → t ≠ (4, i, j) → t ≠ (5, i, j) → t ≠ (6, i, j) → t ≠ (1, i, 0) → L2 t ∧ w2 t = eW k ad g M o t) : Wo D k b ad2 (logG g i a0 a1) M o H := by
  obtain ⟨g5, g6, g4, g1⟩ := eW_log5 (k := k) (ad := ad2) (g := g) (M := M) (o := o) (i := i) (a0 := a0) (a1 := a1) hj hz
  refine hh.mono fun t ht => ?_
  by_cases e4 : t = (4, i, j)
  · subst e4; exact ⟨h4.1, rfl, by rw [g4, h4.2]⟩
  · by_cases e5 : t = (5, i, j)
    · subst e5; exact ⟨h5.1, rfl, by rw [g5, h5.2]⟩
    · by_cases e6 : t = (6, i, j)
      · subst e6; exact ⟨h6.1, rfl, by rw [g6, h6.2]⟩
      · by_cases e1 : t = (1, i, 0)
        · subst e1; exact ⟨h1.1, rfl, by rw [g1, h1.2]⟩
        · obtain ⟨q1, q2, q3⟩ := eW_log (k := k) (g := g) (M := M) (o := o) (a0 := a0) (a1 := a1) hj hz hA t ht e4 e5 e6 e1
          obtain ⟨r1, r2⟩ := ho t q1 e4 e5 e6 e1
          exact ⟨r1, rfl, by rw [q3, r2]⟩
set_option maxHeartbeats 4000000 in
set_option maxRecDepth 100000 in
theorem mX2_logStay (l : Launch) {D : va_G} {k : Nat → ClassId} {b : Nat} {ad : Tg → Nat} {g : XS} {M : MF} {o : OF} (i : Nat) (hi : i < g.2.1 0 0) (hI : XI g) (a0 a1 : Int32) (B : Nat) (hB : tb (logG g i a0 a1) ≤ tb g + B) : Met l yX2_logStay (WS yX2_logStay cX2_logStay 3 none) ({ frames := 3, cells := 3 * B, slots := 132 * B, locals := 58 }) (P0 D k b (Wo D k b ad g M o) [.ref (ad (1, i, 0)), .int a0, .int a1]) (Qw b none (fun H => ∃ ad2 : Tg → Nat, Ex g ad ad2 ∧ Wo D k b ad2 (logG g i a0 a1) M o H)) (3 * B) (132 * B) (Fb b) := by
  refine Met0 (by decide +kernel) (Nat.le_of_ble_eq_true rfl) (fun p e s m below meth c ls hx hb hr hts hown hml hlocks hnm hC hH hl => ?_)
  have hS : va_S (Fb b) s.heap s.heap [] := va_S.rf
  have hl : lv_has ls 3 [(0, .ref (ad (1, i, 0))), (1, .int a0), (2, .int a1)] := hl
  have hb0 : b ≤ s.heap.size := (show Hp D b (LW g.2.1) ad (eW k ad g M o) s.heap from hH).2.2.2
  refine lv_iload_n hx hb dX2_logStay_0 rfl (lv_at hl 2 rfl) ?_
  refine lv_iload_n hx hb dX2_logStay_1 rfl (lv_at hl 1 rfl) ?_
  refine lv_icmp_gt (tgt := 6) hx hb dX2_logStay_2 (by decide) (fun c2 => ?_) (fun c2 => ?_)
  case _ =>
    have hz : ¬ a1 ≤ a0 := Int32.not_le.mpr c2
    obtain ⟨j, hj⟩ : ∃ j, j = g.2.1 4 i / 64 := ⟨_, rfl⟩
    have hn4 : ∀ u : Tg, u = (4, i, j) → u ≠ (1, i, 0) := fun u h => by rw [h]; simp
    -- a new block, where the others are full
    have J23 : g.2.1 4 i % 64 = 0 → W p l e ({ frames := 3, cells := 3 * B, slots := 132 * B, locals := 58 }) s m [Value.ref (ad (1, i, 0)), .int a0, .int a1].toArray below meth c s.heap [] 0 0 (MQ below (Qw b none (fun H => ∃ ad2 : Tg → Nat, Ex g ad ad2 ∧ Wo D k b ad2 (logG g i a0 a1) M o H)) [Value.ref (ad (1, i, 0)), .int a0, .int a1].toArray s (3 * B) (132 * B) (Fb b)) (F0 m 23 ls []) := by
      intro hm
      have hB1 : 1 ≤ B := by
        have h9 := tb_log (a := a0) (z := a1) (i := i) (g := g) (by have := hI.1; omega) hz
        rw [if_pos hm] at h9
        omega
      refine lv_aload_n hx hb dX2_logStay_23 rfl (lv_at hl 0 rfl) ?_
      refine r_new hx hb hts hown hC hH hS hb0 (4, i, j) (ci := 1) rfl inX1 tyX1 tyX1_ok wc_X2_68 wn_X1 wi_X1 [.null, .null, .null, .int 0] (fun j hj => by rcases (show j = 0 ∨ j = 1 ∨ j = 2 ∨ j = 3 by omega) with rfl | rfl | rfl | rfl <;> rfl) (show 0 + 1 ≤ 3 * B by omega) (show 0 + 4 ≤ 132 * B by omega) dX2_logStay_24 (fun H hH hS => ?_)
      obtain ⟨ad1, had⟩ : ∃ z, z = uA ad (4, i, j) s.heap.size := ⟨_, rfl⟩
      have ea : ∀ u : Tg, u ≠ (4, i, j) → ad1 u = ad u := fun u h => by rw [had]; exact uA_n h
      have ea1 : ad1 (4, i, j) = s.heap.size := by rw [had]; exact uA_s
      rw [← had] at hH
      refine W.eq (g2 := F0 m 27 ls [.ref (ad1 (4, i, j)), .ref (ad1 (1, i, 0))]) (by rw [ea1, ea (1, i, 0) (by simp)]) ?_
      refine lv_dup hx hb dX2_logStay_27 rfl ?_
      refine lv_aload_n hx hb dX2_logStay_28 rfl (lv_at hl 0 rfl) ?_
      refine W.eq (g2 := F0 m 29 ls [.ref (ad1 (1, i, 0)), .ref (ad1 (4, i, j)), .ref (ad1 (4, i, j)), .ref (ad1 (1, i, 0))]) (by rw [ea (1, i, 0) (by simp)]) ?_
      refine r_get hx hb hts hown hC hH (1, i, 0) (Or.inl ⟨hi, rfl⟩) (fs := fM g ad i) (by rw [uE_n (by simp)]; rfl) rfl inX2 13 (by decide) wf_X2_63 (v := va_rf (lgO ad i (g.2.1 4 i))) rfl dX2_logStay_29 ?_
      refine W.eq (g2 := F0 m 32 ls [va_rf (bfO ad i j), .ref (ad1 (4, i, j)), .ref (ad1 (4, i, j)), .ref (ad1 (1, i, 0))]) (by rw [lgO_bf, hj, show nbk (g.2.1 4 i) = g.2.1 4 i / 64 by unfold nbk; omega]) ?_
      refine k_w (va_runIN (As := [va_rf (bfO ad i j)]) (rest := [.ref (ad1 (4, i, j)), .ref (ad1 (1, i, 0))]) ⟨hx, hb, hml, hown, hts⟩ (mX1_init l (4, i, j) (5, i, j) (6, i, j) (Or.inr rfl) (by simp) (by simp) (by simp) uE_s (bfO ad i j)) ⟨cn_of hts wk_X1_init wi_X1 wm_X2_73 sd_X1_init rfl rfl ⟨Nat.le_of_ble_eq_true rfl, Nat.le_of_ble_eq_true rfl⟩, rfl, hts _ wv_X1_init⟩ (P0.pre hC hS hH) rfl rfl hl.1 rfl (lv_room (Nat.le_of_ble_eq_true rfl)) dX2_logStay_32 ⟨show 0 + 1 + 2 ≤ 3 * B by omega, show 0 + 4 + 128 ≤ 132 * B by omega⟩) hS (fun H locs hH hS => ?_)
      obtain ⟨ad2, hA2, hH⟩ := hH
      have eb : ∀ u : Tg, u ≠ (4, i, j) → u ≠ (5, i, j) → u ≠ (6, i, j) → ad2 u = ad u := fun u h4 h5 h6 => by rw [hA2 u h5 h6, ea u h4]
      refine W.eq (g2 := F0 m 35 ls [.ref (ad2 (4, i, j)), .ref (ad2 (1, i, 0))]) (by rw [hA2 (4, i, j) (by simp) (by simp), hA2 (1, i, 0) (by simp) (by simp)]; rfl) ?_
      refine r_put hx hb hts hown hC hH hS (1, i, 0) (Or.inl (Or.inl (Or.inl ⟨hi, rfl⟩))) (fs := fM g ad i) (by rw [if_neg (by simp), if_neg (by simp), uE_n (by simp)]; rfl) rfl inX2 tyX2 tyX2_ok nmX2 13 (by decide) rfl wf_X2_63 rfl rfl (by simp [fM]) dX2_logStay_35 (fun H locs hH hS => ?_)
      refine W.eq (g2 := F0 m 38 ls []) rfl ?_
      refine lv_aload_n hx hb dX2_logStay_38 rfl (lv_at hl 0 rfl) ?_
      refine W.eq (g2 := F0 m 39 ls [.ref (ad2 (1, i, 0))]) (by rw [eb (1, i, 0) (by simp) (by simp) (by simp)]) ?_
      refine r_get hx hb hts hown hC hH (1, i, 0) (Or.inl (Or.inl (Or.inl ⟨hi, rfl⟩))) uE_s rfl inX2 13 (by decide) wf_X2_63 (v := .ref (ad2 (4, i, j))) rfl dX2_logStay_39 ?_
      refine lv_iload_n hx hb dX2_logStay_42 rfl (lv_at hl 1 rfl) ?_
      refine lv_iload_n hx hb dX2_logStay_43 rfl (lv_at hl 2 rfl) ?_
      refine k_w (va_runVN (As := [.int a0, .int a1]) (rest := []) ⟨hx, hb, hml, hown, hts⟩ (mX1_add l (4, i, j) (5, i, j) (6, i, j) (Or.inl (Or.inl (Or.inr rfl))) (Or.inl (Or.inr rfl)) (Or.inr rfl) (by simp) (by simp) (by simp) (va_rf (bfO ad i j)) 0 (by decide) (fun _ => 0) (fun _ => 0) (by rw [uE_n (by simp), if_pos rfl]; rfl) (by rw [uE_n (by simp), if_neg (by simp), if_pos (Or.inl rfl)]) (by rw [uE_n (by simp), if_neg (by simp), if_pos (Or.inr rfl)]) a0 a1) ⟨cn_of hts wk_X1_add wi_X1 wm_X2_76 sd_X1_add rfl rfl ⟨Nat.le_of_ble_eq_true rfl, Nat.le_of_ble_eq_true rfl⟩, hts _ wv_X1_add, hts _ wl_X1_add⟩ (P0.preV hC hS hH (Hp.recv hC.1 hH (4, i, j) (Or.inl (Or.inl (Or.inr rfl))) (by rw [uE_n (by simp), if_pos rfl]) rfl)) rfl rfl hl.1 rfl (lv_room (Nat.le_of_ble_eq_true rfl)) dX2_logStay_44 ⟨show 0 + 1 + 2 + 0 ≤ 3 * B by omega, show 0 + 4 + 128 + 0 ≤ 132 * B by omega⟩) hS (fun H locs hH hS => ?_)
      refine W.eq (g2 := F0 m 47 ls []) rfl ?_
      refine e_wv hx hb hr hlocks hS ⟨ad2, fun t _ ht => ?_, ?_⟩ (show 0 + 1 + 2 + 0 ≤ 3 * B by omega) (show 0 + 4 + 128 + 0 ≤ 132 * B by omega) dX2_logStay_47
      · refine eb t (fun q => ?_) (fun q => ?_) (fun q => ?_) <;> (subst q; have h2 := ht.2; omega)
      · have hcut : ∀ z, z = 0 ∨ z = 1 → lcut (g.2.2 z i) j = fun _ => 0 := fun z hz9 => funext fun q => by
          unfold lcut
          have h9 := hI.2.2.2.1 i (64 * j + q) (by omega)
          rcases hz9 with rfl | rfl
          · rw [h9.1]; split <;> rfl
          · rw [h9.2]; split <;> rfl
        refine Wo_log hj hz eb hH ⟨Or.inl (Or.inl (Or.inr rfl)), ?_⟩ ⟨Or.inl (Or.inr rfl), ?_⟩ ⟨Or.inr rfl, ?_⟩ ⟨Or.inl (Or.inl (Or.inl ⟨hi, rfl⟩)), ?_⟩ (fun t ht n4 n5 n6 n1 => ⟨Or.inl (Or.inl (Or.inl ht)), ?_⟩)
        · rw [uE_s, hm, bfO_cg (ad := ad) (fun y hy => eb _ (by simp; omega) (by simp) (by simp))]
        · rw [uE_n (by simp), uE_n (by simp), uE_s, hcut 0 (Or.inl rfl), hm]
        · rw [uE_n (by simp), uE_s, hcut 1 (Or.inr rfl), hm]
        · rw [uE_n (by simp), uE_n (by simp), uE_n (by simp), uE_s]
          simp only [fM, lsO, eb (3, i, 0) (by simp) (by simp) (by simp)]
          rfl
        · rw [uE_n n4, uE_n n6, uE_n n5, uE_n n1, if_neg n4, if_neg (fun q => q.elim n5 n6), uE_n n4]
    -- the newest block has room
    have J38 : ¬ g.2.1 4 i % 64 = 0 → W p l e ({ frames := 3, cells := 3 * B, slots := 132 * B, locals := 58 }) s m [Value.ref (ad (1, i, 0)), .int a0, .int a1].toArray below meth c s.heap [] 0 0 (MQ below (Qw b none (fun H => ∃ ad2 : Tg → Nat, Ex g ad ad2 ∧ Wo D k b ad2 (logG g i a0 a1) M o H)) [Value.ref (ad (1, i, 0)), .int a0, .int a1].toArray s (3 * B) (132 * B) (Fb b)) (F0 m 38 ls []) := by
      intro hm
      have h64 : 64 * j < g.2.1 4 i := by omega
      have hlg : lgO ad i (g.2.1 4 i) = some (ad (4, i, j)) := by rw [lgO_1 (by omega), show (g.2.1 4 i - 1) / 64 = j by omega]
      have he : eW k ad g M o (4, i, j) = .inr (1, [.ref (ad (5, i, j)), .ref (ad (6, i, j)), va_rf (bfO ad i j), .int (nI (g.2.1 4 i % 64))]) := by
        simp only [eW, fG]
        rw [show min 64 (g.2.1 4 i - 64 * j) = g.2.1 4 i % 64 by omega]
      refine lv_aload_n hx hb dX2_logStay_38 rfl (lv_at hl 0 rfl) ?_
      refine g2 hx hb hts hown hC hH i hi 13 (by decide) wf_X2_63 (v := va_rf (lgO ad i (g.2.1 4 i))) rfl dX2_logStay_39 ?_
      refine W.eq (g2 := F0 m 42 ls [.ref (ad (4, i, j))]) (by rw [hlg]; rfl) ?_
      refine lv_iload_n hx hb dX2_logStay_42 rfl (lv_at hl 1 rfl) ?_
      refine lv_iload_n hx hb dX2_logStay_43 rfl (lv_at hl 2 rfl) ?_
      refine k_w (va_runVN (As := [.int a0, .int a1]) (rest := []) ⟨hx, hb, hml, hown, hts⟩ (mX1_add l (4, i, j) (5, i, j) (6, i, j) (L := LW g.2.1) ⟨hi, h64⟩ ⟨hi, h64⟩ ⟨hi, h64⟩ (by simp) (by simp) (by simp) (va_rf (bfO ad i j)) (g.2.1 4 i % 64) (by omega) (lcut (g.2.2 0 i) j) (lcut (g.2.2 1 i) j) he rfl rfl a0 a1) ⟨cn_of hts wk_X1_add wi_X1 wm_X2_76 sd_X1_add rfl rfl ⟨Nat.le_of_ble_eq_true rfl, Nat.le_of_ble_eq_true rfl⟩, hts _ wv_X1_add, hts _ wl_X1_add⟩ (P0.preV hC hS hH (Hp.recv hC.1 hH (4, i, j) ⟨hi, h64⟩ he rfl)) rfl rfl hl.1 rfl (lv_room (Nat.le_of_ble_eq_true rfl)) dX2_logStay_44 ⟨Nat.zero_le _, Nat.zero_le _⟩) hS (fun H locs hH hS => ?_)
      refine W.eq (g2 := F0 m 47 ls []) rfl ?_
      refine e_wv hx hb hr hlocks hS ⟨ad, Ex.rf, ?_⟩ (Nat.zero_le _) (Nat.zero_le _) dX2_logStay_47
      refine Wo_log hj hz (fun _ _ _ _ => rfl) hH ⟨⟨hi, h64⟩, ?_⟩ ⟨⟨hi, h64⟩, ?_⟩ ⟨⟨hi, h64⟩, ?_⟩ ⟨⟨hi, rfl⟩, ?_⟩ (fun t ht n4 n5 n6 n1 => ⟨ht, ?_⟩)
      · rw [uE_s]
      · rw [uE_n (by simp), uE_n (by simp), uE_s]
      · rw [uE_n (by simp), uE_s]
      · rw [uE_n (by simp), uE_n (by simp), uE_n (by simp)]
        simp only [eW, fM, hlg]
        rfl
      · rw [uE_n n4, uE_n n6, uE_n n5]
    refine lv_aload_n hx hb dX2_logStay_6 rfl (lv_at hl 0 rfl) ?_
    refine g2 hx hb hts hown hC hH i hi 13 (by decide) wf_X2_63 (v := va_rf (lgO ad i (g.2.1 4 i))) rfl dX2_logStay_7 ?_
    by_cases c7 : g.2.1 4 i = 0
    · refine W.eq (g2 := F0 m 10 ls [.null]) (by simp [lgO, va_rf, c7]) ?_
      refine lv_ifnullN (tgt := 23) hx hb dX2_logStay_10 (by decide) ?_
      exact J23 (by omega)
    · obtain ⟨z, hz9⟩ : ∃ z, z = (g.2.1 4 i - 1) / 64 := ⟨_, rfl⟩
      have h64 : 64 * z < g.2.1 4 i := by omega
      refine W.eq (g2 := F0 m 10 ls [.ref (ad (4, i, z))]) (by rw [lgO_1 c7, hz9]; rfl) ?_
      refine lv_ifnull hx hb dX2_logStay_10 ?_
      refine lv_aload_n hx hb dX2_logStay_13 rfl (lv_at hl 0 rfl) ?_
      refine g2 hx hb hts hown hC hH i hi 13 (by decide) wf_X2_63 (v := va_rf (lgO ad i (g.2.1 4 i))) rfl dX2_logStay_14 ?_
      refine W.eq (g2 := F0 m 17 ls [.ref (ad (4, i, z))]) (by rw [lgO_1 c7, hz9]; rfl) ?_
      refine k_r (va_runVN (As := []) (rest := []) ⟨hx, hb, hml, hown, hts⟩ (mX1_isFull l i hi z h64) ⟨cn_of hts wk_X1_isFull wi_X1 wm_X2_67 sd_X1_isFull rfl rfl ⟨Nat.le_of_ble_eq_true rfl, Nat.le_of_ble_eq_true rfl⟩, hts _ wv_X1_isFull, hts _ wl_X1_isFull⟩ (P0.preV hC hS hH (Hp.recv hC.1 hH (4, i, z) ⟨hi, h64⟩ rfl rfl)) rfl rfl hl.1 rfl (lv_room (Nat.le_of_ble_eq_true rfl)) dX2_logStay_17 ⟨Nat.zero_le _, Nat.zero_le _⟩) ?_
      refine W.eq (g2 := F0 m 20 ls [.int (b2 (decide (nI 64 ≤ nI (min 64 (g.2.1 4 i - 64 * z)))))]) rfl ?_
      refine lv_if_eq (tgt := 38) hx hb dX2_logStay_20 (by decide) (fun c20 => ?_) (fun c20 => ?_)
      · have c20 := b2_0.mp c20
        rw [decide_eq_false_iff_not, nI_leI (by decide) (by omega)] at c20
        exact J38 (by omega)
      · have c20 := b2_n0.mp c20
        rw [decide_eq_true_eq, nI_leI (by decide) (by omega)] at c20
        exact J23 (by omega)
  case _ =>
    have hz : a1 ≤ a0 := Int32.not_lt.mp c2
    exact e_wv hx hb hr hlocks hS ⟨ad, Ex.rf, by rw [show logG g i a0 a1 = g from if_pos hz]; exact hH⟩ (Nat.zero_le _) (Nat.zero_le _) dX2_logStay_5
