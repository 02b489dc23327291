section
-- ===== PART A: goes FIRST, ahead of the names: the tables' words, and 'selects' of the private methods out of them =====
/-- a private method of a class that the tables say can be made, by its rows of tables_1 -/
def lw_okq (q : MethodName × Nat) : Prop := (q.1.cls ≠ "java/lang/invoke/MethodHandle" ∧ q.1.cls ≠ "java/lang/invoke/VarHandle") ∧ Cond.instantiable q.1.cls q.2 ∈ tables_1 ∧ Cond.privateMethod q.1 ∈ tables_1 ∧ Cond.instanceMethod q.1 ∈ tables_1
theorem lw_p0 : lw_okq (⟨"Mastline", "isCovered", "(I)Z"⟩, 5) := ⟨⟨by decide +kernel, by decide +kernel⟩, List.mem_of_getElem? (i := 15) (by decide +kernel), List.mem_of_getElem? (i := 48) (by decide +kernel), List.mem_of_getElem? (i := 49) (by decide +kernel)⟩
theorem lw_p1 : lw_okq (⟨"Mastline$Mast", "isOn", "()Z"⟩, 14) := ⟨⟨by decide +kernel, by decide +kernel⟩, List.mem_of_getElem? (i := 54) (by decide +kernel), List.mem_of_getElem? (i := 52) (by decide +kernel), List.mem_of_getElem? (i := 53) (by decide +kernel)⟩
theorem lw_p2 : lw_okq (⟨"Mastline$Mast", "covers", "(I)Z"⟩, 14) := ⟨⟨by decide +kernel, by decide +kernel⟩, List.mem_of_getElem? (i := 54) (by decide +kernel), List.mem_of_getElem? (i := 57) (by decide +kernel), List.mem_of_getElem? (i := 58) (by decide +kernel)⟩
theorem lw_p3 : lw_okq (⟨"Mastline$Mast", "distanceTo", "(I)I"⟩, 14) := ⟨⟨by decide +kernel, by decide +kernel⟩, List.mem_of_getElem? (i := 54) (by decide +kernel), List.mem_of_getElem? (i := 61) (by decide +kernel), List.mem_of_getElem? (i := 62) (by decide +kernel)⟩
theorem lw_p4 : lw_okq (⟨"java/lang/Throwable", "fillInStackTrace", "(I)Ljava/lang/Throwable;"⟩, 6) := ⟨⟨by decide +kernel, by decide +kernel⟩, List.mem_of_getElem? (i := 121) (by decide +kernel), List.mem_of_getElem? (i := 119) (by decide +kernel), List.mem_of_getElem? (i := 120) (by decide +kernel)⟩
theorem lw_p5 : lw_okq (⟨"Mastline", "mastAt", "(I)LMastline$Mast;"⟩, 5) := ⟨⟨by decide +kernel, by decide +kernel⟩, List.mem_of_getElem? (i := 15) (by decide +kernel), List.mem_of_getElem? (i := 224) (by decide +kernel), List.mem_of_getElem? (i := 225) (by decide +kernel)⟩
theorem lw_p6 : lw_okq (⟨"Mastline", "phoneAt", "(I)LMastline$Phone;"⟩, 5) := ⟨⟨by decide +kernel, by decide +kernel⟩, List.mem_of_getElem? (i := 15) (by decide +kernel), List.mem_of_getElem? (i := 325) (by decide +kernel), List.mem_of_getElem? (i := 326) (by decide +kernel)⟩
theorem lw_p7 : lw_okq (⟨"Mastline", "nearestFree", "(I)LMastline$Mast;"⟩, 5) := ⟨⟨by decide +kernel, by decide +kernel⟩, List.mem_of_getElem? (i := 15) (by decide +kernel), List.mem_of_getElem? (i := 329) (by decide +kernel), List.mem_of_getElem? (i := 330) (by decide +kernel)⟩
theorem lw_p8 : lw_okq (⟨"Mastline$Mast", "canTake", "(I)Z"⟩, 14) := ⟨⟨by decide +kernel, by decide +kernel⟩, List.mem_of_getElem? (i := 54) (by decide +kernel), List.mem_of_getElem? (i := 333) (by decide +kernel), List.mem_of_getElem? (i := 334) (by decide +kernel)⟩
theorem lw_p9 : lw_okq (⟨"Mastline$Phone", "comeTo", "(LMastline$Mast;I)V"⟩, 6) := ⟨⟨by decide +kernel, by decide +kernel⟩, List.mem_of_getElem? (i := 290) (by decide +kernel), List.mem_of_getElem? (i := 340) (by decide +kernel), List.mem_of_getElem? (i := 341) (by decide +kernel)⟩
theorem lw_p10 : lw_okq (⟨"Mastline$Phone", "carrierNumber", "()I"⟩, 6) := ⟨⟨by decide +kernel, by decide +kernel⟩, List.mem_of_getElem? (i := 290) (by decide +kernel), List.mem_of_getElem? (i := 351) (by decide +kernel), List.mem_of_getElem? (i := 352) (by decide +kernel)⟩
theorem lw_p11 : lw_okq (⟨"Mastline$Phone", "goAway", "(I)V"⟩, 6) := ⟨⟨by decide +kernel, by decide +kernel⟩, List.mem_of_getElem? (i := 290) (by decide +kernel), List.mem_of_getElem? (i := 355) (by decide +kernel), List.mem_of_getElem? (i := 356) (by decide +kernel)⟩
theorem lw_p12 : lw_okq (⟨"Mastline$Mast", "logStay", "(II)V"⟩, 14) := ⟨⟨by decide +kernel, by decide +kernel⟩, List.mem_of_getElem? (i := 54) (by decide +kernel), List.mem_of_getElem? (i := 359) (by decide +kernel), List.mem_of_getElem? (i := 360) (by decide +kernel)⟩
theorem lw_p13 : lw_okq (⟨"Mastline$Log", "isFull", "()Z"⟩, 4) := ⟨⟨by decide +kernel, by decide +kernel⟩, List.mem_of_getElem? (i := 365) (by decide +kernel), List.mem_of_getElem? (i := 363) (by decide +kernel), List.mem_of_getElem? (i := 364) (by decide +kernel)⟩
theorem lw_p14 : lw_okq (⟨"Mastline$Log", "add", "(II)V"⟩, 4) := ⟨⟨by decide +kernel, by decide +kernel⟩, List.mem_of_getElem? (i := 365) (by decide +kernel), List.mem_of_getElem? (i := 387) (by decide +kernel), List.mem_of_getElem? (i := 388) (by decide +kernel)⟩
theorem lw_p15 : lw_okq (⟨"Mastline", "handOverOrDrop", "(LMastline$Phone;)V"⟩, 5) := ⟨⟨by decide +kernel, by decide +kernel⟩, List.mem_of_getElem? (i := 15) (by decide +kernel), List.mem_of_getElem? (i := 399) (by decide +kernel), List.mem_of_getElem? (i := 400) (by decide +kernel)⟩
def lw_privs_1 : List (MethodName × Nat) := [(⟨"Mastline", "isCovered", "(I)Z"⟩, 5), (⟨"Mastline$Mast", "isOn", "()Z"⟩, 14), (⟨"Mastline$Mast", "covers", "(I)Z"⟩, 14), (⟨"Mastline$Mast", "distanceTo", "(I)I"⟩, 14), (⟨"java/lang/Throwable", "fillInStackTrace", "(I)Ljava/lang/Throwable;"⟩, 6), (⟨"Mastline", "mastAt", "(I)LMastline$Mast;"⟩, 5), (⟨"Mastline", "phoneAt", "(I)LMastline$Phone;"⟩, 5), (⟨"Mastline", "nearestFree", "(I)LMastline$Mast;"⟩, 5), (⟨"Mastline$Mast", "canTake", "(I)Z"⟩, 14), (⟨"Mastline$Phone", "comeTo", "(LMastline$Mast;I)V"⟩, 6), (⟨"Mastline$Phone", "carrierNumber", "()I"⟩, 6), (⟨"Mastline$Phone", "goAway", "(I)V"⟩, 6), (⟨"Mastline$Mast", "logStay", "(II)V"⟩, 14), (⟨"Mastline$Log", "isFull", "()Z"⟩, 4), (⟨"Mastline$Log", "add", "(II)V"⟩, 4), (⟨"Mastline", "handOverOrDrop", "(LMastline$Phone;)V"⟩, 5)]
theorem lw_r1 : ∀ q ∈ lw_privs_1, lw_okq q := List.forall_mem_cons.mpr ⟨lw_p0, List.forall_mem_cons.mpr ⟨lw_p1, List.forall_mem_cons.mpr ⟨lw_p2, List.forall_mem_cons.mpr ⟨lw_p3, List.forall_mem_cons.mpr ⟨lw_p4, List.forall_mem_cons.mpr ⟨lw_p5, List.forall_mem_cons.mpr ⟨lw_p6, List.forall_mem_cons.mpr ⟨lw_p7, List.forall_mem_cons.mpr ⟨lw_p8, List.forall_mem_cons.mpr ⟨lw_p9, List.forall_mem_cons.mpr ⟨lw_p10, List.forall_mem_cons.mpr ⟨lw_p11, List.forall_mem_cons.mpr ⟨lw_p12, List.forall_mem_cons.mpr ⟨lw_p13, List.forall_mem_cons.mpr ⟨lw_p14, List.forall_mem_cons.mpr ⟨lw_p15, fun _ h => absurd h List.not_mem_nil⟩⟩⟩⟩⟩⟩⟩⟩⟩⟩⟩⟩⟩⟩⟩⟩
theorem lw_p16 : lw_okq (⟨"Mastline", "letAnHourGoBy", "()V"⟩, 5) := ⟨⟨by decide +kernel, by decide +kernel⟩, List.mem_of_getElem? (i := 15) (by decide +kernel), List.mem_of_getElem? (i := 410) (by decide +kernel), List.mem_of_getElem? (i := 411) (by decide +kernel)⟩
theorem lw_p17 : lw_okq (⟨"Mastline", "countTraffic", "()V"⟩, 5) := ⟨⟨by decide +kernel, by decide +kernel⟩, List.mem_of_getElem? (i := 15) (by decide +kernel), List.mem_of_getElem? (i := 414) (by decide +kernel), List.mem_of_getElem? (i := 415) (by decide +kernel)⟩
theorem lw_p18 : lw_okq (⟨"Mastline", "payRents", "()V"⟩, 5) := ⟨⟨by decide +kernel, by decide +kernel⟩, List.mem_of_getElem? (i := 15) (by decide +kernel), List.mem_of_getElem? (i := 418) (by decide +kernel), List.mem_of_getElem? (i := 419) (by decide +kernel)⟩
theorem lw_p19 : lw_okq (⟨"Mastline", "payRent", "(LMastline$Lease;I)V"⟩, 5) := ⟨⟨by decide +kernel, by decide +kernel⟩, List.mem_of_getElem? (i := 15) (by decide +kernel), List.mem_of_getElem? (i := 422) (by decide +kernel), List.mem_of_getElem? (i := 423) (by decide +kernel)⟩
theorem lw_p20 : lw_okq (⟨"Mastline", "pay", "(II)V"⟩, 5) := ⟨⟨by decide +kernel, by decide +kernel⟩, List.mem_of_getElem? (i := 15) (by decide +kernel), List.mem_of_getElem? (i := 426) (by decide +kernel), List.mem_of_getElem? (i := 427) (by decide +kernel)⟩
theorem lw_p21 : lw_okq (⟨"Mastline", "powerMasts", "()V"⟩, 5) := ⟨⟨by decide +kernel, by decide +kernel⟩, List.mem_of_getElem? (i := 15) (by decide +kernel), List.mem_of_getElem? (i := 430) (by decide +kernel), List.mem_of_getElem? (i := 431) (by decide +kernel)⟩
theorem lw_p22 : lw_okq (⟨"Mastline$Mast", "takePower", "(I)V"⟩, 14) := ⟨⟨by decide +kernel, by decide +kernel⟩, List.mem_of_getElem? (i := 54) (by decide +kernel), List.mem_of_getElem? (i := 434) (by decide +kernel), List.mem_of_getElem? (i := 435) (by decide +kernel)⟩
theorem lw_p23 : lw_okq (⟨"Mastline", "endLeases", "()V"⟩, 5) := ⟨⟨by decide +kernel, by decide +kernel⟩, List.mem_of_getElem? (i := 15) (by decide +kernel), List.mem_of_getElem? (i := 441) (by decide +kernel), List.mem_of_getElem? (i := 442) (by decide +kernel)⟩
theorem lw_p24 : lw_okq (⟨"Mastline", "leaveMastsThatAreNotOn", "()V"⟩, 5) := ⟨⟨by decide +kernel, by decide +kernel⟩, List.mem_of_getElem? (i := 15) (by decide +kernel), List.mem_of_getElem? (i := 445) (by decide +kernel), List.mem_of_getElem? (i := 446) (by decide +kernel)⟩
theorem lw_p25 : lw_okq (⟨"Mastline$Mast", "hoursOfLog", "()I"⟩, 14) := ⟨⟨by decide +kernel, by decide +kernel⟩, List.mem_of_getElem? (i := 54) (by decide +kernel), List.mem_of_getElem? (i := 463) (by decide +kernel), List.mem_of_getElem? (i := 464) (by decide +kernel)⟩
theorem lw_p26 : lw_okq (⟨"Mastline$Log", "hours", "()I"⟩, 4) := ⟨⟨by decide +kernel, by decide +kernel⟩, List.mem_of_getElem? (i := 365) (by decide +kernel), List.mem_of_getElem? (i := 467) (by decide +kernel), List.mem_of_getElem? (i := 468) (by decide +kernel)⟩
theorem lw_p27 : lw_okq (⟨"MastlineModel", "isMast", "(I)Z"⟩, 27) := ⟨⟨by decide +kernel, by decide +kernel⟩, List.mem_of_getElem? (i := 492) (by decide +kernel), List.mem_of_getElem? (i := 596) (by decide +kernel), List.mem_of_getElem? (i := 597) (by decide +kernel)⟩
theorem lw_p28 : lw_okq (⟨"MastlineModel", "isLeased", "(I)Z"⟩, 27) := ⟨⟨by decide +kernel, by decide +kernel⟩, List.mem_of_getElem? (i := 492) (by decide +kernel), List.mem_of_getElem? (i := 603) (by decide +kernel), List.mem_of_getElem? (i := 604) (by decide +kernel)⟩
theorem lw_p29 : lw_okq (⟨"MastlineModel", "isPhone", "(I)Z"⟩, 27) := ⟨⟨by decide +kernel, by decide +kernel⟩, List.mem_of_getElem? (i := 492) (by decide +kernel), List.mem_of_getElem? (i := 619) (by decide +kernel), List.mem_of_getElem? (i := 620) (by decide +kernel)⟩
theorem lw_p30 : lw_okq (⟨"MastlineModel", "mastFor", "(I)I"⟩, 27) := ⟨⟨by decide +kernel, by decide +kernel⟩, List.mem_of_getElem? (i := 492) (by decide +kernel), List.mem_of_getElem? (i := 623) (by decide +kernel), List.mem_of_getElem? (i := 624) (by decide +kernel)⟩
theorem lw_p31 : lw_okq (⟨"MastlineModel", "isOn", "(I)Z"⟩, 27) := ⟨⟨by decide +kernel, by decide +kernel⟩, List.mem_of_getElem? (i := 492) (by decide +kernel), List.mem_of_getElem? (i := 627) (by decide +kernel), List.mem_of_getElem? (i := 628) (by decide +kernel)⟩
def lw_privs_2 : List (MethodName × Nat) := [(⟨"Mastline", "letAnHourGoBy", "()V"⟩, 5), (⟨"Mastline", "countTraffic", "()V"⟩, 5), (⟨"Mastline", "payRents", "()V"⟩, 5), (⟨"Mastline", "payRent", "(LMastline$Lease;I)V"⟩, 5), (⟨"Mastline", "pay", "(II)V"⟩, 5), (⟨"Mastline", "powerMasts", "()V"⟩, 5), (⟨"Mastline$Mast", "takePower", "(I)V"⟩, 14), (⟨"Mastline", "endLeases", "()V"⟩, 5), (⟨"Mastline", "leaveMastsThatAreNotOn", "()V"⟩, 5), (⟨"Mastline$Mast", "hoursOfLog", "()I"⟩, 14), (⟨"Mastline$Log", "hours", "()I"⟩, 4), (⟨"MastlineModel", "isMast", "(I)Z"⟩, 27), (⟨"MastlineModel", "isLeased", "(I)Z"⟩, 27), (⟨"MastlineModel", "isPhone", "(I)Z"⟩, 27), (⟨"MastlineModel", "mastFor", "(I)I"⟩, 27), (⟨"MastlineModel", "isOn", "(I)Z"⟩, 27)]
theorem lw_r2 : ∀ q ∈ lw_privs_2, lw_okq q := List.forall_mem_cons.mpr ⟨lw_p16, List.forall_mem_cons.mpr ⟨lw_p17, List.forall_mem_cons.mpr ⟨lw_p18, List.forall_mem_cons.mpr ⟨lw_p19, List.forall_mem_cons.mpr ⟨lw_p20, List.forall_mem_cons.mpr ⟨lw_p21, List.forall_mem_cons.mpr ⟨lw_p22, List.forall_mem_cons.mpr ⟨lw_p23, List.forall_mem_cons.mpr ⟨lw_p24, List.forall_mem_cons.mpr ⟨lw_p25, List.forall_mem_cons.mpr ⟨lw_p26, List.forall_mem_cons.mpr ⟨lw_p27, List.forall_mem_cons.mpr ⟨lw_p28, List.forall_mem_cons.mpr ⟨lw_p29, List.forall_mem_cons.mpr ⟨lw_p30, List.forall_mem_cons.mpr ⟨lw_p31, fun _ h => absurd h List.not_mem_nil⟩⟩⟩⟩⟩⟩⟩⟩⟩⟩⟩⟩⟩⟩⟩⟩
theorem lw_p32 : lw_okq (⟨"MastlineModel", "covers", "(II)Z"⟩, 27) := ⟨⟨by decide +kernel, by decide +kernel⟩, List.mem_of_getElem? (i := 492) (by decide +kernel), List.mem_of_getElem? (i := 631) (by decide +kernel), List.mem_of_getElem? (i := 632) (by decide +kernel)⟩
theorem lw_p33 : lw_okq (⟨"MastlineModel", "apart", "(II)I"⟩, 27) := ⟨⟨by decide +kernel, by decide +kernel⟩, List.mem_of_getElem? (i := 492) (by decide +kernel), List.mem_of_getElem? (i := 635) (by decide +kernel), List.mem_of_getElem? (i := 636) (by decide +kernel)⟩
theorem lw_p34 : lw_okq (⟨"MastlineModel", "carries", "(I)I"⟩, 27) := ⟨⟨by decide +kernel, by decide +kernel⟩, List.mem_of_getElem? (i := 492) (by decide +kernel), List.mem_of_getElem? (i := 639) (by decide +kernel), List.mem_of_getElem? (i := 640) (by decide +kernel)⟩
theorem lw_p35 : lw_okq (⟨"MastlineModel", "handOver", "(I)V"⟩, 27) := ⟨⟨by decide +kernel, by decide +kernel⟩, List.mem_of_getElem? (i := 492) (by decide +kernel), List.mem_of_getElem? (i := 651) (by decide +kernel), List.mem_of_getElem? (i := 652) (by decide +kernel)⟩
theorem lw_p36 : lw_okq (⟨"MastlineModel", "hourGoesBy", "()V"⟩, 27) := ⟨⟨by decide +kernel, by decide +kernel⟩, List.mem_of_getElem? (i := 492) (by decide +kernel), List.mem_of_getElem? (i := 659) (by decide +kernel), List.mem_of_getElem? (i := 660) (by decide +kernel)⟩
theorem lw_p37 : lw_okq (⟨"MastlineModel", "payRent", "(I)V"⟩, 27) := ⟨⟨by decide +kernel, by decide +kernel⟩, List.mem_of_getElem? (i := 492) (by decide +kernel), List.mem_of_getElem? (i := 663) (by decide +kernel), List.mem_of_getElem? (i := 664) (by decide +kernel)⟩
theorem lw_p38 : lw_okq (⟨"MastlineModel", "power", "(I)V"⟩, 27) := ⟨⟨by decide +kernel, by decide +kernel⟩, List.mem_of_getElem? (i := 492) (by decide +kernel), List.mem_of_getElem? (i := 667) (by decide +kernel), List.mem_of_getElem? (i := 668) (by decide +kernel)⟩
def lw_privs_3 : List (MethodName × Nat) := [(⟨"MastlineModel", "covers", "(II)Z"⟩, 27), (⟨"MastlineModel", "apart", "(II)I"⟩, 27), (⟨"MastlineModel", "carries", "(I)I"⟩, 27), (⟨"MastlineModel", "handOver", "(I)V"⟩, 27), (⟨"MastlineModel", "hourGoesBy", "()V"⟩, 27), (⟨"MastlineModel", "payRent", "(I)V"⟩, 27), (⟨"MastlineModel", "power", "(I)V"⟩, 27)]
theorem lw_r3 : ∀ q ∈ lw_privs_3, lw_okq q := List.forall_mem_cons.mpr ⟨lw_p32, List.forall_mem_cons.mpr ⟨lw_p33, List.forall_mem_cons.mpr ⟨lw_p34, List.forall_mem_cons.mpr ⟨lw_p35, List.forall_mem_cons.mpr ⟨lw_p36, List.forall_mem_cons.mpr ⟨lw_p37, List.forall_mem_cons.mpr ⟨lw_p38, fun _ h => absurd h List.not_mem_nil⟩⟩⟩⟩⟩⟩⟩
def lw_privs : List (MethodName × Nat) := lw_privs_1 ++ (lw_privs_2 ++ (lw_privs_3))
def lw_tbl : List Cond := k2_sels lw_privs ++ tables_1
theorem lw_privs_ok : ∀ q ∈ lw_privs, lw_okq q := by
  show ∀ q ∈ lw_privs_1 ++ (lw_privs_2 ++ (lw_privs_3)), lw_okq q
  exact List.forall_mem_append.mpr ⟨lw_r1, List.forall_mem_append.mpr ⟨lw_r2, lw_r3⟩⟩
/-- the streams that the claim lets the run draw from -/
abbrev lw_cs : List Choice := [Jvm.Choice.named "NaN.bits"]
theorem lw_bits : nanBits ∈ lw_cs := by first | decide | exact List.mem_cons_self | simp [lw_cs, nanBits]
end
section
/-! ===== BEGIN words of one list among another's, by their places ===== -/
theorem goodIn_r {big : List Cond} (ws : List Cond) (ps : List Nat) (hp : ws = ps.filterMap (fun i => big[i]?)) (h : ws.all goodWord = true) : GoodIn big ws := by
  intro w hw
  have h1 := List.all_eq_true.mp h w hw
  rw [hp] at hw
  obtain ⟨i, -, hi⟩ := List.mem_filterMap.mp hw
  have hm : w ∈ big := by first | exact List.mem_of_getElem? hi | exact List.getElem?_mem hi
  exact ⟨hm, good_of_word h1⟩
theorem goodIn_app {big a b : List Cond} (ha : GoodIn big a) (hb : GoodIn big b) : GoodIn big (a ++ b) := fun w h => (List.mem_append.mp h).elim (ha w) (hb w)
theorem goodIn_ca {big a b : List Cond} {c : Cond} (ha : GoodIn big (c :: a)) (hb : GoodIn big b) : GoodIn big (c :: (a ++ b)) := fun w h => (List.mem_cons.mp h).elim (fun e => ha w (List.mem_cons.mpr (Or.inl e))) (fun h => (List.mem_append.mp h).elim (fun h => ha w (List.mem_cons.mpr (Or.inr h))) (hb w))
theorem goodIn_sub {big ws : List Cond} (hm : ∀ w ∈ ws, w ∈ big) (h : ws.all goodWord = true) : GoodIn big ws := fun w hw => ⟨hm w hw, good_of_word (List.all_eq_true.mp h w hw)⟩
/-! ===== END ===== -/

/-! ===== BEGIN exceptions that leave a method, and their catching by the caller (launches without stack traces) ===== -/
section VXA
/-! The laws vx_back, vx_callV, vx_callS, vx_callSW, vx_throw0, vx_throwS follow proofs of the library, with one case more: JvmDerived/Free/Laws.lean (Back.of_free), Shelf42/LK1.lean (callV, callS), Shelf/KitTraced.lean (throwNew0V, throwNewS). -/
/-- where a method has thrown q: the class by its name, the cell, what was written, the world -/
def vx_T (XC : String → State → State → Prop) (st : State) (q : Addr) (t : State) (mc ms : Nat) (free : Addr → Prop) : Prop :=
  ∃ (E : String) (ce : Cell) (L : List Loc), XC E st t ∧ t.heap[q]? = some ce ∧ ce.vm = .none ∧ st.vm.findClass E = some ce.cls ∧ st.WarmedH t.vm ∧ st.sameButNew ({ t with vm := st.vm } : State) L mc ms ∧ ∀ z ∈ L, free z.base
def vx_Q (Qc : Array Value → State → Outcome → State → Prop) (XC : String → State → State → Prop) (mc ms : Nat) (free : Addr → Prop) : Array Value → State → Outcome → State → Prop := fun a st o t =>
  (Qc a st o t ∧ ∃ L, FrameEnd st o t L mc ms ∧ ∀ q ∈ L, free q.base) ∨ ∃ q, o = .threw q ∧ vx_T XC st q t mc ms free
/-- a callee that returns or throws -/
def vx_Met (l : Launch) (y : MethodName) (ws : List Cond) (rm : Room) (Pc : Array Value → State → Prop) (Qc : Array Value → State → Outcome → State → Prop) (XC : String → State → State → Prop) (mc ms : Nat) (free : Addr → Prop) : Prop :=
  MetFree l y (headSpec ws rm) Pc (fun _ _ _ _ _ => True) (vx_Q Qc XC mc ms free)
def vx_Post (XC : String → State → State → Prop) (mc ms : Nat) (free : Addr → Prop) : Pt → Array Value → Addr → Pt → Prop := fun A a q B =>
  ∃ (g : JFrame) (mk : MethodId) (t : State) (L : List Loc) (E : String) (ce : Cell), B.U.heap = t.heap ∧ B.U.vm = t.vm ∧ XC E (A.U.calling g mk a) t ∧ t.heap[q]? = some ce ∧ ce.vm = .none ∧ A.U.vm.findClass E = some ce.cls ∧ B.locs = A.locs ++ L ∧ (∀ z ∈ L, free z.base) ∧ B.cells = A.cells + mc ∧ B.slots = A.slots + ms
def vx_Back (l : Launch) (R : Room) (p : Program) (e : Env) (below : List Frame) (s : State) (sargs : Array Value) (y : MethodName) (len W9 : Nat)
    (Pre : Pt → Array Value → Prop) (Post : Pt → Array Value → Option Value → Pt → Prop) (PostX : Pt → Array Value → Addr → Pt → Prop) : Prop :=
  ∀ (m : MethodId) (meth : Method) (c : Code) (A : Pt) (g : JFrame) (ig : Instr) (mk : MethodId) (a : Array Value),
    Stand p l e R s m sargs below meth c A.U A.locs A.cells A.slots → g.method = m → g.locals.size = c.maxLocals → decode c.code g.pc = .ok (ig, len) →
    2 * g.monitorRoom + (g.stack.map fun v => v.category).sum ≤ W9 → A.U.methodNamed? y = some mk → Pre A a →
    (∃ (v : Option Value) (B : Pt), Stand p l e R s m sargs below meth c B.U B.locs B.cells B.slots ∧ Post A a v B ∧
      Steps p.tables e below (doInvoke e (A.U.setTop g) [] mk a).1 (B.U.setTop { g with pc := g.pc + len, stack := v.toList ++ g.stack })) ∨
    (∃ (q : Addr) (B : Pt), Stand p l e R s m sargs below meth c B.U B.locs B.cells B.slots ∧ PostX A a q B ∧
      Steps p.tables e below (doInvoke e (A.U.setTop g) [] mk a).1 ((B.U.setTop g).pushFrame (.throwing q)))
section Payer
variable {l : Launch} {R : Room} {p : Program} {e : Env} {below : List Frame} {s : State} {sargs : Array Value} {y : MethodName} {len W9 : Nat}
theorem vx_back {ws : List Cond} {rm : Room} {Pc : Array Value → State → Prop} {Qc : Array Value → State → Outcome → State → Prop} {XC : String → State → State → Prop} {mc ms : Nat} {free : Addr → Prop} {bytes : ByteArray} {maxL : Nat} {ret : Option FieldType}
    (hM : vx_Met l y ws rm Pc Qc XC mc ms free) (hblind : FrameBlind Pc) (hrc : rm.cells = mc) (hrs : rm.slots = ms)
    (hframes : rm.frames + 1 ≤ R.frames) (hlocals : W9 + (maxL + 11) + rm.locals ≤ R.locals)
    (hws : ∀ w ∈ ws, ∀ a' U, s.WarmedH U.vm → w.before a' U = true) (hcode : Cond.code y bytes maxL ret ∈ ws) (hinit : ∀ a' U, s.WarmedH U.vm → (Cond.initialized y.cls).before a' U = true) :
    vx_Back l R p e below s sargs y len W9 (PreOf R mc ms Pc) (PostOf Qc mc ms free) (vx_Post XC mc ms free) := by
  intro m meth c A g ig mk a X hg hsize hdg hW hn hp
  have h1 : (headSpec ws rm).pre.before a A.U = true := atoms_intro fun w hw => hws w hw _ _ X.warmed
  have h2 : (Cond.code y bytes maxL ret).before a A.U = true := hws _ hcode _ _ X.warmed
  have h3 : (Cond.initialized y.cls).before a A.U = true := hinit _ _ X.warmed
  have h4 : A.cells + (headSpec ws rm).room.cells ≤ R.cells := by rw [show (headSpec ws rm).room.cells = mc from hrc]; exact hp.1
  have h5 : A.slots + (headSpec ws rm).room.slots ≤ R.slots := by rw [show (headSpec ws rm).room.slots = ms from hrs]; exact hp.2.1
  have hPc : Pc a (A.U.calling g mk a) := hblind _ _ _ _ hp.2.2
  obtain ⟨U, Ls, c0, s0⟩ := A
  dsimp only [Pt.U, Pt.locs, Pt.cells, Pt.slots] at h1 h2 h3 h4 h5 X hn hPc ⊢
  obtain ⟨methY, cY, hmY, hcY, -, hlY, -, -, -, -⟩ := Cond.code_spec hn h2
  obtain ⟨kY, hkY, -⟩ := className_of_methodNamed hn
  have hinitY : kY.init = .initialized := Cond.initialized_spec (findClass_of_methodNamed hn) hkY h3
  have h : At U g.method c below := by rw [hg]; exact X.here
  have hlocals9 : W9 + (maxL + 11) + (headSpec ws rm).room.locals ≤ R.locals := hlocals
  have happ : (headSpec ws rm).appliesLoose y e.platform (U.calling g mk a) = true :=
    Spec.appliesLoose_calling (g := g) h hdg hn hkY hinitY
      (X.room_calling (g := g) (R' := (headSpec ws rm).room) hsize hmY hcY hframes (by rw [hlY]; omega) h4 h5) h1
  obtain ⟨mid, hmid⟩ := h.above
  have hfr : (U.setTop g).frames = (.java g :: mid) ++ below := by rw [State.frames_setTop' g h.top, hmid]; rfl
  obtain ⟨o, s₂, hsteps, -, hend, hq⟩ := Steps.callFree hM p X.admits X.cas X.clock (acts := []) hfr happ hPc trivial
  have hq' : vx_Q Qc XC mc ms free a (U.calling g mk a) o s₂ := hq
  rw [State.frames_setTop' g h.top] at hend
  obtain ⟨g₀, hg0⟩ := Option.isSome_iff_exists.mp h.top
  obtain ⟨r, hr⟩ := State.topJava?_eq_some.mp hg0
  have hr' : (({ U with heap := s₂.heap, slotsUsed := s₂.slotsUsed } : State).setVm s₂.vm).frames = .java g₀ :: r := hr
  rcases hq' with ⟨hqc, L, hfe, hL⟩ | ⟨q, rfl, E, ce, L, hx, hce, hcv, hcl, hW₂, hsm, hL⟩
  · obtain ⟨⟨v, rfl⟩, hW₂, e2, q2, q3, q4, q5, q6⟩ := id hfe
    have e3 : s₂ = ({ (U.calling g mk a).setFrames s₂.frames with heap := s₂.heap, slotsUsed := s₂.slotsUsed } : State).setVm s₂.vm := by
      have : s₂ = ({ s₂ with vm := (U.calling g mk a).vm } : State).setVm s₂.vm := rfl
      rw [e2] at this
      exact this
    obtain ⟨c₂, i₂, len₂, hc₂, hd₂, hf₂⟩ := hend
    have hW' : U.WarmedH s₂.vm := hW₂
    have hcc : c₂ = c := by
      have h1 : s₂.code? g.method = U.code? g.method := by
        rw [State.code?_eq, State.code?_eq, hW'.alike.method?]
      exact Option.some.inj (hc₂.symm.trans (h1.trans h.code))
    subst hcc
    have hlen : len₂ = len := by rw [hdg] at hd₂; cases hd₂; rfl
    subst hlen
    have hs₂ : s₂ = (({ U with heap := s₂.heap, slotsUsed := s₂.slotsUsed } : State).setVm s₂.vm).setTop { g with pc := g.pc + len₂, stack := v.toList ++ g.stack } := by
      refine e3.trans ?_
      rw [hf₂, State.calling_eq h.top, State.setFrames_setFrames, State.setTop_of_frames _ hr', hr]
      rfl
    have hsame : U.sameButNew ({ U with heap := s₂.heap, slotsUsed := s₂.slotsUsed } : State) L mc ms := by
      refine ⟨?_, q2, q3, q4, q5, q6⟩
      obtain ⟨t, ht, -⟩ := State.frames_cons hr
      show ({ U with heap := s₂.heap, slotsUsed := s₂.slotsUsed } : State) = { U.setFrames U.frames with heap := s₂.heap, slotsUsed := s₂.slotsUsed }
      rw [State.setFrames_self ht]
    subst hg
    refine Or.inl ⟨v, ⟨(({ U with heap := s₂.heap, slotsUsed := s₂.slotsUsed } : State).setVm s₂.vm), Ls ++ L, c0 + mc, s0 + ms⟩,
      ⟨X.admits, X.cas, X.clock, X.frames, X.room, X.hears, X.method, X.code, (X.here.setHeapUsed s₂.heap s₂.slotsUsed).setVm hW'.alike, X.tail, State.WarmedH.trans X.warmed hW', X.limits, X.bytes, X.same.trans (hsame.setVm s.vm)⟩,
      ⟨g, mk, s₂, L, rfl, rfl, hqc, rfl, hL, rfl, rfl⟩, ?_⟩
    show Steps p.tables e below _ ((({ U with heap := s₂.heap, slotsUsed := s₂.slotsUsed } : State).setVm s₂.vm).setTop { g with pc := g.pc + len₂, stack := v.toList ++ g.stack })
    rw [← hs₂]
    exact hsteps
  · obtain ⟨e2, q2, q3, q4, q5, q6⟩ := id hsm
    have e3 : s₂ = ({ (U.calling g mk a).setFrames s₂.frames with heap := s₂.heap, slotsUsed := s₂.slotsUsed } : State).setVm s₂.vm := by
      have : s₂ = ({ s₂ with vm := (U.calling g mk a).vm } : State).setVm s₂.vm := rfl
      rw [e2] at this
      exact this
    have hf₂ : s₂.frames = .throwing q :: .java g :: U.frames.tail := hend
    have hW' : U.WarmedH s₂.vm := hW₂
    have hs₂ : s₂ = ((({ U with heap := s₂.heap, slotsUsed := s₂.slotsUsed } : State).setVm s₂.vm).setTop g).pushFrame (.throwing q) := by
      refine e3.trans ?_
      rw [hf₂, State.calling_eq h.top, State.setFrames_setFrames, State.pushFrame, State.frames_setTop _ hr', State.setTop_of_frames _ hr', State.setFrames_setFrames, hr]
      rfl
    have hsame : U.sameButNew ({ U with heap := s₂.heap, slotsUsed := s₂.slotsUsed } : State) L mc ms := by
      refine ⟨?_, q2, q3, q4, q5, q6⟩
      obtain ⟨t, ht, -⟩ := State.frames_cons hr
      show ({ U with heap := s₂.heap, slotsUsed := s₂.slotsUsed } : State) = { U.setFrames U.frames with heap := s₂.heap, slotsUsed := s₂.slotsUsed }
      rw [State.setFrames_self ht]
    subst hg
    refine Or.inr ⟨q, ⟨(({ U with heap := s₂.heap, slotsUsed := s₂.slotsUsed } : State).setVm s₂.vm), Ls ++ L, c0 + mc, s0 + ms⟩,
      ⟨X.admits, X.cas, X.clock, X.frames, X.room, X.hears, X.method, X.code, (X.here.setHeapUsed s₂.heap s₂.slotsUsed).setVm hW'.alike, X.tail, State.WarmedH.trans X.warmed hW', X.limits, X.bytes, X.same.trans (hsame.setVm s.vm)⟩,
      ⟨g, mk, s₂, L, E, ce, rfl, rfl, hx, hce, hcv, hcl, rfl, hL, rfl, rfl⟩, ?_⟩
    show Steps p.tables e below _ (((({ U with heap := s₂.heap, slotsUsed := s₂.slotsUsed } : State).setVm s₂.vm).setTop g).pushFrame (.throwing q))
    rw [← hs₂]
    exact hsteps
end Payer
section Calls
variable {p : Program} {l : Launch} {e : Env} {R : Room} {s : State} {m : MethodId} {args : Array Value} {below : List Frame} {meth : Method} {c : Code} {T : State} {locs : List Loc} {cells slots : Nat}
theorem vx_callV (X : Stand p l e R s m args below meth c T locs cells slots) (hexec : p.tables.exec = Jvm.exec) {own C : String} {index : Nat} {y : MethodName} {bytes : ByteArray} {maxL : Nat} {ret : Option FieldType}
    (hown : s.vm.findClass own = some m.cls) (hlink : (Cond.methodLink own index y).before args s = true) (hinst : (Cond.instanceMethod y).before args s = true) (hsel : (Cond.selects C y y).before args s = true)
    (hcode : (Cond.code y bytes maxL ret).before args s = true) (hy : y.cls ≠ "java/lang/invoke/MethodHandle" ∧ y.cls ≠ "java/lang/invoke/VarHandle")
    {W9 : Nat} {Pre : Pt → Array Value → Prop} {Post : Pt → Array Value → Option Value → Pt → Prop} {PostX : Pt → Array Value → Addr → Pt → Prop} (hK : vx_Back l R p e below s args y 3 W9 Pre Post PostX)
    {b : Addr} {cellB : Cell} (hcell : T.heap[b]? = some cellB) (hobj : cellB.vm.isStatics = false) (hcls : s.vm.findClass C = some cellB.cls)
    {g : JFrame} (hg : g.method = m) (hsize : g.locals.size = c.maxLocals) {argsL rest : List Value} (hlen : ∀ sig, parseMethodDescriptor y.desc = some sig → argsL.length = sig.parameters.length)
    (hstack : g.stack = argsL.reverse ++ .ref b :: rest) (hW : 2 * g.monitorRoom + (rest.map fun v => v.category).sum ≤ W9) (hdg : decode c.code g.pc = .ok (.invokevirtual index, 3))
    (hpre : ∀ vm₁, s.WarmedH vm₁ → Pre ⟨T.setVm vm₁, locs, cells, slots⟩ (Value.ref b :: argsL).toArray) :
    (∃ (v : Option Value) (vm₁ : Vm) (B : Pt), s.WarmedH vm₁ ∧ Stand p l e R s m args below meth c B.U B.locs B.cells B.slots ∧ Post ⟨T.setVm vm₁, locs, cells, slots⟩ (Value.ref b :: argsL).toArray v B ∧
      ∀ target, Steps p.tables e below (B.U.setTop { g with pc := g.pc + 3, stack := v.toList ++ rest }) target → Steps p.tables e below (T.setTop g) target) ∨
    (∃ (q : Addr) (vm₁ : Vm) (B : Pt), s.WarmedH vm₁ ∧ Stand p l e R s m args below meth c B.U B.locs B.cells B.slots ∧ PostX ⟨T.setVm vm₁, locs, cells, slots⟩ (Value.ref b :: argsL).toArray q B ∧
      Steps p.tables e below (T.setTop g) ((B.U.setTop { g with stack := rest }).pushFrame (.throwing q))) := by
  obtain ⟨mk, methM, hnamed, hmethM, hstM, habM⟩ := Cond.instanceMethod_spec hinst
  obtain ⟨methM', cM, hmethM', -, -, -, -, -, -, hsigM⟩ := Cond.code_spec hnamed hcode
  cases hmethM.symm.trans hmethM'
  obtain ⟨c2, r2, m2, q1, q2, q3, q4, kP, hkP, hkPi⟩ := Cond.selects_spec hsel
  cases hcls.symm.trans q1
  cases (State.methodFound?_of_named hnamed hy).symm.trans q2
  cases hnamed.symm.trans q3
  have hselP : selectMethod e.platform s.vm cellB.cls mk = .method mk := by rw [Launch.admits_selectMethod X.admits]; exact q4
  obtain ⟨vm₁, X₁, hstep₁⟩ := X.invokevirtual hexec hown hlink hnamed hmethM hstM hkP hkPi hy (a := b) (cell := cellB) hcell
    (fun z h => by rw [h] at hobj; cases hobj) hselP hmethM habM hkP hkPi (g := g) hg (argsL := argsL) (rest := rest) (hlen _ hsigM) hstack hdg
  rcases hK m meth c ⟨T.setVm vm₁, locs, cells, slots⟩ { g with stack := rest } (.invokevirtual index) mk (Value.ref b :: argsL).toArray X₁ hg hsize hdg hW (X₁.named hnamed) (hpre vm₁ X₁.warmed) with ⟨v, B, X', hpost, hsteps⟩ | ⟨q, B, X', hpost, hsteps⟩
  · exact Or.inl ⟨v, vm₁, B, X₁.warmed, X', hpost, fun target h => hstep₁ _ fun acts => by rw [doInvoke_state]; exact hsteps.trans h⟩
  · exact Or.inr ⟨q, vm₁, B, X₁.warmed, X', hpost, hstep₁ _ fun acts => by rw [doInvoke_state]; exact hsteps⟩
theorem vx_callS (X : Stand p l e R s m args below meth c T locs cells slots) (hexec : p.tables.exec = Jvm.exec) {own : String} {index : Nat} {y : MethodName} {bytes : ByteArray} {maxL : Nat} {ret : Option FieldType}
    (hown : s.vm.findClass own = some m.cls) (hlink : (Cond.methodLink own index y).before args s = true) (hstat : (Cond.static y).before args s = true) (hinit : (Cond.initialized y.cls).before args s = true)
    (hcode : (Cond.code y bytes maxL ret).before args s = true) (hy : y.cls ≠ "java/lang/invoke/MethodHandle" ∧ y.cls ≠ "java/lang/invoke/VarHandle")
    {W9 : Nat} {Pre : Pt → Array Value → Prop} {Post : Pt → Array Value → Option Value → Pt → Prop} {PostX : Pt → Array Value → Addr → Pt → Prop} (hK : vx_Back l R p e below s args y 3 W9 Pre Post PostX)
    {g : JFrame} (hg : g.method = m) (hsize : g.locals.size = c.maxLocals) {argsL rest : List Value} (hlen : ∀ sig, parseMethodDescriptor y.desc = some sig → argsL.length = sig.parameters.length)
    (hstack : g.stack = argsL.reverse ++ rest) (hW : 2 * g.monitorRoom + (rest.map fun v => v.category).sum ≤ W9) (hdg : decode c.code g.pc = .ok (.invokestatic index, 3))
    (hpre : ∀ vm₁, s.WarmedH vm₁ → Pre ⟨T.setVm vm₁, locs, cells, slots⟩ argsL.toArray) :
    (∃ (v : Option Value) (vm₁ : Vm) (B : Pt), s.WarmedH vm₁ ∧ Stand p l e R s m args below meth c B.U B.locs B.cells B.slots ∧ Post ⟨T.setVm vm₁, locs, cells, slots⟩ argsL.toArray v B ∧
      ∀ target, Steps p.tables e below (B.U.setTop { g with pc := g.pc + 3, stack := v.toList ++ rest }) target → Steps p.tables e below (T.setTop g) target) ∨
    (∃ (q : Addr) (vm₁ : Vm) (B : Pt), s.WarmedH vm₁ ∧ Stand p l e R s m args below meth c B.U B.locs B.cells B.slots ∧ PostX ⟨T.setVm vm₁, locs, cells, slots⟩ argsL.toArray q B ∧
      Steps p.tables e below (T.setTop g) ((B.U.setTop { g with stack := rest }).pushFrame (.throwing q))) := by
  obtain ⟨mk, hnamed⟩ := Cond.code_named hcode
  obtain ⟨methM, cM, hmethM, -, -, -, -, -, -, hsigM⟩ := Cond.code_spec hnamed hcode
  have hstatic : methM.isStatic = true := Cond.static_spec hnamed hmethM hstat
  obtain ⟨kP, hkP, -⟩ := className_of_methodNamed hnamed
  have hinitP : kP.init = .initialized := Cond.initialized_spec (findClass_of_methodNamed hnamed) hkP hinit
  obtain ⟨vm₁, X₁, hstep₁⟩ := X.invokestatic hexec hown hlink hnamed hmethM hstatic hkP hinitP hy (g := g) hg (argsL := argsL) (rest := rest) (hlen _ hsigM) hstack hdg
  rcases hK m meth c ⟨T.setVm vm₁, locs, cells, slots⟩ { g with stack := rest } (.invokestatic index) mk argsL.toArray X₁ hg hsize hdg hW (X₁.named hnamed) (hpre vm₁ X₁.warmed) with ⟨v, B, X', hpost, hsteps⟩ | ⟨q, B, X', hpost, hsteps⟩
  · exact Or.inl ⟨v, vm₁, B, X₁.warmed, X', hpost, fun target h => hstep₁ _ fun acts => by rw [doInvoke_state]; exact hsteps.trans h⟩
  · exact Or.inr ⟨q, vm₁, B, X₁.warmed, X', hpost, hstep₁ _ fun acts => by rw [doInvoke_state]; exact hsteps⟩
end Calls
theorem vx_cls {s : State} {T : State} {vm₁ : Vm} {E : String} {k : ClassId} (hW : s.WarmedH vm₁) (h : (T.setVm vm₁).vm.findClass E = some k) : s.vm.findClass E = some k := by
  have h1 : vm₁.findClass E = some k := h
  rw [hW.alike.findClass] at h1
  exact h1
/-- the method's frame g, with q thrown over it -/
def vx_W (p : Program) (l : Launch) (e : Env) (R : Room) (s : State) (m : MethodId) (args : Array Value) (below : List Frame) (meth : Method) (c : Code) (H : Heap) (locs : List Loc) (cells slots : Nat) (Q : State → Prop) (g : JFrame) (q : Addr) : Prop :=
  ∀ T : State, T.heap = H → Stand p l e R s m args below meth c T locs cells slots → ∃ t, Steps p.tables e below ((T.setTop g).pushFrame (.throwing q)) t ∧ Q t
def vx_Run (p : Program) (l : Launch) (e : Env) (R : Room) (s : State) (m : MethodId) (args : Array Value) (below : List Frame) (meth : Method) (c : Code) (H : Heap) (locs : List Loc) (cells slots mc ms : Nat) (g : JFrame) (rest : List Value) (Qa : State → Outcome → State → Prop) (XC : String → State → State → Prop) (free : Addr → Prop) : Prop :=
  ∀ T : State, T.heap = H → Stand p l e R s m args below meth c T locs cells slots →
    (∃ (v : Option Value) (st₀ t T' : State) (L : List Loc), st₀.heap = H ∧ Stand p l e R s m args below meth c T' (locs ++ L) (cells + mc) (slots + ms) ∧ (∀ q ∈ L, free q.base) ∧ T'.heap = t.heap ∧ T'.vm = t.vm ∧ Qa st₀ (.returned v) t ∧
      Goes p e below T g T' { g with pc := g.pc + 3, stack := v.toList ++ rest }) ∨
    (∃ (q : Addr) (st₀ t T' : State) (L : List Loc) (E : String) (ce : Cell), st₀.heap = H ∧ Stand p l e R s m args below meth c T' (locs ++ L) (cells + mc) (slots + ms) ∧ (∀ z ∈ L, free z.base) ∧ T'.heap = t.heap ∧ T'.vm = t.vm ∧ XC E st₀ t ∧ t.heap[q]? = some ce ∧ ce.vm = .none ∧ s.vm.findClass E = some ce.cls ∧
      Steps p.tables e below (T.setTop g) ((T'.setTop { g with stack := rest }).pushFrame (.throwing q)))
def vx_X {S : Type} (px : S → Prop) (B : String → S → State → Prop) (A : Nat → Prop) : String → State → State → Prop := fun E st t => ∃ u : S, px u ∧ B E u t ∧ va_F A st t
section Runs
variable {p : Program} {l : Launch} {e : Env} {R : Room} {s : State} {m : MethodId} {args : Array Value} {below : List Frame} {meth : Method} {c : Code} {H : Heap} {locs : List Loc} {cells slots : Nat}
variable {y : MethodName} {bytes cc : ByteArray} {maxL nL mc ms n index : Nat} {ret : Option FieldType} {ws : List Cond} {rm : Room} {Pc : Array Value → State → Prop} {Qc : Array Value → State → Outcome → State → Prop} {XC : String → State → State → Prop} {free : Addr → Prop} {Ts : List Cond} {own C : String} {b : Addr} {As rest : List Value} {g : JFrame}
theorem vx_callBack (cb : CallB R s args own index y bytes maxL ret ws rm mc ms n) (hM : vx_Met l y ws rm Pc Qc XC mc ms free) (hbl : FrameBlind Pc) : vx_Back l R p e below s args y 3 8 (PreOf R mc ms Pc) (PostOf Qc mc ms free) (vx_Post XC mc ms free) := by
  obtain ⟨hrc, hrs, hfr, hlo, hws, hcw, -, hini, -⟩ := cb
  exact vx_back (bytes := bytes) (maxL := maxL) (ret := ret) hM hbl hrc hrs hfr hlo hws hcw (fun a' U hW => word_at hW (Or.inl (by first | rfl | simp [Cond.onTables, Cond.keeps, Cond.steady])) hini)
theorem vx_runV (S : CallFix p m c cc nL s args Ts own) (hM : vx_Met l y ws rm Pc Qc XC mc ms free) (cw : CallW R s args own C index y bytes maxL ret ws rm mc ms n) (hp : PreV s H C b Pc As)
    (hg : g.method = m) (hn : As.length = n) (hsize : g.locals.size = nL) (hstack : g.stack = As.reverse ++ .ref b :: rest) (hW : 2 * g.monitorRoom + (rest.map fun v => v.category).sum ≤ 8) (hdg : decode cc g.pc = .ok (.invokevirtual index, 3)) (hf : cells + mc ≤ R.cells ∧ slots + ms ≤ R.slots) :
    vx_Run p l e R s m args below meth c H locs cells slots mc ms g rest (Qc (Value.ref b :: As).toArray) XC free := by
  have hK : vx_Back l R p e below s args y 3 8 (PreOf R mc ms Pc) (PostOf Qc mc ms free) (vx_Post XC mc ms free) := vx_callBack cw.1 hM hp.1
  obtain ⟨⟨-, -, -, -, -, -, hcode, -, hy, hlen, hl⟩, hin, hse⟩ := cw
  obtain ⟨hx, hb, hml, ho, -⟩ := S
  obtain ⟨-, ⟨cellB, hcB, hoB, hclB⟩, hPc⟩ := hp
  intro T hT X
  rcases vx_callV X hx (C := C) (bytes := bytes) (maxL := maxL) (ret := ret) ho hl hin hse hcode hy hK (by rw [hT]; exact hcB) hoB hclB hg (hsize.trans hml.symm) (argsL := As) (rest := rest) (fun sig h => hn.trans (hlen sig h)) hstack hW (by rw [hb]; exact hdg)
    (fun vm₁ hW₁ => ⟨hf.1, hf.2, hPc (T.setVm vm₁) hT hW₁⟩) with ⟨v, vm₁, ⟨U', l2, c2, s2⟩, hW₁, X', ⟨g', mk, t, L, e1, e2, hq, h1, hL, h2, h3⟩, st⟩ | ⟨q, vm₁, ⟨U', l2, c2, s2⟩, hW₁, X', ⟨g', mk, t, L, E, ce, e1, e2, hq, hce, hcv, hcl, h1, hL, h2, h3⟩, st⟩
  · dsimp only [Pt.U, Pt.locs, Pt.cells, Pt.slots] at X' e1 e2 h1 h2 h3 st
    subst h1; subst h2; subst h3
    exact Or.inl ⟨v, (T.setVm vm₁).calling g' mk (Value.ref b :: As).toArray, t, U', L, hT, X', hL, e1, e2, hq, st⟩
  · dsimp only [Pt.U, Pt.locs, Pt.cells, Pt.slots] at X' e1 e2 h1 h2 h3 st hcl
    subst h1; subst h2; subst h3
    exact Or.inr ⟨q, (T.setVm vm₁).calling g' mk (Value.ref b :: As).toArray, t, U', L, E, ce, hT, X', hL, e1, e2, hq, hce, hcv, vx_cls hW₁ hcl, st⟩
theorem vx_runS (S : CallFix p m c cc nL s args Ts own) (hM : vx_Met l y ws rm Pc Qc XC mc ms free) (cw : CallB R s args own index y bytes maxL ret ws rm mc ms n ∧ (Cond.static y).before args s = true) (hp : PreS s H Pc As)
    (hg : g.method = m) (hn : As.length = n) (hsize : g.locals.size = nL) (hstack : g.stack = As.reverse ++ rest) (hW : 2 * g.monitorRoom + (rest.map fun v => v.category).sum ≤ 8) (hdg : decode cc g.pc = .ok (.invokestatic index, 3)) (hf : cells + mc ≤ R.cells ∧ slots + ms ≤ R.slots) :
    vx_Run p l e R s m args below meth c H locs cells slots mc ms g rest (Qc As.toArray) XC free := by
  have hK : vx_Back l R p e below s args y 3 8 (PreOf R mc ms Pc) (PostOf Qc mc ms free) (vx_Post XC mc ms free) := vx_callBack cw.1 hM hp.1
  obtain ⟨⟨-, -, -, -, -, -, hcode, hini, hy, hlen, hl⟩, hstt⟩ := cw
  obtain ⟨hx, hb, hml, ho, -⟩ := S
  intro T hT X
  rcases vx_callS X hx (bytes := bytes) (maxL := maxL) (ret := ret) ho hl hstt hini hcode hy hK hg (hsize.trans hml.symm) (argsL := As) (rest := rest) (fun sig h => hn.trans (hlen sig h)) hstack hW (by rw [hb]; exact hdg)
    (fun vm₁ hW₁ => ⟨hf.1, hf.2, hp.2 (T.setVm vm₁) hT hW₁⟩) with ⟨v, vm₁, ⟨U', l2, c2, s2⟩, hW₁, X', ⟨g', mk, t, L, e1, e2, hq, h1, hL, h2, h3⟩, st⟩ | ⟨q, vm₁, ⟨U', l2, c2, s2⟩, hW₁, X', ⟨g', mk, t, L, E, ce, e1, e2, hq, hce, hcv, hcl, h1, hL, h2, h3⟩, st⟩
  · dsimp only [Pt.U, Pt.locs, Pt.cells, Pt.slots] at X' e1 e2 h1 h2 h3 st
    subst h1; subst h2; subst h3
    exact Or.inl ⟨v, (T.setVm vm₁).calling g' mk As.toArray, t, U', L, hT, X', hL, e1, e2, hq, st⟩
  · dsimp only [Pt.U, Pt.locs, Pt.cells, Pt.slots] at X' e1 e2 h1 h2 h3 st hcl
    subst h1; subst h2; subst h3
    exact Or.inr ⟨q, (T.setVm vm₁).calling g' mk As.toArray, t, U', L, E, ce, hT, X', hL, e1, e2, hq, hce, hcv, vx_cls hW₁ hcl, st⟩
end Runs
section Rows
variable {p : Program} {l : Launch} {e : Env} {R : Room} {s : State} {m : MethodId} {args : Array Value} {below : List Frame} {meth : Method} {c : Code} {H : Heap} {locs : List Loc} {cells slots : Nat} {Q : State → Prop}
variable {mc ms : Nat} {free : Addr → Prop} {A0 A1 : Nat → Prop} {H0 : Heap} {a : Array Value} {pc : Nat} {ls : Array Slot} {st0 rest : List Value}
theorem vx_keep {st₀ t T' : State} {L : List Loc} (h0 : st₀.heap = H) (e1 : T'.heap = t.heap) (hS : va_S A0 H0 H locs) (hA : ∀ q, q < H.size → A1 q → A0 q) (hf : ∀ q, free q → A0 q) (hL : ∀ q ∈ L, free q.base) (hF : va_F A1 st₀ t) :
    H.size ≤ T'.heap.size ∧ (∀ q : Nat, q < H.size → ¬ A1 q → T'.heap[q]? = H[q]?) ∧ va_S A0 H0 T'.heap (locs ++ L) := by
  obtain ⟨hz, hk⟩ := hF
  rw [h0] at hz hk
  exact ⟨by rw [e1]; exact hz, fun q h1 h2 => by rw [e1]; exact hk q h1 h2,
    ⟨Nat.le_trans hS.1 (by rw [e1]; exact hz), fun q h1 h2 => by rw [e1, hk q (Nat.lt_of_lt_of_le h1 hS.1) (fun z => h2 (hA q (Nat.lt_of_lt_of_le h1 hS.1) z))]; exact hS.2.1 q h1 h2, fun q hq => by
      rcases List.mem_append.mp hq with h | h
      · exact hS.2.2 q h
      · exact hf _ (hL q h)⟩⟩
theorem vx_calli {S SX : Type} {post : Int32 → S → Prop} {px : SX → Prop} {B : S → State → Prop} {BX : String → SX → State → Prop} {AX : Nat → Prop} (hr : vx_Run p l e R s m args below meth c H locs cells slots mc ms (F0 m pc ls st0) rest (va_Qi post B A1 a) (vx_X px BX AX) free) (hS : va_S A0 H0 H locs) (hA : ∀ q, q < H.size → A1 q → A0 q) (hf : ∀ q, free q → A0 q) (hAX : ∀ q, q < H.size → AX q → A0 q)
    (kx : ∀ (E : String) (ce : Cell) (q9 : Addr) (u : SX) (t : State) (H1 : Heap) (locs1 : List Loc), t.heap = H1 → s.vm.Alike t.vm → px u → BX E u t → H.size ≤ H1.size → (∀ q : Nat, q < H.size → ¬ AX q → H1[q]? = H[q]?) → va_S A0 H0 H1 locs1 → H1[q9]? = some ce → ce.vm = .none → s.vm.findClass E = some ce.cls → vx_W p l e R s m args below meth c H1 locs1 (cells + mc) (slots + ms) Q (F0 m pc ls rest) q9)
    (kk : ∀ (r : Int32) (u : S) (t : State) (H1 : Heap) (locs1 : List Loc), t.heap = H1 → s.vm.Alike t.vm → post r u → B u t → H.size ≤ H1.size → (∀ q : Nat, q < H.size → ¬ A1 q → H1[q]? = H[q]?) → va_S A0 H0 H1 locs1 → W p l e R s m args below meth c H1 locs1 (cells + mc) (slots + ms) Q (F0 m (pc + 3) ls (.int r :: rest))) : W p l e R s m args below meth c H locs cells slots Q (F0 m pc ls st0) := by
  intro T hT X
  rcases hr T hT X with ⟨v, st₀, t, T', L, h0, X', hL, e1, e2, ⟨⟨r, u, hv, hp, hb⟩, hF⟩, st⟩ | ⟨q, st₀, t, T', L, E, ce, h0, X', hL, e1, e2, ⟨u, hp, hb, hF⟩, hce, hcv, hcl, st⟩
  · cases hv
    obtain ⟨k1, k2, k3⟩ := vx_keep h0 e1 hS hA hf hL hF
    obtain ⟨t2, a1, b1⟩ := kk r u t T'.heap (locs ++ L) e1.symm (by rw [← e2]; exact X'.warmed.alike) hp hb k1 k2 k3 T' rfl X'
    exact ⟨t2, st t2 a1, b1⟩
  · obtain ⟨k1, k2, k3⟩ := vx_keep h0 e1 hS hAX hf hL hF
    obtain ⟨t2, a1, b1⟩ := kx E ce q u t T'.heap (locs ++ L) e1.symm (by rw [← e2]; exact X'.warmed.alike) hp hb k1 k2 k3 (by rw [e1]; exact hce) hcv hcl T' rfl X'
    exact ⟨t2, st.trans a1, b1⟩
theorem vx_calll {S SX : Type} {post : Int64 → S → Prop} {px : SX → Prop} {B : S → State → Prop} {BX : String → SX → State → Prop} {AX : Nat → Prop} (hr : vx_Run p l e R s m args below meth c H locs cells slots mc ms (F0 m pc ls st0) rest (va_Ql post B A1 a) (vx_X px BX AX) free) (hS : va_S A0 H0 H locs) (hA : ∀ q, q < H.size → A1 q → A0 q) (hf : ∀ q, free q → A0 q) (hAX : ∀ q, q < H.size → AX q → A0 q)
    (kx : ∀ (E : String) (ce : Cell) (q9 : Addr) (u : SX) (t : State) (H1 : Heap) (locs1 : List Loc), t.heap = H1 → s.vm.Alike t.vm → px u → BX E u t → H.size ≤ H1.size → (∀ q : Nat, q < H.size → ¬ AX q → H1[q]? = H[q]?) → va_S A0 H0 H1 locs1 → H1[q9]? = some ce → ce.vm = .none → s.vm.findClass E = some ce.cls → vx_W p l e R s m args below meth c H1 locs1 (cells + mc) (slots + ms) Q (F0 m pc ls rest) q9)
    (kk : ∀ (r : Int64) (u : S) (t : State) (H1 : Heap) (locs1 : List Loc), t.heap = H1 → s.vm.Alike t.vm → post r u → B u t → H.size ≤ H1.size → (∀ q : Nat, q < H.size → ¬ A1 q → H1[q]? = H[q]?) → va_S A0 H0 H1 locs1 → W p l e R s m args below meth c H1 locs1 (cells + mc) (slots + ms) Q (F0 m (pc + 3) ls (.long r :: rest))) : W p l e R s m args below meth c H locs cells slots Q (F0 m pc ls st0) := by
  intro T hT X
  rcases hr T hT X with ⟨v, st₀, t, T', L, h0, X', hL, e1, e2, ⟨⟨r, u, hv, hp, hb⟩, hF⟩, st⟩ | ⟨q, st₀, t, T', L, E, ce, h0, X', hL, e1, e2, ⟨u, hp, hb, hF⟩, hce, hcv, hcl, st⟩
  · cases hv
    obtain ⟨k1, k2, k3⟩ := vx_keep h0 e1 hS hA hf hL hF
    obtain ⟨t2, a1, b1⟩ := kk r u t T'.heap (locs ++ L) e1.symm (by rw [← e2]; exact X'.warmed.alike) hp hb k1 k2 k3 T' rfl X'
    exact ⟨t2, st t2 a1, b1⟩
  · obtain ⟨k1, k2, k3⟩ := vx_keep h0 e1 hS hAX hf hL hF
    obtain ⟨t2, a1, b1⟩ := kx E ce q u t T'.heap (locs ++ L) e1.symm (by rw [← e2]; exact X'.warmed.alike) hp hb k1 k2 k3 (by rw [e1]; exact hce) hcv hcl T' rfl X'
    exact ⟨t2, st.trans a1, b1⟩
theorem vx_callf {S SX : Type} {post : UInt32 → S → Prop} {px : SX → Prop} {B : S → State → Prop} {BX : String → SX → State → Prop} {AX : Nat → Prop} (hr : vx_Run p l e R s m args below meth c H locs cells slots mc ms (F0 m pc ls st0) rest (va_Qf post B A1 a) (vx_X px BX AX) free) (hS : va_S A0 H0 H locs) (hA : ∀ q, q < H.size → A1 q → A0 q) (hf : ∀ q, free q → A0 q) (hAX : ∀ q, q < H.size → AX q → A0 q)
    (kx : ∀ (E : String) (ce : Cell) (q9 : Addr) (u : SX) (t : State) (H1 : Heap) (locs1 : List Loc), t.heap = H1 → s.vm.Alike t.vm → px u → BX E u t → H.size ≤ H1.size → (∀ q : Nat, q < H.size → ¬ AX q → H1[q]? = H[q]?) → va_S A0 H0 H1 locs1 → H1[q9]? = some ce → ce.vm = .none → s.vm.findClass E = some ce.cls → vx_W p l e R s m args below meth c H1 locs1 (cells + mc) (slots + ms) Q (F0 m pc ls rest) q9)
    (kk : ∀ (r : UInt32) (u : S) (t : State) (H1 : Heap) (locs1 : List Loc), t.heap = H1 → s.vm.Alike t.vm → post r u → B u t → H.size ≤ H1.size → (∀ q : Nat, q < H.size → ¬ A1 q → H1[q]? = H[q]?) → va_S A0 H0 H1 locs1 → W p l e R s m args below meth c H1 locs1 (cells + mc) (slots + ms) Q (F0 m (pc + 3) ls (.float r :: rest))) : W p l e R s m args below meth c H locs cells slots Q (F0 m pc ls st0) := by
  intro T hT X
  rcases hr T hT X with ⟨v, st₀, t, T', L, h0, X', hL, e1, e2, ⟨⟨r, u, hv, hp, hb⟩, hF⟩, st⟩ | ⟨q, st₀, t, T', L, E, ce, h0, X', hL, e1, e2, ⟨u, hp, hb, hF⟩, hce, hcv, hcl, st⟩
  · cases hv
    obtain ⟨k1, k2, k3⟩ := vx_keep h0 e1 hS hA hf hL hF
    obtain ⟨t2, a1, b1⟩ := kk r u t T'.heap (locs ++ L) e1.symm (by rw [← e2]; exact X'.warmed.alike) hp hb k1 k2 k3 T' rfl X'
    exact ⟨t2, st t2 a1, b1⟩
  · obtain ⟨k1, k2, k3⟩ := vx_keep h0 e1 hS hAX hf hL hF
    obtain ⟨t2, a1, b1⟩ := kx E ce q u t T'.heap (locs ++ L) e1.symm (by rw [← e2]; exact X'.warmed.alike) hp hb k1 k2 k3 (by rw [e1]; exact hce) hcv hcl T' rfl X'
    exact ⟨t2, st.trans a1, b1⟩
theorem vx_calld {S SX : Type} {post : UInt64 → S → Prop} {px : SX → Prop} {B : S → State → Prop} {BX : String → SX → State → Prop} {AX : Nat → Prop} (hr : vx_Run p l e R s m args below meth c H locs cells slots mc ms (F0 m pc ls st0) rest (va_Qd post B A1 a) (vx_X px BX AX) free) (hS : va_S A0 H0 H locs) (hA : ∀ q, q < H.size → A1 q → A0 q) (hf : ∀ q, free q → A0 q) (hAX : ∀ q, q < H.size → AX q → A0 q)
    (kx : ∀ (E : String) (ce : Cell) (q9 : Addr) (u : SX) (t : State) (H1 : Heap) (locs1 : List Loc), t.heap = H1 → s.vm.Alike t.vm → px u → BX E u t → H.size ≤ H1.size → (∀ q : Nat, q < H.size → ¬ AX q → H1[q]? = H[q]?) → va_S A0 H0 H1 locs1 → H1[q9]? = some ce → ce.vm = .none → s.vm.findClass E = some ce.cls → vx_W p l e R s m args below meth c H1 locs1 (cells + mc) (slots + ms) Q (F0 m pc ls rest) q9)
    (kk : ∀ (r : UInt64) (u : S) (t : State) (H1 : Heap) (locs1 : List Loc), t.heap = H1 → s.vm.Alike t.vm → post r u → B u t → H.size ≤ H1.size → (∀ q : Nat, q < H.size → ¬ A1 q → H1[q]? = H[q]?) → va_S A0 H0 H1 locs1 → W p l e R s m args below meth c H1 locs1 (cells + mc) (slots + ms) Q (F0 m (pc + 3) ls (.double r :: rest))) : W p l e R s m args below meth c H locs cells slots Q (F0 m pc ls st0) := by
  intro T hT X
  rcases hr T hT X with ⟨v, st₀, t, T', L, h0, X', hL, e1, e2, ⟨⟨r, u, hv, hp, hb⟩, hF⟩, st⟩ | ⟨q, st₀, t, T', L, E, ce, h0, X', hL, e1, e2, ⟨u, hp, hb, hF⟩, hce, hcv, hcl, st⟩
  · cases hv
    obtain ⟨k1, k2, k3⟩ := vx_keep h0 e1 hS hA hf hL hF
    obtain ⟨t2, a1, b1⟩ := kk r u t T'.heap (locs ++ L) e1.symm (by rw [← e2]; exact X'.warmed.alike) hp hb k1 k2 k3 T' rfl X'
    exact ⟨t2, st t2 a1, b1⟩
  · obtain ⟨k1, k2, k3⟩ := vx_keep h0 e1 hS hAX hf hL hF
    obtain ⟨t2, a1, b1⟩ := kx E ce q u t T'.heap (locs ++ L) e1.symm (by rw [← e2]; exact X'.warmed.alike) hp hb k1 k2 k3 (by rw [e1]; exact hce) hcv hcl T' rfl X'
    exact ⟨t2, st.trans a1, b1⟩
theorem vx_callv {S SX : Type} {post : S → Prop} {px : SX → Prop} {B : S → State → Prop} {BX : String → SX → State → Prop} {AX : Nat → Prop} (hr : vx_Run p l e R s m args below meth c H locs cells slots mc ms (F0 m pc ls st0) rest (va_Qv post B A1 a) (vx_X px BX AX) free) (hS : va_S A0 H0 H locs) (hA : ∀ q, q < H.size → A1 q → A0 q) (hf : ∀ q, free q → A0 q) (hAX : ∀ q, q < H.size → AX q → A0 q)
    (kx : ∀ (E : String) (ce : Cell) (q9 : Addr) (u : SX) (t : State) (H1 : Heap) (locs1 : List Loc), t.heap = H1 → s.vm.Alike t.vm → px u → BX E u t → H.size ≤ H1.size → (∀ q : Nat, q < H.size → ¬ AX q → H1[q]? = H[q]?) → va_S A0 H0 H1 locs1 → H1[q9]? = some ce → ce.vm = .none → s.vm.findClass E = some ce.cls → vx_W p l e R s m args below meth c H1 locs1 (cells + mc) (slots + ms) Q (F0 m pc ls rest) q9)
    (kk : ∀ (u : S) (t : State) (H1 : Heap) (locs1 : List Loc), t.heap = H1 → s.vm.Alike t.vm → post u → B u t → H.size ≤ H1.size → (∀ q : Nat, q < H.size → ¬ A1 q → H1[q]? = H[q]?) → va_S A0 H0 H1 locs1 → W p l e R s m args below meth c H1 locs1 (cells + mc) (slots + ms) Q (F0 m (pc + 3) ls (rest))) : W p l e R s m args below meth c H locs cells slots Q (F0 m pc ls st0) := by
  intro T hT X
  rcases hr T hT X with ⟨v, st₀, t, T', L, h0, X', hL, e1, e2, ⟨⟨u, hv, hp, hb⟩, hF⟩, st⟩ | ⟨q, st₀, t, T', L, E, ce, h0, X', hL, e1, e2, ⟨u, hp, hb, hF⟩, hce, hcv, hcl, st⟩
  · cases hv
    obtain ⟨k1, k2, k3⟩ := vx_keep h0 e1 hS hA hf hL hF
    obtain ⟨t2, a1, b1⟩ := kk u t T'.heap (locs ++ L) e1.symm (by rw [← e2]; exact X'.warmed.alike) hp hb k1 k2 k3 T' rfl X'
    exact ⟨t2, st t2 a1, b1⟩
  · obtain ⟨k1, k2, k3⟩ := vx_keep h0 e1 hS hAX hf hL hF
    obtain ⟨t2, a1, b1⟩ := kx E ce q u t T'.heap (locs ++ L) e1.symm (by rw [← e2]; exact X'.warmed.alike) hp hb k1 k2 k3 (by rw [e1]; exact hce) hcv hcl T' rfl X'
    exact ⟨t2, st.trans a1, b1⟩
/-- caught by the row x of this method's table; the rows ahead don't take it -/
theorem vx_catch {own name : String} {E : String} {ce : Cell} {q : Addr} (hown : s.vm.findClass own = some m.cls) (pre : List ExceptionTableEntry) (x : ExceptionTableEntry) (suf : List ExceptionTableEntry) (hsplit : c.exceptionTable.toList = pre ++ x :: suf)
    (hpass : ∀ z ∈ pre, covers z pc = false ∨ (z.catchType ≠ 0 ∧ ∃ nm : String, (Cond.classLink own z.catchType nm).before args s = true ∧ va_Nc E nm s)) (hx : covers x pc = true) (h0 : x.catchType ≠ 0)
    (hlink : (Cond.classLink own x.catchType name).before args s = true) (hcast : (Cond.castable E name).before args s = true) (hcell : H[q]? = some ce) (hv : ce.vm = .none) (hcl : s.vm.findClass E = some ce.cls)
    (kk : W p l e R s m args below meth c H locs cells slots Q (F0 m x.handlerPc ls [.ref q])) : vx_W p l e R s m args below meth c H locs cells slots Q (F0 m pc ls rest) q := by
  intro T hT X
  have hpl : e.platform.magicAccessors = ({} : Platform).magicAccessors := by rw [X.admits.platform]
  obtain ⟨c3, c4, hc3, hc4, hasg⟩ := Cond.castable_spec hcast
  cases Option.some.inj (hc3.symm.trans hcl)
  obtain ⟨c5, hc5, hcl5⟩ := Cond.classLink_spec hown hlink e.platform hpl
  cases Option.some.inj (hc4.symm.trans hc5)
  obtain ⟨vm', X', st⟩ := X.thenCaughtThrough q (g := F0 m pc ls rest) rfl (Steps.refl _) (by rw [hT]; exact hcell) (by rw [hv]; rfl) (by obtain ⟨k9, h9, -⟩ := Vm.findClass_spec hcl; exact ⟨k9, h9⟩) pre x suf hsplit
    (fun z hz => by
      rcases hpass z hz with h | ⟨hz0, nm, hl1, hn1⟩
      · exact Or.inl h
      · obtain ⟨c6, hc6, hcl6⟩ := Cond.classLink_spec hown hl1 e.platform hpl
        obtain ⟨a8, b8, h1, h2, h3⟩ := hn1
        cases Option.some.inj (h1.symm.trans hcl)
        cases Option.some.inj (h2.symm.trans hc6)
        exact Or.inr ⟨hz0, _, hcl6, h3⟩) hx (Or.inr ⟨h0, c4, hcl5, hasg⟩)
  obtain ⟨t, a1, b1⟩ := kk (T.setVm vm') hT X'
  exact ⟨t, st.trans a1, b1⟩
end Rows
section Ends
variable {p : Program} {l : Launch} {e : Env} {R : Room} {s : State} {m : MethodId} {args : Array Value} {below : List Frame} {meth : Method} {c : Code} {H : Heap} {locs : List Loc} {cells slots : Nat} {Q : State → Prop}
variable {mc ms : Nat} {free : Addr → Prop} {A0 A1 : Nat → Prop} {H0 : Heap} {a : Array Value} {ls : Array Slot} {st0 rest : List Value}
variable {Qc : Array Value → State → Outcome → State → Prop} {XC : String → State → State → Prop}
/-- what a body that may throw owes at its end -/
def vx_MQ (below : List Frame) (Qc : Array Value → State → Outcome → State → Prop) (XC : String → State → State → Prop) (a : Array Value) (s : State) (mc ms : Nat) (free : Addr → Prop) : State → Prop := fun t =>
  ∃ o, t.status = .running ∧ Ended t below o ∧ vx_Q Qc XC mc ms free a s o t
theorem vx_ret {g : JFrame} {mc ms : Nat} (k : W p l e R s m args below meth c H locs cells slots (MQ below Qc args s mc ms free) g) : W p l e R s m args below meth c H locs cells slots (vx_MQ below Qc XC args s mc ms free) g := by
  intro T hT X
  obtain ⟨t, a1, o, b1, b2, b3, b4⟩ := k T hT X
  exact ⟨t, a1, o, b1, b2, Or.inl ⟨b3, b4⟩⟩
/-- not caught here: it goes on to the caller -/
theorem vx_widen {g : JFrame} {q : Addr} {k n : Nat} (h1 : cells ≤ k) (h2 : slots ≤ n) (kk : vx_W p l e R s m args below meth c H locs k n Q g q) : vx_W p l e R s m args below meth c H locs cells slots Q g q := fun T hT X => kk T hT (stand_widen X h1 h2)
theorem vx_out {pc : Nat} {E : String} {ce : Cell} {q : Addr} {mc ms : Nat} (hout : ∀ x ∈ c.exceptionTable.toList, covers x pc = false) (hlocks : meth.locks = false) (hcell : H[q]? = some ce) (hv : ce.vm = .none) (hcl : s.vm.findClass E = some ce.cls)
    (hx : ∀ t : State, t.heap = H → s.vm.Alike t.vm → XC E s t) (hf : ∀ z ∈ locs, free z.base) (hc : cells ≤ mc) (hs : slots ≤ ms) :
    vx_W p l e R s m args below meth c H locs cells slots (vx_MQ below Qc XC args s mc ms free) (F0 m pc ls rest) q := by
  intro T hT X
  obtain ⟨st1, hrun, hend, hW, hsm⟩ := X.leaveThrown q (g := F0 m pc ls rest) rfl rfl rfl hout hlocks
  have hcell9 : (T.setFrames (.throwing q :: below)).heap[q]? = some ce := by
    show T.heap[q]? = some ce
    rw [hT]; exact hcell
  exact ⟨_, st1, .threw q, hrun, hend, Or.inr ⟨q, rfl, E, ce, locs, hx _ hT hW.alike, hcell9, hv, hcl, hW, hsm.mono hc hs, hf⟩⟩
theorem vx_frame {U : State} {k n : Nat} (h : s.sameButNew ({ U with vm := s.vm } : State) locs k n) : s.heap.size ≤ U.heap.size ∧ ∀ q : Nat, q < s.heap.size → (∀ z ∈ locs, z.base ≠ q) → U.heap[q]? = s.heap[q]? := by
  obtain ⟨-, h2, -, -, -, h6⟩ := h
  refine ⟨h2, fun q hq hz => ?_⟩
  obtain ⟨c9, e1, e2, e3, e4⟩ := h6 q _ (Array.getElem?_eq_getElem hq)
  have hs : c9.slots = (s.heap[q]).slots := Array.ext_getElem? fun i => e4 i fun hm => hz _ hm rfl
  have h9 : c9 = s.heap[q] := by
    rw [hs] at e2
    exact e2
  have e5 : U.heap[q]? = some c9 := e1
  rw [e5, h9, Array.getElem?_eq_getElem hq]
/-- the words of a throw but the four that speak of the heap -/
def vx_no (w : Cond) : Bool := decide (w ≠ .isRef (.static Bundle.tN "UNASSIGNED_STACK" Bundle.steD)) && decide (w ≠ .isRef (.static Bundle.tN "SUPPRESSED_SENTINEL" Bundle.listD)) && decide (w ≠ .laysStatic Bundle.tN "UNASSIGNED_STACK" Bundle.steD) && decide (w ≠ .laysStatic Bundle.tN "SUPPRESSED_SENTINEL" Bundle.listD)
def vx_at0 (own : String) (ic : Nat) (X : String) (names : List String) : List Cond := (Bundle.ownAtoms0 own ic X names).filter vx_no
def vx_atS (own : String) (ic : Nat) (X : String) (names : List String) : List Cond := (Bundle.ownAtoms own ic X names).filter vx_no
/-- a word that the tables alone decide, or a good one -/
def vx_ot (w : Cond) : Bool := w.onTables || goodWord w
theorem vx_ot_at {args a' : Array Value} {s U : State} {w : Cond} (hW : s.WarmedH U.vm) (hvm : s.vm = U.vm) (hg : vx_ot w = true) (h : w.before args s = true) : w.before a' U = true := by
  simp only [vx_ot, Bool.or_eq_true] at hg
  rcases hg with hg | hg
  · exact va_tabs hg hvm h
  · exact word_at hW (good_of_word hg) h
/-- a list's words: the good ones out of the method's own list, the others by premises of their own -/
theorem vx_hat {args : Array Value} {s : State} {L B : List Cond} (h1 : ∀ w ∈ L.filter goodWord, w.before args s = true) (h2 : ∀ w ∈ L.filter (fun w => !goodWord w), w ∈ B) (h3 : ∀ w ∈ B, w.before args s = true) : ∀ w ∈ L, w.before args s = true := by
  intro w hw
  by_cases g : goodWord w = true
  · exact h1 w (List.mem_filter.mpr ⟨hw, g⟩)
  · refine h3 w (h2 w (List.mem_filter.mpr ⟨hw, ?_⟩))
    show (!goodWord w) = true
    cases hgw : goodWord w
    · rfl
    · exact absurd hgw g
theorem vx_c {args : Array Value} {s : State} {w : Cond} {B : List Cond} (h : w.before args s = true) (t : ∀ w ∈ B, w.before args s = true) : ∀ w' ∈ w :: B, w'.before args s = true := fun w' h' => (List.mem_cons.mp h').elim (fun e => by rw [e]; exact h) (t w')
theorem vx_n {args : Array Value} {s : State} : ∀ w ∈ ([] : List Cond), w.before args s = true := fun _ h => nomatch h
theorem vx_own {args : Array Value} {s : State} {L : List Cond} (h1 : ∀ w ∈ L.filter vx_no, w.before args s = true)
    (hU : (Cond.isRef (.static Bundle.tN "UNASSIGNED_STACK" Bundle.steD)).before args s = true) (hN : (Cond.isRef (.static Bundle.tN "SUPPRESSED_SENTINEL" Bundle.listD)).before args s = true)
    (lU : (Cond.laysStatic Bundle.tN "UNASSIGNED_STACK" Bundle.steD).before args s = true) (lN : (Cond.laysStatic Bundle.tN "SUPPRESSED_SENTINEL" Bundle.listD).before args s = true) : ∀ w ∈ L, w.before args s = true := by
  intro w hw
  by_cases e1 : w = .isRef (.static Bundle.tN "UNASSIGNED_STACK" Bundle.steD)
  · rw [e1]; exact hU
  · by_cases e2 : w = .isRef (.static Bundle.tN "SUPPRESSED_SENTINEL" Bundle.listD)
    · rw [e2]; exact hN
    · by_cases e3 : w = .laysStatic Bundle.tN "UNASSIGNED_STACK" Bundle.steD
      · rw [e3]; exact lU
      · by_cases e4 : w = .laysStatic Bundle.tN "SUPPRESSED_SENTINEL" Bundle.listD
        · rw [e4]; exact lN
        · exact h1 w (List.mem_filter.mpr ⟨hw, by unfold vx_no; rw [decide_eq_true e1, decide_eq_true e2, decide_eq_true e3, decide_eq_true e4]; rfl⟩)
/-- where a static field lies, its class's statics cell in H -/
def vx_L (C n d : String) (A : Nat → Prop) (U : State) (H : Heap) : Prop := ∃ (c : ClassId) (k : Class) (i : Nat) (f : Field) (a : Nat) (cell : Cell), U.vm.findClass C = some c ∧ U.fieldFound? C n d = some (c, k, i, f) ∧ f.isStatic = true ∧ k.statics = some a ∧ H[a]? = some cell ∧ cell.vm.isStatics = true ∧ cell.cls = c ∧ f.slot < cell.slots.size ∧ k.staticTypes[f.slot]? = some f.type ∧ ¬ A a
theorem vx_L.moved {C n d : String} {A : Nat → Prop} {u U : State} {H : Heap} (hvm : u.vm.Alike U.vm) (h : vx_L C n d A u H) : vx_L C n d A U H := by
  obtain ⟨c, k, i, f, a, cell, h1, h2, h3, h4, h5, h6, h7, h8, h9, h10⟩ := h
  obtain ⟨k', hi', he⟩ := State.fieldFound?_setVm hvm h2
  exact ⟨c, k', i, f, a, cell, by rw [hvm.findClass]; exact h1, hi', h3, by rw [he]; exact h4, h5, h6, h7, h8, by rw [he]; exact h9, h10⟩
theorem vx_L.kept {C n d : String} {A : Nat → Prop} {U : State} {H H1 : Heap} (h : vx_L C n d A U H) (hq : ∀ a : Nat, a < H.size → ¬ A a → H1[a]? = H[a]?) : vx_L C n d A U H1 := by
  obtain ⟨c, k, i, f, a, cell, h1, h2, h3, h4, h5, h6, h7, h8, h9, h10⟩ := h
  exact ⟨c, k, i, f, a, cell, h1, h2, h3, h4, by rw [hq a (Array.getElem?_eq_some_iff.mp h5).1 h10]; exact h5, h6, h7, h8, h9, h10⟩
theorem vx_L.narrow {C n d : String} {A B : Nat → Prop} {U : State} {H : Heap} (h : vx_L C n d A U H) (hAB : ∀ q, B q → A q) : vx_L C n d B U H := by
  obtain ⟨c, k, i, f, a, cell, h1, h2, h3, h4, h5, h6, h7, h8, h9, h10⟩ := h
  exact ⟨c, k, i, f, a, cell, h1, h2, h3, h4, h5, h6, h7, h8, h9, fun z => h10 (hAB _ z)⟩
theorem vx_L.word {C n d : String} {A : Nat → Prop} {s : State} {args : Array Value} (h : vx_L C n d A s s.heap) : (Cond.laysStatic C n d).before args s = true := by
  obtain ⟨c, k, i, f, a, cell, h1, h2, h3, h4, h5, h6, h7, h8, h9, -⟩ := h
  show (Cond.laysStatic C n d).holds args s none s [] = true
  exact Cond.laysStatic_of h1 h2 h3 h4 h5 h6 h7 h8 h9
/-- .. and what it holds: null or some reference -/
def vx_Zq (C n d : String) (A : Nat → Prop) (U : State) (H : Heap) : Prop := va_Zq C n d A U H ∧ vx_L C n d A U H
theorem vx_Zq.moved {C n d : String} {A : Nat → Prop} {u U : State} {H : Heap} (hvm : u.vm.Alike U.vm) (h : vx_Zq C n d A u H) : vx_Zq C n d A U H := ⟨va_Zq.moved hvm h.1, vx_L.moved hvm h.2⟩
theorem vx_Zq.kept {C n d : String} {A : Nat → Prop} {U : State} {H H1 : Heap} (h : vx_Zq C n d A U H) (hq : ∀ a : Nat, a < H.size → ¬ A a → H1[a]? = H[a]?) : vx_Zq C n d A U H1 := ⟨va_Zq.kept h.1 hq, vx_L.kept h.2 hq⟩
theorem vx_Zq.narrow {C n d : String} {A B : Nat → Prop} {U : State} {H : Heap} (h : vx_Zq C n d A U H) (hAB : ∀ q, B q → A q) : vx_Zq C n d B U H := ⟨va_Zq.narrow h.1 hAB, vx_L.narrow h.2 hAB⟩
theorem vx_Zqof {args : Array Value} {s : State} {C n d : String} {A : Nat → Prop} (hl : (Cond.laysStatic C n d).before args s = true) (hini : (Cond.initialized C).before args s = true) (h : (Cond.isRef (.static C n d)).before args s = true) (hA : ∀ a : Nat, a < s.heap.size → ¬ A a) : vx_Zq C n d A s s.heap := by
  refine ⟨va_Zqof hl hini h hA, ?_⟩
  obtain ⟨c, k, i, f, a, cell, h1, h2, h3, h4, h5, h6, h7, h8, h9⟩ := Cond.laysStatic_spec hl
  exact ⟨c, k, i, f, a, cell, h1, h2, h3, h4, h5, h6, h7, h8, h9, hA a (Array.getElem?_eq_some_iff.mp h5).1⟩
theorem vx_isRef {C n d : String} {v : Value} {A : Nat → Prop} {s : State} {args : Array Value} (h : va_Z C n d v A s s.heap) (hv : v.isRef = true) : (Cond.isRef (.static C n d)).before args s = true := by
  obtain ⟨cf, kf, fi, f, a, cell, h1, h2, h3, h4, h5, h6, h7, -⟩ := h
  have he : (Term.static C n d).eval args s none [] s = some v := by
    simp [Term.eval, State.fieldNamed?, h1, h2, h4, h5, h6, h7]
  simp only [Cond.before, Cond.holds, Cond.value, he]
  cases v <;> simp_all [Value.isRef]
theorem vx_isRefq {C n d : String} {A : Nat → Prop} {s : State} {args : Array Value} (h : va_Zq C n d A s s.heap) : (Cond.isRef (.static C n d)).before args s = true := by
  rcases h with h | ⟨t, h⟩
  · exact vx_isRef h rfl
  · exact vx_isRef h rfl
/-- the same frame, seen from here: as if the method were called anew in this heap -/
theorem vx_rebase {T : State} (X : Stand p l e R s m args below meth c T locs cells slots) {R' : Room} (hf : R'.frames ≤ R.frames) (hl : R'.locals ≤ R.locals) (hc : cells + R'.cells ≤ R.cells) (hs : slots + R'.slots ≤ R.slots) :
    Stand p l e R' ((T.setVm s.vm).setFrames (.invoking m args :: below)) m args below meth c T [] 0 0 := by
  have htop : (T.setVm s.vm).topJava?.isSome := X.here.top
  have hF : ((T.setVm s.vm).setFrames (.invoking m args :: below)).frames = .invoking m args :: below := State.frames_setFrames _ (State.cur_lt_of_top htop)
  obtain ⟨g₀, hg0⟩ := Option.isSome_iff_exists.mp htop
  obtain ⟨r, hr⟩ := State.topJava?_eq_some.mp hg0
  have hl9 : e.platform.stackLimits (T.setVm s.vm).me = e.platform.stackLimits s.me := X.limits
  have hb9 : (T.setVm s.vm).me.stackBytes = s.me.stackBytes := X.bytes
  refine ⟨X.admits, X.cas, X.clock, hF, ?_, X.hears, X.method, X.code, X.here, X.tail, X.warmed, ?_, ?_, ?_⟩
  · have h := X.room
    have hU : ((T.setVm s.vm).setFrames (.invoking m args :: below)).localsInUse = s.localsInUse := by
      rw [State.localsInUse_invoking hF (meth := meth) (c := c) X.method X.code, State.localsInUse_invoking X.frames X.method X.code]
    simp only [State.hasRoom, Bool.and_eq_true, decide_eq_true_eq] at h ⊢
    obtain ⟨⟨⟨⟨h1, h2, h3, h4, h5, h6⟩, h7⟩, h8⟩, h9⟩ := h
    rw [X.frames, List.length_cons] at h2 h3
    have q1 := X.heapSize
    have q2 := X.used
    simp only [hF, hU, List.length_cons, State.stackLimits_setFrames, State.stackBytes_setFrames, hl9, hb9]
    refine ⟨⟨⟨⟨by omega, by omega, by omega, by omega, by omega, h6⟩, ?_⟩, ?_⟩, X.book⟩
    · show T.heap.size + R'.cells ≤ e.platform.maxCells
      omega
    · show T.slotsUsed + R'.slots ≤ e.platform.maxSlots
      omega
  · rw [State.stackLimits_setFrames]; rfl
  · rw [State.stackBytes_setFrames]; rfl
  · refine ⟨?_, Nat.le_refl _, Nat.le_refl _, ?_, ?_, fun a c9 h9 => ⟨c9, h9, rfl, rfl, fun _ _ => rfl⟩⟩
    · obtain ⟨t, ht, -⟩ := State.frames_cons hr
      show T.setVm s.vm = { ((T.setVm s.vm).setFrames (.invoking m args :: below)).setFrames (T.setVm s.vm).frames with heap := T.heap, slotsUsed := T.slotsUsed }
      rw [State.setFrames_setFrames, State.setFrames_self ht]
      rfl
    · show T.slotsUsed = T.slotsUsed + ((T.heap.toList.drop T.heap.size).map (·.slots.size)).sum
      rw [List.drop_eq_nil_of_le (Nat.le_of_eq Array.length_toList)]
      rfl
    · show ((T.heap.toList.drop T.heap.size).map (·.slots.size)).sum ≤ 0
      rw [List.drop_eq_nil_of_le (Nat.le_of_eq Array.length_toList)]
      exact Nat.le_refl _
/-- 'throw new E()': new; dup; invokespecial; athrow -/
theorem vx_throw0 {cc : ByteArray} {pc : Nat} (hexec : p.tables.exec = Jvm.exec) (hb : c.code = cc) (hl : l.stackTraces = false) {own cls : String} {names : List String} {ik ic mc ms : Nat} {A : Nat → Prop}
    (hown : s.vm.findClass own = some m.cls) (hcls : Bundle.fit cls = true) (hnames : ∀ n ∈ names, Bundle.fit n = true)
    (hk : (Cond.classLink own ik cls).before args s = true) (hini : (Cond.initialized cls).before args s = true) (hat : ∀ w ∈ vx_at0 own ic cls names, w.before args s = true)
    (hgood : ∀ w ∈ Cond.classLink own ik cls :: Cond.initialized cls :: vx_at0 own ic cls names, vx_ot w = true)
    (hU : vx_Zq Bundle.tN "UNASSIGNED_STACK" Bundle.steD A s s.heap) (hN : vx_Zq Bundle.tN "SUPPRESSED_SENTINEL" Bundle.listD A s s.heap) (hS : va_S A s.heap H locs) (hsize : ls.size = c.maxLocals)
    (d0 : decode cc pc = .ok (.new ik, 3)) (d3 : decode cc (pc + 3) = .ok (.dup, 1)) (d4 : decode cc (pc + 4) = .ok (.invokespecial ic, 3)) (d7 : decode cc (pc + 7) = .ok (.athrow, 1))
    (hout : ∀ x ∈ c.exceptionTable.toList, covers x (pc + 7) = false)
    (hRframes : names.length + 3 < R.frames) (hRlocals : (rest.map fun v => v.category).sum + (13 * (names.length + 1) + 42) ≤ R.locals) (hRcells : cells + 1 ≤ R.cells) (hRslots : slots + 6 ≤ R.slots) (hlocks : meth.locks = false)
    (hx : ∀ t : State, s.vm.Alike t.vm → H.size ≤ t.heap.size → (∀ q : Nat, q < H.size → t.heap[q]? = H[q]?) → XC cls s t)
    (hf : ∀ z ∈ locs, free z.base) (hc : cells + 1 ≤ mc) (hs : slots + 6 ≤ ms) :
    W p l e R s m args below meth c H locs cells slots (vx_MQ below Qc XC args s mc ms free) (F0 m pc ls rest) := by
  intro T hT X
  have htr : e.platform.stackTraces = false := (show e.platform.stackTraces = l.stackTraces by rw [X.admits.platform]).trans hl
  have Y := vx_rebase X (R' := { frames := R.frames, locals := R.locals, cells := 1, slots := 6 }) (Nat.le_refl _) (Nat.le_refl _) hRcells hRslots
  obtain ⟨s', hA⟩ : ∃ z, z = (T.setVm s.vm).setFrames (.invoking m args :: below) := ⟨_, rfl⟩
  rw [← hA] at Y
  have hvm : s'.vm = s.vm := by rw [hA]; rfl
  have hhp : s'.heap = H := by rw [hA]; exact hT
  have hW0 : s.WarmedH s'.vm := by rw [hvm]; exact State.WarmedH.refl s
  have hat' : ∀ w ∈ vx_at0 own ic cls names, w.before args s' = true := fun w hw => vx_ot_at hW0 hvm.symm (hgood w (List.mem_cons_of_mem _ (List.mem_cons_of_mem _ hw))) (hat w hw)
  have hk' : (Cond.classLink own ik cls).before args s' = true := vx_ot_at hW0 hvm.symm (hgood _ List.mem_cons_self) hk
  have hini' : (Cond.initialized cls).before args s' = true := vx_ot_at hW0 hvm.symm (hgood _ (List.mem_cons_of_mem _ List.mem_cons_self)) hini
  have hU' : vx_Zq Bundle.tN "UNASSIGNED_STACK" Bundle.steD A s' s'.heap := by rw [hhp]; exact vx_Zq.moved hW0.alike (hU.kept hS.2.1)
  have hN' : vx_Zq Bundle.tN "SUPPRESSED_SENTINEL" Bundle.listD A s' s'.heap := by rw [hhp]; exact vx_Zq.moved hW0.alike (hN.kept hS.2.1)
  have h : ∀ w ∈ Bundle.ownAtoms0 own ic cls names, w.before args s' = true := vx_own hat' (vx_isRefq hU'.1) (vx_isRefq hN'.1) hU'.2.word hN'.2.word
  have hown' : s'.vm.findClass own = some m.cls := by rw [hvm]; exact hown
  have hins : (Cond.instantiable cls 6).before args s' = true := h _ (by simp [Bundle.ownAtoms0])
  obtain ⟨vm₁, cX, kX, hfX, hkX, -, -, X₁, st1⟩ := Y.newCold hexec (own := own) (C := cls) (index := ik) (n := 6) hown' hk' hins hini'
    (g := F0 m pc ls rest) rfl (by rw [hb]; exact d0) (Nat.le_refl _) (Nat.le_refl _)
  generalize hT1 : (T.setVm vm₁).pushCell { cls := cX, slots := kX.instanceTypes.map defaultValue, vm := .none } = T1 at X₁ st1
  have hcat : (Value.ref T.heap.size).category = 1 := rfl
  have hcellA : T1.heap[T.heap.size]? = some (freshCell cX kX) := by rw [← hT1]; exact State.heap_pushCell_size _ _
  have d3' : decode c.code (pc + 3) = .ok (.dup, 1) := by rw [hb]; exact d3
  obtain ⟨U, hsteps, hrun, hend, hW, hsame, ce, hce, hO⟩ := X₁.ctorThrow0 hexec htr (own := own) (cls := cls) (names := names) (ic := ic) hown' hcls hnames h (fun x hx => nomatch hx) hfX hkX hcellA (by rw [hhp, hT]; exact Nat.le_refl _)
    (g := { method := m, pc := pc + 4, locals := ls, stack := .ref T.heap.size :: .ref T.heap.size :: rest, locked := none }) rfl hsize rfl rfl (rest := rest) rfl
    (by rw [hb]; exact d4) (by rw [hb]; exact d7) hout hRframes (by simp only [List.map_cons, List.sum_cons, hcat]; omega) hlocks
  obtain ⟨f1, f2⟩ := vx_frame hsame
  rw [hhp] at f1 f2
  have hWs : s.WarmedH U.vm := State.WarmedH.trans hW0 hW
  have hcl : s.vm.findClass cls = some ce.cls := by
    have h9 := hO.cls
    rw [hvm] at h9
    exact h9
  have hall : s.sameButNew ({ U with vm := s.vm } : State) locs mc ms := by
    subst hA
    obtain ⟨e1, e2⟩ := hsame
    rw [State.setFrames_setFrames] at e1
    have h2 : (T.setVm s.vm).sameButNew ({ U with vm := s.vm } : State) [] (0 + 1) (0 + 6) := ⟨e1, e2⟩
    have h3 := X.same.trans h2
    rw [List.append_nil] at h3
    exact h3.mono hc hs
  refine ⟨U, ?_, .threw T.heap.size, hrun, hend, Or.inr ⟨T.heap.size, rfl, cls, ce, locs, hx U hWs.alike f1 (fun q hq => f2 q hq (fun z hz => nomatch hz)), hce, hO.vm, hcl, hWs, hall, hf⟩⟩
  refine st1 _ ?_
  show Steps p.tables e below (T1.setTop { method := m, pc := pc + 3, locals := ls, stack := .ref T.heap.size :: rest, locked := none }) _
  jvm_step X₁.here [X₁.here.top, hexec, d3', Value.category]
  exact hsteps
/-- 'throw new E("text")': new; dup; ldc; invokespecial; athrow -/
theorem vx_throwS {cc : ByteArray} {pc : Nat} (hexec : p.tables.exec = Jvm.exec) (hb : c.code = cc) (hl : l.stackTraces = false) {own cls text : String} {names : List String} {ik is ic mc ms sa : Nat} {A : Nat → Prop}
    (hown : s.vm.findClass own = some m.cls) (hcls : Bundle.fit cls = true) (hnames : ∀ n ∈ names, Bundle.fit n = true)
    (hk : (Cond.classLink own ik cls).before args s = true) (hini : (Cond.initialized cls).before args s = true) (hstr : vk_R own is text sa s) (hat : ∀ w ∈ vx_atS own ic cls names, w.before args s = true)
    (hgood : ∀ w ∈ Cond.classLink own ik cls :: Cond.initialized cls :: vx_atS own ic cls names, vx_ot w = true)
    (hU : vx_Zq Bundle.tN "UNASSIGNED_STACK" Bundle.steD A s s.heap) (hN : vx_Zq Bundle.tN "SUPPRESSED_SENTINEL" Bundle.listD A s s.heap) (hS : va_S A s.heap H locs) (hsize : ls.size = c.maxLocals)
    (d0 : decode cc pc = .ok (.new ik, 3)) (d3 : decode cc (pc + 3) = .ok (.dup, 1)) (d4 : decode cc (pc + 4) = .ok (.ldc is, 2)) (d6 : decode cc (pc + 6) = .ok (.invokespecial ic, 3)) (d9 : decode cc (pc + 9) = .ok (.athrow, 1))
    (hout : ∀ x ∈ c.exceptionTable.toList, covers x (pc + 9) = false)
    (hRframes : names.length + 3 < R.frames) (hRlocals : (rest.map fun v => v.category).sum + (13 * (names.length + 1) + 43) ≤ R.locals) (hRcells : cells + 1 ≤ R.cells) (hRslots : slots + 6 ≤ R.slots) (hlocks : meth.locks = false)
    (hx : ∀ t : State, s.vm.Alike t.vm → H.size ≤ t.heap.size → (∀ q : Nat, q < H.size → t.heap[q]? = H[q]?) → XC cls s t)
    (hf : ∀ z ∈ locs, free z.base) (hc : cells + 1 ≤ mc) (hs : slots + 6 ≤ ms) :
    W p l e R s m args below meth c H locs cells slots (vx_MQ below Qc XC args s mc ms free) (F0 m pc ls rest) := by
  intro T hT X
  have htr : e.platform.stackTraces = false := (show e.platform.stackTraces = l.stackTraces by rw [X.admits.platform]).trans hl
  have Y := vx_rebase X (R' := { frames := R.frames, locals := R.locals, cells := 1, slots := 6 }) (Nat.le_refl _) (Nat.le_refl _) hRcells hRslots
  obtain ⟨s', hA⟩ : ∃ z, z = (T.setVm s.vm).setFrames (.invoking m args :: below) := ⟨_, rfl⟩
  rw [← hA] at Y
  have hvm : s'.vm = s.vm := by rw [hA]; rfl
  have hhp : s'.heap = H := by rw [hA]; exact hT
  have hW0 : s.WarmedH s'.vm := by rw [hvm]; exact State.WarmedH.refl s
  have hat' : ∀ w ∈ vx_atS own ic cls names, w.before args s' = true := fun w hw => vx_ot_at hW0 hvm.symm (hgood w (List.mem_cons_of_mem _ (List.mem_cons_of_mem _ hw))) (hat w hw)
  have hk' : (Cond.classLink own ik cls).before args s' = true := vx_ot_at hW0 hvm.symm (hgood _ List.mem_cons_self) hk
  have hini' : (Cond.initialized cls).before args s' = true := vx_ot_at hW0 hvm.symm (hgood _ (List.mem_cons_of_mem _ List.mem_cons_self)) hini
  have hU' : vx_Zq Bundle.tN "UNASSIGNED_STACK" Bundle.steD A s' s'.heap := by rw [hhp]; exact vx_Zq.moved hW0.alike (hU.kept hS.2.1)
  have hN' : vx_Zq Bundle.tN "SUPPRESSED_SENTINEL" Bundle.listD A s' s'.heap := by rw [hhp]; exact vx_Zq.moved hW0.alike (hN.kept hS.2.1)
  have h : ∀ w ∈ Bundle.ownAtoms own ic cls names, w.before args s' = true := vx_own hat' (vx_isRefq hU'.1) (vx_isRefq hN'.1) hU'.2.word hN'.2.word
  have hown' : s'.vm.findClass own = some m.cls := by rw [hvm]; exact hown
  have hins : (Cond.instantiable cls 6).before args s' = true := h _ (by simp [Bundle.ownAtoms])
  obtain ⟨vm₁, cX, kX, hfX, hkX, -, -, X₁, st1⟩ := Y.newCold hexec (own := own) (C := cls) (index := ik) (n := 6) hown' hk' hins hini'
    (g := F0 m pc ls rest) rfl (by rw [hb]; exact d0) (Nat.le_refl _) (Nat.le_refl _)
  generalize hT1 : (T.setVm vm₁).pushCell { cls := cX, slots := kX.instanceTypes.map defaultValue, vm := .none } = T1 at X₁ st1
  have hcat : (Value.ref T.heap.size).category = 1 := rfl
  have hcellA : T1.heap[T.heap.size]? = some (freshCell cX kX) := by rw [← hT1]; exact State.heap_pushCell_size _ _
  have d3' : decode c.code (pc + 3) = .ok (.dup, 1) := by rw [hb]; exact d3
  have d4' : decode c.code (pc + 4) = .ok (.ldc is, 2) := by rw [hb]; exact d4
  have hstr' : vk_R own is text sa s' := vk_R.warm hW0 hstr
  obtain ⟨U, hsteps, hrun, hend, hW, hsame, ce, hce, hO⟩ := X₁.ctorThrowS hexec htr (own := own) (cls := cls) (names := names) (ic := ic) hown' hcls hnames h (fun x hx => nomatch hx) hfX hkX hcellA (by rw [hhp, hT]; exact Nat.le_refl _) (msg := .ref sa) rfl
    (g := { method := m, pc := pc + 6, locals := ls, stack := .ref sa :: .ref T.heap.size :: .ref T.heap.size :: rest, locked := none }) rfl hsize rfl rfl (rest := rest) rfl
    (by rw [hb]; exact d6) (by rw [hb]; exact d9) hout hRframes (by simp only [List.map_cons, List.sum_cons, hcat]; omega) hlocks
  obtain ⟨f1, f2⟩ := vx_frame hsame
  rw [hhp] at f1 f2
  have hWs : s.WarmedH U.vm := State.WarmedH.trans hW0 hW
  have hcl : s.vm.findClass cls = some ce.cls := by
    have h9 := hO.cls
    rw [hvm] at h9
    exact h9
  have hall : s.sameButNew ({ U with vm := s.vm } : State) locs mc ms := by
    subst hA
    obtain ⟨e1, e2⟩ := hsame
    rw [State.setFrames_setFrames] at e1
    have h2 : (T.setVm s.vm).sameButNew ({ U with vm := s.vm } : State) [] (0 + 1) (0 + 6) := ⟨e1, e2⟩
    have h3 := X.same.trans h2
    rw [List.append_nil] at h3
    exact h3.mono hc hs
  refine ⟨U, ?_, .threw T.heap.size, hrun, hend, Or.inr ⟨T.heap.size, rfl, cls, ce, locs, hx U hWs.alike f1 (fun q hq => f2 q hq (fun z hz => nomatch hz)), hce, hO.vm, hcl, hWs, hall, hf⟩⟩
  refine st1 _ ?_
  show Steps p.tables e below (T1.setTop { method := m, pc := pc + 3, locals := ls, stack := .ref T.heap.size :: rest, locked := none }) _
  jvm_step X₁.here [X₁.here.top, hexec, d3', Value.category]
  exact X₁.ldcString hexec (own := own) (text := text) (index := is) (a := sa) hown' hstr'.1 hstr'.2
    (g := { method := m, pc := pc + 4, locals := ls, stack := .ref T.heap.size :: .ref T.heap.size :: rest, locked := none }) rfl d4' _ hsteps
/-- 'throw new E("text")', the text by a wide index -/
theorem vx_throwSW {cc : ByteArray} {pc : Nat} (hexec : p.tables.exec = Jvm.exec) (hb : c.code = cc) (hl : l.stackTraces = false) {own cls text : String} {names : List String} {ik is ic mc ms sa : Nat} {A : Nat → Prop}
    (hown : s.vm.findClass own = some m.cls) (hcls : Bundle.fit cls = true) (hnames : ∀ n ∈ names, Bundle.fit n = true)
    (hk : (Cond.classLink own ik cls).before args s = true) (hini : (Cond.initialized cls).before args s = true) (hstr : vk_R own is text sa s) (hat : ∀ w ∈ vx_atS own ic cls names, w.before args s = true)
    (hgood : ∀ w ∈ Cond.classLink own ik cls :: Cond.initialized cls :: vx_atS own ic cls names, vx_ot w = true)
    (hU : vx_Zq Bundle.tN "UNASSIGNED_STACK" Bundle.steD A s s.heap) (hN : vx_Zq Bundle.tN "SUPPRESSED_SENTINEL" Bundle.listD A s s.heap) (hS : va_S A s.heap H locs) (hsize : ls.size = c.maxLocals)
    (d0 : decode cc pc = .ok (.new ik, 3)) (d3 : decode cc (pc + 3) = .ok (.dup, 1)) (d4 : decode cc (pc + 4) = .ok (.ldc_w is, 3)) (d7 : decode cc (pc + 7) = .ok (.invokespecial ic, 3)) (d10 : decode cc (pc + 10) = .ok (.athrow, 1))
    (hout : ∀ x ∈ c.exceptionTable.toList, covers x (pc + 10) = false)
    (hRframes : names.length + 3 < R.frames) (hRlocals : (rest.map fun v => v.category).sum + (13 * (names.length + 1) + 43) ≤ R.locals) (hRcells : cells + 1 ≤ R.cells) (hRslots : slots + 6 ≤ R.slots) (hlocks : meth.locks = false)
    (hx : ∀ t : State, s.vm.Alike t.vm → H.size ≤ t.heap.size → (∀ q : Nat, q < H.size → t.heap[q]? = H[q]?) → XC cls s t)
    (hf : ∀ z ∈ locs, free z.base) (hc : cells + 1 ≤ mc) (hs : slots + 6 ≤ ms) :
    W p l e R s m args below meth c H locs cells slots (vx_MQ below Qc XC args s mc ms free) (F0 m pc ls rest) := by
  intro T hT X
  have htr : e.platform.stackTraces = false := (show e.platform.stackTraces = l.stackTraces by rw [X.admits.platform]).trans hl
  have Y := vx_rebase X (R' := { frames := R.frames, locals := R.locals, cells := 1, slots := 6 }) (Nat.le_refl _) (Nat.le_refl _) hRcells hRslots
  obtain ⟨s', hA⟩ : ∃ z, z = (T.setVm s.vm).setFrames (.invoking m args :: below) := ⟨_, rfl⟩
  rw [← hA] at Y
  have hvm : s'.vm = s.vm := by rw [hA]; rfl
  have hhp : s'.heap = H := by rw [hA]; exact hT
  have hW0 : s.WarmedH s'.vm := by rw [hvm]; exact State.WarmedH.refl s
  have hat' : ∀ w ∈ vx_atS own ic cls names, w.before args s' = true := fun w hw => vx_ot_at hW0 hvm.symm (hgood w (List.mem_cons_of_mem _ (List.mem_cons_of_mem _ hw))) (hat w hw)
  have hk' : (Cond.classLink own ik cls).before args s' = true := vx_ot_at hW0 hvm.symm (hgood _ List.mem_cons_self) hk
  have hini' : (Cond.initialized cls).before args s' = true := vx_ot_at hW0 hvm.symm (hgood _ (List.mem_cons_of_mem _ List.mem_cons_self)) hini
  have hU' : vx_Zq Bundle.tN "UNASSIGNED_STACK" Bundle.steD A s' s'.heap := by rw [hhp]; exact vx_Zq.moved hW0.alike (hU.kept hS.2.1)
  have hN' : vx_Zq Bundle.tN "SUPPRESSED_SENTINEL" Bundle.listD A s' s'.heap := by rw [hhp]; exact vx_Zq.moved hW0.alike (hN.kept hS.2.1)
  have h : ∀ w ∈ Bundle.ownAtoms own ic cls names, w.before args s' = true := vx_own hat' (vx_isRefq hU'.1) (vx_isRefq hN'.1) hU'.2.word hN'.2.word
  have hown' : s'.vm.findClass own = some m.cls := by rw [hvm]; exact hown
  have hins : (Cond.instantiable cls 6).before args s' = true := h _ (by simp [Bundle.ownAtoms])
  obtain ⟨vm₁, cX, kX, hfX, hkX, -, -, X₁, st1⟩ := Y.newCold hexec (own := own) (C := cls) (index := ik) (n := 6) hown' hk' hins hini'
    (g := F0 m pc ls rest) rfl (by rw [hb]; exact d0) (Nat.le_refl _) (Nat.le_refl _)
  generalize hT1 : (T.setVm vm₁).pushCell { cls := cX, slots := kX.instanceTypes.map defaultValue, vm := .none } = T1 at X₁ st1
  have hcat : (Value.ref T.heap.size).category = 1 := rfl
  have hcellA : T1.heap[T.heap.size]? = some (freshCell cX kX) := by rw [← hT1]; exact State.heap_pushCell_size _ _
  have d3' : decode c.code (pc + 3) = .ok (.dup, 1) := by rw [hb]; exact d3
  have d4' : decode c.code (pc + 4) = .ok (.ldc_w is, 3) := by rw [hb]; exact d4
  have hstr' : vk_R own is text sa s' := vk_R.warm hW0 hstr
  obtain ⟨U, hsteps, hrun, hend, hW, hsame, ce, hce, hO⟩ := X₁.ctorThrowS hexec htr (own := own) (cls := cls) (names := names) (ic := ic) hown' hcls hnames h (fun x hx => nomatch hx) hfX hkX hcellA (by rw [hhp, hT]; exact Nat.le_refl _) (msg := .ref sa) rfl
    (g := { method := m, pc := pc + 7, locals := ls, stack := .ref sa :: .ref T.heap.size :: .ref T.heap.size :: rest, locked := none }) rfl hsize rfl rfl (rest := rest) rfl
    (by rw [hb]; exact d7) (by rw [hb]; exact d10) hout hRframes (by simp only [List.map_cons, List.sum_cons, hcat]; omega) hlocks
  obtain ⟨f1, f2⟩ := vx_frame hsame
  rw [hhp] at f1 f2
  have hWs : s.WarmedH U.vm := State.WarmedH.trans hW0 hW
  have hcl : s.vm.findClass cls = some ce.cls := by
    have h9 := hO.cls
    rw [hvm] at h9
    exact h9
  have hall : s.sameButNew ({ U with vm := s.vm } : State) locs mc ms := by
    subst hA
    obtain ⟨e1, e2⟩ := hsame
    rw [State.setFrames_setFrames] at e1
    have h2 : (T.setVm s.vm).sameButNew ({ U with vm := s.vm } : State) [] (0 + 1) (0 + 6) := ⟨e1, e2⟩
    have h3 := X.same.trans h2
    rw [List.append_nil] at h3
    exact h3.mono hc hs
  refine ⟨U, ?_, .threw T.heap.size, hrun, hend, Or.inr ⟨T.heap.size, rfl, cls, ce, locs, hx U hWs.alike f1 (fun q hq => f2 q hq (fun z hz => nomatch hz)), hce, hO.vm, hcl, hWs, hall, hf⟩⟩
  refine st1 _ ?_
  show Steps p.tables e below (T1.setTop { method := m, pc := pc + 3, locals := ls, stack := .ref T.heap.size :: rest, locked := none }) _
  jvm_step X₁.here [X₁.here.top, hexec, d3', Value.category]
  exact X₁.ldcStringW hexec (own := own) (text := text) (index := is) (a := sa) hown' hstr'.1 hstr'.2
    (g := { method := m, pc := pc + 4, locals := ls, stack := .ref T.heap.size :: .ref T.heap.size :: rest, locked := none }) rfl d4' _ hsteps
end Ends
section Bodies
variable {l : Launch}
theorem vx_ofW {y : MethodName} {ws ws' : List Cond} {rm : Room} {Pc : Array Value → State → Prop} {Qc : Array Value → State → Outcome → State → Prop} {XC : String → State → State → Prop} {mc ms : Nat} {free : Addr → Prop} {cc : ByteArray} {maxL : Nat} {ret : Option FieldType}
    (hy : plainName y.cls = true) (hw : ws = Cond.code y cc maxL ret :: ws')
    (body : ∀ p e s m args below meth c s₁, BodyLoose p l y (headSpec ws rm) cc maxL ret e s m args below meth c s₁ → c.maxLocals = maxL → (∀ x ∈ c.exceptionTable.toList, False) → Pc args s →
      W p l e (headSpec ws rm).room s m args below meth c s.heap [] 0 0 (vx_MQ below Qc XC args s mc ms free) (entryFrame m args maxL)) : vx_Met l y ws rm Pc Qc XC mc ms free := by
  refine MetFree.of_bodyS (code := cc) (maxLocals := maxL) (ret := ret) hy ?_ ?_
  · intro args s m h hn
    obtain ⟨meth, c, h1, h2, h3, h4, h5, h6, -, -⟩ := Cond.code_spec hn (atoms_spec (ws := ws) h _ (by rw [hw]; exact List.mem_cons_self))
    exact ⟨meth, c, h1, h2, h3, h4, h5, h6⟩
  · intro p e s m args below meth c s₁ B hml hP _
    have hh0 : s₁.heap = s.heap := by rw [B.state]; rfl
    have ht : ∀ x ∈ c.exceptionTable.toList, False := by
      obtain ⟨meth9, c9, h1, h2, -, -, -, -, h7, -⟩ := Cond.code_spec B.named (atoms_spec (ws := ws) B.pre _ (by rw [hw]; exact List.mem_cons_self))
      cases Option.some.inj (h1.symm.trans B.method)
      cases Option.some.inj (h2.symm.trans (Stand.of_body B).code)
      intro x hx
      rw [Array.isEmpty_iff.mp h7] at hx
      cases hx
    obtain ⟨t, a1, o, b1, b2, b3⟩ := body p e s m args below meth c s₁ B hml ht hP s₁ hh0 (Stand.of_body B)
    exact ⟨t, o, a1, b1, b2, b3⟩
/-- the table of a body with handlers -/
theorem vx_table {p : Program} {x y : MethodName} {S : Spec} {cc bytes : ByteArray} {maxL maxL' : Nat} {ret ret' : Option FieldType} {e : Env} {s s₁ : State} {m : MethodId} {args : Array Value} {below : List Frame} {meth : Method} {c : Code} {hh : List (Nat × Nat × Nat × Nat)}
    (B : BodyLoose p l y S cc maxL ret e s m args below meth c s₁) (h : (Cond.codeWith y bytes maxL' ret' hh).before args s = true) : c.exceptionTable.toList = tableOf hh := by
  obtain ⟨m9, meth9, c9, hn9, h1, h2, -, -, h6, -⟩ := Cond.codeWith_spec h
  cases Option.some.inj (hn9.symm.trans B.named)
  cases Option.some.inj (h1.symm.trans B.method)
  cases Option.some.inj (h2.symm.trans (Stand.of_body B).code)
  rw [← h6, table_eq]
end Bodies
end VXA
/-! ===== END ===== -/
/-! ===== BEGIN a static call of a method with an exception table ===== -/
section VXS
variable {p : Program} {l : Launch} {e : Env} {R : Room} {s : State} {m : MethodId} {args : Array Value} {below : List Frame} {meth : Method} {c : Code} {T : State} {H : Heap} {locs : List Loc} {cells slots : Nat}
abbrev vx_CSW (R : Room) (s : State) (args : Array Value) (own : String) (index : Nat) (y : MethodName) (bytes : ByteArray) (maxL : Nat) (ret : Option FieldType) (hh : List (Nat × Nat × Nat × Nat)) (ws : List Cond) (rm : Room) (mc ms n : Nat) : Prop :=
  (rm.cells = mc ∧ rm.slots = ms ∧ rm.frames + 1 ≤ R.frames ∧ 8 + (maxL + 11) + rm.locals ≤ R.locals ∧ (∀ w ∈ ws, ∀ (a' : Array Value) (U : State), s.WarmedH U.vm → w.before a' U = true) ∧ Cond.codeWith y bytes maxL ret hh ∈ ws) ∧
  (Cond.codeWith y bytes maxL ret hh).before args s = true ∧ (Cond.initialized y.cls).before args s = true ∧ (y.cls ≠ "java/lang/invoke/MethodHandle" ∧ y.cls ≠ "java/lang/invoke/VarHandle") ∧
  (∀ sig, parseMethodDescriptor y.desc = some sig → n = sig.parameters.length) ∧ (Cond.methodLink own index y).before args s = true ∧ (Cond.static y).before args s = true
theorem vx_cwSW {own : String} {index maxL mc ms : Nat} {y : MethodName} {bytes : ByteArray} {ret : Option FieldType} {hh : List (Nat × Nat × Nat × Nat)} {Ts ws ws' : List Cond} {rm : Room} (n : Nat) (ht : ∀ w ∈ Ts, w.before args s = true) (hT : GoodIn Ts (va_wsS own index y ws)) (hw : ws = Cond.codeWith y bytes maxL ret hh :: ws') (hrc : rm.cells = mc) (hrs : rm.slots = ms)
    (hd : y.cls ≠ "java/lang/invoke/MethodHandle" ∧ y.cls ≠ "java/lang/invoke/VarHandle" ∧ (parseMethodDescriptor y.desc).map (fun d => d.parameters.length) = some n) (hR : rm.frames + 1 ≤ R.frames ∧ 8 + (maxL + 11) + rm.locals ≤ R.locals) :
    vx_CSW R s args own index y bytes maxL ret hh ws rm mc ms n := by
  have ok : ∀ w ∈ va_wsS own index y ws, w.before args s = true := fun w h => ht w (hT w h).1
  have hG : GoodIn Ts ws := fun w h => hT w (by unfold va_wsS; exact List.mem_append_right _ h)
  have hc : Cond.codeWith y bytes maxL ret hh ∈ ws := by rw [hw]; exact List.mem_cons_self
  refine ⟨⟨hrc, hrs, hR.1, hR.2, pay_in ht hG, hc⟩, ht _ (hG _ hc).1, ok _ (by simp [va_wsS]), ⟨hd.1, hd.2.1⟩, fun sig h => ?_, ok _ (by simp [va_wsS]), ok _ (by simp [va_wsS])⟩
  have h2 := hd.2.2
  rw [h] at h2
  exact (Option.some.inj h2).symm
theorem vx_callSW (X : Stand p l e R s m args below meth c T locs cells slots) (hexec : p.tables.exec = Jvm.exec) {own : String} {index : Nat} {y : MethodName} {bytes : ByteArray} {maxL : Nat} {ret : Option FieldType} {hh : List (Nat × Nat × Nat × Nat)}
    (hown : s.vm.findClass own = some m.cls) (hlink : (Cond.methodLink own index y).before args s = true) (hstat : (Cond.static y).before args s = true) (hinit : (Cond.initialized y.cls).before args s = true)
    (hcode : (Cond.codeWith y bytes maxL ret hh).before args s = true) (hy : y.cls ≠ "java/lang/invoke/MethodHandle" ∧ y.cls ≠ "java/lang/invoke/VarHandle")
    {W9 : Nat} {Pre : Pt → Array Value → Prop} {Post : Pt → Array Value → Option Value → Pt → Prop} (hK : Back l R p e below s args y 3 W9 Pre Post)
    {g : JFrame} (hg : g.method = m) (hsize : g.locals.size = c.maxLocals) {argsL rest : List Value} (hlen : ∀ sig, parseMethodDescriptor y.desc = some sig → argsL.length = sig.parameters.length)
    (hstack : g.stack = argsL.reverse ++ rest) (hW : 2 * g.monitorRoom + (rest.map fun v => v.category).sum ≤ W9) (hdg : decode c.code g.pc = .ok (.invokestatic index, 3))
    (hpre : ∀ vm₁, s.WarmedH vm₁ → Pre ⟨T.setVm vm₁, locs, cells, slots⟩ argsL.toArray) :
    ∃ (v : Option Value) (vm₁ : Vm) (B : Pt), s.WarmedH vm₁ ∧ Stand p l e R s m args below meth c B.U B.locs B.cells B.slots ∧ Post ⟨T.setVm vm₁, locs, cells, slots⟩ argsL.toArray v B ∧
      ∀ target, Steps p.tables e below (B.U.setTop { g with pc := g.pc + 3, stack := v.toList ++ rest }) target → Steps p.tables e below (T.setTop g) target := by
  obtain ⟨mk, methM, cM, hnamed, hmethM, -, -, -, -, -, -, hsigM⟩ := Cond.codeWith_spec hcode
  have hstatic : methM.isStatic = true := Cond.static_spec hnamed hmethM hstat
  obtain ⟨kP, hkP, -⟩ := className_of_methodNamed hnamed
  have hinitP : kP.init = .initialized := Cond.initialized_spec (findClass_of_methodNamed hnamed) hkP hinit
  obtain ⟨vm₁, X₁, hstep₁⟩ := X.invokestatic hexec hown hlink hnamed hmethM hstatic hkP hinitP hy (g := g) hg (argsL := argsL) (rest := rest) (hlen _ hsigM) hstack hdg
  obtain ⟨v, B, X', hpost, hsteps⟩ := hK m meth c ⟨T.setVm vm₁, locs, cells, slots⟩ { g with stack := rest } (.invokestatic index) mk argsL.toArray X₁ hg hsize hdg hW (X₁.named hnamed) (hpre vm₁ X₁.warmed)
  exact ⟨v, vm₁, B, X₁.warmed, X', hpost, fun target h => hstep₁ _ fun acts => by rw [doInvoke_state]; exact hsteps.trans h⟩
theorem vx_runSW {y : MethodName} {bytes cc : ByteArray} {maxL nL mc ms n index : Nat} {ret : Option FieldType} {hh : List (Nat × Nat × Nat × Nat)} {ws : List Cond} {rm : Room} {Pc : Array Value → State → Prop} {Qc : Array Value → State → Outcome → State → Prop} {free : Addr → Prop} {Ts : List Cond} {own : String} {As rest : List Value} {g : JFrame}
    (S : CallFix p m c cc nL s args Ts own) (hM : Met l y ws rm Pc Qc mc ms free) (cw : vx_CSW R s args own index y bytes maxL ret hh ws rm mc ms n) (hp : PreS s H Pc As)
    (hg : g.method = m) (hn : As.length = n) (hsize : g.locals.size = nL) (hstack : g.stack = As.reverse ++ rest) (hW : 2 * g.monitorRoom + (rest.map fun v => v.category).sum ≤ 8) (hdg : decode cc g.pc = .ok (.invokestatic index, 3)) (hf : cells + mc ≤ R.cells ∧ slots + ms ≤ R.slots) :
    va_Run p l e R s m args below meth c H locs cells slots mc ms g rest (Qc As.toArray) (free) := by
  obtain ⟨⟨hrc, hrs, hfr, hlo, hws, hcw⟩, hcode, hini, hy, hlen, hl, hstt⟩ := cw
  have hK : Back l R p e below s args y 3 8 (PreOf R mc ms Pc) (PostOf Qc mc ms free) := va_backW (hh := hh) (bytes := bytes) (maxL := maxL) (ret := ret) hM hp.1 hrc hrs hfr hlo hws hcw (fun a' U hW => word_at hW (Or.inl (by first | rfl | simp [Cond.onTables, Cond.keeps, Cond.steady])) hini)
  obtain ⟨hx, hb, hml, ho, -⟩ := S
  intro T hT X
  obtain ⟨v, vm₁, ⟨U', l2, c2, s2⟩, hW₁, X', ⟨g', mk, t, L, e1, e2, hq, h1, hL, h2, h3⟩, st⟩ := vx_callSW X hx (hh := hh) (bytes := bytes) (maxL := maxL) (ret := ret) ho hl hstt hini hcode hy hK hg (hsize.trans hml.symm) (argsL := As) (rest := rest) (fun sig h => hn.trans (hlen sig h)) hstack hW (by rw [hb]; exact hdg)
    (fun vm₁ hW₁ => ⟨hf.1, hf.2, hp.2 (T.setVm vm₁) hT hW₁⟩)
  dsimp only [Pt.U, Pt.locs, Pt.cells, Pt.slots] at X' e1 e2 h1 h2 h3 st
  subst h1; subst h2; subst h3
  exact ⟨v, (T.setVm vm₁).calling g' mk As.toArray, t, U', L, hT, X', hL, e1, e2, hq, st⟩
/-- not caught here, past rows that name other classes: it goes on to the caller -/
theorem vx_outP {p : Program} {l : Launch} {e : Env} {R : Room} {s : State} {m : MethodId} {args : Array Value} {below : List Frame} {meth : Method} {c : Code} {H : Heap} {locs : List Loc} {cells slots : Nat} {free : Addr → Prop} {ls : Array Slot} {rest : List Value} {Qc : Array Value → State → Outcome → State → Prop} {XC : String → State → State → Prop}
    {pc : Nat} {own E : String} {ce : Cell} {q : Addr} {mc ms : Nat} (hown : s.vm.findClass own = some m.cls) (hlocks : meth.locks = false)
    (hpass : ∀ z ∈ c.exceptionTable.toList, covers z pc = false ∨ (z.catchType ≠ 0 ∧ ∃ nm : String, (Cond.classLink own z.catchType nm).before args s = true ∧ va_Nc E nm s)) (hcell : H[q]? = some ce) (hv : ce.vm = .none) (hcl : s.vm.findClass E = some ce.cls)
    (hx : ∀ t : State, t.heap = H → s.vm.Alike t.vm → XC E s t) (hf : ∀ z ∈ locs, free z.base) (hc : cells ≤ mc) (hs : slots ≤ ms) :
    vx_W p l e R s m args below meth c H locs cells slots (vx_MQ below Qc XC args s mc ms free) (F0 m pc ls rest) q := by
  intro T hT X
  have hpl : e.platform.magicAccessors = ({} : Platform).magicAccessors := by rw [X.admits.platform]
  obtain ⟨vm', hW', X', st⟩ := X.outThrough hlocks q (g := F0 m pc ls rest) rfl rfl rfl (cell := ce) (by rw [hT]; exact hcell) (by rw [hv]; rfl)
    (by obtain ⟨k9, h9, -⟩ := Vm.findClass_spec hcl; exact ⟨k9, h9⟩) (fun z hz => by
      rcases hpass z hz with h | ⟨hz0, nm, hl1, hn1⟩
      · exact Or.inl h
      · obtain ⟨c6, hc6, hcl6⟩ := Cond.classLink_spec hown hl1 e.platform hpl
        obtain ⟨a8, b8, h1, h2, h3⟩ := hn1
        cases Option.some.inj (h1.symm.trans hcl)
        cases Option.some.inj (h2.symm.trans hc6)
        exact Or.inr ⟨hz0, _, hcl6, h3⟩)
  obtain ⟨g₀, hfr⟩ := X'.frames_eq
  have hcell9 : ((T.setVm vm').setFrames (.throwing q :: below)).heap[q]? = some ce := by
    show T.heap[q]? = some ce
    rw [hT]; exact hcell
  have hend : Ended ((T.setVm vm').setFrames (.throwing q :: below)) below (.threw q) := State.frames_setFrames _ (State.cur_lt_of_frames hfr)
  refine ⟨(T.setVm vm').setFrames (.throwing q :: below), ?_, .threw q, X'.here.running, hend, Or.inr ⟨q, rfl, E, ce, locs, hx _ hT (X'.ends _).1.alike, hcell9, hv, hcl, (X'.ends _).1, (X'.ends _).2.mono hc hs, hf⟩⟩
  rw [X.pushThrowing_eq]
  exact st
/-- a thing of a world lies in the heap -/
theorem vx_lt {D : va_G} {cl : List vw_C} {ws : va_W} {H1 : Heap} (h : va_P D cl ws H1) {k : Nat} {q : Nat × va_E} (hk : ws[k]? = some q) : q.1 < H1.size := (h k q hk).lt
end VXS
/-! ===== END ===== -/
/-! ===== BEGIN methods with a table of their own: called by a name, returning or throwing ===== -/
section VXH
/-! vx_backW, vx_callVX, vx_callSX, vx_callVW, vx_runVW, vx_runVX, vx_runSX, vx_ofWH follow the same proofs as their sisters above (Free/Laws.lean, Shelf42/LK1.lean); vx_outP calls Shelf42/NT130.lean (outThrough). -/
section
variable {l : Launch} {R : Room} {p : Program} {e : Env} {below : List Frame} {s : State} {sargs : Array Value} {y : MethodName} {len W9 : Nat}
theorem vx_backW {ws : List Cond} {rm : Room} {Pc : Array Value → State → Prop} {Qc : Array Value → State → Outcome → State → Prop} {XC : String → State → State → Prop} {mc ms : Nat} {free : Addr → Prop} {bytes : ByteArray} {maxL : Nat} {ret : Option FieldType} {hh : List (Nat × Nat × Nat × Nat)}
    (hM : vx_Met l y ws rm Pc Qc XC mc ms free) (hblind : FrameBlind Pc) (hrc : rm.cells = mc) (hrs : rm.slots = ms)
    (hframes : rm.frames + 1 ≤ R.frames) (hlocals : W9 + (maxL + 11) + rm.locals ≤ R.locals)
    (hws : ∀ w ∈ ws, ∀ a' U, s.WarmedH U.vm → w.before a' U = true) (hcode : Cond.codeWith y bytes maxL ret hh ∈ ws) (hinit : ∀ a' U, s.WarmedH U.vm → (Cond.initialized y.cls).before a' U = true) :
    vx_Back l R p e below s sargs y len W9 (PreOf R mc ms Pc) (PostOf Qc mc ms free) (vx_Post XC mc ms free) := by
  intro m meth c A g ig mk a X hg hsize hdg hW hn hp
  have h1 : (headSpec ws rm).pre.before a A.U = true := atoms_intro fun w hw => hws w hw _ _ X.warmed
  have h2 : (Cond.codeWith y bytes maxL ret hh).before a A.U = true := hws _ hcode _ _ X.warmed
  have h3 : (Cond.initialized y.cls).before a A.U = true := hinit _ _ X.warmed
  have h4 : A.cells + (headSpec ws rm).room.cells ≤ R.cells := by rw [show (headSpec ws rm).room.cells = mc from hrc]; exact hp.1
  have h5 : A.slots + (headSpec ws rm).room.slots ≤ R.slots := by rw [show (headSpec ws rm).room.slots = ms from hrs]; exact hp.2.1
  have hPc : Pc a (A.U.calling g mk a) := hblind _ _ _ _ hp.2.2
  obtain ⟨U, Ls, c0, s0⟩ := A
  dsimp only [Pt.U, Pt.locs, Pt.cells, Pt.slots] at h1 h2 h3 h4 h5 X hn hPc ⊢
  obtain ⟨m9, methY, cY, hn9, hmY, hcY, -, hlY, -⟩ := Cond.codeWith_spec h2
  cases Option.some.inj (hn9.symm.trans hn)
  obtain ⟨kY, hkY, -⟩ := className_of_methodNamed hn
  have hinitY : kY.init = .initialized := Cond.initialized_spec (findClass_of_methodNamed hn) hkY h3
  have h : At U g.method c below := by rw [hg]; exact X.here
  have hlocals9 : W9 + (maxL + 11) + (headSpec ws rm).room.locals ≤ R.locals := hlocals
  have happ : (headSpec ws rm).appliesLoose y e.platform (U.calling g mk a) = true :=
    Spec.appliesLoose_calling (g := g) h hdg hn hkY hinitY
      (X.room_calling (g := g) (R' := (headSpec ws rm).room) hsize hmY hcY hframes (by rw [hlY]; omega) h4 h5) h1
  obtain ⟨mid, hmid⟩ := h.above
  have hfr : (U.setTop g).frames = (.java g :: mid) ++ below := by rw [State.frames_setTop' g h.top, hmid]; rfl
  obtain ⟨o, s₂, hsteps, -, hend, hq⟩ := Steps.callFree hM p X.admits X.cas X.clock (acts := []) hfr happ hPc trivial
  have hq' : vx_Q Qc XC mc ms free a (U.calling g mk a) o s₂ := hq
  rw [State.frames_setTop' g h.top] at hend
  obtain ⟨g₀, hg0⟩ := Option.isSome_iff_exists.mp h.top
  obtain ⟨r, hr⟩ := State.topJava?_eq_some.mp hg0
  have hr' : (({ U with heap := s₂.heap, slotsUsed := s₂.slotsUsed } : State).setVm s₂.vm).frames = .java g₀ :: r := hr
  rcases hq' with ⟨hqc, L, hfe, hL⟩ | ⟨q, rfl, E, ce, L, hx, hce, hcv, hcl, hW₂, hsm, hL⟩
  · obtain ⟨⟨v, rfl⟩, hW₂, e2, q2, q3, q4, q5, q6⟩ := id hfe
    have e3 : s₂ = ({ (U.calling g mk a).setFrames s₂.frames with heap := s₂.heap, slotsUsed := s₂.slotsUsed } : State).setVm s₂.vm := by
      have : s₂ = ({ s₂ with vm := (U.calling g mk a).vm } : State).setVm s₂.vm := rfl
      rw [e2] at this
      exact this
    obtain ⟨c₂, i₂, len₂, hc₂, hd₂, hf₂⟩ := hend
    have hW' : U.WarmedH s₂.vm := hW₂
    have hcc : c₂ = c := by
      have h1 : s₂.code? g.method = U.code? g.method := by
        rw [State.code?_eq, State.code?_eq, hW'.alike.method?]
      exact Option.some.inj (hc₂.symm.trans (h1.trans h.code))
    subst hcc
    have hlen : len₂ = len := by rw [hdg] at hd₂; cases hd₂; rfl
    subst hlen
    have hs₂ : s₂ = (({ U with heap := s₂.heap, slotsUsed := s₂.slotsUsed } : State).setVm s₂.vm).setTop { g with pc := g.pc + len₂, stack := v.toList ++ g.stack } := by
      refine e3.trans ?_
      rw [hf₂, State.calling_eq h.top, State.setFrames_setFrames, State.setTop_of_frames _ hr', hr]
      rfl
    have hsame : U.sameButNew ({ U with heap := s₂.heap, slotsUsed := s₂.slotsUsed } : State) L mc ms := by
      refine ⟨?_, q2, q3, q4, q5, q6⟩
      obtain ⟨t, ht, -⟩ := State.frames_cons hr
      show ({ U with heap := s₂.heap, slotsUsed := s₂.slotsUsed } : State) = { U.setFrames U.frames with heap := s₂.heap, slotsUsed := s₂.slotsUsed }
      rw [State.setFrames_self ht]
    subst hg
    refine Or.inl ⟨v, ⟨(({ U with heap := s₂.heap, slotsUsed := s₂.slotsUsed } : State).setVm s₂.vm), Ls ++ L, c0 + mc, s0 + ms⟩,
      ⟨X.admits, X.cas, X.clock, X.frames, X.room, X.hears, X.method, X.code, (X.here.setHeapUsed s₂.heap s₂.slotsUsed).setVm hW'.alike, X.tail, State.WarmedH.trans X.warmed hW', X.limits, X.bytes, X.same.trans (hsame.setVm s.vm)⟩,
      ⟨g, mk, s₂, L, rfl, rfl, hqc, rfl, hL, rfl, rfl⟩, ?_⟩
    show Steps p.tables e below _ ((({ U with heap := s₂.heap, slotsUsed := s₂.slotsUsed } : State).setVm s₂.vm).setTop { g with pc := g.pc + len₂, stack := v.toList ++ g.stack })
    rw [← hs₂]
    exact hsteps
  · obtain ⟨e2, q2, q3, q4, q5, q6⟩ := id hsm
    have e3 : s₂ = ({ (U.calling g mk a).setFrames s₂.frames with heap := s₂.heap, slotsUsed := s₂.slotsUsed } : State).setVm s₂.vm := by
      have : s₂ = ({ s₂ with vm := (U.calling g mk a).vm } : State).setVm s₂.vm := rfl
      rw [e2] at this
      exact this
    have hf₂ : s₂.frames = .throwing q :: .java g :: U.frames.tail := hend
    have hW' : U.WarmedH s₂.vm := hW₂
    have hs₂ : s₂ = ((({ U with heap := s₂.heap, slotsUsed := s₂.slotsUsed } : State).setVm s₂.vm).setTop g).pushFrame (.throwing q) := by
      refine e3.trans ?_
      rw [hf₂, State.calling_eq h.top, State.setFrames_setFrames, State.pushFrame, State.frames_setTop _ hr', State.setTop_of_frames _ hr', State.setFrames_setFrames, hr]
      rfl
    have hsame : U.sameButNew ({ U with heap := s₂.heap, slotsUsed := s₂.slotsUsed } : State) L mc ms := by
      refine ⟨?_, q2, q3, q4, q5, q6⟩
      obtain ⟨t, ht, -⟩ := State.frames_cons hr
      show ({ U with heap := s₂.heap, slotsUsed := s₂.slotsUsed } : State) = { U.setFrames U.frames with heap := s₂.heap, slotsUsed := s₂.slotsUsed }
      rw [State.setFrames_self ht]
    subst hg
    refine Or.inr ⟨q, ⟨(({ U with heap := s₂.heap, slotsUsed := s₂.slotsUsed } : State).setVm s₂.vm), Ls ++ L, c0 + mc, s0 + ms⟩,
      ⟨X.admits, X.cas, X.clock, X.frames, X.room, X.hears, X.method, X.code, (X.here.setHeapUsed s₂.heap s₂.slotsUsed).setVm hW'.alike, X.tail, State.WarmedH.trans X.warmed hW', X.limits, X.bytes, X.same.trans (hsame.setVm s.vm)⟩,
      ⟨g, mk, s₂, L, E, ce, rfl, rfl, hx, hce, hcv, hcl, rfl, hL, rfl, rfl⟩, ?_⟩
    show Steps p.tables e below _ (((({ U with heap := s₂.heap, slotsUsed := s₂.slotsUsed } : State).setVm s₂.vm).setTop g).pushFrame (.throwing q))
    rw [← hs₂]
    exact hsteps
end
variable {p : Program} {l : Launch} {e : Env} {R : Room} {s : State} {m : MethodId} {args : Array Value} {below : List Frame} {meth : Method} {c : Code} {T : State} {H : Heap} {locs : List Loc} {cells slots : Nat}
theorem vx_callVX (X : Stand p l e R s m args below meth c T locs cells slots) (hexec : p.tables.exec = Jvm.exec) {own C : String} {index : Nat} {y : MethodName} {bytes : ByteArray} {maxL : Nat} {ret : Option FieldType} {hh : List (Nat × Nat × Nat × Nat)}
    (hown : s.vm.findClass own = some m.cls) (hlink : (Cond.methodLink own index y).before args s = true) (hinst : (Cond.instanceMethod y).before args s = true) (hsel : (Cond.selects C y y).before args s = true)
    (hcode : (Cond.codeWith y bytes maxL ret hh).before args s = true) (hy : y.cls ≠ "java/lang/invoke/MethodHandle" ∧ y.cls ≠ "java/lang/invoke/VarHandle")
    {W9 : Nat} {Pre : Pt → Array Value → Prop} {Post : Pt → Array Value → Option Value → Pt → Prop} {PostX : Pt → Array Value → Addr → Pt → Prop} (hK : vx_Back l R p e below s args y 3 W9 Pre Post PostX)
    {b : Addr} {cellB : Cell} (hcell : T.heap[b]? = some cellB) (hobj : cellB.vm.isStatics = false) (hcls : s.vm.findClass C = some cellB.cls)
    {g : JFrame} (hg : g.method = m) (hsize : g.locals.size = c.maxLocals) {argsL rest : List Value} (hlen : ∀ sig, parseMethodDescriptor y.desc = some sig → argsL.length = sig.parameters.length)
    (hstack : g.stack = argsL.reverse ++ .ref b :: rest) (hW : 2 * g.monitorRoom + (rest.map fun v => v.category).sum ≤ W9) (hdg : decode c.code g.pc = .ok (.invokevirtual index, 3))
    (hpre : ∀ vm₁, s.WarmedH vm₁ → Pre ⟨T.setVm vm₁, locs, cells, slots⟩ (Value.ref b :: argsL).toArray) :
    (∃ (v : Option Value) (vm₁ : Vm) (B : Pt), s.WarmedH vm₁ ∧ Stand p l e R s m args below meth c B.U B.locs B.cells B.slots ∧ Post ⟨T.setVm vm₁, locs, cells, slots⟩ (Value.ref b :: argsL).toArray v B ∧
      ∀ target, Steps p.tables e below (B.U.setTop { g with pc := g.pc + 3, stack := v.toList ++ rest }) target → Steps p.tables e below (T.setTop g) target) ∨
    (∃ (q : Addr) (vm₁ : Vm) (B : Pt), s.WarmedH vm₁ ∧ Stand p l e R s m args below meth c B.U B.locs B.cells B.slots ∧ PostX ⟨T.setVm vm₁, locs, cells, slots⟩ (Value.ref b :: argsL).toArray q B ∧
      Steps p.tables e below (T.setTop g) ((B.U.setTop { g with stack := rest }).pushFrame (.throwing q))) := by
  obtain ⟨mk, methM, hnamed, hmethM, hstM, habM⟩ := Cond.instanceMethod_spec hinst
  obtain ⟨m8, methM', cM, hn8, hmethM', -, -, -, -, -, -, hsigM⟩ := Cond.codeWith_spec hcode
  cases Option.some.inj (hn8.symm.trans hnamed)
  cases hmethM.symm.trans hmethM'
  obtain ⟨c2, r2, m2, q1, q2, q3, q4, kP, hkP, hkPi⟩ := Cond.selects_spec hsel
  cases hcls.symm.trans q1
  cases (State.methodFound?_of_named hnamed hy).symm.trans q2
  cases hnamed.symm.trans q3
  have hselP : selectMethod e.platform s.vm cellB.cls mk = .method mk := by rw [Launch.admits_selectMethod X.admits]; exact q4
  obtain ⟨vm₁, X₁, hstep₁⟩ := X.invokevirtual hexec hown hlink hnamed hmethM hstM hkP hkPi hy (a := b) (cell := cellB) hcell
    (fun z h => by rw [h] at hobj; cases hobj) hselP hmethM habM hkP hkPi (g := g) hg (argsL := argsL) (rest := rest) (hlen _ hsigM) hstack hdg
  rcases hK m meth c ⟨T.setVm vm₁, locs, cells, slots⟩ { g with stack := rest } (.invokevirtual index) mk (Value.ref b :: argsL).toArray X₁ hg hsize hdg hW (X₁.named hnamed) (hpre vm₁ X₁.warmed) with ⟨v, B, X', hpost, hsteps⟩ | ⟨q, B, X', hpost, hsteps⟩
  · exact Or.inl ⟨v, vm₁, B, X₁.warmed, X', hpost, fun target h => hstep₁ _ fun acts => by rw [doInvoke_state]; exact hsteps.trans h⟩
  · exact Or.inr ⟨q, vm₁, B, X₁.warmed, X', hpost, hstep₁ _ fun acts => by rw [doInvoke_state]; exact hsteps⟩
theorem vx_callSX (X : Stand p l e R s m args below meth c T locs cells slots) (hexec : p.tables.exec = Jvm.exec) {own : String} {index : Nat} {y : MethodName} {bytes : ByteArray} {maxL : Nat} {ret : Option FieldType} {hh : List (Nat × Nat × Nat × Nat)}
    (hown : s.vm.findClass own = some m.cls) (hlink : (Cond.methodLink own index y).before args s = true) (hstat : (Cond.static y).before args s = true) (hinit : (Cond.initialized y.cls).before args s = true)
    (hcode : (Cond.codeWith y bytes maxL ret hh).before args s = true) (hy : y.cls ≠ "java/lang/invoke/MethodHandle" ∧ y.cls ≠ "java/lang/invoke/VarHandle")
    {W9 : Nat} {Pre : Pt → Array Value → Prop} {Post : Pt → Array Value → Option Value → Pt → Prop} {PostX : Pt → Array Value → Addr → Pt → Prop} (hK : vx_Back l R p e below s args y 3 W9 Pre Post PostX)
    {g : JFrame} (hg : g.method = m) (hsize : g.locals.size = c.maxLocals) {argsL rest : List Value} (hlen : ∀ sig, parseMethodDescriptor y.desc = some sig → argsL.length = sig.parameters.length)
    (hstack : g.stack = argsL.reverse ++ rest) (hW : 2 * g.monitorRoom + (rest.map fun v => v.category).sum ≤ W9) (hdg : decode c.code g.pc = .ok (.invokestatic index, 3))
    (hpre : ∀ vm₁, s.WarmedH vm₁ → Pre ⟨T.setVm vm₁, locs, cells, slots⟩ argsL.toArray) :
    (∃ (v : Option Value) (vm₁ : Vm) (B : Pt), s.WarmedH vm₁ ∧ Stand p l e R s m args below meth c B.U B.locs B.cells B.slots ∧ Post ⟨T.setVm vm₁, locs, cells, slots⟩ argsL.toArray v B ∧
      ∀ target, Steps p.tables e below (B.U.setTop { g with pc := g.pc + 3, stack := v.toList ++ rest }) target → Steps p.tables e below (T.setTop g) target) ∨
    (∃ (q : Addr) (vm₁ : Vm) (B : Pt), s.WarmedH vm₁ ∧ Stand p l e R s m args below meth c B.U B.locs B.cells B.slots ∧ PostX ⟨T.setVm vm₁, locs, cells, slots⟩ argsL.toArray q B ∧
      Steps p.tables e below (T.setTop g) ((B.U.setTop { g with stack := rest }).pushFrame (.throwing q))) := by
  obtain ⟨mk, methM, cM, hnamed, hmethM, -, -, -, -, -, -, hsigM⟩ := Cond.codeWith_spec hcode
  have hstatic : methM.isStatic = true := Cond.static_spec hnamed hmethM hstat
  obtain ⟨kP, hkP, -⟩ := className_of_methodNamed hnamed
  have hinitP : kP.init = .initialized := Cond.initialized_spec (findClass_of_methodNamed hnamed) hkP hinit
  obtain ⟨vm₁, X₁, hstep₁⟩ := X.invokestatic hexec hown hlink hnamed hmethM hstatic hkP hinitP hy (g := g) hg (argsL := argsL) (rest := rest) (hlen _ hsigM) hstack hdg
  rcases hK m meth c ⟨T.setVm vm₁, locs, cells, slots⟩ { g with stack := rest } (.invokestatic index) mk argsL.toArray X₁ hg hsize hdg hW (X₁.named hnamed) (hpre vm₁ X₁.warmed) with ⟨v, B, X', hpost, hsteps⟩ | ⟨q, B, X', hpost, hsteps⟩
  · exact Or.inl ⟨v, vm₁, B, X₁.warmed, X', hpost, fun target h => hstep₁ _ fun acts => by rw [doInvoke_state]; exact hsteps.trans h⟩
  · exact Or.inr ⟨q, vm₁, B, X₁.warmed, X', hpost, hstep₁ _ fun acts => by rw [doInvoke_state]; exact hsteps⟩
theorem vx_callVW (X : Stand p l e R s m args below meth c T locs cells slots) (hexec : p.tables.exec = Jvm.exec) {own C : String} {index : Nat} {y : MethodName} {bytes : ByteArray} {maxL : Nat} {ret : Option FieldType} {hh : List (Nat × Nat × Nat × Nat)}
    (hown : s.vm.findClass own = some m.cls) (hlink : (Cond.methodLink own index y).before args s = true) (hinst : (Cond.instanceMethod y).before args s = true) (hsel : (Cond.selects C y y).before args s = true)
    (hcode : (Cond.codeWith y bytes maxL ret hh).before args s = true) (hy : y.cls ≠ "java/lang/invoke/MethodHandle" ∧ y.cls ≠ "java/lang/invoke/VarHandle")
    {W9 : Nat} {Pre : Pt → Array Value → Prop} {Post : Pt → Array Value → Option Value → Pt → Prop} (hK : Back l R p e below s args y 3 W9 Pre Post)
    {b : Addr} {cellB : Cell} (hcell : T.heap[b]? = some cellB) (hobj : cellB.vm.isStatics = false) (hcls : s.vm.findClass C = some cellB.cls)
    {g : JFrame} (hg : g.method = m) (hsize : g.locals.size = c.maxLocals) {argsL rest : List Value} (hlen : ∀ sig, parseMethodDescriptor y.desc = some sig → argsL.length = sig.parameters.length)
    (hstack : g.stack = argsL.reverse ++ .ref b :: rest) (hW : 2 * g.monitorRoom + (rest.map fun v => v.category).sum ≤ W9) (hdg : decode c.code g.pc = .ok (.invokevirtual index, 3))
    (hpre : ∀ vm₁, s.WarmedH vm₁ → Pre ⟨T.setVm vm₁, locs, cells, slots⟩ (Value.ref b :: argsL).toArray) :
    ∃ (v : Option Value) (vm₁ : Vm) (B : Pt), s.WarmedH vm₁ ∧ Stand p l e R s m args below meth c B.U B.locs B.cells B.slots ∧ Post ⟨T.setVm vm₁, locs, cells, slots⟩ (Value.ref b :: argsL).toArray v B ∧
      ∀ target, Steps p.tables e below (B.U.setTop { g with pc := g.pc + 3, stack := v.toList ++ rest }) target → Steps p.tables e below (T.setTop g) target := by
  obtain ⟨mk, methM, hnamed, hmethM, hstM, habM⟩ := Cond.instanceMethod_spec hinst
  obtain ⟨m8, methM', cM, hn8, hmethM', -, -, -, -, -, -, hsigM⟩ := Cond.codeWith_spec hcode
  cases Option.some.inj (hn8.symm.trans hnamed)
  cases hmethM.symm.trans hmethM'
  obtain ⟨c2, r2, m2, q1, q2, q3, q4, kP, hkP, hkPi⟩ := Cond.selects_spec hsel
  cases hcls.symm.trans q1
  cases (State.methodFound?_of_named hnamed hy).symm.trans q2
  cases hnamed.symm.trans q3
  have hselP : selectMethod e.platform s.vm cellB.cls mk = .method mk := by rw [Launch.admits_selectMethod X.admits]; exact q4
  obtain ⟨vm₁, X₁, hstep₁⟩ := X.invokevirtual hexec hown hlink hnamed hmethM hstM hkP hkPi hy (a := b) (cell := cellB) hcell
    (fun z h => by rw [h] at hobj; cases hobj) hselP hmethM habM hkP hkPi (g := g) hg (argsL := argsL) (rest := rest) (hlen _ hsigM) hstack hdg
  obtain ⟨v, B, X', hpost, hsteps⟩ := hK m meth c ⟨T.setVm vm₁, locs, cells, slots⟩ { g with stack := rest } (.invokevirtual index) mk (Value.ref b :: argsL).toArray X₁ hg hsize hdg hW (X₁.named hnamed) (hpre vm₁ X₁.warmed)
  exact ⟨v, vm₁, B, X₁.warmed, X', hpost, fun target h => hstep₁ _ fun acts => by rw [doInvoke_state]; exact hsteps.trans h⟩
abbrev vx_CVW (R : Room) (s : State) (args : Array Value) (own C : String) (index : Nat) (y : MethodName) (bytes : ByteArray) (maxL : Nat) (ret : Option FieldType) (hh : List (Nat × Nat × Nat × Nat)) (ws : List Cond) (rm : Room) (mc ms n : Nat) : Prop :=
  (rm.cells = mc ∧ rm.slots = ms ∧ rm.frames + 1 ≤ R.frames ∧ 8 + (maxL + 11) + rm.locals ≤ R.locals ∧ (∀ w ∈ ws, ∀ (a' : Array Value) (U : State), s.WarmedH U.vm → w.before a' U = true) ∧ Cond.codeWith y bytes maxL ret hh ∈ ws) ∧
  (Cond.codeWith y bytes maxL ret hh).before args s = true ∧ (Cond.initialized y.cls).before args s = true ∧ (y.cls ≠ "java/lang/invoke/MethodHandle" ∧ y.cls ≠ "java/lang/invoke/VarHandle") ∧
  (∀ sig, parseMethodDescriptor y.desc = some sig → n = sig.parameters.length) ∧ (Cond.methodLink own index y).before args s = true ∧ (Cond.instanceMethod y).before args s = true ∧ (Cond.selects C y y).before args s = true
theorem vx_cwVW {own C : String} {index maxL mc ms : Nat} {y : MethodName} {bytes : ByteArray} {ret : Option FieldType} {hh : List (Nat × Nat × Nat × Nat)} {Ts ws ws' : List Cond} {rm : Room} (n : Nat) (ht : ∀ w ∈ Ts, w.before args s = true) (hT : GoodIn Ts (wsV own index C y ws)) (hw : ws = Cond.codeWith y bytes maxL ret hh :: ws') (hrc : rm.cells = mc) (hrs : rm.slots = ms)
    (hd : y.cls = C ∧ y.cls ≠ "java/lang/invoke/MethodHandle" ∧ y.cls ≠ "java/lang/invoke/VarHandle" ∧ (parseMethodDescriptor y.desc).map (fun d => d.parameters.length) = some n) (hR : rm.frames + 1 ≤ R.frames ∧ 8 + (maxL + 11) + rm.locals ≤ R.locals) :
    vx_CVW R s args own C index y bytes maxL ret hh ws rm mc ms n := by
  obtain ⟨hC, hd⟩ := hd
  subst hC
  have ok : ∀ w ∈ wsV own index y.cls y ws, w.before args s = true := fun w h => ht w (hT w h).1
  have hG : GoodIn Ts ws := fun w h => hT w (by unfold wsV; exact List.mem_append_right _ h)
  have hc : Cond.codeWith y bytes maxL ret hh ∈ ws := by rw [hw]; exact List.mem_cons_self
  refine ⟨⟨hrc, hrs, hR.1, hR.2, pay_in ht hG, hc⟩, ht _ (hG _ hc).1, ok _ (by simp [wsV]), ⟨hd.1, hd.2.1⟩, fun sig h => ?_, ok _ (by simp [wsV]), ok _ (by simp [wsV]), ok _ (by simp [wsV])⟩
  have h2 := hd.2.2
  rw [h] at h2
  exact (Option.some.inj h2).symm
theorem vx_runVW {y : MethodName} {bytes cc : ByteArray} {maxL nL mc ms n index : Nat} {ret : Option FieldType} {hh : List (Nat × Nat × Nat × Nat)} {ws : List Cond} {rm : Room} {Pc : Array Value → State → Prop} {Qc : Array Value → State → Outcome → State → Prop} {free : Addr → Prop} {Ts : List Cond} {own C : String} {b : Addr} {As rest : List Value} {g : JFrame}
    (S : CallFix p m c cc nL s args Ts own) (hM : Met l y ws rm Pc Qc mc ms free) (cw : vx_CVW R s args own C index y bytes maxL ret hh ws rm mc ms n) (hp : PreV s H C b Pc As)
    (hg : g.method = m) (hn : As.length = n) (hsize : g.locals.size = nL) (hstack : g.stack = As.reverse ++ .ref b :: rest) (hW : 2 * g.monitorRoom + (rest.map fun v => v.category).sum ≤ 8) (hdg : decode cc g.pc = .ok (.invokevirtual index, 3)) (hf : cells + mc ≤ R.cells ∧ slots + ms ≤ R.slots) :
    va_Run p l e R s m args below meth c H locs cells slots mc ms g rest (Qc (Value.ref b :: As).toArray) free := by
  obtain ⟨⟨hrc, hrs, hfr, hlo, hws, hcw⟩, hcode, hini, hy, hlen, hl, hin, hse⟩ := cw
  have hK : Back l R p e below s args y 3 8 (PreOf R mc ms Pc) (PostOf Qc mc ms free) := va_backW (hh := hh) (bytes := bytes) (maxL := maxL) (ret := ret) hM hp.1 hrc hrs hfr hlo hws hcw (fun a' U hW => word_at hW (Or.inl (by first | rfl | simp [Cond.onTables, Cond.keeps, Cond.steady])) hini)
  obtain ⟨hx, hb, hml, ho, -⟩ := S
  obtain ⟨-, ⟨cellB, hcB, hoB, hclB⟩, hPc⟩ := hp
  intro T hT X
  obtain ⟨v, vm₁, ⟨U', l2, c2, s2⟩, hW₁, X', ⟨g', mk, t, L, e1, e2, hq, h1, hL, h2, h3⟩, st⟩ := vx_callVW X hx (C := C) (hh := hh) (bytes := bytes) (maxL := maxL) (ret := ret) ho hl hin hse hcode hy hK (by rw [hT]; exact hcB) hoB hclB hg (hsize.trans hml.symm) (argsL := As) (rest := rest) (fun sig h => hn.trans (hlen sig h)) hstack hW (by rw [hb]; exact hdg)
    (fun vm₁ hW₁ => ⟨hf.1, hf.2, hPc (T.setVm vm₁) hT hW₁⟩)
  dsimp only [Pt.U, Pt.locs, Pt.cells, Pt.slots] at X' e1 e2 h1 h2 h3 st
  subst h1; subst h2; subst h3
  exact ⟨v, (T.setVm vm₁).calling g' mk (Value.ref b :: As).toArray, t, U', L, hT, X', hL, e1, e2, hq, st⟩
section
variable {y : MethodName} {bytes cc : ByteArray} {maxL nL mc ms n index : Nat} {ret : Option FieldType} {ws : List Cond} {rm : Room} {Pc : Array Value → State → Prop} {Qc : Array Value → State → Outcome → State → Prop} {XC : String → State → State → Prop} {free : Addr → Prop} {Ts : List Cond} {own C : String} {b : Addr} {As rest : List Value} {g : JFrame}
theorem vx_runVX {hh : List (Nat × Nat × Nat × Nat)} (S : CallFix p m c cc nL s args Ts own) (hM : vx_Met l y ws rm Pc Qc XC mc ms free) (cw : vx_CVW R s args own C index y bytes maxL ret hh ws rm mc ms n) (hp : PreV s H C b Pc As)
    (hg : g.method = m) (hn : As.length = n) (hsize : g.locals.size = nL) (hstack : g.stack = As.reverse ++ .ref b :: rest) (hW : 2 * g.monitorRoom + (rest.map fun v => v.category).sum ≤ 8) (hdg : decode cc g.pc = .ok (.invokevirtual index, 3)) (hf : cells + mc ≤ R.cells ∧ slots + ms ≤ R.slots) :
    vx_Run p l e R s m args below meth c H locs cells slots mc ms g rest (Qc (Value.ref b :: As).toArray) XC free := by
  obtain ⟨⟨hrc, hrs, hfr, hlo, hws, hcw⟩, hcode, hini, hy, hlen, hl, hin, hse⟩ := cw
  have hK : vx_Back l R p e below s args y 3 8 (PreOf R mc ms Pc) (PostOf Qc mc ms free) (vx_Post XC mc ms free) := vx_backW (hh := hh) (bytes := bytes) (maxL := maxL) (ret := ret) hM hp.1 hrc hrs hfr hlo hws hcw (fun a' U hW => word_at hW (Or.inl (by first | rfl | simp [Cond.onTables, Cond.keeps, Cond.steady])) hini)
  obtain ⟨hx, hb, hml, ho, -⟩ := S
  obtain ⟨-, ⟨cellB, hcB, hoB, hclB⟩, hPc⟩ := hp
  intro T hT X
  rcases vx_callVX X hx (C := C) (hh := hh) (bytes := bytes) (maxL := maxL) (ret := ret) ho hl hin hse hcode hy hK (by rw [hT]; exact hcB) hoB hclB hg (hsize.trans hml.symm) (argsL := As) (rest := rest) (fun sig h => hn.trans (hlen sig h)) hstack hW (by rw [hb]; exact hdg)
    (fun vm₁ hW₁ => ⟨hf.1, hf.2, hPc (T.setVm vm₁) hT hW₁⟩) with ⟨v, vm₁, ⟨U', l2, c2, s2⟩, hW₁, X', ⟨g', mk, t, L, e1, e2, hq, h1, hL, h2, h3⟩, st⟩ | ⟨q, vm₁, ⟨U', l2, c2, s2⟩, hW₁, X', ⟨g', mk, t, L, E, ce, e1, e2, hq, hce, hcv, hcl, h1, hL, h2, h3⟩, st⟩
  · dsimp only [Pt.U, Pt.locs, Pt.cells, Pt.slots] at X' e1 e2 h1 h2 h3 st
    subst h1; subst h2; subst h3
    exact Or.inl ⟨v, (T.setVm vm₁).calling g' mk (Value.ref b :: As).toArray, t, U', L, hT, X', hL, e1, e2, hq, st⟩
  · dsimp only [Pt.U, Pt.locs, Pt.cells, Pt.slots] at X' e1 e2 h1 h2 h3 st hcl
    subst h1; subst h2; subst h3
    exact Or.inr ⟨q, (T.setVm vm₁).calling g' mk (Value.ref b :: As).toArray, t, U', L, E, ce, hT, X', hL, e1, e2, hq, hce, hcv, vx_cls hW₁ hcl, st⟩
theorem vx_runSX {hh : List (Nat × Nat × Nat × Nat)} (S : CallFix p m c cc nL s args Ts own) (hM : vx_Met l y ws rm Pc Qc XC mc ms free) (cw : vx_CSW R s args own index y bytes maxL ret hh ws rm mc ms n) (hp : PreS s H Pc As)
    (hg : g.method = m) (hn : As.length = n) (hsize : g.locals.size = nL) (hstack : g.stack = As.reverse ++ rest) (hW : 2 * g.monitorRoom + (rest.map fun v => v.category).sum ≤ 8) (hdg : decode cc g.pc = .ok (.invokestatic index, 3)) (hf : cells + mc ≤ R.cells ∧ slots + ms ≤ R.slots) :
    vx_Run p l e R s m args below meth c H locs cells slots mc ms g rest (Qc As.toArray) XC free := by
  obtain ⟨⟨hrc, hrs, hfr, hlo, hws, hcw⟩, hcode, hini, hy, hlen, hl, hstt⟩ := cw
  have hK : vx_Back l R p e below s args y 3 8 (PreOf R mc ms Pc) (PostOf Qc mc ms free) (vx_Post XC mc ms free) := vx_backW (hh := hh) (bytes := bytes) (maxL := maxL) (ret := ret) hM hp.1 hrc hrs hfr hlo hws hcw (fun a' U hW => word_at hW (Or.inl (by first | rfl | simp [Cond.onTables, Cond.keeps, Cond.steady])) hini)
  obtain ⟨hx, hb, hml, ho, -⟩ := S
  intro T hT X
  rcases vx_callSX X hx (hh := hh) (bytes := bytes) (maxL := maxL) (ret := ret) ho hl hstt hini hcode hy hK hg (hsize.trans hml.symm) (argsL := As) (rest := rest) (fun sig h => hn.trans (hlen sig h)) hstack hW (by rw [hb]; exact hdg)
    (fun vm₁ hW₁ => ⟨hf.1, hf.2, hp.2 (T.setVm vm₁) hT hW₁⟩) with ⟨v, vm₁, ⟨U', l2, c2, s2⟩, hW₁, X', ⟨g', mk, t, L, e1, e2, hq, h1, hL, h2, h3⟩, st⟩ | ⟨q, vm₁, ⟨U', l2, c2, s2⟩, hW₁, X', ⟨g', mk, t, L, E, ce, e1, e2, hq, hce, hcv, hcl, h1, hL, h2, h3⟩, st⟩
  · dsimp only [Pt.U, Pt.locs, Pt.cells, Pt.slots] at X' e1 e2 h1 h2 h3 st
    subst h1; subst h2; subst h3
    exact Or.inl ⟨v, (T.setVm vm₁).calling g' mk As.toArray, t, U', L, hT, X', hL, e1, e2, hq, st⟩
  · dsimp only [Pt.U, Pt.locs, Pt.cells, Pt.slots] at X' e1 e2 h1 h2 h3 st hcl
    subst h1; subst h2; subst h3
    exact Or.inr ⟨q, (T.setVm vm₁).calling g' mk As.toArray, t, U', L, E, ce, hT, X', hL, e1, e2, hq, hce, hcv, vx_cls hW₁ hcl, st⟩
end
end VXH
theorem vx_ofWH {l : Launch} {y : MethodName} {ws ws' : List Cond} {rm : Room} {Pc : Array Value → State → Prop} {Qc : Array Value → State → Outcome → State → Prop} {XC : String → State → State → Prop} {mc ms : Nat} {free : Addr → Prop} {cc : ByteArray} {maxL : Nat} {ret : Option FieldType} {hh : List (Nat × Nat × Nat × Nat)}
    (hy : plainName y.cls = true) (hw : ws = Cond.codeWith y cc maxL ret hh :: ws')
    (body : ∀ p e s m args below meth c s₁, BodyLoose p l y (headSpec ws rm) cc maxL ret e s m args below meth c s₁ → c.maxLocals = maxL → Pc args s →
      W p l e (headSpec ws rm).room s m args below meth c s.heap [] 0 0 (vx_MQ below Qc XC args s mc ms free) (entryFrame m args maxL)) : vx_Met l y ws rm Pc Qc XC mc ms free := by
  refine MetFree.of_bodyS (code := cc) (maxLocals := maxL) (ret := ret) hy ?_ ?_
  · intro args s m h hn
    obtain ⟨m9, meth, c, hn9, h1, h2, h3, h4, -, h5, h6, -⟩ := Cond.codeWith_spec (atoms_spec (ws := ws) h _ (by rw [hw]; exact List.mem_cons_self))
    cases hn.symm.trans hn9
    exact ⟨meth, c, h1, h2, h3, h4, h5, h6⟩
  · intro p e s m args below meth c s₁ B hml hP _
    have hh0 : s₁.heap = s.heap := by rw [B.state]; rfl
    obtain ⟨t, a1, o, b1, b2, b3⟩ := body p e s m args below meth c s₁ B hml hP s₁ hh0 (Stand.of_body B)
    exact ⟨t, o, a1, b1, b2, b3⟩
/-! ===== END ===== -/
end
section
/-! ===== BEGIN printed: names, fields, word lists, decode rows ===== -/
def RX0 : String := "Mastline$Lease"
def TX0 : u_T := fun k => match k with
  | 0 => ("Mastline$Lease", "farmer", "I", true)
  | 1 => ("Mastline$Lease", "other", "I", true)
  | 2 => ("Mastline$Lease", "tenths", "I", true)
  | 3 => ("Mastline$Lease", "until", "I", true)
  | 4 => ("Mastline$Lease", "rent", "I", true)
  | _ => ("Mastline$Lease", "byCall", "I", true)
def tyX0 : Nat → FieldType := fun k => match k with
  | 0 => .int
  | 1 => .int
  | 2 => .int
  | 3 => .int
  | 4 => .int
  | _ => .int
abbrev wsX00 : List Cond := u_ws RX0 TX0 6
theorem nmX0 : ∀ a, a < 6 → ∀ b, b < 6 → a ≠ b → (TX0 a).2.1 ≠ (TX0 b).2.1 := by decide +kernel
theorem tyX0_ok : ∀ k, k < 6 → parseFieldDescriptor (TX0 k).2.2.1 = some (tyX0 k) := by decide +kernel
abbrev cX0_init : ByteArray := prog_2_method_1_code
def yX0_init : MethodName := ⟨RX0, "<init>", "(IIIIII)V"⟩
def RX1 : String := "Mastline$Log"
def TX1 : u_T := fun k => match k with
  | 0 => ("Mastline$Log", "came", "[I", true)
  | 1 => ("Mastline$Log", "went", "[I", true)
  | 2 => ("Mastline$Log", "before", "LMastline$Log;", true)
  | _ => ("Mastline$Log", "size", "I", false)
def tyX1 : Nat → FieldType := fun k => match k with
  | 0 => .array .int
  | 1 => .array .int
  | 2 => .object "Mastline$Log"
  | _ => .int
abbrev wsX10 : List Cond := u_ws RX1 TX1 4
theorem nmX1 : ∀ a, a < 4 → ∀ b, b < 4 → a ≠ b → (TX1 a).2.1 ≠ (TX1 b).2.1 := by decide +kernel
theorem tyX1_ok : ∀ k, k < 4 → parseFieldDescriptor (TX1 k).2.2.1 = some (tyX1 k) := by decide +kernel
abbrev cX1_init : ByteArray := prog_3_method_1_code
def yX1_init : MethodName := ⟨RX1, "<init>", "(LMastline$Log;)V"⟩
abbrev cX1_isFull : ByteArray := prog_3_method_2_code
def yX1_isFull : MethodName := ⟨RX1, "isFull", "()Z"⟩
abbrev cX1_add : ByteArray := prog_3_method_3_code
def yX1_add : MethodName := ⟨RX1, "add", "(II)V"⟩
abbrev cX1_hours : ByteArray := prog_3_method_4_code
def yX1_hours : MethodName := ⟨RX1, "hours", "()I"⟩
def RX2 : String := "Mastline$Mast"
def TX2 : u_T := fun k => match k with
  | 0 => ("Mastline$Mast", "number", "I", true)
  | 1 => ("Mastline$Mast", "place", "I", true)
  | 2 => ("Mastline$Mast", "range", "I", true)
  | 3 => ("Mastline$Mast", "calls", "I", true)
  | 4 => ("Mastline$Mast", "panels", "I", true)
  | 5 => ("Mastline$Mast", "battery", "I", true)
  | 6 => ("Mastline$Mast", "grid", "Z", true)
  | 7 => ("Mastline$Mast", "lease", "LMastline$Lease;", false)
  | 8 => ("Mastline$Mast", "out", "Z", false)
  | 9 => ("Mastline$Mast", "carried", "I", false)
  | 10 => ("Mastline$Mast", "stored", "I", false)
  | 11 => ("Mastline$Mast", "ofGrid", "I", false)
  | 12 => ("Mastline$Mast", "traffic", "I", false)
  | _ => ("Mastline$Mast", "log", "LMastline$Log;", false)
def tyX2 : Nat → FieldType := fun k => match k with
  | 0 => .int
  | 1 => .int
  | 2 => .int
  | 3 => .int
  | 4 => .int
  | 5 => .int
  | 6 => .boolean
  | 7 => .object "Mastline$Lease"
  | 8 => .boolean
  | 9 => .int
  | 10 => .int
  | 11 => .int
  | 12 => .int
  | _ => .object "Mastline$Log"
abbrev wsX20 : List Cond := u_ws RX2 TX2 14
theorem nmX2 : ∀ a, a < 14 → ∀ b, b < 14 → a ≠ b → (TX2 a).2.1 ≠ (TX2 b).2.1 := by decide +kernel
theorem tyX2_ok : ∀ k, k < 14 → parseFieldDescriptor (TX2 k).2.2.1 = some (tyX2 k) := by decide +kernel
abbrev cX2_init : ByteArray := prog_4_method_1_code
def yX2_init : MethodName := ⟨RX2, "<init>", "(IIIIIIZ)V"⟩
abbrev cX2_isOn : ByteArray := prog_4_method_2_code
def yX2_isOn : MethodName := ⟨RX2, "isOn", "()Z"⟩
abbrev cX2_distanceTo : ByteArray := prog_4_method_3_code
def yX2_distanceTo : MethodName := ⟨RX2, "distanceTo", "(I)I"⟩
abbrev cX2_covers : ByteArray := prog_4_method_4_code
def yX2_covers : MethodName := ⟨RX2, "covers", "(I)Z"⟩
abbrev cX2_canTake : ByteArray := prog_4_method_5_code
def yX2_canTake : MethodName := ⟨RX2, "canTake", "(I)Z"⟩
abbrev cX2_takePower : ByteArray := prog_4_method_6_code
def yX2_takePower : MethodName := ⟨RX2, "takePower", "(I)V"⟩
abbrev cX2_logStay : ByteArray := prog_4_method_7_code
def yX2_logStay : MethodName := ⟨RX2, "logStay", "(II)V"⟩
abbrev cX2_hoursOfLog : ByteArray := prog_4_method_8_code
def yX2_hoursOfLog : MethodName := ⟨RX2, "hoursOfLog", "()I"⟩
def RX3 : String := "Mastline$Phone"
def TX3 : u_T := fun k => match k with
  | 0 => ("Mastline$Phone", "place", "I", false)
  | 1 => ("Mastline$Phone", "carrier", "LMastline$Mast;", false)
  | 2 => ("Mastline$Phone", "came", "I", false)
  | 3 => ("Mastline$Phone", "blocked", "I", false)
  | 4 => ("Mastline$Phone", "dropped", "I", false)
  | _ => ("Mastline$Phone", "handedOver", "I", false)
def tyX3 : Nat → FieldType := fun k => match k with
  | 0 => .int
  | 1 => .object "Mastline$Mast"
  | 2 => .int
  | 3 => .int
  | 4 => .int
  | _ => .int
abbrev wsX30 : List Cond := u_ws RX3 TX3 6
theorem nmX3 : ∀ a, a < 6 → ∀ b, b < 6 → a ≠ b → (TX3 a).2.1 ≠ (TX3 b).2.1 := by decide +kernel
theorem tyX3_ok : ∀ k, k < 6 → parseFieldDescriptor (TX3 k).2.2.1 = some (tyX3 k) := by decide +kernel
abbrev cX3_init : ByteArray := prog_5_method_1_code
def yX3_init : MethodName := ⟨RX3, "<init>", "(I)V"⟩
abbrev cX3_carrierNumber : ByteArray := prog_5_method_2_code
def yX3_carrierNumber : MethodName := ⟨RX3, "carrierNumber", "()I"⟩
abbrev cX3_comeTo : ByteArray := prog_5_method_3_code
def yX3_comeTo : MethodName := ⟨RX3, "comeTo", "(LMastline$Mast;I)V"⟩
abbrev cX3_goAway : ByteArray := prog_5_method_4_code
def yX3_goAway : MethodName := ⟨RX3, "goAway", "(I)V"⟩
def RX4 : String := "Mastline"
def TX4 : u_T := fun k => match k with
  | 0 => ("Mastline", "masts", "[LMastline$Mast;", true)
  | 1 => ("Mastline", "phones", "[LMastline$Phone;", true)
  | 2 => ("Mastline", "paidTo", "[I", true)
  | 3 => ("Mastline", "hour", "I", false)
  | _ => ("Mastline", "sunNow", "I", false)
def tyX4 : Nat → FieldType := fun k => match k with
  | 0 => .array (.object "Mastline$Mast")
  | 1 => .array (.object "Mastline$Phone")
  | 2 => .array .int
  | 3 => .int
  | _ => .int
abbrev wsX40 : List Cond := u_ws RX4 TX4 5
theorem nmX4 : ∀ a, a < 5 → ∀ b, b < 5 → a ≠ b → (TX4 a).2.1 ≠ (TX4 b).2.1 := by decide +kernel
theorem tyX4_ok : ∀ k, k < 5 → parseFieldDescriptor (TX4 k).2.2.1 = some (tyX4 k) := by decide +kernel
abbrev cX4_init : ByteArray := prog_1_method_1_code
def yX4_init : MethodName := ⟨RX4, "<init>", "()V"⟩
abbrev cX4_mast : ByteArray := prog_1_method_2_code
def yX4_mast : MethodName := ⟨RX4, "mast", "(IIIIIZ)I"⟩
abbrev cX4_lease : ByteArray := prog_1_method_3_code
def yX4_lease : MethodName := ⟨RX4, "lease", "(IIIIIII)V"⟩
abbrev cX4_sun : ByteArray := prog_1_method_4_code
def yX4_sun : MethodName := ⟨RX4, "sun", "(I)I"⟩
abbrev cX4_phone : ByteArray := prog_1_method_5_code
def yX4_phone : MethodName := ⟨RX4, "phone", "(I)I"⟩
abbrev cX4_call : ByteArray := prog_1_method_6_code
def yX4_call : MethodName := ⟨RX4, "call", "(I)I"⟩
abbrev cX4_end : ByteArray := prog_1_method_7_code
def yX4_end : MethodName := ⟨RX4, "end", "(I)I"⟩
abbrev cX4_move : ByteArray := prog_1_method_8_code
def yX4_move : MethodName := ⟨RX4, "move", "(II)I"⟩
abbrev cX4_pass : ByteArray := prog_1_method_9_code
def yX4_pass : MethodName := ⟨RX4, "pass", "(I)I"⟩
abbrev cX4_ofMast : ByteArray := prog_1_method_10_code
def yX4_ofMast : MethodName := ⟨RX4, "ofMast", "(II)I"⟩
abbrev cX4_trafficAnew : ByteArray := prog_1_method_11_code
def yX4_trafficAnew : MethodName := ⟨RX4, "trafficAnew", "(I)I"⟩
abbrev cX4_ofPhone : ByteArray := prog_1_method_12_code
def yX4_ofPhone : MethodName := ⟨RX4, "ofPhone", "(II)I"⟩
abbrev cX4_strength : ByteArray := prog_1_method_13_code
def yX4_strength : MethodName := ⟨RX4, "strength", "(I)F"⟩
abbrev cX4_paid : ByteArray := prog_1_method_14_code
def yX4_paid : MethodName := ⟨RX4, "paid", "(I)I"⟩
abbrev cX4_holes : ByteArray := prog_1_method_15_code
def yX4_holes : MethodName := ⟨RX4, "holes", "()I"⟩
abbrev cX4_isWithin : ByteArray := prog_1_method_16_code
def yX4_isWithin : MethodName := ⟨RX4, "isWithin", "(III)Z"⟩
abbrev cX4_isPlace : ByteArray := prog_1_method_17_code
def yX4_isPlace : MethodName := ⟨RX4, "isPlace", "(I)Z"⟩
abbrev cX4_isFarmer : ByteArray := prog_1_method_18_code
def yX4_isFarmer : MethodName := ⟨RX4, "isFarmer", "(I)Z"⟩
abbrev cX4_mastAt : ByteArray := prog_1_method_19_code
def yX4_mastAt : MethodName := ⟨RX4, "mastAt", "(I)LMastline$Mast;"⟩
abbrev cX4_phoneAt : ByteArray := prog_1_method_20_code
def yX4_phoneAt : MethodName := ⟨RX4, "phoneAt", "(I)LMastline$Phone;"⟩
abbrev cX4_isCovered : ByteArray := prog_1_method_21_code
def yX4_isCovered : MethodName := ⟨RX4, "isCovered", "(I)Z"⟩
abbrev cX4_nearestFree : ByteArray := prog_1_method_22_code
def yX4_nearestFree : MethodName := ⟨RX4, "nearestFree", "(I)LMastline$Mast;"⟩
abbrev cX4_handOverOrDrop : ByteArray := prog_1_method_23_code
def yX4_handOverOrDrop : MethodName := ⟨RX4, "handOverOrDrop", "(LMastline$Phone;)V"⟩
abbrev cX4_letAnHourGoBy : ByteArray := prog_1_method_24_code
def yX4_letAnHourGoBy : MethodName := ⟨RX4, "letAnHourGoBy", "()V"⟩
abbrev cX4_countTraffic : ByteArray := prog_1_method_25_code
def yX4_countTraffic : MethodName := ⟨RX4, "countTraffic", "()V"⟩
abbrev cX4_payRents : ByteArray := prog_1_method_26_code
def yX4_payRents : MethodName := ⟨RX4, "payRents", "()V"⟩
abbrev cX4_payRent : ByteArray := prog_1_method_27_code
def yX4_payRent : MethodName := ⟨RX4, "payRent", "(LMastline$Lease;I)V"⟩
abbrev cX4_pay : ByteArray := prog_1_method_28_code
def yX4_pay : MethodName := ⟨RX4, "pay", "(II)V"⟩
abbrev cX4_powerMasts : ByteArray := prog_1_method_29_code
def yX4_powerMasts : MethodName := ⟨RX4, "powerMasts", "()V"⟩
abbrev cX4_endLeases : ByteArray := prog_1_method_30_code
def yX4_endLeases : MethodName := ⟨RX4, "endLeases", "()V"⟩
abbrev cX4_leaveMastsThatAreNotOn : ByteArray := prog_1_method_31_code
def yX4_leaveMastsThatAreNotOn : MethodName := ⟨RX4, "leaveMastsThatAreNotOn", "()V"⟩
def RX5 : String := "MastlineModel"
def TX5 : u_T := fun k => match k with
  | 0 => ("MastlineModel", "now", "I", false)
  | 1 => ("MastlineModel", "sunNow", "I", false)
  | 2 => ("MastlineModel", "mastMany", "I", false)
  | 3 => ("MastlineModel", "places", "[I", true)
  | 4 => ("MastlineModel", "ranges", "[I", true)
  | 5 => ("MastlineModel", "rooms", "[I", true)
  | 6 => ("MastlineModel", "panels", "[I", true)
  | 7 => ("MastlineModel", "holds", "[I", true)
  | 8 => ("MastlineModel", "isOnGrid", "[Z", true)
  | 9 => ("MastlineModel", "batteries", "[I", true)
  | 10 => ("MastlineModel", "wasOut", "[Z", true)
  | 11 => ("MastlineModel", "untils", "[I", true)
  | 12 => ("MastlineModel", "firsts", "[I", true)
  | 13 => ("MastlineModel", "others", "[I", true)
  | 14 => ("MastlineModel", "parts", "[I", true)
  | 15 => ("MastlineModel", "rents", "[I", true)
  | 16 => ("MastlineModel", "byCalls", "[I", true)
  | 17 => ("MastlineModel", "ofGrid", "[I", true)
  | 18 => ("MastlineModel", "traffic", "[I", true)
  | 19 => ("MastlineModel", "phoneMany", "I", false)
  | 20 => ("MastlineModel", "phonePlaces", "[I", true)
  | 21 => ("MastlineModel", "mastOf", "[I", true)
  | 22 => ("MastlineModel", "blocked", "[I", true)
  | 23 => ("MastlineModel", "dropped", "[I", true)
  | 24 => ("MastlineModel", "handed", "[I", true)
  | 25 => ("MastlineModel", "paidTo", "[I", true)
  | _ => ("MastlineModel", "thrown", "I", false)
def tyX5 : Nat → FieldType := fun k => match k with
  | 0 => .int
  | 1 => .int
  | 2 => .int
  | 3 => .array .int
  | 4 => .array .int
  | 5 => .array .int
  | 6 => .array .int
  | 7 => .array .int
  | 8 => .array .boolean
  | 9 => .array .int
  | 10 => .array .boolean
  | 11 => .array .int
  | 12 => .array .int
  | 13 => .array .int
  | 14 => .array .int
  | 15 => .array .int
  | 16 => .array .int
  | 17 => .array .int
  | 18 => .array .int
  | 19 => .int
  | 20 => .array .int
  | 21 => .array .int
  | 22 => .array .int
  | 23 => .array .int
  | 24 => .array .int
  | 25 => .array .int
  | _ => .int
abbrev wsX50 : List Cond := u_ws RX5 TX5 27
theorem nmX5 : ∀ a, a < 27 → ∀ b, b < 27 → a ≠ b → (TX5 a).2.1 ≠ (TX5 b).2.1 := by decide +kernel
theorem tyX5_ok : ∀ k, k < 27 → parseFieldDescriptor (TX5 k).2.2.1 = some (tyX5 k) := by decide +kernel
abbrev cX5_init : ByteArray := prog_7_method_1_code
def yX5_init : MethodName := ⟨RX5, "<init>", "()V"⟩
abbrev cX5_thrown : ByteArray := prog_7_method_2_code
def yX5_thrown : MethodName := ⟨RX5, "thrown", "()I"⟩
abbrev cX5_in : ByteArray := prog_7_method_3_code
def yX5_in : MethodName := ⟨RX5, "in", "(III)Z"⟩
abbrev cX5_isMast : ByteArray := prog_7_method_4_code
def yX5_isMast : MethodName := ⟨RX5, "isMast", "(I)Z"⟩
abbrev cX5_isFarmer : ByteArray := prog_7_method_5_code
def yX5_isFarmer : MethodName := ⟨RX5, "isFarmer", "(I)Z"⟩
abbrev cX5_isPhone : ByteArray := prog_7_method_6_code
def yX5_isPhone : MethodName := ⟨RX5, "isPhone", "(I)Z"⟩
abbrev cX5_isLeased : ByteArray := prog_7_method_7_code
def yX5_isLeased : MethodName := ⟨RX5, "isLeased", "(I)Z"⟩
abbrev cX5_isOn : ByteArray := prog_7_method_8_code
def yX5_isOn : MethodName := ⟨RX5, "isOn", "(I)Z"⟩
abbrev cX5_carries : ByteArray := prog_7_method_9_code
def yX5_carries : MethodName := ⟨RX5, "carries", "(I)I"⟩
abbrev cX5_apart : ByteArray := prog_7_method_10_code
def yX5_apart : MethodName := ⟨RX5, "apart", "(II)I"⟩
abbrev cX5_covers : ByteArray := prog_7_method_11_code
def yX5_covers : MethodName := ⟨RX5, "covers", "(II)Z"⟩
abbrev cX5_mast : ByteArray := prog_7_method_12_code
def yX5_mast : MethodName := ⟨RX5, "mast", "(IIIIIZ)I"⟩
abbrev cX5_lease : ByteArray := prog_7_method_13_code
def yX5_lease : MethodName := ⟨RX5, "lease", "(IIIIIII)V"⟩
abbrev cX5_sun : ByteArray := prog_7_method_14_code
def yX5_sun : MethodName := ⟨RX5, "sun", "(I)I"⟩
abbrev cX5_phone : ByteArray := prog_7_method_15_code
def yX5_phone : MethodName := ⟨RX5, "phone", "(I)I"⟩
abbrev cX5_mastFor : ByteArray := prog_7_method_16_code
def yX5_mastFor : MethodName := ⟨RX5, "mastFor", "(I)I"⟩
abbrev cX5_call : ByteArray := prog_7_method_17_code
def yX5_call : MethodName := ⟨RX5, "call", "(I)I"⟩
abbrev cX5_end : ByteArray := prog_7_method_18_code
def yX5_end : MethodName := ⟨RX5, "end", "(I)I"⟩
abbrev cX5_handOver : ByteArray := prog_7_method_19_code
def yX5_handOver : MethodName := ⟨RX5, "handOver", "(I)V"⟩
abbrev cX5_move : ByteArray := prog_7_method_20_code
def yX5_move : MethodName := ⟨RX5, "move", "(II)I"⟩
abbrev cX5_payRent : ByteArray := prog_7_method_21_code
def yX5_payRent : MethodName := ⟨RX5, "payRent", "(I)V"⟩
abbrev cX5_power : ByteArray := prog_7_method_22_code
def yX5_power : MethodName := ⟨RX5, "power", "(I)V"⟩
abbrev cX5_hourGoesBy : ByteArray := prog_7_method_23_code
def yX5_hourGoesBy : MethodName := ⟨RX5, "hourGoesBy", "()V"⟩
abbrev cX5_pass : ByteArray := prog_7_method_24_code
def yX5_pass : MethodName := ⟨RX5, "pass", "(I)I"⟩
abbrev cX5_ofMast : ByteArray := prog_7_method_25_code
def yX5_ofMast : MethodName := ⟨RX5, "ofMast", "(II)I"⟩
abbrev cX5_trafficAnew : ByteArray := prog_7_method_26_code
def yX5_trafficAnew : MethodName := ⟨RX5, "trafficAnew", "(I)I"⟩
abbrev cX5_ofPhone : ByteArray := prog_7_method_27_code
def yX5_ofPhone : MethodName := ⟨RX5, "ofPhone", "(II)I"⟩
abbrev cX5_strength : ByteArray := prog_7_method_28_code
def yX5_strength : MethodName := ⟨RX5, "strength", "(I)F"⟩
abbrev cX5_paid : ByteArray := prog_7_method_29_code
def yX5_paid : MethodName := ⟨RX5, "paid", "(I)I"⟩
abbrev cX5_holes : ByteArray := prog_7_method_30_code
def yX5_holes : MethodName := ⟨RX5, "holes", "()I"⟩
def RJ9 : String := "java/lang/Math"
def TJ9 : u_T := fun k => match k with
  | _ => ("", "", "", false)
def tyJ9 : Nat → FieldType := fun k => match k with
  | _ => .int
abbrev wsJ90 : List Cond := u_ws RJ9 TJ9 0
theorem nmJ9 : ∀ a, a < 0 → ∀ b, b < 0 → a ≠ b → (TJ9 a).2.1 ≠ (TJ9 b).2.1 := by decide +kernel
theorem tyJ9_ok : ∀ k, k < 0 → parseFieldDescriptor (TJ9 k).2.2.1 = some (tyJ9 k) := by decide +kernel
abbrev cJ9_abs_0f7a4 : ByteArray := prog_12_method_59_code
def yJ9_abs_0f7a4 : MethodName := ⟨RJ9, "abs", "(I)I"⟩
abbrev cJ9_min_7cf53 : ByteArray := prog_12_method_69_code
def yJ9_min_7cf53 : MethodName := ⟨RJ9, "min", "(II)I"⟩
def RL : String := "MastlineLaw"
abbrev cL_mast : ByteArray := method_3_code
def yL_mast : MethodName := ⟨RL, "mast", "(LMastline;IIIIIZ[J)I"⟩
abbrev cL_lease : ByteArray := method_4_code
def yL_lease : MethodName := ⟨RL, "lease", "(LMastline;IIIIIII)I"⟩
abbrev cL_sun : ByteArray := method_5_code
def yL_sun : MethodName := ⟨RL, "sun", "(LMastline;I[J)I"⟩
abbrev cL_phone : ByteArray := method_6_code
def yL_phone : MethodName := ⟨RL, "phone", "(LMastline;I[J)I"⟩
abbrev cL_call : ByteArray := method_7_code
def yL_call : MethodName := ⟨RL, "call", "(LMastline;I[J)I"⟩
abbrev cL_end : ByteArray := method_8_code
def yL_end : MethodName := ⟨RL, "end", "(LMastline;I[J)I"⟩
abbrev cL_move : ByteArray := method_9_code
def yL_move : MethodName := ⟨RL, "move", "(LMastline;II[J)I"⟩
abbrev cL_pass : ByteArray := method_10_code
def yL_pass : MethodName := ⟨RL, "pass", "(LMastline;I[J)I"⟩
abbrev cL_ofMast : ByteArray := method_11_code
def yL_ofMast : MethodName := ⟨RL, "ofMast", "(LMastline;II[J)I"⟩
abbrev cL_trafficAnew : ByteArray := method_12_code
def yL_trafficAnew : MethodName := ⟨RL, "trafficAnew", "(LMastline;I[J)I"⟩
abbrev cL_ofPhone : ByteArray := method_13_code
def yL_ofPhone : MethodName := ⟨RL, "ofPhone", "(LMastline;II[J)I"⟩
abbrev cL_strength : ByteArray := method_14_code
def yL_strength : MethodName := ⟨RL, "strength", "(LMastline;I[D)I"⟩
abbrev cL_paid : ByteArray := method_15_code
def yL_paid : MethodName := ⟨RL, "paid", "(LMastline;I[J)I"⟩
abbrev cL_law : ByteArray := code
def yL_law : MethodName := ⟨RL, "law", "([I)Z"⟩
abbrev vwCl : List vw_C := [(RX0, TX0, 6), (RX1, TX1, 4), (RX2, TX2, 14), (RX3, TX3, 6), (RX4, TX4, 5), (RX5, TX5, 27)]
end
section
/-! WORDS: all words of the tables that stay true while the machine only warms up, in one list; a row says of each that it is there -/
def okW : Cond → Bool
  | .fieldLinkNest .. => true
  | .methodLinkNest .. => true
  | .castable .. => true
  | .declares _ => true
  | .arrayOver (.object _) => true
  | w => goodWord w
theorem okW_warm {w : Cond} (h : okW w = true) {args a' : Array Value} {s U : State} (hW : s.WarmedH U.vm) (hb : w.before args s = true) : w.before a' U = true := by
  cases w with
  | fieldLinkNest a i b n d h => exact va_Nw.use rfl (va_Nw.warmF hW (va_Nw.of rfl hb))
  | methodLinkNest a i x h => exact va_Nw.use rfl (va_Nw.warmM hW (va_Nw.of rfl hb))
  | castable C T => exact va_Nw.use rfl (va_Nw.warmC hW (va_Nw.of rfl hb))
  | declares x => exact va_Nw.use rfl (va_Nw.warmD hW (va_Nw.of rfl hb))
  | arrayOver ty =>
    cases ty with
    | object C => exact va_AO.use (va_AO.moved hW.alike (va_AO.of hb))
    | _ => exact word_at hW (good_of_word h) hb
  | _ => exact word_at hW (good_of_word h) hb
def AW : List Cond := lw_tbl.filter okW
theorem aw_of {w : Cond} (h : w ∈ lw_tbl) (hk : okW w = true) : w ∈ AW := List.mem_filter.mpr ⟨h, hk⟩
theorem aw_0 {w : Cond} (i : Nat) (h : (k2_sels lw_privs)[i]? = some w) (hk : okW w = true) : w ∈ AW := aw_of (List.mem_append_left _ (List.mem_of_getElem? h)) hk
theorem aw_1 {w : Cond} (i : Nat) (h : tables_1_1[i]? = some w) (hk : okW w = true) : w ∈ AW := aw_of (List.mem_append_right _ (List.mem_append_left _ (List.mem_of_getElem? h))) hk
theorem aw_2 {w : Cond} (i : Nat) (h : tables_1_2[i]? = some w) (hk : okW w = true) : w ∈ AW := aw_of (List.mem_append_right _ (List.mem_append_right _ (List.mem_append_left _ (List.mem_of_getElem? h)))) hk
theorem aw_3 {w : Cond} (i : Nat) (h : tables_1_3[i]? = some w) (hk : okW w = true) : w ∈ AW := aw_of (List.mem_append_right _ (List.mem_append_right _ (List.mem_append_right _ (List.mem_of_getElem? h)))) hk
theorem aw_stay {args : Array Value} {s : State} (hts : ∀ w ∈ AW, w.before args s = true) : ∀ w ∈ AW, ∀ (a' : Array Value) (U : State), s.WarmedH U.vm → w.before a' U = true := fun w h a' U hW => okW_warm (List.mem_filter.mp h).2 hW (hts w h)
theorem wi_L : (Cond.initialized RL) ∈ AW := aw_1 0 (by decide +kernel) rfl
theorem wi_X4 : (Cond.initialized RX4) ∈ AW := aw_1 1 (by decide +kernel) rfl
theorem wi_X5 : (Cond.initialized RX5) ∈ AW := aw_1 2 (by decide +kernel) rfl
theorem wi_java_lang_Throwable : (Cond.initialized "java/lang/Throwable") ∈ AW := aw_1 3 (by decide +kernel) rfl
theorem wi_java_lang_Exception : (Cond.initialized "java/lang/Exception") ∈ AW := aw_1 4 (by decide +kernel) rfl
theorem wi_java_lang_RuntimeException : (Cond.initialized "java/lang/RuntimeException") ∈ AW := aw_1 5 (by decide +kernel) rfl
theorem wi_java_lang_IllegalArgumentException : (Cond.initialized "java/lang/IllegalArgumentException") ∈ AW := aw_1 6 (by decide +kernel) rfl
theorem wi_X2 : (Cond.initialized RX2) ∈ AW := aw_1 7 (by decide +kernel) rfl
theorem wi_java_lang_IllegalStateException : (Cond.initialized "java/lang/IllegalStateException") ∈ AW := aw_1 8 (by decide +kernel) rfl
theorem wi_java_lang_IndexOutOfBoundsException : (Cond.initialized "java/lang/IndexOutOfBoundsException") ∈ AW := aw_1 9 (by decide +kernel) rfl
theorem wi_X0 : (Cond.initialized RX0) ∈ AW := aw_1 10 (by decide +kernel) rfl
theorem wi_X3 : (Cond.initialized RX3) ∈ AW := aw_1 11 (by decide +kernel) rfl
theorem wi_J9 : (Cond.initialized "java/lang/Math") ∈ AW := aw_1 12 (by decide +kernel) rfl
theorem wi_X1 : (Cond.initialized RX1) ∈ AW := aw_1 13 (by decide +kernel) rfl
theorem wc_L_8 : (Cond.classLink RL 8 RX4) ∈ AW := aw_1 14 (by decide +kernel) rfl
theorem wn_X4 : (Cond.instantiable RX4 5) ∈ AW := aw_1 15 (by decide +kernel) rfl
theorem wm_L_59 : (Cond.methodLink RL 59 yX4_init) ∈ AW := aw_1 16 (by decide +kernel) rfl
theorem wv_X4_init : (Cond.instanceMethod yX4_init) ∈ AW := aw_1 17 (by decide +kernel) rfl
theorem wk_X4_init : (Cond.code yX4_init cX4_init 1 none) ∈ AW := aw_1 18 (by decide +kernel) rfl
theorem wm_X4_1 : (Cond.methodLink RX4 1 objectInit) ∈ AW := aw_1 19 (by decide +kernel) rfl
theorem wv_Obj : (Cond.instanceMethod objectInit) ∈ AW := aw_1 20 (by decide +kernel) rfl
theorem wk_Obj : (Cond.code objectInit ⟨#[0xb1]⟩ 1 none) ∈ AW := aw_1 21 (by decide +kernel) rfl
theorem wc_X4_9 : (Cond.classLink RX4 9 RX2) ∈ AW := aw_1 22 (by decide +kernel) rfl
theorem wo_X2 : (Cond.arrayOver (.object RX2)) ∈ AW := aw_1 23 (by decide +kernel) rfl
theorem wc_X4_15 : (Cond.classLink RX4 15 RX3) ∈ AW := aw_1 24 (by decide +kernel) rfl
theorem wo_X3 : (Cond.arrayOver (.object RX3)) ∈ AW := aw_1 25 (by decide +kernel) rfl
theorem wf_X4_11 : (Cond.fieldLink RX4 11 "Mastline" "masts" "[LMastline$Mast;") ∈ AW := aw_1 26 (by decide +kernel) rfl
theorem wf_X4_17 : (Cond.fieldLink RX4 17 "Mastline" "phones" "[LMastline$Phone;") ∈ AW := aw_1 27 (by decide +kernel) rfl
theorem wf_X4_21 : (Cond.fieldLink RX4 21 "Mastline" "paidTo" "[I") ∈ AW := aw_1 28 (by decide +kernel) rfl
theorem wf_X4_52 : (Cond.fieldLink RX4 52 "Mastline" "hour" "I") ∈ AW := aw_1 29 (by decide +kernel) rfl
theorem wf_X4_65 : (Cond.fieldLink RX4 65 "Mastline" "sunNow" "I") ∈ AW := aw_1 30 (by decide +kernel) rfl
theorem wa_int : (Cond.arrayClass .int) ∈ AW := aw_1 42 (by decide +kernel) rfl
theorem wm_L_113 : (Cond.methodLink RL 113 yX4_holes) ∈ AW := aw_1 43 (by decide +kernel) rfl
theorem wv_X4_holes : (Cond.instanceMethod yX4_holes) ∈ AW := aw_1 44 (by decide +kernel) rfl
theorem wl_X4_holes : (Cond.selects yX4_holes.cls yX4_holes yX4_holes) ∈ AW := aw_1 45 (by decide +kernel) rfl
theorem wk_X4_holes : (Cond.code yX4_holes cX4_holes 3 (some .int)) ∈ AW := aw_1 46 (by decide +kernel) rfl
theorem wm_X4_150 : (Cond.methodLink RX4 150 yX4_isCovered) ∈ AW := aw_1 47 (by decide +kernel) rfl
theorem wv_X4_isCovered : (Cond.instanceMethod yX4_isCovered) ∈ AW := aw_1 49 (by decide +kernel) rfl
theorem wk_X4_isCovered : (Cond.code yX4_isCovered cX4_isCovered 6 (some .boolean)) ∈ AW := aw_1 50 (by decide +kernel) rfl
theorem wm_X4_112 : (Cond.methodLinkNest RX4 112 yX2_isOn "Mastline") ∈ AW := aw_1 51 (by decide +kernel) rfl
theorem wv_X2_isOn : (Cond.instanceMethod yX2_isOn) ∈ AW := aw_1 53 (by decide +kernel) rfl
theorem wn_X2 : (Cond.instantiable RX2 14) ∈ AW := aw_1 54 (by decide +kernel) rfl
theorem wk_X2_isOn : (Cond.code yX2_isOn cX2_isOn 1 (some .boolean)) ∈ AW := aw_1 55 (by decide +kernel) rfl
theorem wm_X4_102 : (Cond.methodLinkNest RX4 102 yX2_covers "Mastline") ∈ AW := aw_1 56 (by decide +kernel) rfl
theorem wv_X2_covers : (Cond.instanceMethod yX2_covers) ∈ AW := aw_1 58 (by decide +kernel) rfl
theorem wk_X2_covers : (Cond.code yX2_covers cX2_covers 2 (some .boolean)) ∈ AW := aw_1 59 (by decide +kernel) rfl
theorem wm_X2_47 : (Cond.methodLink RX2 47 yX2_distanceTo) ∈ AW := aw_1 60 (by decide +kernel) rfl
theorem wv_X2_distanceTo : (Cond.instanceMethod yX2_distanceTo) ∈ AW := aw_1 62 (by decide +kernel) rfl
theorem wk_X2_distanceTo : (Cond.code yX2_distanceTo cX2_distanceTo 2 (some .int)) ∈ AW := aw_1 63 (by decide +kernel) rfl
theorem wm_X2_41 : (Cond.methodLink RX2 41 Lib.Math.abs.name) ∈ AW := aw_1 64 (by decide +kernel) rfl
theorem wz_abs : (Cond.static Lib.Math.abs.name) ∈ AW := aw_1 65 (by decide +kernel) rfl
theorem wk_abs : (Cond.code Lib.Math.abs.name Lib.Math.abs.code 1 (some .int)) ∈ AW := aw_1 66 (by decide +kernel) rfl
theorem wm_L_63 : (Cond.methodLink RL 63 yL_mast) ∈ AW := aw_1 67 (by decide +kernel) rfl
theorem wz_L_mast : (Cond.static yL_mast) ∈ AW := aw_1 68 (by decide +kernel) rfl
theorem wk_L_mast : (Cond.codeWith yL_mast cL_mast 9 (some .int) [(0, 18, 21, 13), (0, 18, 25, 15)]) ∈ AW := aw_1 69 (by decide +kernel) rfl
theorem wc_L_13 : (Cond.classLink RL 13 "java/lang/IllegalArgumentException") ∈ AW := aw_1 70 (by decide +kernel) rfl
theorem wc_L_15 : (Cond.classLink RL 15 "java/lang/IllegalStateException") ∈ AW := aw_1 71 (by decide +kernel) rfl
theorem wm_L_7 : (Cond.methodLink RL 7 yX4_mast) ∈ AW := aw_1 72 (by decide +kernel) rfl
theorem wv_X4_mast : (Cond.instanceMethod yX4_mast) ∈ AW := aw_1 73 (by decide +kernel) rfl
theorem wl_X4_mast : (Cond.selects yX4_mast.cls yX4_mast yX4_mast) ∈ AW := aw_1 74 (by decide +kernel) rfl
theorem wk_X4_mast : (Cond.code yX4_mast cX4_mast 8 (some .int)) ∈ AW := aw_1 75 (by decide +kernel) rfl
theorem wm_X4_25 : (Cond.methodLink RX4 25 yX4_isPlace) ∈ AW := aw_1 76 (by decide +kernel) rfl
theorem wz_X4_isPlace : (Cond.static yX4_isPlace) ∈ AW := aw_1 77 (by decide +kernel) rfl
theorem wk_X4_isPlace : (Cond.code yX4_isPlace cX4_isPlace 1 (some .boolean)) ∈ AW := aw_1 78 (by decide +kernel) rfl
theorem wm_X4_29 : (Cond.methodLink RX4 29 yX4_isWithin) ∈ AW := aw_1 79 (by decide +kernel) rfl
theorem wz_X4_isWithin : (Cond.static yX4_isWithin) ∈ AW := aw_1 80 (by decide +kernel) rfl
theorem wk_X4_isWithin : (Cond.code yX4_isWithin cX4_isWithin 3 (some .boolean)) ∈ AW := aw_1 81 (by decide +kernel) rfl
theorem wc_X4_33 : (Cond.classLink RX4 33 "java/lang/IllegalArgumentException") ∈ AW := aw_1 82 (by decide +kernel) rfl
theorem wx_java_lang_IllegalArgumentException : (Cond.castable "java/lang/IllegalArgumentException" "java/lang/IllegalArgumentException") ∈ AW := aw_1 84 (by decide +kernel) rfl
theorem wm_X4_36 : (Cond.methodLinkNest RX4 36 yX2_init "Mastline") ∈ AW := aw_1 145 (by decide +kernel) rfl
theorem wv_X2_init : (Cond.instanceMethod yX2_init) ∈ AW := aw_1 146 (by decide +kernel) rfl
theorem wk_X2_init : (Cond.code yX2_init cX2_init 8 none) ∈ AW := aw_1 147 (by decide +kernel) rfl
theorem wm_X2_3 : (Cond.methodLink RX2 3 objectInit) ∈ AW := aw_1 148 (by decide +kernel) rfl
theorem wf_X2_9 : (Cond.fieldLink RX2 9 "Mastline$Mast" "number" "I") ∈ AW := aw_1 149 (by decide +kernel) rfl
theorem wf_X3_19 : (Cond.fieldLinkNest RX3 19 "Mastline$Mast" "number" "I" "Mastline") ∈ AW := aw_1 150 (by decide +kernel) rfl
theorem wf_X4_92 : (Cond.fieldLinkNest RX4 92 "Mastline$Mast" "number" "I" "Mastline") ∈ AW := aw_1 151 (by decide +kernel) rfl
theorem wf_X2_15 : (Cond.fieldLink RX2 15 "Mastline$Mast" "place" "I") ∈ AW := aw_1 152 (by decide +kernel) rfl
theorem wf_X2_18 : (Cond.fieldLink RX2 18 "Mastline$Mast" "range" "I") ∈ AW := aw_1 153 (by decide +kernel) rfl
theorem wf_X4_143 : (Cond.fieldLinkNest RX4 143 "Mastline$Mast" "range" "I" "Mastline") ∈ AW := aw_1 154 (by decide +kernel) rfl
theorem wf_X2_21 : (Cond.fieldLink RX2 21 "Mastline$Mast" "calls" "I") ∈ AW := aw_1 155 (by decide +kernel) rfl
theorem wf_X2_24 : (Cond.fieldLink RX2 24 "Mastline$Mast" "panels" "I") ∈ AW := aw_1 156 (by decide +kernel) rfl
theorem wf_X2_27 : (Cond.fieldLink RX2 27 "Mastline$Mast" "battery" "I") ∈ AW := aw_1 157 (by decide +kernel) rfl
theorem wf_X2_30 : (Cond.fieldLink RX2 30 "Mastline$Mast" "grid" "Z") ∈ AW := aw_1 158 (by decide +kernel) rfl
theorem wf_X2_34 : (Cond.fieldLink RX2 34 "Mastline$Mast" "lease" "LMastline$Lease;") ∈ AW := aw_1 159 (by decide +kernel) rfl
theorem wf_X4_56 : (Cond.fieldLinkNest RX4 56 "Mastline$Mast" "lease" "LMastline$Lease;" "Mastline") ∈ AW := aw_1 160 (by decide +kernel) rfl
theorem wf_X2_38 : (Cond.fieldLink RX2 38 "Mastline$Mast" "out" "Z") ∈ AW := aw_1 161 (by decide +kernel) rfl
theorem wf_X3_27 : (Cond.fieldLinkNest RX3 27 "Mastline$Mast" "carried" "I" "Mastline") ∈ AW := aw_1 162 (by decide +kernel) rfl
theorem wf_X2_58 : (Cond.fieldLink RX2 58 "Mastline$Mast" "carried" "I") ∈ AW := aw_1 163 (by decide +kernel) rfl
theorem wf_X4_116 : (Cond.fieldLinkNest RX4 116 "Mastline$Mast" "carried" "I" "Mastline") ∈ AW := aw_1 164 (by decide +kernel) rfl
theorem wf_X2_61 : (Cond.fieldLink RX2 61 "Mastline$Mast" "stored" "I") ∈ AW := aw_1 165 (by decide +kernel) rfl
theorem wf_X4_119 : (Cond.fieldLinkNest RX4 119 "Mastline$Mast" "stored" "I" "Mastline") ∈ AW := aw_1 166 (by decide +kernel) rfl
theorem wf_X2_68 : (Cond.fieldLink RX2 68 "Mastline$Mast" "ofGrid" "I") ∈ AW := aw_1 167 (by decide +kernel) rfl
theorem wf_X4_122 : (Cond.fieldLinkNest RX4 122 "Mastline$Mast" "ofGrid" "I" "Mastline") ∈ AW := aw_1 168 (by decide +kernel) rfl
theorem wf_X4_125 : (Cond.fieldLinkNest RX4 125 "Mastline$Mast" "traffic" "I" "Mastline") ∈ AW := aw_1 169 (by decide +kernel) rfl
theorem wf_X2_71 : (Cond.fieldLink RX2 71 "Mastline$Mast" "log" "LMastline$Log;") ∈ AW := aw_1 170 (by decide +kernel) rfl
theorem wc_X4_39 : (Cond.classLink RX4 39 "java/lang/IllegalStateException") ∈ AW := aw_1 200 (by decide +kernel) rfl
theorem wx_java_lang_IllegalStateException : (Cond.castable "java/lang/IllegalStateException" "java/lang/IllegalStateException") ∈ AW := aw_1 202 (by decide +kernel) rfl
theorem wm_L_73 : (Cond.methodLink RL 73 yL_lease) ∈ AW := aw_1 215 (by decide +kernel) rfl
theorem wz_L_lease : (Cond.static yL_lease) ∈ AW := aw_1 216 (by decide +kernel) rfl
theorem wk_L_lease : (Cond.codeWith yL_lease cL_lease 9 (some .int) [(0, 15, 18, 21), (0, 15, 22, 13), (0, 15, 26, 15)]) ∈ AW := aw_1 217 (by decide +kernel) rfl
theorem wc_L_21 : (Cond.classLink RL 21 "java/lang/IndexOutOfBoundsException") ∈ AW := aw_1 218 (by decide +kernel) rfl
theorem wm_L_17 : (Cond.methodLink RL 17 yX4_lease) ∈ AW := aw_1 219 (by decide +kernel) rfl
theorem wv_X4_lease : (Cond.instanceMethod yX4_lease) ∈ AW := aw_1 220 (by decide +kernel) rfl
theorem wl_X4_lease : (Cond.selects yX4_lease.cls yX4_lease yX4_lease) ∈ AW := aw_1 221 (by decide +kernel) rfl
theorem wk_X4_lease : (Cond.code yX4_lease cX4_lease 9 none) ∈ AW := aw_1 222 (by decide +kernel) rfl
theorem wm_X4_42 : (Cond.methodLink RX4 42 yX4_mastAt) ∈ AW := aw_1 223 (by decide +kernel) rfl
theorem wv_X4_mastAt : (Cond.instanceMethod yX4_mastAt) ∈ AW := aw_1 225 (by decide +kernel) rfl
theorem wk_X4_mastAt : (Cond.code yX4_mastAt cX4_mastAt 2 (some (.object "Mastline$Mast"))) ∈ AW := aw_1 226 (by decide +kernel) rfl
theorem wm_X4_46 : (Cond.methodLink RX4 46 yX4_isFarmer) ∈ AW := aw_1 227 (by decide +kernel) rfl
theorem wz_X4_isFarmer : (Cond.static yX4_isFarmer) ∈ AW := aw_1 228 (by decide +kernel) rfl
theorem wk_X4_isFarmer : (Cond.code yX4_isFarmer cX4_isFarmer 1 (some .boolean)) ∈ AW := aw_1 229 (by decide +kernel) rfl
theorem wc_X4_49 : (Cond.classLink RX4 49 "java/lang/IndexOutOfBoundsException") ∈ AW := aw_1 230 (by decide +kernel) rfl
theorem wx_java_lang_IndexOutOfBoundsException : (Cond.castable "java/lang/IndexOutOfBoundsException" "java/lang/IndexOutOfBoundsException") ∈ AW := aw_1 232 (by decide +kernel) rfl
theorem wc_X4_60 : (Cond.classLink RX4 60 RX0) ∈ AW := aw_2 5 (by decide +kernel) rfl
theorem wn_X0 : (Cond.instantiable RX0 6) ∈ AW := aw_2 6 (by decide +kernel) rfl
theorem wm_X4_62 : (Cond.methodLinkNest RX4 62 yX0_init "Mastline") ∈ AW := aw_2 7 (by decide +kernel) rfl
theorem wv_X0_init : (Cond.instanceMethod yX0_init) ∈ AW := aw_2 8 (by decide +kernel) rfl
theorem wk_X0_init : (Cond.code yX0_init cX0_init 7 none) ∈ AW := aw_2 9 (by decide +kernel) rfl
theorem wm_X0_1 : (Cond.methodLink RX0 1 objectInit) ∈ AW := aw_2 10 (by decide +kernel) rfl
theorem wf_X0_7 : (Cond.fieldLink RX0 7 "Mastline$Lease" "farmer" "I") ∈ AW := aw_2 11 (by decide +kernel) rfl
theorem wf_X4_184 : (Cond.fieldLinkNest RX4 184 "Mastline$Lease" "farmer" "I" "Mastline") ∈ AW := aw_2 12 (by decide +kernel) rfl
theorem wf_X0_13 : (Cond.fieldLink RX0 13 "Mastline$Lease" "other" "I") ∈ AW := aw_2 13 (by decide +kernel) rfl
theorem wf_X4_191 : (Cond.fieldLinkNest RX4 191 "Mastline$Lease" "other" "I" "Mastline") ∈ AW := aw_2 14 (by decide +kernel) rfl
theorem wf_X0_16 : (Cond.fieldLink RX0 16 "Mastline$Lease" "tenths" "I") ∈ AW := aw_2 15 (by decide +kernel) rfl
theorem wf_X4_181 : (Cond.fieldLinkNest RX4 181 "Mastline$Lease" "tenths" "I" "Mastline") ∈ AW := aw_2 16 (by decide +kernel) rfl
theorem wf_X0_19 : (Cond.fieldLink RX0 19 "Mastline$Lease" "until" "I") ∈ AW := aw_2 17 (by decide +kernel) rfl
theorem wf_X4_128 : (Cond.fieldLinkNest RX4 128 "Mastline$Lease" "until" "I" "Mastline") ∈ AW := aw_2 18 (by decide +kernel) rfl
theorem wf_X0_22 : (Cond.fieldLink RX0 22 "Mastline$Lease" "rent" "I") ∈ AW := aw_2 19 (by decide +kernel) rfl
theorem wf_X4_175 : (Cond.fieldLinkNest RX4 175 "Mastline$Lease" "rent" "I" "Mastline") ∈ AW := aw_2 20 (by decide +kernel) rfl
theorem wf_X0_25 : (Cond.fieldLink RX0 25 "Mastline$Lease" "byCall" "I") ∈ AW := aw_2 21 (by decide +kernel) rfl
theorem wf_X4_178 : (Cond.fieldLinkNest RX4 178 "Mastline$Lease" "byCall" "I" "Mastline") ∈ AW := aw_2 22 (by decide +kernel) rfl
theorem wm_L_77 : (Cond.methodLink RL 77 yL_sun) ∈ AW := aw_2 36 (by decide +kernel) rfl
theorem wz_L_sun : (Cond.static yL_sun) ∈ AW := aw_2 37 (by decide +kernel) rfl
theorem wk_L_sun : (Cond.codeWith yL_sun cL_sun 4 (some .int) [(0, 9, 12, 13)]) ∈ AW := aw_2 38 (by decide +kernel) rfl
theorem wm_L_23 : (Cond.methodLink RL 23 yX4_sun) ∈ AW := aw_2 39 (by decide +kernel) rfl
theorem wv_X4_sun : (Cond.instanceMethod yX4_sun) ∈ AW := aw_2 40 (by decide +kernel) rfl
theorem wl_X4_sun : (Cond.selects yX4_sun.cls yX4_sun yX4_sun) ∈ AW := aw_2 41 (by decide +kernel) rfl
theorem wk_X4_sun : (Cond.code yX4_sun cX4_sun 3 (some .int)) ∈ AW := aw_2 42 (by decide +kernel) rfl
theorem wm_L_81 : (Cond.methodLink RL 81 yL_phone) ∈ AW := aw_2 43 (by decide +kernel) rfl
theorem wz_L_phone : (Cond.static yL_phone) ∈ AW := aw_2 44 (by decide +kernel) rfl
theorem wk_L_phone : (Cond.codeWith yL_phone cL_phone 4 (some .int) [(0, 9, 12, 13), (0, 9, 15, 15)]) ∈ AW := aw_2 45 (by decide +kernel) rfl
theorem wm_L_27 : (Cond.methodLink RL 27 yX4_phone) ∈ AW := aw_2 46 (by decide +kernel) rfl
theorem wv_X4_phone : (Cond.instanceMethod yX4_phone) ∈ AW := aw_2 47 (by decide +kernel) rfl
theorem wl_X4_phone : (Cond.selects yX4_phone.cls yX4_phone yX4_phone) ∈ AW := aw_2 48 (by decide +kernel) rfl
theorem wk_X4_phone : (Cond.code yX4_phone cX4_phone 3 (some .int)) ∈ AW := aw_2 49 (by decide +kernel) rfl
theorem wn_X3 : (Cond.instantiable RX3 6) ∈ AW := aw_2 50 (by decide +kernel) rfl
theorem wm_X4_68 : (Cond.methodLinkNest RX4 68 yX3_init "Mastline") ∈ AW := aw_2 51 (by decide +kernel) rfl
theorem wv_X3_init : (Cond.instanceMethod yX3_init) ∈ AW := aw_2 52 (by decide +kernel) rfl
theorem wk_X3_init : (Cond.code yX3_init cX3_init 2 none) ∈ AW := aw_2 53 (by decide +kernel) rfl
theorem wm_X3_3 : (Cond.methodLink RX3 3 objectInit) ∈ AW := aw_2 54 (by decide +kernel) rfl
theorem wf_X3_9 : (Cond.fieldLink RX3 9 "Mastline$Phone" "place" "I") ∈ AW := aw_2 55 (by decide +kernel) rfl
theorem wf_X4_79 : (Cond.fieldLinkNest RX4 79 "Mastline$Phone" "place" "I" "Mastline") ∈ AW := aw_2 56 (by decide +kernel) rfl
theorem wf_X3_15 : (Cond.fieldLink RX3 15 "Mastline$Phone" "carrier" "LMastline$Mast;") ∈ AW := aw_2 57 (by decide +kernel) rfl
theorem wf_X4_75 : (Cond.fieldLinkNest RX4 75 "Mastline$Phone" "carrier" "LMastline$Mast;" "Mastline") ∈ AW := aw_2 58 (by decide +kernel) rfl
theorem wf_X3_24 : (Cond.fieldLink RX3 24 "Mastline$Phone" "came" "I") ∈ AW := aw_2 59 (by decide +kernel) rfl
theorem wf_X4_134 : (Cond.fieldLinkNest RX4 134 "Mastline$Phone" "came" "I" "Mastline") ∈ AW := aw_2 60 (by decide +kernel) rfl
theorem wf_X4_85 : (Cond.fieldLinkNest RX4 85 "Mastline$Phone" "blocked" "I" "Mastline") ∈ AW := aw_2 61 (by decide +kernel) rfl
theorem wf_X4_137 : (Cond.fieldLinkNest RX4 137 "Mastline$Phone" "dropped" "I" "Mastline") ∈ AW := aw_2 62 (by decide +kernel) rfl
theorem wf_X4_140 : (Cond.fieldLinkNest RX4 140 "Mastline$Phone" "handedOver" "I" "Mastline") ∈ AW := aw_2 63 (by decide +kernel) rfl
theorem wm_L_84 : (Cond.methodLink RL 84 yL_call) ∈ AW := aw_2 77 (by decide +kernel) rfl
theorem wz_L_call : (Cond.static yL_call) ∈ AW := aw_2 78 (by decide +kernel) rfl
theorem wk_L_call : (Cond.codeWith yL_call cL_call 4 (some .int) [(0, 9, 12, 21), (0, 9, 15, 15)]) ∈ AW := aw_2 79 (by decide +kernel) rfl
theorem wm_L_30 : (Cond.methodLink RL 30 yX4_call) ∈ AW := aw_2 80 (by decide +kernel) rfl
theorem wv_X4_call : (Cond.instanceMethod yX4_call) ∈ AW := aw_2 81 (by decide +kernel) rfl
theorem wl_X4_call : (Cond.selects yX4_call.cls yX4_call yX4_call) ∈ AW := aw_2 82 (by decide +kernel) rfl
theorem wk_X4_call : (Cond.code yX4_call cX4_call 4 (some .int)) ∈ AW := aw_2 83 (by decide +kernel) rfl
theorem wm_X4_71 : (Cond.methodLink RX4 71 yX4_phoneAt) ∈ AW := aw_2 84 (by decide +kernel) rfl
theorem wv_X4_phoneAt : (Cond.instanceMethod yX4_phoneAt) ∈ AW := aw_2 86 (by decide +kernel) rfl
theorem wk_X4_phoneAt : (Cond.code yX4_phoneAt cX4_phoneAt 2 (some (.object "Mastline$Phone"))) ∈ AW := aw_2 87 (by decide +kernel) rfl
theorem wm_X4_82 : (Cond.methodLink RX4 82 yX4_nearestFree) ∈ AW := aw_2 88 (by decide +kernel) rfl
theorem wv_X4_nearestFree : (Cond.instanceMethod yX4_nearestFree) ∈ AW := aw_2 90 (by decide +kernel) rfl
theorem wk_X4_nearestFree : (Cond.code yX4_nearestFree cX4_nearestFree 7 (some (.object "Mastline$Mast"))) ∈ AW := aw_2 91 (by decide +kernel) rfl
theorem wm_X4_153 : (Cond.methodLinkNest RX4 153 yX2_canTake "Mastline") ∈ AW := aw_2 92 (by decide +kernel) rfl
theorem wv_X2_canTake : (Cond.instanceMethod yX2_canTake) ∈ AW := aw_2 94 (by decide +kernel) rfl
theorem wk_X2_canTake : (Cond.code yX2_canTake cX2_canTake 2 (some .boolean)) ∈ AW := aw_2 95 (by decide +kernel) rfl
theorem wm_X2_50 : (Cond.methodLink RX2 50 yX2_isOn) ∈ AW := aw_2 96 (by decide +kernel) rfl
theorem wm_X2_54 : (Cond.methodLink RX2 54 yX2_covers) ∈ AW := aw_2 97 (by decide +kernel) rfl
theorem wm_X4_146 : (Cond.methodLinkNest RX4 146 yX2_distanceTo "Mastline") ∈ AW := aw_2 98 (by decide +kernel) rfl
theorem wm_X4_88 : (Cond.methodLinkNest RX4 88 yX3_comeTo "Mastline") ∈ AW := aw_2 99 (by decide +kernel) rfl
theorem wv_X3_comeTo : (Cond.instanceMethod yX3_comeTo) ∈ AW := aw_2 101 (by decide +kernel) rfl
theorem wk_X3_comeTo : (Cond.code yX3_comeTo cX3_comeTo 3 none) ∈ AW := aw_2 102 (by decide +kernel) rfl
theorem wm_L_87 : (Cond.methodLink RL 87 yL_end) ∈ AW := aw_2 103 (by decide +kernel) rfl
theorem wz_L_end : (Cond.static yL_end) ∈ AW := aw_2 104 (by decide +kernel) rfl
theorem wk_L_end : (Cond.codeWith yL_end cL_end 4 (some .int) [(0, 9, 12, 21), (0, 9, 15, 15)]) ∈ AW := aw_2 105 (by decide +kernel) rfl
theorem wm_L_33 : (Cond.methodLink RL 33 yX4_end) ∈ AW := aw_2 106 (by decide +kernel) rfl
theorem wv_X4_end : (Cond.instanceMethod yX4_end) ∈ AW := aw_2 107 (by decide +kernel) rfl
theorem wl_X4_end : (Cond.selects yX4_end.cls yX4_end yX4_end) ∈ AW := aw_2 108 (by decide +kernel) rfl
theorem wk_X4_end : (Cond.code yX4_end cX4_end 4 (some .int)) ∈ AW := aw_2 109 (by decide +kernel) rfl
theorem wm_X4_95 : (Cond.methodLinkNest RX4 95 yX3_carrierNumber "Mastline") ∈ AW := aw_2 110 (by decide +kernel) rfl
theorem wv_X3_carrierNumber : (Cond.instanceMethod yX3_carrierNumber) ∈ AW := aw_2 112 (by decide +kernel) rfl
theorem wk_X3_carrierNumber : (Cond.code yX3_carrierNumber cX3_carrierNumber 1 (some .int)) ∈ AW := aw_2 113 (by decide +kernel) rfl
theorem wm_X4_99 : (Cond.methodLinkNest RX4 99 yX3_goAway "Mastline") ∈ AW := aw_2 114 (by decide +kernel) rfl
theorem wv_X3_goAway : (Cond.instanceMethod yX3_goAway) ∈ AW := aw_2 116 (by decide +kernel) rfl
theorem wk_X3_goAway : (Cond.code yX3_goAway cX3_goAway 2 none) ∈ AW := aw_2 117 (by decide +kernel) rfl
theorem wm_X3_30 : (Cond.methodLinkNest RX3 30 yX2_logStay "Mastline") ∈ AW := aw_2 118 (by decide +kernel) rfl
theorem wv_X2_logStay : (Cond.instanceMethod yX2_logStay) ∈ AW := aw_2 120 (by decide +kernel) rfl
theorem wk_X2_logStay : (Cond.code yX2_logStay cX2_logStay 3 none) ∈ AW := aw_2 121 (by decide +kernel) rfl
theorem wm_X2_75 : (Cond.methodLinkNest RX2 75 yX1_isFull "Mastline") ∈ AW := aw_2 122 (by decide +kernel) rfl
theorem wv_X1_isFull : (Cond.instanceMethod yX1_isFull) ∈ AW := aw_2 124 (by decide +kernel) rfl
theorem wn_X1 : (Cond.instantiable RX1 4) ∈ AW := aw_2 125 (by decide +kernel) rfl
theorem wk_X1_isFull : (Cond.code yX1_isFull cX1_isFull 1 (some .boolean)) ∈ AW := aw_2 126 (by decide +kernel) rfl
theorem wc_X2_76 : (Cond.classLink RX2 76 RX1) ∈ AW := aw_2 127 (by decide +kernel) rfl
theorem wm_X2_80 : (Cond.methodLinkNest RX2 80 yX1_init "Mastline") ∈ AW := aw_2 128 (by decide +kernel) rfl
theorem wv_X1_init : (Cond.instanceMethod yX1_init) ∈ AW := aw_2 129 (by decide +kernel) rfl
theorem wk_X1_init : (Cond.code yX1_init cX1_init 2 none) ∈ AW := aw_2 130 (by decide +kernel) rfl
theorem wm_X1_3 : (Cond.methodLink RX1 3 objectInit) ∈ AW := aw_2 131 (by decide +kernel) rfl
theorem wf_X1_9 : (Cond.fieldLink RX1 9 "Mastline$Log" "came" "[I") ∈ AW := aw_2 132 (by decide +kernel) rfl
theorem wf_X1_15 : (Cond.fieldLink RX1 15 "Mastline$Log" "went" "[I") ∈ AW := aw_2 133 (by decide +kernel) rfl
theorem wf_X1_18 : (Cond.fieldLink RX1 18 "Mastline$Log" "before" "LMastline$Log;") ∈ AW := aw_2 134 (by decide +kernel) rfl
theorem wf_X2_91 : (Cond.fieldLinkNest RX2 91 "Mastline$Log" "before" "LMastline$Log;" "Mastline") ∈ AW := aw_2 135 (by decide +kernel) rfl
theorem wf_X1_22 : (Cond.fieldLink RX1 22 "Mastline$Log" "size" "I") ∈ AW := aw_2 136 (by decide +kernel) rfl
theorem wm_X2_83 : (Cond.methodLinkNest RX2 83 yX1_add "Mastline") ∈ AW := aw_2 146 (by decide +kernel) rfl
theorem wv_X1_add : (Cond.instanceMethod yX1_add) ∈ AW := aw_2 148 (by decide +kernel) rfl
theorem wk_X1_add : (Cond.code yX1_add cX1_add 3 none) ∈ AW := aw_2 149 (by decide +kernel) rfl
theorem wm_X1_26 : (Cond.methodLinkNest RX1 26 yX4_isWithin "Mastline") ∈ AW := aw_2 150 (by decide +kernel) rfl
theorem wm_L_90 : (Cond.methodLink RL 90 yL_move) ∈ AW := aw_2 151 (by decide +kernel) rfl
theorem wz_L_move : (Cond.static yL_move) ∈ AW := aw_2 152 (by decide +kernel) rfl
theorem wk_L_move : (Cond.codeWith yL_move cL_move 5 (some .int) [(0, 10, 13, 21), (0, 10, 17, 13)]) ∈ AW := aw_2 153 (by decide +kernel) rfl
theorem wm_L_36 : (Cond.methodLink RL 36 yX4_move) ∈ AW := aw_2 154 (by decide +kernel) rfl
theorem wv_X4_move : (Cond.instanceMethod yX4_move) ∈ AW := aw_2 155 (by decide +kernel) rfl
theorem wl_X4_move : (Cond.selects yX4_move.cls yX4_move yX4_move) ∈ AW := aw_2 156 (by decide +kernel) rfl
theorem wk_X4_move : (Cond.code yX4_move cX4_move 4 (some .int)) ∈ AW := aw_2 157 (by decide +kernel) rfl
theorem wm_X4_105 : (Cond.methodLink RX4 105 yX4_handOverOrDrop) ∈ AW := aw_2 158 (by decide +kernel) rfl
theorem wv_X4_handOverOrDrop : (Cond.instanceMethod yX4_handOverOrDrop) ∈ AW := aw_2 160 (by decide +kernel) rfl
theorem wk_X4_handOverOrDrop : (Cond.code yX4_handOverOrDrop cX4_handOverOrDrop 3 none) ∈ AW := aw_2 161 (by decide +kernel) rfl
theorem wm_L_94 : (Cond.methodLink RL 94 yL_pass) ∈ AW := aw_2 162 (by decide +kernel) rfl
theorem wz_L_pass : (Cond.static yL_pass) ∈ AW := aw_2 163 (by decide +kernel) rfl
theorem wk_L_pass : (Cond.codeWith yL_pass cL_pass 4 (some .int) [(0, 9, 12, 13), (0, 9, 15, 15)]) ∈ AW := aw_2 164 (by decide +kernel) rfl
theorem wm_L_40 : (Cond.methodLink RL 40 yX4_pass) ∈ AW := aw_2 165 (by decide +kernel) rfl
theorem wv_X4_pass : (Cond.instanceMethod yX4_pass) ∈ AW := aw_2 166 (by decide +kernel) rfl
theorem wl_X4_pass : (Cond.selects yX4_pass.cls yX4_pass yX4_pass) ∈ AW := aw_2 167 (by decide +kernel) rfl
theorem wk_X4_pass : (Cond.code yX4_pass cX4_pass 3 (some .int)) ∈ AW := aw_2 168 (by decide +kernel) rfl
theorem wm_X4_109 : (Cond.methodLink RX4 109 yX4_letAnHourGoBy) ∈ AW := aw_2 169 (by decide +kernel) rfl
theorem wv_X4_letAnHourGoBy : (Cond.instanceMethod yX4_letAnHourGoBy) ∈ AW := aw_2 171 (by decide +kernel) rfl
theorem wk_X4_letAnHourGoBy : (Cond.code yX4_letAnHourGoBy cX4_letAnHourGoBy 1 none) ∈ AW := aw_2 172 (by decide +kernel) rfl
theorem wm_X4_156 : (Cond.methodLink RX4 156 yX4_countTraffic) ∈ AW := aw_2 173 (by decide +kernel) rfl
theorem wv_X4_countTraffic : (Cond.instanceMethod yX4_countTraffic) ∈ AW := aw_2 175 (by decide +kernel) rfl
theorem wk_X4_countTraffic : (Cond.code yX4_countTraffic cX4_countTraffic 5 none) ∈ AW := aw_2 176 (by decide +kernel) rfl
theorem wm_X4_159 : (Cond.methodLink RX4 159 yX4_payRents) ∈ AW := aw_2 177 (by decide +kernel) rfl
theorem wv_X4_payRents : (Cond.instanceMethod yX4_payRents) ∈ AW := aw_2 179 (by decide +kernel) rfl
theorem wk_X4_payRents : (Cond.code yX4_payRents cX4_payRents 5 none) ∈ AW := aw_2 180 (by decide +kernel) rfl
theorem wm_X4_171 : (Cond.methodLink RX4 171 yX4_payRent) ∈ AW := aw_2 181 (by decide +kernel) rfl
theorem wv_X4_payRent : (Cond.instanceMethod yX4_payRent) ∈ AW := aw_2 183 (by decide +kernel) rfl
theorem wk_X4_payRent : (Cond.code yX4_payRent cX4_payRent 5 none) ∈ AW := aw_2 184 (by decide +kernel) rfl
theorem wm_X4_187 : (Cond.methodLink RX4 187 yX4_pay) ∈ AW := aw_2 185 (by decide +kernel) rfl
theorem wv_X4_pay : (Cond.instanceMethod yX4_pay) ∈ AW := aw_2 187 (by decide +kernel) rfl
theorem wk_X4_pay : (Cond.code yX4_pay cX4_pay 3 none) ∈ AW := aw_2 188 (by decide +kernel) rfl
theorem wm_X4_162 : (Cond.methodLink RX4 162 yX4_powerMasts) ∈ AW := aw_2 189 (by decide +kernel) rfl
theorem wv_X4_powerMasts : (Cond.instanceMethod yX4_powerMasts) ∈ AW := aw_2 191 (by decide +kernel) rfl
theorem wk_X4_powerMasts : (Cond.code yX4_powerMasts cX4_powerMasts 5 none) ∈ AW := aw_2 192 (by decide +kernel) rfl
theorem wm_X4_194 : (Cond.methodLinkNest RX4 194 yX2_takePower "Mastline") ∈ AW := aw_2 193 (by decide +kernel) rfl
theorem wv_X2_takePower : (Cond.instanceMethod yX2_takePower) ∈ AW := aw_2 195 (by decide +kernel) rfl
theorem wk_X2_takePower : (Cond.code yX2_takePower cX2_takePower 4 none) ∈ AW := aw_2 196 (by decide +kernel) rfl
theorem wm_X2_64 : (Cond.methodLink RX2 64 Lib.Math.min.name) ∈ AW := aw_2 197 (by decide +kernel) rfl
theorem wz_min : (Cond.static Lib.Math.min.name) ∈ AW := aw_2 198 (by decide +kernel) rfl
theorem wk_min : (Cond.code Lib.Math.min.name Lib.Math.min.code 2 (some .int)) ∈ AW := aw_2 199 (by decide +kernel) rfl
theorem wm_X4_165 : (Cond.methodLink RX4 165 yX4_endLeases) ∈ AW := aw_2 200 (by decide +kernel) rfl
theorem wv_X4_endLeases : (Cond.instanceMethod yX4_endLeases) ∈ AW := aw_2 202 (by decide +kernel) rfl
theorem wk_X4_endLeases : (Cond.code yX4_endLeases cX4_endLeases 5 none) ∈ AW := aw_2 203 (by decide +kernel) rfl
theorem wm_X4_168 : (Cond.methodLink RX4 168 yX4_leaveMastsThatAreNotOn) ∈ AW := aw_2 204 (by decide +kernel) rfl
theorem wv_X4_leaveMastsThatAreNotOn : (Cond.instanceMethod yX4_leaveMastsThatAreNotOn) ∈ AW := aw_2 206 (by decide +kernel) rfl
theorem wk_X4_leaveMastsThatAreNotOn : (Cond.code yX4_leaveMastsThatAreNotOn cX4_leaveMastsThatAreNotOn 5 none) ∈ AW := aw_2 207 (by decide +kernel) rfl
theorem wm_L_97 : (Cond.methodLink RL 97 yL_ofMast) ∈ AW := aw_2 208 (by decide +kernel) rfl
theorem wz_L_ofMast : (Cond.static yL_ofMast) ∈ AW := aw_2 209 (by decide +kernel) rfl
theorem wk_L_ofMast : (Cond.codeWith yL_ofMast cL_ofMast 5 (some .int) [(0, 10, 13, 21), (0, 10, 17, 13)]) ∈ AW := aw_2 210 (by decide +kernel) rfl
theorem wm_L_43 : (Cond.methodLink RL 43 yX4_ofMast) ∈ AW := aw_2 211 (by decide +kernel) rfl
theorem wv_X4_ofMast : (Cond.instanceMethod yX4_ofMast) ∈ AW := aw_2 212 (by decide +kernel) rfl
theorem wl_X4_ofMast : (Cond.selects yX4_ofMast.cls yX4_ofMast yX4_ofMast) ∈ AW := aw_2 213 (by decide +kernel) rfl
theorem wk_X4_ofMast : (Cond.code yX4_ofMast cX4_ofMast 4 (some .int)) ∈ AW := aw_2 214 (by decide +kernel) rfl
theorem wm_L_100 : (Cond.methodLink RL 100 yL_trafficAnew) ∈ AW := aw_2 215 (by decide +kernel) rfl
theorem wz_L_trafficAnew : (Cond.static yL_trafficAnew) ∈ AW := aw_2 216 (by decide +kernel) rfl
theorem wk_L_trafficAnew : (Cond.codeWith yL_trafficAnew cL_trafficAnew 4 (some .int) [(0, 9, 12, 21)]) ∈ AW := aw_2 217 (by decide +kernel) rfl
theorem wm_L_46 : (Cond.methodLink RL 46 yX4_trafficAnew) ∈ AW := aw_2 218 (by decide +kernel) rfl
theorem wv_X4_trafficAnew : (Cond.instanceMethod yX4_trafficAnew) ∈ AW := aw_2 219 (by decide +kernel) rfl
theorem wl_X4_trafficAnew : (Cond.selects yX4_trafficAnew.cls yX4_trafficAnew yX4_trafficAnew) ∈ AW := aw_2 220 (by decide +kernel) rfl
theorem wk_X4_trafficAnew : (Cond.code yX4_trafficAnew cX4_trafficAnew 8 (some .int)) ∈ AW := aw_2 221 (by decide +kernel) rfl
theorem wm_X4_131 : (Cond.methodLinkNest RX4 131 yX2_hoursOfLog "Mastline") ∈ AW := aw_2 222 (by decide +kernel) rfl
theorem wv_X2_hoursOfLog : (Cond.instanceMethod yX2_hoursOfLog) ∈ AW := aw_2 224 (by decide +kernel) rfl
theorem wk_X2_hoursOfLog : (Cond.code yX2_hoursOfLog cX2_hoursOfLog 3 (some .int)) ∈ AW := aw_2 225 (by decide +kernel) rfl
theorem wm_X2_87 : (Cond.methodLinkNest RX2 87 yX1_hours "Mastline") ∈ AW := aw_2 226 (by decide +kernel) rfl
theorem wv_X1_hours : (Cond.instanceMethod yX1_hours) ∈ AW := aw_2 228 (by decide +kernel) rfl
theorem wk_X1_hours : (Cond.code yX1_hours cX1_hours 3 (some .int)) ∈ AW := aw_2 229 (by decide +kernel) rfl
theorem wm_L_103 : (Cond.methodLink RL 103 yL_ofPhone) ∈ AW := aw_2 230 (by decide +kernel) rfl
theorem wz_L_ofPhone : (Cond.static yL_ofPhone) ∈ AW := aw_2 231 (by decide +kernel) rfl
theorem wk_L_ofPhone : (Cond.codeWith yL_ofPhone cL_ofPhone 5 (some .int) [(0, 10, 13, 21), (0, 10, 17, 13)]) ∈ AW := aw_2 232 (by decide +kernel) rfl
theorem wm_L_49 : (Cond.methodLink RL 49 yX4_ofPhone) ∈ AW := aw_2 233 (by decide +kernel) rfl
theorem wv_X4_ofPhone : (Cond.instanceMethod yX4_ofPhone) ∈ AW := aw_2 234 (by decide +kernel) rfl
theorem wl_X4_ofPhone : (Cond.selects yX4_ofPhone.cls yX4_ofPhone yX4_ofPhone) ∈ AW := aw_2 235 (by decide +kernel) rfl
theorem wk_X4_ofPhone : (Cond.code yX4_ofPhone cX4_ofPhone 4 (some .int)) ∈ AW := aw_2 236 (by decide +kernel) rfl
theorem wm_L_106 : (Cond.methodLink RL 106 yL_strength) ∈ AW := aw_2 237 (by decide +kernel) rfl
theorem wz_L_strength : (Cond.static yL_strength) ∈ AW := aw_2 238 (by decide +kernel) rfl
theorem wk_L_strength : (Cond.codeWith yL_strength cL_strength 4 (some .int) [(0, 9, 12, 21)]) ∈ AW := aw_2 239 (by decide +kernel) rfl
theorem wm_L_52 : (Cond.methodLink RL 52 yX4_strength) ∈ AW := aw_3 0 (by decide +kernel) rfl
theorem wv_X4_strength : (Cond.instanceMethod yX4_strength) ∈ AW := aw_3 1 (by decide +kernel) rfl
theorem wl_X4_strength : (Cond.selects yX4_strength.cls yX4_strength yX4_strength) ∈ AW := aw_3 2 (by decide +kernel) rfl
theorem wk_X4_strength : (Cond.code yX4_strength cX4_strength 4 (some .float)) ∈ AW := aw_3 3 (by decide +kernel) rfl
theorem wm_L_110 : (Cond.methodLink RL 110 yL_paid) ∈ AW := aw_3 4 (by decide +kernel) rfl
theorem wz_L_paid : (Cond.static yL_paid) ∈ AW := aw_3 5 (by decide +kernel) rfl
theorem wk_L_paid : (Cond.codeWith yL_paid cL_paid 4 (some .int) [(0, 9, 12, 21)]) ∈ AW := aw_3 6 (by decide +kernel) rfl
theorem wm_L_56 : (Cond.methodLink RL 56 yX4_paid) ∈ AW := aw_3 7 (by decide +kernel) rfl
theorem wv_X4_paid : (Cond.instanceMethod yX4_paid) ∈ AW := aw_3 8 (by decide +kernel) rfl
theorem wl_X4_paid : (Cond.selects yX4_paid.cls yX4_paid yX4_paid) ∈ AW := aw_3 9 (by decide +kernel) rfl
theorem wk_X4_paid : (Cond.code yX4_paid cX4_paid 2 (some .int)) ∈ AW := aw_3 10 (by decide +kernel) rfl
theorem wc_L_60 : (Cond.classLink RL 60 RX5) ∈ AW := aw_3 11 (by decide +kernel) rfl
theorem wn_X5 : (Cond.instantiable RX5 27) ∈ AW := aw_3 12 (by decide +kernel) rfl
theorem wm_L_62 : (Cond.methodLink RL 62 yX5_init) ∈ AW := aw_3 13 (by decide +kernel) rfl
theorem wv_X5_init : (Cond.instanceMethod yX5_init) ∈ AW := aw_3 14 (by decide +kernel) rfl
theorem wk_X5_init : (Cond.code yX5_init cX5_init 1 none) ∈ AW := aw_3 15 (by decide +kernel) rfl
theorem wm_X5_1 : (Cond.methodLink RX5 1 objectInit) ∈ AW := aw_3 16 (by decide +kernel) rfl
theorem wf_X5_105 : (Cond.fieldLink RX5 105 "MastlineModel" "now" "I") ∈ AW := aw_3 17 (by decide +kernel) rfl
theorem wf_X5_108 : (Cond.fieldLink RX5 108 "MastlineModel" "sunNow" "I") ∈ AW := aw_3 18 (by decide +kernel) rfl
theorem wf_X5_81 : (Cond.fieldLink RX5 81 "MastlineModel" "mastMany" "I") ∈ AW := aw_3 19 (by decide +kernel) rfl
theorem wf_X5_7 : (Cond.fieldLink RX5 7 "MastlineModel" "places" "[I") ∈ AW := aw_3 20 (by decide +kernel) rfl
theorem wf_X5_13 : (Cond.fieldLink RX5 13 "MastlineModel" "ranges" "[I") ∈ AW := aw_3 21 (by decide +kernel) rfl
theorem wf_X5_16 : (Cond.fieldLink RX5 16 "MastlineModel" "rooms" "[I") ∈ AW := aw_3 22 (by decide +kernel) rfl
theorem wf_X5_19 : (Cond.fieldLink RX5 19 "MastlineModel" "panels" "[I") ∈ AW := aw_3 23 (by decide +kernel) rfl
theorem wf_X5_22 : (Cond.fieldLink RX5 22 "MastlineModel" "holds" "[I") ∈ AW := aw_3 24 (by decide +kernel) rfl
theorem wf_X5_25 : (Cond.fieldLink RX5 25 "MastlineModel" "isOnGrid" "[Z") ∈ AW := aw_3 25 (by decide +kernel) rfl
theorem wf_X5_29 : (Cond.fieldLink RX5 29 "MastlineModel" "batteries" "[I") ∈ AW := aw_3 26 (by decide +kernel) rfl
theorem wf_X5_32 : (Cond.fieldLink RX5 32 "MastlineModel" "wasOut" "[Z") ∈ AW := aw_3 27 (by decide +kernel) rfl
theorem wf_X5_35 : (Cond.fieldLink RX5 35 "MastlineModel" "untils" "[I") ∈ AW := aw_3 28 (by decide +kernel) rfl
theorem wf_X5_38 : (Cond.fieldLink RX5 38 "MastlineModel" "firsts" "[I") ∈ AW := aw_3 29 (by decide +kernel) rfl
theorem wf_X5_41 : (Cond.fieldLink RX5 41 "MastlineModel" "others" "[I") ∈ AW := aw_3 30 (by decide +kernel) rfl
theorem wf_X5_44 : (Cond.fieldLink RX5 44 "MastlineModel" "parts" "[I") ∈ AW := aw_3 31 (by decide +kernel) rfl
theorem wf_X5_47 : (Cond.fieldLink RX5 47 "MastlineModel" "rents" "[I") ∈ AW := aw_3 32 (by decide +kernel) rfl
theorem wf_X5_50 : (Cond.fieldLink RX5 50 "MastlineModel" "byCalls" "[I") ∈ AW := aw_3 33 (by decide +kernel) rfl
theorem wf_X5_53 : (Cond.fieldLink RX5 53 "MastlineModel" "ofGrid" "[I") ∈ AW := aw_3 34 (by decide +kernel) rfl
theorem wf_X5_56 : (Cond.fieldLink RX5 56 "MastlineModel" "traffic" "[I") ∈ AW := aw_3 35 (by decide +kernel) rfl
theorem wf_X5_88 : (Cond.fieldLink RX5 88 "MastlineModel" "phoneMany" "I") ∈ AW := aw_3 36 (by decide +kernel) rfl
theorem wf_X5_59 : (Cond.fieldLink RX5 59 "MastlineModel" "phonePlaces" "[I") ∈ AW := aw_3 37 (by decide +kernel) rfl
theorem wf_X5_62 : (Cond.fieldLink RX5 62 "MastlineModel" "mastOf" "[I") ∈ AW := aw_3 38 (by decide +kernel) rfl
theorem wf_X5_65 : (Cond.fieldLink RX5 65 "MastlineModel" "blocked" "[I") ∈ AW := aw_3 39 (by decide +kernel) rfl
theorem wf_X5_68 : (Cond.fieldLink RX5 68 "MastlineModel" "dropped" "[I") ∈ AW := aw_3 40 (by decide +kernel) rfl
theorem wf_X5_71 : (Cond.fieldLink RX5 71 "MastlineModel" "handed" "[I") ∈ AW := aw_3 41 (by decide +kernel) rfl
theorem wf_X5_74 : (Cond.fieldLink RX5 74 "MastlineModel" "paidTo" "[I") ∈ AW := aw_3 42 (by decide +kernel) rfl
theorem wf_X5_77 : (Cond.fieldLink RX5 77 "MastlineModel" "thrown" "I") ∈ AW := aw_3 43 (by decide +kernel) rfl
theorem wa_boolean : (Cond.arrayClass .boolean) ∈ AW := aw_3 99 (by decide +kernel) rfl
theorem wm_L_69 : (Cond.methodLink RL 69 yX5_thrown) ∈ AW := aw_3 100 (by decide +kernel) rfl
theorem wv_X5_thrown : (Cond.instanceMethod yX5_thrown) ∈ AW := aw_3 101 (by decide +kernel) rfl
theorem wl_X5_thrown : (Cond.selects yX5_thrown.cls yX5_thrown yX5_thrown) ∈ AW := aw_3 102 (by decide +kernel) rfl
theorem wk_X5_thrown : (Cond.code yX5_thrown cX5_thrown 1 (some .int)) ∈ AW := aw_3 103 (by decide +kernel) rfl
theorem wm_L_68 : (Cond.methodLink RL 68 yX5_mast) ∈ AW := aw_3 104 (by decide +kernel) rfl
theorem wv_X5_mast : (Cond.instanceMethod yX5_mast) ∈ AW := aw_3 105 (by decide +kernel) rfl
theorem wl_X5_mast : (Cond.selects yX5_mast.cls yX5_mast yX5_mast) ∈ AW := aw_3 106 (by decide +kernel) rfl
theorem wk_X5_mast : (Cond.code yX5_mast cX5_mast 9 (some .int)) ∈ AW := aw_3 107 (by decide +kernel) rfl
theorem wm_X5_84 : (Cond.methodLink RX5 84 yX5_in) ∈ AW := aw_3 108 (by decide +kernel) rfl
theorem wz_X5_in : (Cond.static yX5_in) ∈ AW := aw_3 109 (by decide +kernel) rfl
theorem wk_X5_in : (Cond.code yX5_in cX5_in 3 (some .boolean)) ∈ AW := aw_3 110 (by decide +kernel) rfl
theorem wm_L_76 : (Cond.methodLink RL 76 yX5_lease) ∈ AW := aw_3 111 (by decide +kernel) rfl
theorem wv_X5_lease : (Cond.instanceMethod yX5_lease) ∈ AW := aw_3 112 (by decide +kernel) rfl
theorem wl_X5_lease : (Cond.selects yX5_lease.cls yX5_lease yX5_lease) ∈ AW := aw_3 113 (by decide +kernel) rfl
theorem wk_X5_lease : (Cond.code yX5_lease cX5_lease 10 none) ∈ AW := aw_3 114 (by decide +kernel) rfl
theorem wm_X5_99 : (Cond.methodLink RX5 99 yX5_isMast) ∈ AW := aw_3 115 (by decide +kernel) rfl
theorem wv_X5_isMast : (Cond.instanceMethod yX5_isMast) ∈ AW := aw_3 117 (by decide +kernel) rfl
theorem wk_X5_isMast : (Cond.code yX5_isMast cX5_isMast 2 (some .boolean)) ∈ AW := aw_3 118 (by decide +kernel) rfl
theorem wm_X5_102 : (Cond.methodLink RX5 102 yX5_isFarmer) ∈ AW := aw_3 119 (by decide +kernel) rfl
theorem wz_X5_isFarmer : (Cond.static yX5_isFarmer) ∈ AW := aw_3 120 (by decide +kernel) rfl
theorem wk_X5_isFarmer : (Cond.code yX5_isFarmer cX5_isFarmer 1 (some .boolean)) ∈ AW := aw_3 121 (by decide +kernel) rfl
theorem wm_X5_91 : (Cond.methodLink RX5 91 yX5_isLeased) ∈ AW := aw_3 122 (by decide +kernel) rfl
theorem wv_X5_isLeased : (Cond.instanceMethod yX5_isLeased) ∈ AW := aw_3 124 (by decide +kernel) rfl
theorem wk_X5_isLeased : (Cond.code yX5_isLeased cX5_isLeased 2 (some .boolean)) ∈ AW := aw_3 125 (by decide +kernel) rfl
theorem wm_L_80 : (Cond.methodLink RL 80 yX5_sun) ∈ AW := aw_3 126 (by decide +kernel) rfl
theorem wv_X5_sun : (Cond.instanceMethod yX5_sun) ∈ AW := aw_3 127 (by decide +kernel) rfl
theorem wl_X5_sun : (Cond.selects yX5_sun.cls yX5_sun yX5_sun) ∈ AW := aw_3 128 (by decide +kernel) rfl
theorem wk_X5_sun : (Cond.code yX5_sun cX5_sun 3 (some .int)) ∈ AW := aw_3 129 (by decide +kernel) rfl
theorem wm_L_83 : (Cond.methodLink RL 83 yX5_phone) ∈ AW := aw_3 130 (by decide +kernel) rfl
theorem wv_X5_phone : (Cond.instanceMethod yX5_phone) ∈ AW := aw_3 131 (by decide +kernel) rfl
theorem wl_X5_phone : (Cond.selects yX5_phone.cls yX5_phone yX5_phone) ∈ AW := aw_3 132 (by decide +kernel) rfl
theorem wk_X5_phone : (Cond.code yX5_phone cX5_phone 2 (some .int)) ∈ AW := aw_3 133 (by decide +kernel) rfl
theorem wm_L_86 : (Cond.methodLink RL 86 yX5_call) ∈ AW := aw_3 134 (by decide +kernel) rfl
theorem wv_X5_call : (Cond.instanceMethod yX5_call) ∈ AW := aw_3 135 (by decide +kernel) rfl
theorem wl_X5_call : (Cond.selects yX5_call.cls yX5_call yX5_call) ∈ AW := aw_3 136 (by decide +kernel) rfl
theorem wk_X5_call : (Cond.code yX5_call cX5_call 2 (some .int)) ∈ AW := aw_3 137 (by decide +kernel) rfl
theorem wm_X5_122 : (Cond.methodLink RX5 122 yX5_isPhone) ∈ AW := aw_3 138 (by decide +kernel) rfl
theorem wv_X5_isPhone : (Cond.instanceMethod yX5_isPhone) ∈ AW := aw_3 140 (by decide +kernel) rfl
theorem wk_X5_isPhone : (Cond.code yX5_isPhone cX5_isPhone 2 (some .boolean)) ∈ AW := aw_3 141 (by decide +kernel) rfl
theorem wm_X5_125 : (Cond.methodLink RX5 125 yX5_mastFor) ∈ AW := aw_3 142 (by decide +kernel) rfl
theorem wv_X5_mastFor : (Cond.instanceMethod yX5_mastFor) ∈ AW := aw_3 144 (by decide +kernel) rfl
theorem wk_X5_mastFor : (Cond.code yX5_mastFor cX5_mastFor 5 (some .int)) ∈ AW := aw_3 145 (by decide +kernel) rfl
theorem wm_X5_111 : (Cond.methodLink RX5 111 yX5_isOn) ∈ AW := aw_3 146 (by decide +kernel) rfl
theorem wv_X5_isOn : (Cond.instanceMethod yX5_isOn) ∈ AW := aw_3 148 (by decide +kernel) rfl
theorem wk_X5_isOn : (Cond.code yX5_isOn cX5_isOn 2 (some .boolean)) ∈ AW := aw_3 149 (by decide +kernel) rfl
theorem wm_X5_114 : (Cond.methodLink RX5 114 yX5_covers) ∈ AW := aw_3 150 (by decide +kernel) rfl
theorem wv_X5_covers : (Cond.instanceMethod yX5_covers) ∈ AW := aw_3 152 (by decide +kernel) rfl
theorem wk_X5_covers : (Cond.code yX5_covers cX5_covers 3 (some .boolean)) ∈ AW := aw_3 153 (by decide +kernel) rfl
theorem wm_X5_95 : (Cond.methodLink RX5 95 yX5_apart) ∈ AW := aw_3 154 (by decide +kernel) rfl
theorem wv_X5_apart : (Cond.instanceMethod yX5_apart) ∈ AW := aw_3 156 (by decide +kernel) rfl
theorem wk_X5_apart : (Cond.code yX5_apart cX5_apart 4 (some .int)) ∈ AW := aw_3 157 (by decide +kernel) rfl
theorem wm_X5_118 : (Cond.methodLink RX5 118 yX5_carries) ∈ AW := aw_3 158 (by decide +kernel) rfl
theorem wv_X5_carries : (Cond.instanceMethod yX5_carries) ∈ AW := aw_3 160 (by decide +kernel) rfl
theorem wk_X5_carries : (Cond.code yX5_carries cX5_carries 4 (some .int)) ∈ AW := aw_3 161 (by decide +kernel) rfl
theorem wm_L_89 : (Cond.methodLink RL 89 yX5_end) ∈ AW := aw_3 162 (by decide +kernel) rfl
theorem wv_X5_end : (Cond.instanceMethod yX5_end) ∈ AW := aw_3 163 (by decide +kernel) rfl
theorem wl_X5_end : (Cond.selects yX5_end.cls yX5_end yX5_end) ∈ AW := aw_3 164 (by decide +kernel) rfl
theorem wk_X5_end : (Cond.code yX5_end cX5_end 3 (some .int)) ∈ AW := aw_3 165 (by decide +kernel) rfl
theorem wm_L_93 : (Cond.methodLink RL 93 yX5_move) ∈ AW := aw_3 166 (by decide +kernel) rfl
theorem wv_X5_move : (Cond.instanceMethod yX5_move) ∈ AW := aw_3 167 (by decide +kernel) rfl
theorem wl_X5_move : (Cond.selects yX5_move.cls yX5_move yX5_move) ∈ AW := aw_3 168 (by decide +kernel) rfl
theorem wk_X5_move : (Cond.code yX5_move cX5_move 3 (some .int)) ∈ AW := aw_3 169 (by decide +kernel) rfl
theorem wm_X5_128 : (Cond.methodLink RX5 128 yX5_handOver) ∈ AW := aw_3 170 (by decide +kernel) rfl
theorem wv_X5_handOver : (Cond.instanceMethod yX5_handOver) ∈ AW := aw_3 172 (by decide +kernel) rfl
theorem wk_X5_handOver : (Cond.code yX5_handOver cX5_handOver 2 none) ∈ AW := aw_3 173 (by decide +kernel) rfl
theorem wm_L_96 : (Cond.methodLink RL 96 yX5_pass) ∈ AW := aw_3 174 (by decide +kernel) rfl
theorem wv_X5_pass : (Cond.instanceMethod yX5_pass) ∈ AW := aw_3 175 (by decide +kernel) rfl
theorem wl_X5_pass : (Cond.selects yX5_pass.cls yX5_pass yX5_pass) ∈ AW := aw_3 176 (by decide +kernel) rfl
theorem wk_X5_pass : (Cond.code yX5_pass cX5_pass 3 (some .int)) ∈ AW := aw_3 177 (by decide +kernel) rfl
theorem wm_X5_138 : (Cond.methodLink RX5 138 yX5_hourGoesBy) ∈ AW := aw_3 178 (by decide +kernel) rfl
theorem wv_X5_hourGoesBy : (Cond.instanceMethod yX5_hourGoesBy) ∈ AW := aw_3 180 (by decide +kernel) rfl
theorem wk_X5_hourGoesBy : (Cond.code yX5_hourGoesBy cX5_hourGoesBy 2 none) ∈ AW := aw_3 181 (by decide +kernel) rfl
theorem wm_X5_132 : (Cond.methodLink RX5 132 yX5_payRent) ∈ AW := aw_3 182 (by decide +kernel) rfl
theorem wv_X5_payRent : (Cond.instanceMethod yX5_payRent) ∈ AW := aw_3 184 (by decide +kernel) rfl
theorem wk_X5_payRent : (Cond.code yX5_payRent cX5_payRent 4 none) ∈ AW := aw_3 185 (by decide +kernel) rfl
theorem wm_X5_135 : (Cond.methodLink RX5 135 yX5_power) ∈ AW := aw_3 186 (by decide +kernel) rfl
theorem wv_X5_power : (Cond.instanceMethod yX5_power) ∈ AW := aw_3 188 (by decide +kernel) rfl
theorem wk_X5_power : (Cond.code yX5_power cX5_power 5 none) ∈ AW := aw_3 189 (by decide +kernel) rfl
theorem wm_L_99 : (Cond.methodLink RL 99 yX5_ofMast) ∈ AW := aw_3 190 (by decide +kernel) rfl
theorem wv_X5_ofMast : (Cond.instanceMethod yX5_ofMast) ∈ AW := aw_3 191 (by decide +kernel) rfl
theorem wl_X5_ofMast : (Cond.selects yX5_ofMast.cls yX5_ofMast yX5_ofMast) ∈ AW := aw_3 192 (by decide +kernel) rfl
theorem wk_X5_ofMast : (Cond.code yX5_ofMast cX5_ofMast 3 (some .int)) ∈ AW := aw_3 193 (by decide +kernel) rfl
theorem wm_L_102 : (Cond.methodLink RL 102 yX5_trafficAnew) ∈ AW := aw_3 194 (by decide +kernel) rfl
theorem wv_X5_trafficAnew : (Cond.instanceMethod yX5_trafficAnew) ∈ AW := aw_3 195 (by decide +kernel) rfl
theorem wl_X5_trafficAnew : (Cond.selects yX5_trafficAnew.cls yX5_trafficAnew yX5_trafficAnew) ∈ AW := aw_3 196 (by decide +kernel) rfl
theorem wk_X5_trafficAnew : (Cond.code yX5_trafficAnew cX5_trafficAnew 2 (some .int)) ∈ AW := aw_3 197 (by decide +kernel) rfl
theorem wm_L_105 : (Cond.methodLink RL 105 yX5_ofPhone) ∈ AW := aw_3 198 (by decide +kernel) rfl
theorem wv_X5_ofPhone : (Cond.instanceMethod yX5_ofPhone) ∈ AW := aw_3 199 (by decide +kernel) rfl
theorem wl_X5_ofPhone : (Cond.selects yX5_ofPhone.cls yX5_ofPhone yX5_ofPhone) ∈ AW := aw_3 200 (by decide +kernel) rfl
theorem wk_X5_ofPhone : (Cond.code yX5_ofPhone cX5_ofPhone 3 (some .int)) ∈ AW := aw_3 201 (by decide +kernel) rfl
theorem wm_L_109 : (Cond.methodLink RL 109 yX5_strength) ∈ AW := aw_3 202 (by decide +kernel) rfl
theorem wv_X5_strength : (Cond.instanceMethod yX5_strength) ∈ AW := aw_3 203 (by decide +kernel) rfl
theorem wl_X5_strength : (Cond.selects yX5_strength.cls yX5_strength yX5_strength) ∈ AW := aw_3 204 (by decide +kernel) rfl
theorem wk_X5_strength : (Cond.code yX5_strength cX5_strength 3 (some .float)) ∈ AW := aw_3 205 (by decide +kernel) rfl
theorem wm_L_112 : (Cond.methodLink RL 112 yX5_paid) ∈ AW := aw_3 206 (by decide +kernel) rfl
theorem wv_X5_paid : (Cond.instanceMethod yX5_paid) ∈ AW := aw_3 207 (by decide +kernel) rfl
theorem wl_X5_paid : (Cond.selects yX5_paid.cls yX5_paid yX5_paid) ∈ AW := aw_3 208 (by decide +kernel) rfl
theorem wk_X5_paid : (Cond.code yX5_paid cX5_paid 2 (some .int)) ∈ AW := aw_3 209 (by decide +kernel) rfl
theorem wm_L_116 : (Cond.methodLink RL 116 yX5_holes) ∈ AW := aw_3 210 (by decide +kernel) rfl
theorem wv_X5_holes : (Cond.instanceMethod yX5_holes) ∈ AW := aw_3 211 (by decide +kernel) rfl
theorem wl_X5_holes : (Cond.selects yX5_holes.cls yX5_holes yX5_holes) ∈ AW := aw_3 212 (by decide +kernel) rfl
theorem wk_X5_holes : (Cond.code yX5_holes cX5_holes 5 (some .int)) ∈ AW := aw_3 213 (by decide +kernel) rfl
theorem wa_long : (Cond.arrayClass .long) ∈ AW := aw_3 214 (by decide +kernel) rfl
theorem wa_double : (Cond.arrayClass .double) ∈ AW := aw_3 215 (by decide +kernel) rfl
theorem wl_X4_isCovered : (Cond.selects yX4_isCovered.cls yX4_isCovered yX4_isCovered) ∈ AW := aw_0 0 (by decide +kernel) rfl
theorem wl_X2_isOn : (Cond.selects yX2_isOn.cls yX2_isOn yX2_isOn) ∈ AW := aw_0 1 (by decide +kernel) rfl
theorem wl_X2_covers : (Cond.selects yX2_covers.cls yX2_covers yX2_covers) ∈ AW := aw_0 2 (by decide +kernel) rfl
theorem wl_X2_distanceTo : (Cond.selects yX2_distanceTo.cls yX2_distanceTo yX2_distanceTo) ∈ AW := aw_0 3 (by decide +kernel) rfl
theorem wl_X4_mastAt : (Cond.selects yX4_mastAt.cls yX4_mastAt yX4_mastAt) ∈ AW := aw_0 5 (by decide +kernel) rfl
theorem wl_X4_phoneAt : (Cond.selects yX4_phoneAt.cls yX4_phoneAt yX4_phoneAt) ∈ AW := aw_0 6 (by decide +kernel) rfl
theorem wl_X4_nearestFree : (Cond.selects yX4_nearestFree.cls yX4_nearestFree yX4_nearestFree) ∈ AW := aw_0 7 (by decide +kernel) rfl
theorem wl_X2_canTake : (Cond.selects yX2_canTake.cls yX2_canTake yX2_canTake) ∈ AW := aw_0 8 (by decide +kernel) rfl
theorem wl_X3_comeTo : (Cond.selects yX3_comeTo.cls yX3_comeTo yX3_comeTo) ∈ AW := aw_0 9 (by decide +kernel) rfl
theorem wl_X3_carrierNumber : (Cond.selects yX3_carrierNumber.cls yX3_carrierNumber yX3_carrierNumber) ∈ AW := aw_0 10 (by decide +kernel) rfl
theorem wl_X3_goAway : (Cond.selects yX3_goAway.cls yX3_goAway yX3_goAway) ∈ AW := aw_0 11 (by decide +kernel) rfl
theorem wl_X2_logStay : (Cond.selects yX2_logStay.cls yX2_logStay yX2_logStay) ∈ AW := aw_0 12 (by decide +kernel) rfl
theorem wl_X1_isFull : (Cond.selects yX1_isFull.cls yX1_isFull yX1_isFull) ∈ AW := aw_0 13 (by decide +kernel) rfl
theorem wl_X1_add : (Cond.selects yX1_add.cls yX1_add yX1_add) ∈ AW := aw_0 14 (by decide +kernel) rfl
theorem wl_X4_handOverOrDrop : (Cond.selects yX4_handOverOrDrop.cls yX4_handOverOrDrop yX4_handOverOrDrop) ∈ AW := aw_0 15 (by decide +kernel) rfl
theorem wl_X4_letAnHourGoBy : (Cond.selects yX4_letAnHourGoBy.cls yX4_letAnHourGoBy yX4_letAnHourGoBy) ∈ AW := aw_0 16 (by decide +kernel) rfl
theorem wl_X4_countTraffic : (Cond.selects yX4_countTraffic.cls yX4_countTraffic yX4_countTraffic) ∈ AW := aw_0 17 (by decide +kernel) rfl
theorem wl_X4_payRents : (Cond.selects yX4_payRents.cls yX4_payRents yX4_payRents) ∈ AW := aw_0 18 (by decide +kernel) rfl
theorem wl_X4_payRent : (Cond.selects yX4_payRent.cls yX4_payRent yX4_payRent) ∈ AW := aw_0 19 (by decide +kernel) rfl
theorem wl_X4_pay : (Cond.selects yX4_pay.cls yX4_pay yX4_pay) ∈ AW := aw_0 20 (by decide +kernel) rfl
theorem wl_X4_powerMasts : (Cond.selects yX4_powerMasts.cls yX4_powerMasts yX4_powerMasts) ∈ AW := aw_0 21 (by decide +kernel) rfl
theorem wl_X2_takePower : (Cond.selects yX2_takePower.cls yX2_takePower yX2_takePower) ∈ AW := aw_0 22 (by decide +kernel) rfl
theorem wl_X4_endLeases : (Cond.selects yX4_endLeases.cls yX4_endLeases yX4_endLeases) ∈ AW := aw_0 23 (by decide +kernel) rfl
theorem wl_X4_leaveMastsThatAreNotOn : (Cond.selects yX4_leaveMastsThatAreNotOn.cls yX4_leaveMastsThatAreNotOn yX4_leaveMastsThatAreNotOn) ∈ AW := aw_0 24 (by decide +kernel) rfl
theorem wl_X2_hoursOfLog : (Cond.selects yX2_hoursOfLog.cls yX2_hoursOfLog yX2_hoursOfLog) ∈ AW := aw_0 25 (by decide +kernel) rfl
theorem wl_X1_hours : (Cond.selects yX1_hours.cls yX1_hours yX1_hours) ∈ AW := aw_0 26 (by decide +kernel) rfl
theorem wl_X5_isMast : (Cond.selects yX5_isMast.cls yX5_isMast yX5_isMast) ∈ AW := aw_0 27 (by decide +kernel) rfl
theorem wl_X5_isLeased : (Cond.selects yX5_isLeased.cls yX5_isLeased yX5_isLeased) ∈ AW := aw_0 28 (by decide +kernel) rfl
theorem wl_X5_isPhone : (Cond.selects yX5_isPhone.cls yX5_isPhone yX5_isPhone) ∈ AW := aw_0 29 (by decide +kernel) rfl
theorem wl_X5_mastFor : (Cond.selects yX5_mastFor.cls yX5_mastFor yX5_mastFor) ∈ AW := aw_0 30 (by decide +kernel) rfl
theorem wl_X5_isOn : (Cond.selects yX5_isOn.cls yX5_isOn yX5_isOn) ∈ AW := aw_0 31 (by decide +kernel) rfl
theorem wl_X5_covers : (Cond.selects yX5_covers.cls yX5_covers yX5_covers) ∈ AW := aw_0 32 (by decide +kernel) rfl
theorem wl_X5_apart : (Cond.selects yX5_apart.cls yX5_apart yX5_apart) ∈ AW := aw_0 33 (by decide +kernel) rfl
theorem wl_X5_carries : (Cond.selects yX5_carries.cls yX5_carries yX5_carries) ∈ AW := aw_0 34 (by decide +kernel) rfl
theorem wl_X5_handOver : (Cond.selects yX5_handOver.cls yX5_handOver yX5_handOver) ∈ AW := aw_0 35 (by decide +kernel) rfl
theorem wl_X5_hourGoesBy : (Cond.selects yX5_hourGoesBy.cls yX5_hourGoesBy yX5_hourGoesBy) ∈ AW := aw_0 36 (by decide +kernel) rfl
theorem wl_X5_payRent : (Cond.selects yX5_payRent.cls yX5_payRent yX5_payRent) ∈ AW := aw_0 37 (by decide +kernel) rfl
theorem wl_X5_power : (Cond.selects yX5_power.cls yX5_power yX5_power) ∈ AW := aw_0 38 (by decide +kernel) rfl
theorem inX0 : ∀ w ∈ u_ws RX0 TX0 6, w ∈ AW := by decide +kernel
theorem inX1 : ∀ w ∈ u_ws RX1 TX1 4, w ∈ AW := by decide +kernel
theorem inX2 : ∀ w ∈ u_ws RX2 TX2 14, w ∈ AW := by decide +kernel
theorem inX3 : ∀ w ∈ u_ws RX3 TX3 6, w ∈ AW := by decide +kernel
theorem inX4 : ∀ w ∈ u_ws RX4 TX4 5, w ∈ AW := by decide +kernel
theorem inX5 : ∀ w ∈ u_ws RX5 TX5 27, w ∈ AW := by decide +kernel
theorem ax_IA : ∀ w ∈ vx_at0 RX4 35 "java/lang/IllegalArgumentException" ["java/lang/RuntimeException", "java/lang/Exception"], w ∈ AW := by decide +kernel
theorem ax_IS : ∀ w ∈ vx_at0 RX4 41 "java/lang/IllegalStateException" ["java/lang/RuntimeException", "java/lang/Exception"], w ∈ AW := by decide +kernel
theorem ax_IO : ∀ w ∈ vx_at0 RX4 51 "java/lang/IndexOutOfBoundsException" ["java/lang/RuntimeException", "java/lang/Exception"], w ∈ AW := by decide +kernel
end
section
/-! decode rows: the class -/
theorem dX0_init_0 : decode cX0_init 0 = .ok (.aload_n 0, 1) := by decide +kernel
theorem dX0_init_1 : decode cX0_init 1 = .ok (.invokespecial 1, 3) := by decide +kernel
theorem dX0_init_4 : decode cX0_init 4 = .ok (.aload_n 0, 1) := by decide +kernel
theorem dX0_init_5 : decode cX0_init 5 = .ok (.iload_n 1, 1) := by decide +kernel
theorem dX0_init_6 : decode cX0_init 6 = .ok (.putfield 7, 3) := by decide +kernel
theorem dX0_init_9 : decode cX0_init 9 = .ok (.aload_n 0, 1) := by decide +kernel
theorem dX0_init_10 : decode cX0_init 10 = .ok (.iload_n 2, 1) := by decide +kernel
theorem dX0_init_11 : decode cX0_init 11 = .ok (.putfield 13, 3) := by decide +kernel
theorem dX0_init_14 : decode cX0_init 14 = .ok (.aload_n 0, 1) := by decide +kernel
theorem dX0_init_15 : decode cX0_init 15 = .ok (.iload_n 3, 1) := by decide +kernel
theorem dX0_init_16 : decode cX0_init 16 = .ok (.putfield 16, 3) := by decide +kernel
theorem dX0_init_19 : decode cX0_init 19 = .ok (.aload_n 0, 1) := by decide +kernel
theorem dX0_init_20 : decode cX0_init 20 = .ok (.iload 4, 2) := by decide +kernel
theorem dX0_init_22 : decode cX0_init 22 = .ok (.putfield 19, 3) := by decide +kernel
theorem dX0_init_25 : decode cX0_init 25 = .ok (.aload_n 0, 1) := by decide +kernel
theorem dX0_init_26 : decode cX0_init 26 = .ok (.iload 5, 2) := by decide +kernel
theorem dX0_init_28 : decode cX0_init 28 = .ok (.putfield 22, 3) := by decide +kernel
theorem dX0_init_31 : decode cX0_init 31 = .ok (.aload_n 0, 1) := by decide +kernel
theorem dX0_init_32 : decode cX0_init 32 = .ok (.iload 6, 2) := by decide +kernel
theorem dX0_init_34 : decode cX0_init 34 = .ok (.putfield 25, 3) := by decide +kernel
theorem dX0_init_37 : decode cX0_init 37 = .ok (.return_, 1) := by decide +kernel
theorem dX1_init_0 : decode cX1_init 0 = .ok (.aload_n 0, 1) := by decide +kernel
theorem dX1_init_1 : decode cX1_init 1 = .ok (.invokespecial 3, 3) := by decide +kernel
theorem dX1_init_4 : decode cX1_init 4 = .ok (.aload_n 0, 1) := by decide +kernel
theorem dX1_init_5 : decode cX1_init 5 = .ok (.bipush 64, 2) := by decide +kernel
theorem dX1_init_7 : decode cX1_init 7 = .ok (.newarray .int, 2) := by decide +kernel
theorem dX1_init_9 : decode cX1_init 9 = .ok (.putfield 9, 3) := by decide +kernel
theorem dX1_init_12 : decode cX1_init 12 = .ok (.aload_n 0, 1) := by decide +kernel
theorem dX1_init_13 : decode cX1_init 13 = .ok (.bipush 64, 2) := by decide +kernel
theorem dX1_init_15 : decode cX1_init 15 = .ok (.newarray .int, 2) := by decide +kernel
theorem dX1_init_17 : decode cX1_init 17 = .ok (.putfield 15, 3) := by decide +kernel
theorem dX1_init_20 : decode cX1_init 20 = .ok (.aload_n 0, 1) := by decide +kernel
theorem dX1_init_21 : decode cX1_init 21 = .ok (.aload_n 1, 1) := by decide +kernel
theorem dX1_init_22 : decode cX1_init 22 = .ok (.putfield 18, 3) := by decide +kernel
theorem dX1_init_25 : decode cX1_init 25 = .ok (.return_, 1) := by decide +kernel
theorem dX1_isFull_0 : decode cX1_isFull 0 = .ok (.aload_n 0, 1) := by decide +kernel
theorem dX1_isFull_1 : decode cX1_isFull 1 = .ok (.getfield 22, 3) := by decide +kernel
theorem dX1_isFull_4 : decode cX1_isFull 4 = .ok (.bipush 64, 2) := by decide +kernel
theorem dX1_isFull_6 : decode cX1_isFull 6 = .ok (.if_icmp .lt 7, 3) := by decide +kernel
theorem dX1_isFull_9 : decode cX1_isFull 9 = .ok (.iconst 1, 1) := by decide +kernel
theorem dX1_isFull_10 : decode cX1_isFull 10 = .ok (.goto 4, 3) := by decide +kernel
theorem dX1_isFull_13 : decode cX1_isFull 13 = .ok (.iconst 0, 1) := by decide +kernel
theorem dX1_isFull_14 : decode cX1_isFull 14 = .ok (.ireturn, 1) := by decide +kernel
theorem dX1_add_0 : decode cX1_add 0 = .ok (.aload_n 0, 1) := by decide +kernel
theorem dX1_add_1 : decode cX1_add 1 = .ok (.getfield 22, 3) := by decide +kernel
theorem dX1_add_4 : decode cX1_add 4 = .ok (.iconst 0, 1) := by decide +kernel
theorem dX1_add_5 : decode cX1_add 5 = .ok (.bipush 63, 2) := by decide +kernel
theorem dX1_add_7 : decode cX1_add 7 = .ok (.invokestatic 26, 3) := by decide +kernel
theorem dX1_add_10 : decode cX1_add 10 = .ok (.ifCond .eq 33, 3) := by decide +kernel
theorem dX1_add_13 : decode cX1_add 13 = .ok (.aload_n 0, 1) := by decide +kernel
theorem dX1_add_14 : decode cX1_add 14 = .ok (.getfield 9, 3) := by decide +kernel
theorem dX1_add_17 : decode cX1_add 17 = .ok (.aload_n 0, 1) := by decide +kernel
theorem dX1_add_18 : decode cX1_add 18 = .ok (.getfield 22, 3) := by decide +kernel
theorem dX1_add_21 : decode cX1_add 21 = .ok (.iload_n 1, 1) := by decide +kernel
theorem dX1_add_22 : decode cX1_add 22 = .ok (.iastore, 1) := by decide +kernel
theorem dX1_add_23 : decode cX1_add 23 = .ok (.aload_n 0, 1) := by decide +kernel
theorem dX1_add_24 : decode cX1_add 24 = .ok (.getfield 15, 3) := by decide +kernel
theorem dX1_add_27 : decode cX1_add 27 = .ok (.aload_n 0, 1) := by decide +kernel
theorem dX1_add_28 : decode cX1_add 28 = .ok (.getfield 22, 3) := by decide +kernel
theorem dX1_add_31 : decode cX1_add 31 = .ok (.iload_n 2, 1) := by decide +kernel
theorem dX1_add_32 : decode cX1_add 32 = .ok (.iastore, 1) := by decide +kernel
theorem dX1_add_33 : decode cX1_add 33 = .ok (.aload_n 0, 1) := by decide +kernel
theorem dX1_add_34 : decode cX1_add 34 = .ok (.dup, 1) := by decide +kernel
theorem dX1_add_35 : decode cX1_add 35 = .ok (.getfield 22, 3) := by decide +kernel
theorem dX1_add_38 : decode cX1_add 38 = .ok (.iconst 1, 1) := by decide +kernel
theorem dX1_add_39 : decode cX1_add 39 = .ok (.iadd, 1) := by decide +kernel
theorem dX1_add_40 : decode cX1_add 40 = .ok (.putfield 22, 3) := by decide +kernel
theorem dX1_add_43 : decode cX1_add 43 = .ok (.return_, 1) := by decide +kernel
theorem dX1_hours_0 : decode cX1_hours 0 = .ok (.iconst 0, 1) := by decide +kernel
theorem dX1_hours_1 : decode cX1_hours 1 = .ok (.istore_n 1, 1) := by decide +kernel
theorem dX1_hours_2 : decode cX1_hours 2 = .ok (.iconst 0, 1) := by decide +kernel
theorem dX1_hours_3 : decode cX1_hours 3 = .ok (.istore_n 2, 1) := by decide +kernel
theorem dX1_hours_4 : decode cX1_hours 4 = .ok (.iload_n 2, 1) := by decide +kernel
theorem dX1_hours_5 : decode cX1_hours 5 = .ok (.aload_n 0, 1) := by decide +kernel
theorem dX1_hours_6 : decode cX1_hours 6 = .ok (.getfield 22, 3) := by decide +kernel
theorem dX1_hours_9 : decode cX1_hours 9 = .ok (.if_icmp .ge 31, 3) := by decide +kernel
theorem dX1_hours_12 : decode cX1_hours 12 = .ok (.iload_n 2, 1) := by decide +kernel
theorem dX1_hours_13 : decode cX1_hours 13 = .ok (.bipush 64, 2) := by decide +kernel
theorem dX1_hours_15 : decode cX1_hours 15 = .ok (.if_icmp .ge 25, 3) := by decide +kernel
theorem dX1_hours_18 : decode cX1_hours 18 = .ok (.iload_n 1, 1) := by decide +kernel
theorem dX1_hours_19 : decode cX1_hours 19 = .ok (.aload_n 0, 1) := by decide +kernel
theorem dX1_hours_20 : decode cX1_hours 20 = .ok (.getfield 15, 3) := by decide +kernel
theorem dX1_hours_23 : decode cX1_hours 23 = .ok (.iload_n 2, 1) := by decide +kernel
theorem dX1_hours_24 : decode cX1_hours 24 = .ok (.iaload, 1) := by decide +kernel
theorem dX1_hours_25 : decode cX1_hours 25 = .ok (.aload_n 0, 1) := by decide +kernel
theorem dX1_hours_26 : decode cX1_hours 26 = .ok (.getfield 9, 3) := by decide +kernel
theorem dX1_hours_29 : decode cX1_hours 29 = .ok (.iload_n 2, 1) := by decide +kernel
theorem dX1_hours_30 : decode cX1_hours 30 = .ok (.iaload, 1) := by decide +kernel
theorem dX1_hours_31 : decode cX1_hours 31 = .ok (.isub, 1) := by decide +kernel
theorem dX1_hours_32 : decode cX1_hours 32 = .ok (.iadd, 1) := by decide +kernel
theorem dX1_hours_33 : decode cX1_hours 33 = .ok (.istore_n 1, 1) := by decide +kernel
theorem dX1_hours_34 : decode cX1_hours 34 = .ok (.iinc 2 1, 3) := by decide +kernel
theorem dX1_hours_37 : decode cX1_hours 37 = .ok (.goto (-33), 3) := by decide +kernel
theorem dX1_hours_40 : decode cX1_hours 40 = .ok (.iload_n 1, 1) := by decide +kernel
theorem dX1_hours_41 : decode cX1_hours 41 = .ok (.ireturn, 1) := by decide +kernel
theorem dX2_init_0 : decode cX2_init 0 = .ok (.aload_n 0, 1) := by decide +kernel
theorem dX2_init_1 : decode cX2_init 1 = .ok (.invokespecial 3, 3) := by decide +kernel
theorem dX2_init_4 : decode cX2_init 4 = .ok (.aload_n 0, 1) := by decide +kernel
theorem dX2_init_5 : decode cX2_init 5 = .ok (.iload_n 1, 1) := by decide +kernel
theorem dX2_init_6 : decode cX2_init 6 = .ok (.putfield 9, 3) := by decide +kernel
theorem dX2_init_9 : decode cX2_init 9 = .ok (.aload_n 0, 1) := by decide +kernel
theorem dX2_init_10 : decode cX2_init 10 = .ok (.iload_n 2, 1) := by decide +kernel
theorem dX2_init_11 : decode cX2_init 11 = .ok (.putfield 15, 3) := by decide +kernel
theorem dX2_init_14 : decode cX2_init 14 = .ok (.aload_n 0, 1) := by decide +kernel
theorem dX2_init_15 : decode cX2_init 15 = .ok (.iload_n 3, 1) := by decide +kernel
theorem dX2_init_16 : decode cX2_init 16 = .ok (.putfield 18, 3) := by decide +kernel
theorem dX2_init_19 : decode cX2_init 19 = .ok (.aload_n 0, 1) := by decide +kernel
theorem dX2_init_20 : decode cX2_init 20 = .ok (.iload 4, 2) := by decide +kernel
theorem dX2_init_22 : decode cX2_init 22 = .ok (.putfield 21, 3) := by decide +kernel
theorem dX2_init_25 : decode cX2_init 25 = .ok (.aload_n 0, 1) := by decide +kernel
theorem dX2_init_26 : decode cX2_init 26 = .ok (.iload 5, 2) := by decide +kernel
theorem dX2_init_28 : decode cX2_init 28 = .ok (.putfield 24, 3) := by decide +kernel
theorem dX2_init_31 : decode cX2_init 31 = .ok (.aload_n 0, 1) := by decide +kernel
theorem dX2_init_32 : decode cX2_init 32 = .ok (.iload 6, 2) := by decide +kernel
theorem dX2_init_34 : decode cX2_init 34 = .ok (.putfield 27, 3) := by decide +kernel
theorem dX2_init_37 : decode cX2_init 37 = .ok (.aload_n 0, 1) := by decide +kernel
theorem dX2_init_38 : decode cX2_init 38 = .ok (.iload 7, 2) := by decide +kernel
theorem dX2_init_40 : decode cX2_init 40 = .ok (.putfield 30, 3) := by decide +kernel
theorem dX2_init_43 : decode cX2_init 43 = .ok (.return_, 1) := by decide +kernel
theorem dX2_isOn_0 : decode cX2_isOn 0 = .ok (.aload_n 0, 1) := by decide +kernel
theorem dX2_isOn_1 : decode cX2_isOn 1 = .ok (.getfield 34, 3) := by decide +kernel
theorem dX2_isOn_4 : decode cX2_isOn 4 = .ok (.ifnull 14, 3) := by decide +kernel
theorem dX2_isOn_7 : decode cX2_isOn 7 = .ok (.aload_n 0, 1) := by decide +kernel
theorem dX2_isOn_8 : decode cX2_isOn 8 = .ok (.getfield 38, 3) := by decide +kernel
theorem dX2_isOn_11 : decode cX2_isOn 11 = .ok (.ifCond .ne 7, 3) := by decide +kernel
theorem dX2_isOn_14 : decode cX2_isOn 14 = .ok (.iconst 1, 1) := by decide +kernel
theorem dX2_isOn_15 : decode cX2_isOn 15 = .ok (.goto 4, 3) := by decide +kernel
theorem dX2_isOn_18 : decode cX2_isOn 18 = .ok (.iconst 0, 1) := by decide +kernel
theorem dX2_isOn_19 : decode cX2_isOn 19 = .ok (.ireturn, 1) := by decide +kernel
theorem dX2_distanceTo_0 : decode cX2_distanceTo 0 = .ok (.iload_n 1, 1) := by decide +kernel
theorem dX2_distanceTo_1 : decode cX2_distanceTo 1 = .ok (.aload_n 0, 1) := by decide +kernel
theorem dX2_distanceTo_2 : decode cX2_distanceTo 2 = .ok (.getfield 15, 3) := by decide +kernel
theorem dX2_distanceTo_5 : decode cX2_distanceTo 5 = .ok (.isub, 1) := by decide +kernel
theorem dX2_distanceTo_6 : decode cX2_distanceTo 6 = .ok (.invokestatic 41, 3) := by decide +kernel
theorem dX2_distanceTo_9 : decode cX2_distanceTo 9 = .ok (.ireturn, 1) := by decide +kernel
theorem dX2_covers_0 : decode cX2_covers 0 = .ok (.aload_n 0, 1) := by decide +kernel
theorem dX2_covers_1 : decode cX2_covers 1 = .ok (.iload_n 1, 1) := by decide +kernel
theorem dX2_covers_2 : decode cX2_covers 2 = .ok (.invokevirtual 47, 3) := by decide +kernel
theorem dX2_covers_5 : decode cX2_covers 5 = .ok (.aload_n 0, 1) := by decide +kernel
theorem dX2_covers_6 : decode cX2_covers 6 = .ok (.getfield 18, 3) := by decide +kernel
theorem dX2_covers_9 : decode cX2_covers 9 = .ok (.if_icmp .gt 7, 3) := by decide +kernel
theorem dX2_covers_12 : decode cX2_covers 12 = .ok (.iconst 1, 1) := by decide +kernel
theorem dX2_covers_13 : decode cX2_covers 13 = .ok (.goto 4, 3) := by decide +kernel
theorem dX2_covers_16 : decode cX2_covers 16 = .ok (.iconst 0, 1) := by decide +kernel
theorem dX2_covers_17 : decode cX2_covers 17 = .ok (.ireturn, 1) := by decide +kernel
theorem dX2_canTake_0 : decode cX2_canTake 0 = .ok (.aload_n 0, 1) := by decide +kernel
theorem dX2_canTake_1 : decode cX2_canTake 1 = .ok (.invokevirtual 50, 3) := by decide +kernel
theorem dX2_canTake_4 : decode cX2_canTake 4 = .ok (.ifCond .eq 26, 3) := by decide +kernel
theorem dX2_canTake_7 : decode cX2_canTake 7 = .ok (.aload_n 0, 1) := by decide +kernel
theorem dX2_canTake_8 : decode cX2_canTake 8 = .ok (.iload_n 1, 1) := by decide +kernel
theorem dX2_canTake_9 : decode cX2_canTake 9 = .ok (.invokevirtual 54, 3) := by decide +kernel
theorem dX2_canTake_12 : decode cX2_canTake 12 = .ok (.ifCond .eq 18, 3) := by decide +kernel
theorem dX2_canTake_15 : decode cX2_canTake 15 = .ok (.aload_n 0, 1) := by decide +kernel
theorem dX2_canTake_16 : decode cX2_canTake 16 = .ok (.getfield 58, 3) := by decide +kernel
theorem dX2_canTake_19 : decode cX2_canTake 19 = .ok (.aload_n 0, 1) := by decide +kernel
theorem dX2_canTake_20 : decode cX2_canTake 20 = .ok (.getfield 21, 3) := by decide +kernel
theorem dX2_canTake_23 : decode cX2_canTake 23 = .ok (.if_icmp .ge 7, 3) := by decide +kernel
theorem dX2_canTake_26 : decode cX2_canTake 26 = .ok (.iconst 1, 1) := by decide +kernel
theorem dX2_canTake_27 : decode cX2_canTake 27 = .ok (.goto 4, 3) := by decide +kernel
theorem dX2_canTake_30 : decode cX2_canTake 30 = .ok (.iconst 0, 1) := by decide +kernel
theorem dX2_canTake_31 : decode cX2_canTake 31 = .ok (.ireturn, 1) := by decide +kernel
theorem dX2_takePower_0 : decode cX2_takePower 0 = .ok (.aload_n 0, 1) := by decide +kernel
theorem dX2_takePower_1 : decode cX2_takePower 1 = .ok (.iconst 0, 1) := by decide +kernel
theorem dX2_takePower_2 : decode cX2_takePower 2 = .ok (.putfield 38, 3) := by decide +kernel
theorem dX2_takePower_5 : decode cX2_takePower 5 = .ok (.aload_n 0, 1) := by decide +kernel
theorem dX2_takePower_6 : decode cX2_takePower 6 = .ok (.getfield 34, 3) := by decide +kernel
theorem dX2_takePower_9 : decode cX2_takePower 9 = .ok (.ifnonnull 4, 3) := by decide +kernel
theorem dX2_takePower_12 : decode cX2_takePower 12 = .ok (.return_, 1) := by decide +kernel
theorem dX2_takePower_13 : decode cX2_takePower 13 = .ok (.aload_n 0, 1) := by decide +kernel
theorem dX2_takePower_14 : decode cX2_takePower 14 = .ok (.getfield 61, 3) := by decide +kernel
theorem dX2_takePower_17 : decode cX2_takePower 17 = .ok (.aload_n 0, 1) := by decide +kernel
theorem dX2_takePower_18 : decode cX2_takePower 18 = .ok (.getfield 24, 3) := by decide +kernel
theorem dX2_takePower_21 : decode cX2_takePower 21 = .ok (.iload_n 1, 1) := by decide +kernel
theorem dX2_takePower_22 : decode cX2_takePower 22 = .ok (.imul, 1) := by decide +kernel
theorem dX2_takePower_23 : decode cX2_takePower 23 = .ok (.iadd, 1) := by decide +kernel
theorem dX2_takePower_24 : decode cX2_takePower 24 = .ok (.istore_n 2, 1) := by decide +kernel
theorem dX2_takePower_25 : decode cX2_takePower 25 = .ok (.iconst 2, 1) := by decide +kernel
theorem dX2_takePower_26 : decode cX2_takePower 26 = .ok (.aload_n 0, 1) := by decide +kernel
theorem dX2_takePower_27 : decode cX2_takePower 27 = .ok (.getfield 58, 3) := by decide +kernel
theorem dX2_takePower_30 : decode cX2_takePower 30 = .ok (.iadd, 1) := by decide +kernel
theorem dX2_takePower_31 : decode cX2_takePower 31 = .ok (.istore_n 3, 1) := by decide +kernel
theorem dX2_takePower_32 : decode cX2_takePower 32 = .ok (.iload_n 2, 1) := by decide +kernel
theorem dX2_takePower_33 : decode cX2_takePower 33 = .ok (.iload_n 3, 1) := by decide +kernel
theorem dX2_takePower_34 : decode cX2_takePower 34 = .ok (.if_icmp .lt 20, 3) := by decide +kernel
theorem dX2_takePower_37 : decode cX2_takePower 37 = .ok (.aload_n 0, 1) := by decide +kernel
theorem dX2_takePower_38 : decode cX2_takePower 38 = .ok (.iload_n 2, 1) := by decide +kernel
theorem dX2_takePower_39 : decode cX2_takePower 39 = .ok (.iload_n 3, 1) := by decide +kernel
theorem dX2_takePower_40 : decode cX2_takePower 40 = .ok (.isub, 1) := by decide +kernel
theorem dX2_takePower_41 : decode cX2_takePower 41 = .ok (.aload_n 0, 1) := by decide +kernel
theorem dX2_takePower_42 : decode cX2_takePower 42 = .ok (.getfield 27, 3) := by decide +kernel
theorem dX2_takePower_45 : decode cX2_takePower 45 = .ok (.invokestatic 64, 3) := by decide +kernel
theorem dX2_takePower_48 : decode cX2_takePower 48 = .ok (.putfield 61, 3) := by decide +kernel
theorem dX2_takePower_51 : decode cX2_takePower 51 = .ok (.goto 47, 3) := by decide +kernel
theorem dX2_takePower_54 : decode cX2_takePower 54 = .ok (.aload_n 0, 1) := by decide +kernel
theorem dX2_takePower_55 : decode cX2_takePower 55 = .ok (.getfield 30, 3) := by decide +kernel
theorem dX2_takePower_58 : decode cX2_takePower 58 = .ok (.ifCond .eq 23, 3) := by decide +kernel
theorem dX2_takePower_61 : decode cX2_takePower 61 = .ok (.aload_n 0, 1) := by decide +kernel
theorem dX2_takePower_62 : decode cX2_takePower 62 = .ok (.dup, 1) := by decide +kernel
theorem dX2_takePower_63 : decode cX2_takePower 63 = .ok (.getfield 68, 3) := by decide +kernel
theorem dX2_takePower_66 : decode cX2_takePower 66 = .ok (.iload_n 3, 1) := by decide +kernel
theorem dX2_takePower_67 : decode cX2_takePower 67 = .ok (.iload_n 2, 1) := by decide +kernel
theorem dX2_takePower_68 : decode cX2_takePower 68 = .ok (.isub, 1) := by decide +kernel
theorem dX2_takePower_69 : decode cX2_takePower 69 = .ok (.iadd, 1) := by decide +kernel
theorem dX2_takePower_70 : decode cX2_takePower 70 = .ok (.putfield 68, 3) := by decide +kernel
theorem dX2_takePower_73 : decode cX2_takePower 73 = .ok (.aload_n 0, 1) := by decide +kernel
theorem dX2_takePower_74 : decode cX2_takePower 74 = .ok (.iconst 0, 1) := by decide +kernel
theorem dX2_takePower_75 : decode cX2_takePower 75 = .ok (.putfield 61, 3) := by decide +kernel
theorem dX2_takePower_78 : decode cX2_takePower 78 = .ok (.goto 20, 3) := by decide +kernel
theorem dX2_takePower_81 : decode cX2_takePower 81 = .ok (.aload_n 0, 1) := by decide +kernel
theorem dX2_takePower_82 : decode cX2_takePower 82 = .ok (.iconst 1, 1) := by decide +kernel
theorem dX2_takePower_83 : decode cX2_takePower 83 = .ok (.putfield 38, 3) := by decide +kernel
theorem dX2_takePower_86 : decode cX2_takePower 86 = .ok (.aload_n 0, 1) := by decide +kernel
theorem dX2_takePower_87 : decode cX2_takePower 87 = .ok (.iload_n 2, 1) := by decide +kernel
theorem dX2_takePower_88 : decode cX2_takePower 88 = .ok (.aload_n 0, 1) := by decide +kernel
theorem dX2_takePower_89 : decode cX2_takePower 89 = .ok (.getfield 27, 3) := by decide +kernel
theorem dX2_takePower_92 : decode cX2_takePower 92 = .ok (.invokestatic 64, 3) := by decide +kernel
theorem dX2_takePower_95 : decode cX2_takePower 95 = .ok (.putfield 61, 3) := by decide +kernel
theorem dX2_takePower_98 : decode cX2_takePower 98 = .ok (.return_, 1) := by decide +kernel
theorem dX2_logStay_0 : decode cX2_logStay 0 = .ok (.iload_n 2, 1) := by decide +kernel
theorem dX2_logStay_1 : decode cX2_logStay 1 = .ok (.iload_n 1, 1) := by decide +kernel
theorem dX2_logStay_2 : decode cX2_logStay 2 = .ok (.if_icmp .gt 4, 3) := by decide +kernel
theorem dX2_logStay_5 : decode cX2_logStay 5 = .ok (.return_, 1) := by decide +kernel
theorem dX2_logStay_6 : decode cX2_logStay 6 = .ok (.aload_n 0, 1) := by decide +kernel
theorem dX2_logStay_7 : decode cX2_logStay 7 = .ok (.getfield 71, 3) := by decide +kernel
theorem dX2_logStay_10 : decode cX2_logStay 10 = .ok (.ifnull 13, 3) := by decide +kernel
theorem dX2_logStay_13 : decode cX2_logStay 13 = .ok (.aload_n 0, 1) := by decide +kernel
theorem dX2_logStay_14 : decode cX2_logStay 14 = .ok (.getfield 71, 3) := by decide +kernel
theorem dX2_logStay_17 : decode cX2_logStay 17 = .ok (.invokevirtual 75, 3) := by decide +kernel
theorem dX2_logStay_20 : decode cX2_logStay 20 = .ok (.ifCond .eq 18, 3) := by decide +kernel
theorem dX2_logStay_23 : decode cX2_logStay 23 = .ok (.aload_n 0, 1) := by decide +kernel
theorem dX2_logStay_24 : decode cX2_logStay 24 = .ok (.new 76, 3) := by decide +kernel
theorem dX2_logStay_27 : decode cX2_logStay 27 = .ok (.dup, 1) := by decide +kernel
theorem dX2_logStay_28 : decode cX2_logStay 28 = .ok (.aload_n 0, 1) := by decide +kernel
theorem dX2_logStay_29 : decode cX2_logStay 29 = .ok (.getfield 71, 3) := by decide +kernel
theorem dX2_logStay_32 : decode cX2_logStay 32 = .ok (.invokespecial 80, 3) := by decide +kernel
theorem dX2_logStay_35 : decode cX2_logStay 35 = .ok (.putfield 71, 3) := by decide +kernel
theorem dX2_logStay_38 : decode cX2_logStay 38 = .ok (.aload_n 0, 1) := by decide +kernel
theorem dX2_logStay_39 : decode cX2_logStay 39 = .ok (.getfield 71, 3) := by decide +kernel
theorem dX2_logStay_42 : decode cX2_logStay 42 = .ok (.iload_n 1, 1) := by decide +kernel
theorem dX2_logStay_43 : decode cX2_logStay 43 = .ok (.iload_n 2, 1) := by decide +kernel
theorem dX2_logStay_44 : decode cX2_logStay 44 = .ok (.invokevirtual 83, 3) := by decide +kernel
theorem dX2_logStay_47 : decode cX2_logStay 47 = .ok (.return_, 1) := by decide +kernel
theorem dX2_hoursOfLog_0 : decode cX2_hoursOfLog 0 = .ok (.iconst 0, 1) := by decide +kernel
theorem dX2_hoursOfLog_1 : decode cX2_hoursOfLog 1 = .ok (.istore_n 1, 1) := by decide +kernel
theorem dX2_hoursOfLog_2 : decode cX2_hoursOfLog 2 = .ok (.aload_n 0, 1) := by decide +kernel
theorem dX2_hoursOfLog_3 : decode cX2_hoursOfLog 3 = .ok (.getfield 71, 3) := by decide +kernel
theorem dX2_hoursOfLog_6 : decode cX2_hoursOfLog 6 = .ok (.astore_n 2, 1) := by decide +kernel
theorem dX2_hoursOfLog_7 : decode cX2_hoursOfLog 7 = .ok (.aload_n 2, 1) := by decide +kernel
theorem dX2_hoursOfLog_8 : decode cX2_hoursOfLog 8 = .ok (.ifnull 18, 3) := by decide +kernel
theorem dX2_hoursOfLog_11 : decode cX2_hoursOfLog 11 = .ok (.iload_n 1, 1) := by decide +kernel
theorem dX2_hoursOfLog_12 : decode cX2_hoursOfLog 12 = .ok (.aload_n 2, 1) := by decide +kernel
theorem dX2_hoursOfLog_13 : decode cX2_hoursOfLog 13 = .ok (.invokevirtual 87, 3) := by decide +kernel
theorem dX2_hoursOfLog_16 : decode cX2_hoursOfLog 16 = .ok (.iadd, 1) := by decide +kernel
theorem dX2_hoursOfLog_17 : decode cX2_hoursOfLog 17 = .ok (.istore_n 1, 1) := by decide +kernel
theorem dX2_hoursOfLog_18 : decode cX2_hoursOfLog 18 = .ok (.aload_n 2, 1) := by decide +kernel
theorem dX2_hoursOfLog_19 : decode cX2_hoursOfLog 19 = .ok (.getfield 91, 3) := by decide +kernel
theorem dX2_hoursOfLog_22 : decode cX2_hoursOfLog 22 = .ok (.astore_n 2, 1) := by decide +kernel
theorem dX2_hoursOfLog_23 : decode cX2_hoursOfLog 23 = .ok (.goto (-16), 3) := by decide +kernel
theorem dX2_hoursOfLog_26 : decode cX2_hoursOfLog 26 = .ok (.iload_n 1, 1) := by decide +kernel
theorem dX2_hoursOfLog_27 : decode cX2_hoursOfLog 27 = .ok (.ireturn, 1) := by decide +kernel
theorem dX3_init_0 : decode cX3_init 0 = .ok (.aload_n 0, 1) := by decide +kernel
theorem dX3_init_1 : decode cX3_init 1 = .ok (.invokespecial 3, 3) := by decide +kernel
theorem dX3_init_4 : decode cX3_init 4 = .ok (.aload_n 0, 1) := by decide +kernel
theorem dX3_init_5 : decode cX3_init 5 = .ok (.iload_n 1, 1) := by decide +kernel
theorem dX3_init_6 : decode cX3_init 6 = .ok (.putfield 9, 3) := by decide +kernel
theorem dX3_init_9 : decode cX3_init 9 = .ok (.return_, 1) := by decide +kernel
theorem dX3_carrierNumber_0 : decode cX3_carrierNumber 0 = .ok (.aload_n 0, 1) := by decide +kernel
theorem dX3_carrierNumber_1 : decode cX3_carrierNumber 1 = .ok (.getfield 15, 3) := by decide +kernel
theorem dX3_carrierNumber_4 : decode cX3_carrierNumber 4 = .ok (.ifnonnull 7, 3) := by decide +kernel
theorem dX3_carrierNumber_7 : decode cX3_carrierNumber 7 = .ok (.iconst (-1), 1) := by decide +kernel
theorem dX3_carrierNumber_8 : decode cX3_carrierNumber 8 = .ok (.goto 10, 3) := by decide +kernel
theorem dX3_carrierNumber_11 : decode cX3_carrierNumber 11 = .ok (.aload_n 0, 1) := by decide +kernel
theorem dX3_carrierNumber_12 : decode cX3_carrierNumber 12 = .ok (.getfield 15, 3) := by decide +kernel
theorem dX3_carrierNumber_15 : decode cX3_carrierNumber 15 = .ok (.getfield 19, 3) := by decide +kernel
theorem dX3_carrierNumber_18 : decode cX3_carrierNumber 18 = .ok (.ireturn, 1) := by decide +kernel
theorem dX3_comeTo_0 : decode cX3_comeTo 0 = .ok (.aload_n 1, 1) := by decide +kernel
theorem dX3_comeTo_1 : decode cX3_comeTo 1 = .ok (.ifnonnull 4, 3) := by decide +kernel
theorem dX3_comeTo_4 : decode cX3_comeTo 4 = .ok (.return_, 1) := by decide +kernel
theorem dX3_comeTo_5 : decode cX3_comeTo 5 = .ok (.aload_n 0, 1) := by decide +kernel
theorem dX3_comeTo_6 : decode cX3_comeTo 6 = .ok (.aload_n 1, 1) := by decide +kernel
theorem dX3_comeTo_7 : decode cX3_comeTo 7 = .ok (.putfield 15, 3) := by decide +kernel
theorem dX3_comeTo_10 : decode cX3_comeTo 10 = .ok (.aload_n 0, 1) := by decide +kernel
theorem dX3_comeTo_11 : decode cX3_comeTo 11 = .ok (.iload_n 2, 1) := by decide +kernel
theorem dX3_comeTo_12 : decode cX3_comeTo 12 = .ok (.putfield 24, 3) := by decide +kernel
theorem dX3_comeTo_15 : decode cX3_comeTo 15 = .ok (.aload_n 1, 1) := by decide +kernel
theorem dX3_comeTo_16 : decode cX3_comeTo 16 = .ok (.dup, 1) := by decide +kernel
theorem dX3_comeTo_17 : decode cX3_comeTo 17 = .ok (.getfield 27, 3) := by decide +kernel
theorem dX3_comeTo_20 : decode cX3_comeTo 20 = .ok (.iconst 1, 1) := by decide +kernel
theorem dX3_comeTo_21 : decode cX3_comeTo 21 = .ok (.iadd, 1) := by decide +kernel
theorem dX3_comeTo_22 : decode cX3_comeTo 22 = .ok (.putfield 27, 3) := by decide +kernel
theorem dX3_comeTo_25 : decode cX3_comeTo 25 = .ok (.return_, 1) := by decide +kernel
theorem dX3_goAway_0 : decode cX3_goAway 0 = .ok (.aload_n 0, 1) := by decide +kernel
theorem dX3_goAway_1 : decode cX3_goAway 1 = .ok (.getfield 15, 3) := by decide +kernel
theorem dX3_goAway_4 : decode cX3_goAway 4 = .ok (.ifnonnull 4, 3) := by decide +kernel
theorem dX3_goAway_7 : decode cX3_goAway 7 = .ok (.return_, 1) := by decide +kernel
theorem dX3_goAway_8 : decode cX3_goAway 8 = .ok (.aload_n 0, 1) := by decide +kernel
theorem dX3_goAway_9 : decode cX3_goAway 9 = .ok (.getfield 15, 3) := by decide +kernel
theorem dX3_goAway_12 : decode cX3_goAway 12 = .ok (.dup, 1) := by decide +kernel
theorem dX3_goAway_13 : decode cX3_goAway 13 = .ok (.getfield 27, 3) := by decide +kernel
theorem dX3_goAway_16 : decode cX3_goAway 16 = .ok (.iconst 1, 1) := by decide +kernel
theorem dX3_goAway_17 : decode cX3_goAway 17 = .ok (.isub, 1) := by decide +kernel
theorem dX3_goAway_18 : decode cX3_goAway 18 = .ok (.putfield 27, 3) := by decide +kernel
theorem dX3_goAway_21 : decode cX3_goAway 21 = .ok (.aload_n 0, 1) := by decide +kernel
theorem dX3_goAway_22 : decode cX3_goAway 22 = .ok (.getfield 15, 3) := by decide +kernel
theorem dX3_goAway_25 : decode cX3_goAway 25 = .ok (.aload_n 0, 1) := by decide +kernel
theorem dX3_goAway_26 : decode cX3_goAway 26 = .ok (.getfield 24, 3) := by decide +kernel
theorem dX3_goAway_29 : decode cX3_goAway 29 = .ok (.iload_n 1, 1) := by decide +kernel
theorem dX3_goAway_30 : decode cX3_goAway 30 = .ok (.invokevirtual 30, 3) := by decide +kernel
theorem dX3_goAway_33 : decode cX3_goAway 33 = .ok (.aload_n 0, 1) := by decide +kernel
theorem dX3_goAway_34 : decode cX3_goAway 34 = .ok (.aconst_null, 1) := by decide +kernel
theorem dX3_goAway_35 : decode cX3_goAway 35 = .ok (.putfield 15, 3) := by decide +kernel
theorem dX3_goAway_38 : decode cX3_goAway 38 = .ok (.return_, 1) := by decide +kernel
theorem dX4_init_0 : decode cX4_init 0 = .ok (.aload_n 0, 1) := by decide +kernel
theorem dX4_init_1 : decode cX4_init 1 = .ok (.invokespecial 1, 3) := by decide +kernel
theorem dX4_init_4 : decode cX4_init 4 = .ok (.aload_n 0, 1) := by decide +kernel
theorem dX4_init_5 : decode cX4_init 5 = .ok (.bipush 8, 2) := by decide +kernel
theorem dX4_init_7 : decode cX4_init 7 = .ok (.anewarray 9, 3) := by decide +kernel
theorem dX4_init_10 : decode cX4_init 10 = .ok (.putfield 11, 3) := by decide +kernel
theorem dX4_init_13 : decode cX4_init 13 = .ok (.aload_n 0, 1) := by decide +kernel
theorem dX4_init_14 : decode cX4_init 14 = .ok (.bipush 12, 2) := by decide +kernel
theorem dX4_init_16 : decode cX4_init 16 = .ok (.anewarray 15, 3) := by decide +kernel
theorem dX4_init_19 : decode cX4_init 19 = .ok (.putfield 17, 3) := by decide +kernel
theorem dX4_init_22 : decode cX4_init 22 = .ok (.aload_n 0, 1) := by decide +kernel
theorem dX4_init_23 : decode cX4_init 23 = .ok (.bipush 6, 2) := by decide +kernel
theorem dX4_init_25 : decode cX4_init 25 = .ok (.newarray .int, 2) := by decide +kernel
theorem dX4_init_27 : decode cX4_init 27 = .ok (.putfield 21, 3) := by decide +kernel
theorem dX4_init_30 : decode cX4_init 30 = .ok (.return_, 1) := by decide +kernel
theorem dX4_mast_0 : decode cX4_mast 0 = .ok (.iload_n 1, 1) := by decide +kernel
theorem dX4_mast_1 : decode cX4_mast 1 = .ok (.invokestatic 25, 3) := by decide +kernel
theorem dX4_mast_4 : decode cX4_mast 4 = .ok (.ifCond .eq 45, 3) := by decide +kernel
theorem dX4_mast_7 : decode cX4_mast 7 = .ok (.iload_n 2, 1) := by decide +kernel
theorem dX4_mast_8 : decode cX4_mast 8 = .ok (.iconst 1, 1) := by decide +kernel
theorem dX4_mast_9 : decode cX4_mast 9 = .ok (.bipush 40, 2) := by decide +kernel
theorem dX4_mast_11 : decode cX4_mast 11 = .ok (.invokestatic 29, 3) := by decide +kernel
theorem dX4_mast_14 : decode cX4_mast 14 = .ok (.ifCond .eq 35, 3) := by decide +kernel
theorem dX4_mast_17 : decode cX4_mast 17 = .ok (.iload_n 3, 1) := by decide +kernel
theorem dX4_mast_18 : decode cX4_mast 18 = .ok (.iconst 1, 1) := by decide +kernel
theorem dX4_mast_19 : decode cX4_mast 19 = .ok (.bipush 10, 2) := by decide +kernel
theorem dX4_mast_21 : decode cX4_mast 21 = .ok (.invokestatic 29, 3) := by decide +kernel
theorem dX4_mast_24 : decode cX4_mast 24 = .ok (.ifCond .eq 25, 3) := by decide +kernel
theorem dX4_mast_27 : decode cX4_mast 27 = .ok (.iload 4, 2) := by decide +kernel
theorem dX4_mast_29 : decode cX4_mast 29 = .ok (.iconst 0, 1) := by decide +kernel
theorem dX4_mast_30 : decode cX4_mast 30 = .ok (.bipush 10, 2) := by decide +kernel
theorem dX4_mast_32 : decode cX4_mast 32 = .ok (.invokestatic 29, 3) := by decide +kernel
theorem dX4_mast_35 : decode cX4_mast 35 = .ok (.ifCond .eq 14, 3) := by decide +kernel
theorem dX4_mast_38 : decode cX4_mast 38 = .ok (.iload 5, 2) := by decide +kernel
theorem dX4_mast_40 : decode cX4_mast 40 = .ok (.iconst 0, 1) := by decide +kernel
theorem dX4_mast_41 : decode cX4_mast 41 = .ok (.bipush 100, 2) := by decide +kernel
theorem dX4_mast_43 : decode cX4_mast 43 = .ok (.invokestatic 29, 3) := by decide +kernel
theorem dX4_mast_46 : decode cX4_mast 46 = .ok (.ifCond .ne 11, 3) := by decide +kernel
theorem dX4_mast_49 : decode cX4_mast 49 = .ok (.new 33, 3) := by decide +kernel
theorem dX4_mast_52 : decode cX4_mast 52 = .ok (.dup, 1) := by decide +kernel
theorem dX4_mast_53 : decode cX4_mast 53 = .ok (.invokespecial 35, 3) := by decide +kernel
theorem dX4_mast_56 : decode cX4_mast 56 = .ok (.athrow, 1) := by decide +kernel
theorem dX4_mast_57 : decode cX4_mast 57 = .ok (.iconst 0, 1) := by decide +kernel
theorem dX4_mast_58 : decode cX4_mast 58 = .ok (.istore 7, 2) := by decide +kernel
theorem dX4_mast_60 : decode cX4_mast 60 = .ok (.iload 7, 2) := by decide +kernel
theorem dX4_mast_62 : decode cX4_mast 62 = .ok (.aload_n 0, 1) := by decide +kernel
theorem dX4_mast_63 : decode cX4_mast 63 = .ok (.getfield 11, 3) := by decide +kernel
theorem dX4_mast_66 : decode cX4_mast 66 = .ok (.arraylength, 1) := by decide +kernel
theorem dX4_mast_67 : decode cX4_mast 67 = .ok (.if_icmp .ge 47, 3) := by decide +kernel
theorem dX4_mast_70 : decode cX4_mast 70 = .ok (.aload_n 0, 1) := by decide +kernel
theorem dX4_mast_71 : decode cX4_mast 71 = .ok (.getfield 11, 3) := by decide +kernel
theorem dX4_mast_74 : decode cX4_mast 74 = .ok (.iload 7, 2) := by decide +kernel
theorem dX4_mast_76 : decode cX4_mast 76 = .ok (.aaload, 1) := by decide +kernel
theorem dX4_mast_77 : decode cX4_mast 77 = .ok (.ifnonnull 31, 3) := by decide +kernel
theorem dX4_mast_80 : decode cX4_mast 80 = .ok (.aload_n 0, 1) := by decide +kernel
theorem dX4_mast_81 : decode cX4_mast 81 = .ok (.getfield 11, 3) := by decide +kernel
theorem dX4_mast_84 : decode cX4_mast 84 = .ok (.iload 7, 2) := by decide +kernel
theorem dX4_mast_86 : decode cX4_mast 86 = .ok (.new 9, 3) := by decide +kernel
theorem dX4_mast_89 : decode cX4_mast 89 = .ok (.dup, 1) := by decide +kernel
theorem dX4_mast_90 : decode cX4_mast 90 = .ok (.iload 7, 2) := by decide +kernel
theorem dX4_mast_92 : decode cX4_mast 92 = .ok (.iload_n 1, 1) := by decide +kernel
theorem dX4_mast_93 : decode cX4_mast 93 = .ok (.iload_n 2, 1) := by decide +kernel
theorem dX4_mast_94 : decode cX4_mast 94 = .ok (.iload_n 3, 1) := by decide +kernel
theorem dX4_mast_95 : decode cX4_mast 95 = .ok (.iload 4, 2) := by decide +kernel
theorem dX4_mast_97 : decode cX4_mast 97 = .ok (.iload 5, 2) := by decide +kernel
theorem dX4_mast_99 : decode cX4_mast 99 = .ok (.iload 6, 2) := by decide +kernel
theorem dX4_mast_101 : decode cX4_mast 101 = .ok (.invokespecial 36, 3) := by decide +kernel
theorem dX4_mast_104 : decode cX4_mast 104 = .ok (.aastore, 1) := by decide +kernel
theorem dX4_mast_105 : decode cX4_mast 105 = .ok (.iload 7, 2) := by decide +kernel
theorem dX4_mast_107 : decode cX4_mast 107 = .ok (.ireturn, 1) := by decide +kernel
theorem dX4_mast_108 : decode cX4_mast 108 = .ok (.iinc 7 1, 3) := by decide +kernel
theorem dX4_mast_111 : decode cX4_mast 111 = .ok (.goto (-51), 3) := by decide +kernel
theorem dX4_mast_114 : decode cX4_mast 114 = .ok (.new 39, 3) := by decide +kernel
theorem dX4_mast_117 : decode cX4_mast 117 = .ok (.dup, 1) := by decide +kernel
theorem dX4_mast_118 : decode cX4_mast 118 = .ok (.invokespecial 41, 3) := by decide +kernel
theorem dX4_mast_121 : decode cX4_mast 121 = .ok (.athrow, 1) := by decide +kernel
theorem dX4_lease_0 : decode cX4_lease 0 = .ok (.aload_n 0, 1) := by decide +kernel
theorem dX4_lease_1 : decode cX4_lease 1 = .ok (.iload_n 1, 1) := by decide +kernel
theorem dX4_lease_2 : decode cX4_lease 2 = .ok (.invokevirtual 42, 3) := by decide +kernel
theorem dX4_lease_5 : decode cX4_lease 5 = .ok (.astore 8, 2) := by decide +kernel
theorem dX4_lease_7 : decode cX4_lease 7 = .ok (.aload 8, 2) := by decide +kernel
theorem dX4_lease_9 : decode cX4_lease 9 = .ok (.ifnull 22, 3) := by decide +kernel
theorem dX4_lease_12 : decode cX4_lease 12 = .ok (.iload_n 2, 1) := by decide +kernel
theorem dX4_lease_13 : decode cX4_lease 13 = .ok (.invokestatic 46, 3) := by decide +kernel
theorem dX4_lease_16 : decode cX4_lease 16 = .ok (.ifCond .eq 15, 3) := by decide +kernel
theorem dX4_lease_19 : decode cX4_lease 19 = .ok (.iload_n 3, 1) := by decide +kernel
theorem dX4_lease_20 : decode cX4_lease 20 = .ok (.iconst (-1), 1) := by decide +kernel
theorem dX4_lease_21 : decode cX4_lease 21 = .ok (.if_icmp .eq 18, 3) := by decide +kernel
theorem dX4_lease_24 : decode cX4_lease 24 = .ok (.iload_n 3, 1) := by decide +kernel
theorem dX4_lease_25 : decode cX4_lease 25 = .ok (.invokestatic 46, 3) := by decide +kernel
theorem dX4_lease_28 : decode cX4_lease 28 = .ok (.ifCond .ne 11, 3) := by decide +kernel
theorem dX4_lease_31 : decode cX4_lease 31 = .ok (.new 49, 3) := by decide +kernel
theorem dX4_lease_34 : decode cX4_lease 34 = .ok (.dup, 1) := by decide +kernel
theorem dX4_lease_35 : decode cX4_lease 35 = .ok (.invokespecial 51, 3) := by decide +kernel
theorem dX4_lease_38 : decode cX4_lease 38 = .ok (.athrow, 1) := by decide +kernel
theorem dX4_lease_39 : decode cX4_lease 39 = .ok (.iload_n 2, 1) := by decide +kernel
theorem dX4_lease_40 : decode cX4_lease 40 = .ok (.iload_n 3, 1) := by decide +kernel
theorem dX4_lease_41 : decode cX4_lease 41 = .ok (.if_icmp .eq 64, 3) := by decide +kernel
theorem dX4_lease_44 : decode cX4_lease 44 = .ok (.iload 4, 2) := by decide +kernel
theorem dX4_lease_46 : decode cX4_lease 46 = .ok (.iload_n 3, 1) := by decide +kernel
theorem dX4_lease_47 : decode cX4_lease 47 = .ok (.iconst (-1), 1) := by decide +kernel
theorem dX4_lease_48 : decode cX4_lease 48 = .ok (.if_icmp .ne 8, 3) := by decide +kernel
theorem dX4_lease_51 : decode cX4_lease 51 = .ok (.bipush 10, 2) := by decide +kernel
theorem dX4_lease_53 : decode cX4_lease 53 = .ok (.goto 4, 3) := by decide +kernel
theorem dX4_lease_56 : decode cX4_lease 56 = .ok (.iconst 0, 1) := by decide +kernel
theorem dX4_lease_57 : decode cX4_lease 57 = .ok (.bipush 10, 2) := by decide +kernel
theorem dX4_lease_59 : decode cX4_lease 59 = .ok (.invokestatic 29, 3) := by decide +kernel
theorem dX4_lease_62 : decode cX4_lease 62 = .ok (.ifCond .eq 43, 3) := by decide +kernel
theorem dX4_lease_65 : decode cX4_lease 65 = .ok (.iload 5, 2) := by decide +kernel
theorem dX4_lease_67 : decode cX4_lease 67 = .ok (.aload_n 0, 1) := by decide +kernel
theorem dX4_lease_68 : decode cX4_lease 68 = .ok (.getfield 52, 3) := by decide +kernel
theorem dX4_lease_71 : decode cX4_lease 71 = .ok (.iconst 1, 1) := by decide +kernel
theorem dX4_lease_72 : decode cX4_lease 72 = .ok (.iadd, 1) := by decide +kernel
theorem dX4_lease_73 : decode cX4_lease 73 = .ok (.sipush 10000, 3) := by decide +kernel
theorem dX4_lease_76 : decode cX4_lease 76 = .ok (.invokestatic 29, 3) := by decide +kernel
theorem dX4_lease_79 : decode cX4_lease 79 = .ok (.ifCond .eq 26, 3) := by decide +kernel
theorem dX4_lease_82 : decode cX4_lease 82 = .ok (.iload 6, 2) := by decide +kernel
theorem dX4_lease_84 : decode cX4_lease 84 = .ok (.iconst 0, 1) := by decide +kernel
theorem dX4_lease_85 : decode cX4_lease 85 = .ok (.sipush 1000, 3) := by decide +kernel
theorem dX4_lease_88 : decode cX4_lease 88 = .ok (.invokestatic 29, 3) := by decide +kernel
theorem dX4_lease_91 : decode cX4_lease 91 = .ok (.ifCond .eq 14, 3) := by decide +kernel
theorem dX4_lease_94 : decode cX4_lease 94 = .ok (.iload 7, 2) := by decide +kernel
theorem dX4_lease_96 : decode cX4_lease 96 = .ok (.iconst 0, 1) := by decide +kernel
theorem dX4_lease_97 : decode cX4_lease 97 = .ok (.bipush 100, 2) := by decide +kernel
theorem dX4_lease_99 : decode cX4_lease 99 = .ok (.invokestatic 29, 3) := by decide +kernel
theorem dX4_lease_102 : decode cX4_lease 102 = .ok (.ifCond .ne 11, 3) := by decide +kernel
theorem dX4_lease_105 : decode cX4_lease 105 = .ok (.new 33, 3) := by decide +kernel
theorem dX4_lease_108 : decode cX4_lease 108 = .ok (.dup, 1) := by decide +kernel
theorem dX4_lease_109 : decode cX4_lease 109 = .ok (.invokespecial 35, 3) := by decide +kernel
theorem dX4_lease_112 : decode cX4_lease 112 = .ok (.athrow, 1) := by decide +kernel
theorem dX4_lease_113 : decode cX4_lease 113 = .ok (.aload 8, 2) := by decide +kernel
theorem dX4_lease_115 : decode cX4_lease 115 = .ok (.getfield 56, 3) := by decide +kernel
theorem dX4_lease_118 : decode cX4_lease 118 = .ok (.ifnull 11, 3) := by decide +kernel
theorem dX4_lease_121 : decode cX4_lease 121 = .ok (.new 39, 3) := by decide +kernel
theorem dX4_lease_124 : decode cX4_lease 124 = .ok (.dup, 1) := by decide +kernel
theorem dX4_lease_125 : decode cX4_lease 125 = .ok (.invokespecial 41, 3) := by decide +kernel
theorem dX4_lease_128 : decode cX4_lease 128 = .ok (.athrow, 1) := by decide +kernel
theorem dX4_lease_129 : decode cX4_lease 129 = .ok (.aload 8, 2) := by decide +kernel
theorem dX4_lease_131 : decode cX4_lease 131 = .ok (.new 60, 3) := by decide +kernel
theorem dX4_lease_134 : decode cX4_lease 134 = .ok (.dup, 1) := by decide +kernel
theorem dX4_lease_135 : decode cX4_lease 135 = .ok (.iload_n 2, 1) := by decide +kernel
theorem dX4_lease_136 : decode cX4_lease 136 = .ok (.iload_n 3, 1) := by decide +kernel
theorem dX4_lease_137 : decode cX4_lease 137 = .ok (.iload 4, 2) := by decide +kernel
theorem dX4_lease_139 : decode cX4_lease 139 = .ok (.iload 5, 2) := by decide +kernel
theorem dX4_lease_141 : decode cX4_lease 141 = .ok (.iload 6, 2) := by decide +kernel
theorem dX4_lease_143 : decode cX4_lease 143 = .ok (.iload 7, 2) := by decide +kernel
theorem dX4_lease_145 : decode cX4_lease 145 = .ok (.invokespecial 62, 3) := by decide +kernel
theorem dX4_lease_148 : decode cX4_lease 148 = .ok (.putfield 56, 3) := by decide +kernel
theorem dX4_lease_151 : decode cX4_lease 151 = .ok (.return_, 1) := by decide +kernel
theorem dX4_sun_0 : decode cX4_sun 0 = .ok (.iload_n 1, 1) := by decide +kernel
theorem dX4_sun_1 : decode cX4_sun 1 = .ok (.iconst 0, 1) := by decide +kernel
theorem dX4_sun_2 : decode cX4_sun 2 = .ok (.bipush 10, 2) := by decide +kernel
theorem dX4_sun_4 : decode cX4_sun 4 = .ok (.invokestatic 29, 3) := by decide +kernel
theorem dX4_sun_7 : decode cX4_sun 7 = .ok (.ifCond .ne 11, 3) := by decide +kernel
theorem dX4_sun_10 : decode cX4_sun 10 = .ok (.new 33, 3) := by decide +kernel
theorem dX4_sun_13 : decode cX4_sun 13 = .ok (.dup, 1) := by decide +kernel
theorem dX4_sun_14 : decode cX4_sun 14 = .ok (.invokespecial 35, 3) := by decide +kernel
theorem dX4_sun_17 : decode cX4_sun 17 = .ok (.athrow, 1) := by decide +kernel
theorem dX4_sun_18 : decode cX4_sun 18 = .ok (.aload_n 0, 1) := by decide +kernel
theorem dX4_sun_19 : decode cX4_sun 19 = .ok (.getfield 65, 3) := by decide +kernel
theorem dX4_sun_22 : decode cX4_sun 22 = .ok (.istore_n 2, 1) := by decide +kernel
theorem dX4_sun_23 : decode cX4_sun 23 = .ok (.aload_n 0, 1) := by decide +kernel
theorem dX4_sun_24 : decode cX4_sun 24 = .ok (.iload_n 1, 1) := by decide +kernel
theorem dX4_sun_25 : decode cX4_sun 25 = .ok (.putfield 65, 3) := by decide +kernel
theorem dX4_sun_28 : decode cX4_sun 28 = .ok (.iload_n 2, 1) := by decide +kernel
theorem dX4_sun_29 : decode cX4_sun 29 = .ok (.ireturn, 1) := by decide +kernel
theorem dX4_phone_0 : decode cX4_phone 0 = .ok (.iload_n 1, 1) := by decide +kernel
theorem dX4_phone_1 : decode cX4_phone 1 = .ok (.invokestatic 25, 3) := by decide +kernel
theorem dX4_phone_4 : decode cX4_phone 4 = .ok (.ifCond .ne 11, 3) := by decide +kernel
theorem dX4_phone_7 : decode cX4_phone 7 = .ok (.new 33, 3) := by decide +kernel
theorem dX4_phone_10 : decode cX4_phone 10 = .ok (.dup, 1) := by decide +kernel
theorem dX4_phone_11 : decode cX4_phone 11 = .ok (.invokespecial 35, 3) := by decide +kernel
theorem dX4_phone_14 : decode cX4_phone 14 = .ok (.athrow, 1) := by decide +kernel
theorem dX4_phone_15 : decode cX4_phone 15 = .ok (.iconst 0, 1) := by decide +kernel
theorem dX4_phone_16 : decode cX4_phone 16 = .ok (.istore_n 2, 1) := by decide +kernel
theorem dX4_phone_17 : decode cX4_phone 17 = .ok (.iload_n 2, 1) := by decide +kernel
theorem dX4_phone_18 : decode cX4_phone 18 = .ok (.aload_n 0, 1) := by decide +kernel
theorem dX4_phone_19 : decode cX4_phone 19 = .ok (.getfield 17, 3) := by decide +kernel
theorem dX4_phone_22 : decode cX4_phone 22 = .ok (.arraylength, 1) := by decide +kernel
theorem dX4_phone_23 : decode cX4_phone 23 = .ok (.if_icmp .ge 34, 3) := by decide +kernel
theorem dX4_phone_26 : decode cX4_phone 26 = .ok (.aload_n 0, 1) := by decide +kernel
theorem dX4_phone_27 : decode cX4_phone 27 = .ok (.getfield 17, 3) := by decide +kernel
theorem dX4_phone_30 : decode cX4_phone 30 = .ok (.iload_n 2, 1) := by decide +kernel
theorem dX4_phone_31 : decode cX4_phone 31 = .ok (.aaload, 1) := by decide +kernel
theorem dX4_phone_32 : decode cX4_phone 32 = .ok (.ifnonnull 19, 3) := by decide +kernel
theorem dX4_phone_35 : decode cX4_phone 35 = .ok (.aload_n 0, 1) := by decide +kernel
theorem dX4_phone_36 : decode cX4_phone 36 = .ok (.getfield 17, 3) := by decide +kernel
theorem dX4_phone_39 : decode cX4_phone 39 = .ok (.iload_n 2, 1) := by decide +kernel
theorem dX4_phone_40 : decode cX4_phone 40 = .ok (.new 15, 3) := by decide +kernel
theorem dX4_phone_43 : decode cX4_phone 43 = .ok (.dup, 1) := by decide +kernel
theorem dX4_phone_44 : decode cX4_phone 44 = .ok (.iload_n 1, 1) := by decide +kernel
theorem dX4_phone_45 : decode cX4_phone 45 = .ok (.invokespecial 68, 3) := by decide +kernel
theorem dX4_phone_48 : decode cX4_phone 48 = .ok (.aastore, 1) := by decide +kernel
theorem dX4_phone_49 : decode cX4_phone 49 = .ok (.iload_n 2, 1) := by decide +kernel
theorem dX4_phone_50 : decode cX4_phone 50 = .ok (.ireturn, 1) := by decide +kernel
theorem dX4_phone_51 : decode cX4_phone 51 = .ok (.iinc 2 1, 3) := by decide +kernel
theorem dX4_phone_54 : decode cX4_phone 54 = .ok (.goto (-37), 3) := by decide +kernel
theorem dX4_phone_57 : decode cX4_phone 57 = .ok (.new 39, 3) := by decide +kernel
theorem dX4_phone_60 : decode cX4_phone 60 = .ok (.dup, 1) := by decide +kernel
theorem dX4_phone_61 : decode cX4_phone 61 = .ok (.invokespecial 41, 3) := by decide +kernel
theorem dX4_phone_64 : decode cX4_phone 64 = .ok (.athrow, 1) := by decide +kernel
theorem dX4_call_0 : decode cX4_call 0 = .ok (.aload_n 0, 1) := by decide +kernel
theorem dX4_call_1 : decode cX4_call 1 = .ok (.iload_n 1, 1) := by decide +kernel
theorem dX4_call_2 : decode cX4_call 2 = .ok (.invokevirtual 71, 3) := by decide +kernel
theorem dX4_call_5 : decode cX4_call 5 = .ok (.astore_n 2, 1) := by decide +kernel
theorem dX4_call_6 : decode cX4_call 6 = .ok (.aload_n 2, 1) := by decide +kernel
theorem dX4_call_7 : decode cX4_call 7 = .ok (.ifnonnull 11, 3) := by decide +kernel
theorem dX4_call_10 : decode cX4_call 10 = .ok (.new 49, 3) := by decide +kernel
theorem dX4_call_13 : decode cX4_call 13 = .ok (.dup, 1) := by decide +kernel
theorem dX4_call_14 : decode cX4_call 14 = .ok (.invokespecial 51, 3) := by decide +kernel
theorem dX4_call_17 : decode cX4_call 17 = .ok (.athrow, 1) := by decide +kernel
theorem dX4_call_18 : decode cX4_call 18 = .ok (.aload_n 2, 1) := by decide +kernel
theorem dX4_call_19 : decode cX4_call 19 = .ok (.getfield 75, 3) := by decide +kernel
theorem dX4_call_22 : decode cX4_call 22 = .ok (.ifnull 11, 3) := by decide +kernel
theorem dX4_call_25 : decode cX4_call 25 = .ok (.new 39, 3) := by decide +kernel
theorem dX4_call_28 : decode cX4_call 28 = .ok (.dup, 1) := by decide +kernel
theorem dX4_call_29 : decode cX4_call 29 = .ok (.invokespecial 41, 3) := by decide +kernel
theorem dX4_call_32 : decode cX4_call 32 = .ok (.athrow, 1) := by decide +kernel
theorem dX4_call_33 : decode cX4_call 33 = .ok (.aload_n 0, 1) := by decide +kernel
theorem dX4_call_34 : decode cX4_call 34 = .ok (.aload_n 2, 1) := by decide +kernel
theorem dX4_call_35 : decode cX4_call 35 = .ok (.getfield 79, 3) := by decide +kernel
theorem dX4_call_38 : decode cX4_call 38 = .ok (.invokevirtual 82, 3) := by decide +kernel
theorem dX4_call_41 : decode cX4_call 41 = .ok (.astore_n 3, 1) := by decide +kernel
theorem dX4_call_42 : decode cX4_call 42 = .ok (.aload_n 3, 1) := by decide +kernel
theorem dX4_call_43 : decode cX4_call 43 = .ok (.ifnonnull 15, 3) := by decide +kernel
theorem dX4_call_46 : decode cX4_call 46 = .ok (.aload_n 2, 1) := by decide +kernel
theorem dX4_call_47 : decode cX4_call 47 = .ok (.dup, 1) := by decide +kernel
theorem dX4_call_48 : decode cX4_call 48 = .ok (.getfield 85, 3) := by decide +kernel
theorem dX4_call_51 : decode cX4_call 51 = .ok (.iconst 1, 1) := by decide +kernel
theorem dX4_call_52 : decode cX4_call 52 = .ok (.iadd, 1) := by decide +kernel
theorem dX4_call_53 : decode cX4_call 53 = .ok (.putfield 85, 3) := by decide +kernel
theorem dX4_call_56 : decode cX4_call 56 = .ok (.iconst (-1), 1) := by decide +kernel
theorem dX4_call_57 : decode cX4_call 57 = .ok (.ireturn, 1) := by decide +kernel
theorem dX4_call_58 : decode cX4_call 58 = .ok (.aload_n 2, 1) := by decide +kernel
theorem dX4_call_59 : decode cX4_call 59 = .ok (.aload_n 3, 1) := by decide +kernel
theorem dX4_call_60 : decode cX4_call 60 = .ok (.aload_n 0, 1) := by decide +kernel
theorem dX4_call_61 : decode cX4_call 61 = .ok (.getfield 52, 3) := by decide +kernel
theorem dX4_call_64 : decode cX4_call 64 = .ok (.invokevirtual 88, 3) := by decide +kernel
theorem dX4_call_67 : decode cX4_call 67 = .ok (.aload_n 3, 1) := by decide +kernel
theorem dX4_call_68 : decode cX4_call 68 = .ok (.getfield 92, 3) := by decide +kernel
theorem dX4_call_71 : decode cX4_call 71 = .ok (.ireturn, 1) := by decide +kernel
theorem dX4_end_0 : decode cX4_end 0 = .ok (.aload_n 0, 1) := by decide +kernel
theorem dX4_end_1 : decode cX4_end 1 = .ok (.iload_n 1, 1) := by decide +kernel
theorem dX4_end_2 : decode cX4_end 2 = .ok (.invokevirtual 71, 3) := by decide +kernel
theorem dX4_end_5 : decode cX4_end 5 = .ok (.astore_n 2, 1) := by decide +kernel
theorem dX4_end_6 : decode cX4_end 6 = .ok (.aload_n 2, 1) := by decide +kernel
theorem dX4_end_7 : decode cX4_end 7 = .ok (.ifnonnull 11, 3) := by decide +kernel
theorem dX4_end_10 : decode cX4_end 10 = .ok (.new 49, 3) := by decide +kernel
theorem dX4_end_13 : decode cX4_end 13 = .ok (.dup, 1) := by decide +kernel
theorem dX4_end_14 : decode cX4_end 14 = .ok (.invokespecial 51, 3) := by decide +kernel
theorem dX4_end_17 : decode cX4_end 17 = .ok (.athrow, 1) := by decide +kernel
theorem dX4_end_18 : decode cX4_end 18 = .ok (.aload_n 2, 1) := by decide +kernel
theorem dX4_end_19 : decode cX4_end 19 = .ok (.getfield 75, 3) := by decide +kernel
theorem dX4_end_22 : decode cX4_end 22 = .ok (.ifnonnull 11, 3) := by decide +kernel
theorem dX4_end_25 : decode cX4_end 25 = .ok (.new 39, 3) := by decide +kernel
theorem dX4_end_28 : decode cX4_end 28 = .ok (.dup, 1) := by decide +kernel
theorem dX4_end_29 : decode cX4_end 29 = .ok (.invokespecial 41, 3) := by decide +kernel
theorem dX4_end_32 : decode cX4_end 32 = .ok (.athrow, 1) := by decide +kernel
theorem dX4_end_33 : decode cX4_end 33 = .ok (.aload_n 2, 1) := by decide +kernel
theorem dX4_end_34 : decode cX4_end 34 = .ok (.invokevirtual 95, 3) := by decide +kernel
theorem dX4_end_37 : decode cX4_end 37 = .ok (.istore_n 3, 1) := by decide +kernel
theorem dX4_end_38 : decode cX4_end 38 = .ok (.aload_n 2, 1) := by decide +kernel
theorem dX4_end_39 : decode cX4_end 39 = .ok (.aload_n 0, 1) := by decide +kernel
theorem dX4_end_40 : decode cX4_end 40 = .ok (.getfield 52, 3) := by decide +kernel
theorem dX4_end_43 : decode cX4_end 43 = .ok (.invokevirtual 99, 3) := by decide +kernel
theorem dX4_end_46 : decode cX4_end 46 = .ok (.iload_n 3, 1) := by decide +kernel
theorem dX4_end_47 : decode cX4_end 47 = .ok (.ireturn, 1) := by decide +kernel
theorem dX4_move_0 : decode cX4_move 0 = .ok (.aload_n 0, 1) := by decide +kernel
theorem dX4_move_1 : decode cX4_move 1 = .ok (.iload_n 1, 1) := by decide +kernel
theorem dX4_move_2 : decode cX4_move 2 = .ok (.invokevirtual 71, 3) := by decide +kernel
theorem dX4_move_5 : decode cX4_move 5 = .ok (.astore_n 3, 1) := by decide +kernel
theorem dX4_move_6 : decode cX4_move 6 = .ok (.aload_n 3, 1) := by decide +kernel
theorem dX4_move_7 : decode cX4_move 7 = .ok (.ifnonnull 11, 3) := by decide +kernel
theorem dX4_move_10 : decode cX4_move 10 = .ok (.new 49, 3) := by decide +kernel
theorem dX4_move_13 : decode cX4_move 13 = .ok (.dup, 1) := by decide +kernel
theorem dX4_move_14 : decode cX4_move 14 = .ok (.invokespecial 51, 3) := by decide +kernel
theorem dX4_move_17 : decode cX4_move 17 = .ok (.athrow, 1) := by decide +kernel
theorem dX4_move_18 : decode cX4_move 18 = .ok (.iload_n 2, 1) := by decide +kernel
theorem dX4_move_19 : decode cX4_move 19 = .ok (.invokestatic 25, 3) := by decide +kernel
theorem dX4_move_22 : decode cX4_move 22 = .ok (.ifCond .ne 11, 3) := by decide +kernel
theorem dX4_move_25 : decode cX4_move 25 = .ok (.new 33, 3) := by decide +kernel
theorem dX4_move_28 : decode cX4_move 28 = .ok (.dup, 1) := by decide +kernel
theorem dX4_move_29 : decode cX4_move 29 = .ok (.invokespecial 35, 3) := by decide +kernel
theorem dX4_move_32 : decode cX4_move 32 = .ok (.athrow, 1) := by decide +kernel
theorem dX4_move_33 : decode cX4_move 33 = .ok (.aload_n 3, 1) := by decide +kernel
theorem dX4_move_34 : decode cX4_move 34 = .ok (.iload_n 2, 1) := by decide +kernel
theorem dX4_move_35 : decode cX4_move 35 = .ok (.putfield 79, 3) := by decide +kernel
theorem dX4_move_38 : decode cX4_move 38 = .ok (.aload_n 3, 1) := by decide +kernel
theorem dX4_move_39 : decode cX4_move 39 = .ok (.getfield 75, 3) := by decide +kernel
theorem dX4_move_42 : decode cX4_move 42 = .ok (.ifnull 19, 3) := by decide +kernel
theorem dX4_move_45 : decode cX4_move 45 = .ok (.aload_n 3, 1) := by decide +kernel
theorem dX4_move_46 : decode cX4_move 46 = .ok (.getfield 75, 3) := by decide +kernel
theorem dX4_move_49 : decode cX4_move 49 = .ok (.iload_n 2, 1) := by decide +kernel
theorem dX4_move_50 : decode cX4_move 50 = .ok (.invokevirtual 102, 3) := by decide +kernel
theorem dX4_move_53 : decode cX4_move 53 = .ok (.ifCond .ne 8, 3) := by decide +kernel
theorem dX4_move_56 : decode cX4_move 56 = .ok (.aload_n 0, 1) := by decide +kernel
theorem dX4_move_57 : decode cX4_move 57 = .ok (.aload_n 3, 1) := by decide +kernel
theorem dX4_move_58 : decode cX4_move 58 = .ok (.invokevirtual 105, 3) := by decide +kernel
theorem dX4_move_61 : decode cX4_move 61 = .ok (.aload_n 3, 1) := by decide +kernel
theorem dX4_move_62 : decode cX4_move 62 = .ok (.invokevirtual 95, 3) := by decide +kernel
theorem dX4_move_65 : decode cX4_move 65 = .ok (.ireturn, 1) := by decide +kernel
theorem dX4_pass_0 : decode cX4_pass 0 = .ok (.iload_n 1, 1) := by decide +kernel
theorem dX4_pass_1 : decode cX4_pass 1 = .ok (.iconst 1, 1) := by decide +kernel
theorem dX4_pass_2 : decode cX4_pass 2 = .ok (.bipush 100, 2) := by decide +kernel
theorem dX4_pass_4 : decode cX4_pass 4 = .ok (.invokestatic 29, 3) := by decide +kernel
theorem dX4_pass_7 : decode cX4_pass 7 = .ok (.ifCond .ne 11, 3) := by decide +kernel
theorem dX4_pass_10 : decode cX4_pass 10 = .ok (.new 33, 3) := by decide +kernel
theorem dX4_pass_13 : decode cX4_pass 13 = .ok (.dup, 1) := by decide +kernel
theorem dX4_pass_14 : decode cX4_pass 14 = .ok (.invokespecial 35, 3) := by decide +kernel
theorem dX4_pass_17 : decode cX4_pass 17 = .ok (.athrow, 1) := by decide +kernel
theorem dX4_pass_18 : decode cX4_pass 18 = .ok (.aload_n 0, 1) := by decide +kernel
theorem dX4_pass_19 : decode cX4_pass 19 = .ok (.getfield 52, 3) := by decide +kernel
theorem dX4_pass_22 : decode cX4_pass 22 = .ok (.iload_n 1, 1) := by decide +kernel
theorem dX4_pass_23 : decode cX4_pass 23 = .ok (.iadd, 1) := by decide +kernel
theorem dX4_pass_24 : decode cX4_pass 24 = .ok (.sipush 10000, 3) := by decide +kernel
theorem dX4_pass_27 : decode cX4_pass 27 = .ok (.if_icmp .le 11, 3) := by decide +kernel
theorem dX4_pass_30 : decode cX4_pass 30 = .ok (.new 39, 3) := by decide +kernel
theorem dX4_pass_33 : decode cX4_pass 33 = .ok (.dup, 1) := by decide +kernel
theorem dX4_pass_34 : decode cX4_pass 34 = .ok (.invokespecial 41, 3) := by decide +kernel
theorem dX4_pass_37 : decode cX4_pass 37 = .ok (.athrow, 1) := by decide +kernel
theorem dX4_pass_38 : decode cX4_pass 38 = .ok (.iconst 0, 1) := by decide +kernel
theorem dX4_pass_39 : decode cX4_pass 39 = .ok (.istore_n 2, 1) := by decide +kernel
theorem dX4_pass_40 : decode cX4_pass 40 = .ok (.iload_n 2, 1) := by decide +kernel
theorem dX4_pass_41 : decode cX4_pass 41 = .ok (.iload_n 1, 1) := by decide +kernel
theorem dX4_pass_42 : decode cX4_pass 42 = .ok (.if_icmp .ge 13, 3) := by decide +kernel
theorem dX4_pass_45 : decode cX4_pass 45 = .ok (.aload_n 0, 1) := by decide +kernel
theorem dX4_pass_46 : decode cX4_pass 46 = .ok (.invokevirtual 109, 3) := by decide +kernel
theorem dX4_pass_49 : decode cX4_pass 49 = .ok (.iinc 2 1, 3) := by decide +kernel
theorem dX4_pass_52 : decode cX4_pass 52 = .ok (.goto (-12), 3) := by decide +kernel
theorem dX4_pass_55 : decode cX4_pass 55 = .ok (.aload_n 0, 1) := by decide +kernel
theorem dX4_pass_56 : decode cX4_pass 56 = .ok (.getfield 52, 3) := by decide +kernel
theorem dX4_pass_59 : decode cX4_pass 59 = .ok (.ireturn, 1) := by decide +kernel
theorem dX4_ofMast_0 : decode cX4_ofMast 0 = .ok (.aload_n 0, 1) := by decide +kernel
theorem dX4_ofMast_1 : decode cX4_ofMast 1 = .ok (.iload_n 1, 1) := by decide +kernel
theorem dX4_ofMast_2 : decode cX4_ofMast 2 = .ok (.invokevirtual 42, 3) := by decide +kernel
theorem dX4_ofMast_5 : decode cX4_ofMast 5 = .ok (.astore_n 3, 1) := by decide +kernel
theorem dX4_ofMast_6 : decode cX4_ofMast 6 = .ok (.aload_n 3, 1) := by decide +kernel
theorem dX4_ofMast_7 : decode cX4_ofMast 7 = .ok (.ifnonnull 11, 3) := by decide +kernel
theorem dX4_ofMast_10 : decode cX4_ofMast 10 = .ok (.new 49, 3) := by decide +kernel
theorem dX4_ofMast_13 : decode cX4_ofMast 13 = .ok (.dup, 1) := by decide +kernel
theorem dX4_ofMast_14 : decode cX4_ofMast 14 = .ok (.invokespecial 51, 3) := by decide +kernel
theorem dX4_ofMast_17 : decode cX4_ofMast 17 = .ok (.athrow, 1) := by decide +kernel
theorem dX4_ofMast_18 : decode cX4_ofMast 18 = .ok (.iload_n 2, 1) := by decide +kernel
theorem dX4_ofMast_19 : decode cX4_ofMast 19 = .ok (.tableswitch 89 0 5 #[37, 50, 55, 60, 65, 70], 37) := by decide +kernel
theorem dX4_ofMast_56 : decode cX4_ofMast 56 = .ok (.aload_n 3, 1) := by decide +kernel
theorem dX4_ofMast_57 : decode cX4_ofMast 57 = .ok (.invokevirtual 112, 3) := by decide +kernel
theorem dX4_ofMast_60 : decode cX4_ofMast 60 = .ok (.ifCond .eq 7, 3) := by decide +kernel
theorem dX4_ofMast_63 : decode cX4_ofMast 63 = .ok (.iconst 1, 1) := by decide +kernel
theorem dX4_ofMast_64 : decode cX4_ofMast 64 = .ok (.goto 4, 3) := by decide +kernel
theorem dX4_ofMast_67 : decode cX4_ofMast 67 = .ok (.iconst 0, 1) := by decide +kernel
theorem dX4_ofMast_68 : decode cX4_ofMast 68 = .ok (.ireturn, 1) := by decide +kernel
theorem dX4_ofMast_69 : decode cX4_ofMast 69 = .ok (.aload_n 3, 1) := by decide +kernel
theorem dX4_ofMast_70 : decode cX4_ofMast 70 = .ok (.getfield 116, 3) := by decide +kernel
theorem dX4_ofMast_73 : decode cX4_ofMast 73 = .ok (.ireturn, 1) := by decide +kernel
theorem dX4_ofMast_74 : decode cX4_ofMast 74 = .ok (.aload_n 3, 1) := by decide +kernel
theorem dX4_ofMast_75 : decode cX4_ofMast 75 = .ok (.getfield 119, 3) := by decide +kernel
theorem dX4_ofMast_78 : decode cX4_ofMast 78 = .ok (.ireturn, 1) := by decide +kernel
theorem dX4_ofMast_79 : decode cX4_ofMast 79 = .ok (.aload_n 3, 1) := by decide +kernel
theorem dX4_ofMast_80 : decode cX4_ofMast 80 = .ok (.getfield 122, 3) := by decide +kernel
theorem dX4_ofMast_83 : decode cX4_ofMast 83 = .ok (.ireturn, 1) := by decide +kernel
theorem dX4_ofMast_84 : decode cX4_ofMast 84 = .ok (.aload_n 3, 1) := by decide +kernel
theorem dX4_ofMast_85 : decode cX4_ofMast 85 = .ok (.getfield 125, 3) := by decide +kernel
theorem dX4_ofMast_88 : decode cX4_ofMast 88 = .ok (.ireturn, 1) := by decide +kernel
theorem dX4_ofMast_89 : decode cX4_ofMast 89 = .ok (.aload_n 3, 1) := by decide +kernel
theorem dX4_ofMast_90 : decode cX4_ofMast 90 = .ok (.getfield 56, 3) := by decide +kernel
theorem dX4_ofMast_93 : decode cX4_ofMast 93 = .ok (.ifnonnull 7, 3) := by decide +kernel
theorem dX4_ofMast_96 : decode cX4_ofMast 96 = .ok (.iconst (-1), 1) := by decide +kernel
theorem dX4_ofMast_97 : decode cX4_ofMast 97 = .ok (.goto 10, 3) := by decide +kernel
theorem dX4_ofMast_100 : decode cX4_ofMast 100 = .ok (.aload_n 3, 1) := by decide +kernel
theorem dX4_ofMast_101 : decode cX4_ofMast 101 = .ok (.getfield 56, 3) := by decide +kernel
theorem dX4_ofMast_104 : decode cX4_ofMast 104 = .ok (.getfield 128, 3) := by decide +kernel
theorem dX4_ofMast_107 : decode cX4_ofMast 107 = .ok (.ireturn, 1) := by decide +kernel
theorem dX4_ofMast_108 : decode cX4_ofMast 108 = .ok (.new 33, 3) := by decide +kernel
theorem dX4_ofMast_111 : decode cX4_ofMast 111 = .ok (.dup, 1) := by decide +kernel
theorem dX4_ofMast_112 : decode cX4_ofMast 112 = .ok (.invokespecial 35, 3) := by decide +kernel
theorem dX4_ofMast_115 : decode cX4_ofMast 115 = .ok (.athrow, 1) := by decide +kernel
theorem dX4_trafficAnew_0 : decode cX4_trafficAnew 0 = .ok (.aload_n 0, 1) := by decide +kernel
theorem dX4_trafficAnew_1 : decode cX4_trafficAnew 1 = .ok (.iload_n 1, 1) := by decide +kernel
theorem dX4_trafficAnew_2 : decode cX4_trafficAnew 2 = .ok (.invokevirtual 42, 3) := by decide +kernel
theorem dX4_trafficAnew_5 : decode cX4_trafficAnew 5 = .ok (.astore_n 2, 1) := by decide +kernel
theorem dX4_trafficAnew_6 : decode cX4_trafficAnew 6 = .ok (.aload_n 2, 1) := by decide +kernel
theorem dX4_trafficAnew_7 : decode cX4_trafficAnew 7 = .ok (.ifnonnull 11, 3) := by decide +kernel
theorem dX4_trafficAnew_10 : decode cX4_trafficAnew 10 = .ok (.new 49, 3) := by decide +kernel
theorem dX4_trafficAnew_13 : decode cX4_trafficAnew 13 = .ok (.dup, 1) := by decide +kernel
theorem dX4_trafficAnew_14 : decode cX4_trafficAnew 14 = .ok (.invokespecial 51, 3) := by decide +kernel
theorem dX4_trafficAnew_17 : decode cX4_trafficAnew 17 = .ok (.athrow, 1) := by decide +kernel
theorem dX4_trafficAnew_18 : decode cX4_trafficAnew 18 = .ok (.aload_n 2, 1) := by decide +kernel
theorem dX4_trafficAnew_19 : decode cX4_trafficAnew 19 = .ok (.invokevirtual 131, 3) := by decide +kernel
theorem dX4_trafficAnew_22 : decode cX4_trafficAnew 22 = .ok (.istore_n 3, 1) := by decide +kernel
theorem dX4_trafficAnew_23 : decode cX4_trafficAnew 23 = .ok (.aload_n 0, 1) := by decide +kernel
theorem dX4_trafficAnew_24 : decode cX4_trafficAnew 24 = .ok (.getfield 17, 3) := by decide +kernel
theorem dX4_trafficAnew_27 : decode cX4_trafficAnew 27 = .ok (.astore 4, 2) := by decide +kernel
theorem dX4_trafficAnew_29 : decode cX4_trafficAnew 29 = .ok (.aload 4, 2) := by decide +kernel
theorem dX4_trafficAnew_31 : decode cX4_trafficAnew 31 = .ok (.arraylength, 1) := by decide +kernel
theorem dX4_trafficAnew_32 : decode cX4_trafficAnew 32 = .ok (.istore 5, 2) := by decide +kernel
theorem dX4_trafficAnew_34 : decode cX4_trafficAnew 34 = .ok (.iconst 0, 1) := by decide +kernel
theorem dX4_trafficAnew_35 : decode cX4_trafficAnew 35 = .ok (.istore 6, 2) := by decide +kernel
theorem dX4_trafficAnew_37 : decode cX4_trafficAnew 37 = .ok (.iload 6, 2) := by decide +kernel
theorem dX4_trafficAnew_39 : decode cX4_trafficAnew 39 = .ok (.iload 5, 2) := by decide +kernel
theorem dX4_trafficAnew_41 : decode cX4_trafficAnew 41 = .ok (.if_icmp .ge 43, 3) := by decide +kernel
theorem dX4_trafficAnew_44 : decode cX4_trafficAnew 44 = .ok (.aload 4, 2) := by decide +kernel
theorem dX4_trafficAnew_46 : decode cX4_trafficAnew 46 = .ok (.iload 6, 2) := by decide +kernel
theorem dX4_trafficAnew_48 : decode cX4_trafficAnew 48 = .ok (.aaload, 1) := by decide +kernel
theorem dX4_trafficAnew_49 : decode cX4_trafficAnew 49 = .ok (.astore 7, 2) := by decide +kernel
theorem dX4_trafficAnew_51 : decode cX4_trafficAnew 51 = .ok (.aload 7, 2) := by decide +kernel
theorem dX4_trafficAnew_53 : decode cX4_trafficAnew 53 = .ok (.ifnull 25, 3) := by decide +kernel
theorem dX4_trafficAnew_56 : decode cX4_trafficAnew 56 = .ok (.aload 7, 2) := by decide +kernel
theorem dX4_trafficAnew_58 : decode cX4_trafficAnew 58 = .ok (.getfield 75, 3) := by decide +kernel
theorem dX4_trafficAnew_61 : decode cX4_trafficAnew 61 = .ok (.aload_n 2, 1) := by decide +kernel
theorem dX4_trafficAnew_62 : decode cX4_trafficAnew 62 = .ok (.if_acmp .ne 16, 3) := by decide +kernel
theorem dX4_trafficAnew_65 : decode cX4_trafficAnew 65 = .ok (.iload_n 3, 1) := by decide +kernel
theorem dX4_trafficAnew_66 : decode cX4_trafficAnew 66 = .ok (.aload_n 0, 1) := by decide +kernel
theorem dX4_trafficAnew_67 : decode cX4_trafficAnew 67 = .ok (.getfield 52, 3) := by decide +kernel
theorem dX4_trafficAnew_70 : decode cX4_trafficAnew 70 = .ok (.aload 7, 2) := by decide +kernel
theorem dX4_trafficAnew_72 : decode cX4_trafficAnew 72 = .ok (.getfield 134, 3) := by decide +kernel
theorem dX4_trafficAnew_75 : decode cX4_trafficAnew 75 = .ok (.isub, 1) := by decide +kernel
theorem dX4_trafficAnew_76 : decode cX4_trafficAnew 76 = .ok (.iadd, 1) := by decide +kernel
theorem dX4_trafficAnew_77 : decode cX4_trafficAnew 77 = .ok (.istore_n 3, 1) := by decide +kernel
theorem dX4_trafficAnew_78 : decode cX4_trafficAnew 78 = .ok (.iinc 6 1, 3) := by decide +kernel
theorem dX4_trafficAnew_81 : decode cX4_trafficAnew 81 = .ok (.goto (-44), 3) := by decide +kernel
theorem dX4_trafficAnew_84 : decode cX4_trafficAnew 84 = .ok (.iload_n 3, 1) := by decide +kernel
theorem dX4_trafficAnew_85 : decode cX4_trafficAnew 85 = .ok (.ireturn, 1) := by decide +kernel
theorem dX4_ofPhone_0 : decode cX4_ofPhone 0 = .ok (.aload_n 0, 1) := by decide +kernel
theorem dX4_ofPhone_1 : decode cX4_ofPhone 1 = .ok (.iload_n 1, 1) := by decide +kernel
theorem dX4_ofPhone_2 : decode cX4_ofPhone 2 = .ok (.invokevirtual 71, 3) := by decide +kernel
theorem dX4_ofPhone_5 : decode cX4_ofPhone 5 = .ok (.astore_n 3, 1) := by decide +kernel
theorem dX4_ofPhone_6 : decode cX4_ofPhone 6 = .ok (.aload_n 3, 1) := by decide +kernel
theorem dX4_ofPhone_7 : decode cX4_ofPhone 7 = .ok (.ifnonnull 11, 3) := by decide +kernel
theorem dX4_ofPhone_10 : decode cX4_ofPhone 10 = .ok (.new 49, 3) := by decide +kernel
theorem dX4_ofPhone_13 : decode cX4_ofPhone 13 = .ok (.dup, 1) := by decide +kernel
theorem dX4_ofPhone_14 : decode cX4_ofPhone 14 = .ok (.invokespecial 51, 3) := by decide +kernel
theorem dX4_ofPhone_17 : decode cX4_ofPhone 17 = .ok (.athrow, 1) := by decide +kernel
theorem dX4_ofPhone_18 : decode cX4_ofPhone 18 = .ok (.iload_n 2, 1) := by decide +kernel
theorem dX4_ofPhone_19 : decode cX4_ofPhone 19 = .ok (.tableswitch 58 0 4 #[33, 38, 43, 48, 53], 33) := by decide +kernel
theorem dX4_ofPhone_52 : decode cX4_ofPhone 52 = .ok (.aload_n 3, 1) := by decide +kernel
theorem dX4_ofPhone_53 : decode cX4_ofPhone 53 = .ok (.getfield 79, 3) := by decide +kernel
theorem dX4_ofPhone_56 : decode cX4_ofPhone 56 = .ok (.ireturn, 1) := by decide +kernel
theorem dX4_ofPhone_57 : decode cX4_ofPhone 57 = .ok (.aload_n 3, 1) := by decide +kernel
theorem dX4_ofPhone_58 : decode cX4_ofPhone 58 = .ok (.invokevirtual 95, 3) := by decide +kernel
theorem dX4_ofPhone_61 : decode cX4_ofPhone 61 = .ok (.ireturn, 1) := by decide +kernel
theorem dX4_ofPhone_62 : decode cX4_ofPhone 62 = .ok (.aload_n 3, 1) := by decide +kernel
theorem dX4_ofPhone_63 : decode cX4_ofPhone 63 = .ok (.getfield 85, 3) := by decide +kernel
theorem dX4_ofPhone_66 : decode cX4_ofPhone 66 = .ok (.ireturn, 1) := by decide +kernel
theorem dX4_ofPhone_67 : decode cX4_ofPhone 67 = .ok (.aload_n 3, 1) := by decide +kernel
theorem dX4_ofPhone_68 : decode cX4_ofPhone 68 = .ok (.getfield 137, 3) := by decide +kernel
theorem dX4_ofPhone_71 : decode cX4_ofPhone 71 = .ok (.ireturn, 1) := by decide +kernel
theorem dX4_ofPhone_72 : decode cX4_ofPhone 72 = .ok (.aload_n 3, 1) := by decide +kernel
theorem dX4_ofPhone_73 : decode cX4_ofPhone 73 = .ok (.getfield 140, 3) := by decide +kernel
theorem dX4_ofPhone_76 : decode cX4_ofPhone 76 = .ok (.ireturn, 1) := by decide +kernel
theorem dX4_ofPhone_77 : decode cX4_ofPhone 77 = .ok (.new 33, 3) := by decide +kernel
theorem dX4_ofPhone_80 : decode cX4_ofPhone 80 = .ok (.dup, 1) := by decide +kernel
theorem dX4_ofPhone_81 : decode cX4_ofPhone 81 = .ok (.invokespecial 35, 3) := by decide +kernel
theorem dX4_ofPhone_84 : decode cX4_ofPhone 84 = .ok (.athrow, 1) := by decide +kernel
theorem dX4_strength_0 : decode cX4_strength 0 = .ok (.aload_n 0, 1) := by decide +kernel
theorem dX4_strength_1 : decode cX4_strength 1 = .ok (.iload_n 1, 1) := by decide +kernel
theorem dX4_strength_2 : decode cX4_strength 2 = .ok (.invokevirtual 71, 3) := by decide +kernel
theorem dX4_strength_5 : decode cX4_strength 5 = .ok (.astore_n 2, 1) := by decide +kernel
theorem dX4_strength_6 : decode cX4_strength 6 = .ok (.aload_n 2, 1) := by decide +kernel
theorem dX4_strength_7 : decode cX4_strength 7 = .ok (.ifnonnull 11, 3) := by decide +kernel
theorem dX4_strength_10 : decode cX4_strength 10 = .ok (.new 49, 3) := by decide +kernel
theorem dX4_strength_13 : decode cX4_strength 13 = .ok (.dup, 1) := by decide +kernel
theorem dX4_strength_14 : decode cX4_strength 14 = .ok (.invokespecial 51, 3) := by decide +kernel
theorem dX4_strength_17 : decode cX4_strength 17 = .ok (.athrow, 1) := by decide +kernel
theorem dX4_strength_18 : decode cX4_strength 18 = .ok (.aload_n 2, 1) := by decide +kernel
theorem dX4_strength_19 : decode cX4_strength 19 = .ok (.getfield 75, 3) := by decide +kernel
theorem dX4_strength_22 : decode cX4_strength 22 = .ok (.astore_n 3, 1) := by decide +kernel
theorem dX4_strength_23 : decode cX4_strength 23 = .ok (.aload_n 3, 1) := by decide +kernel
theorem dX4_strength_24 : decode cX4_strength 24 = .ok (.ifnull 11, 3) := by decide +kernel
theorem dX4_strength_27 : decode cX4_strength 27 = .ok (.aload_n 3, 1) := by decide +kernel
theorem dX4_strength_28 : decode cX4_strength 28 = .ok (.getfield 143, 3) := by decide +kernel
theorem dX4_strength_31 : decode cX4_strength 31 = .ok (.iconst 1, 1) := by decide +kernel
theorem dX4_strength_32 : decode cX4_strength 32 = .ok (.if_icmp .ge 5, 3) := by decide +kernel
theorem dX4_strength_35 : decode cX4_strength 35 = .ok (.fconst 0, 1) := by decide +kernel
theorem dX4_strength_36 : decode cX4_strength 36 = .ok (.freturn, 1) := by decide +kernel
theorem dX4_strength_37 : decode cX4_strength 37 = .ok (.fconst 1, 1) := by decide +kernel
theorem dX4_strength_38 : decode cX4_strength 38 = .ok (.aload_n 3, 1) := by decide +kernel
theorem dX4_strength_39 : decode cX4_strength 39 = .ok (.aload_n 2, 1) := by decide +kernel
theorem dX4_strength_40 : decode cX4_strength 40 = .ok (.getfield 79, 3) := by decide +kernel
theorem dX4_strength_43 : decode cX4_strength 43 = .ok (.invokevirtual 146, 3) := by decide +kernel
theorem dX4_strength_46 : decode cX4_strength 46 = .ok (.i2f, 1) := by decide +kernel
theorem dX4_strength_47 : decode cX4_strength 47 = .ok (.aload_n 3, 1) := by decide +kernel
theorem dX4_strength_48 : decode cX4_strength 48 = .ok (.getfield 143, 3) := by decide +kernel
theorem dX4_strength_51 : decode cX4_strength 51 = .ok (.i2f, 1) := by decide +kernel
theorem dX4_strength_52 : decode cX4_strength 52 = .ok (.fdiv, 1) := by decide +kernel
theorem dX4_strength_53 : decode cX4_strength 53 = .ok (.fsub, 1) := by decide +kernel
theorem dX4_strength_54 : decode cX4_strength 54 = .ok (.freturn, 1) := by decide +kernel
theorem dX4_paid_0 : decode cX4_paid 0 = .ok (.iload_n 1, 1) := by decide +kernel
theorem dX4_paid_1 : decode cX4_paid 1 = .ok (.invokestatic 46, 3) := by decide +kernel
theorem dX4_paid_4 : decode cX4_paid 4 = .ok (.ifCond .ne 11, 3) := by decide +kernel
theorem dX4_paid_7 : decode cX4_paid 7 = .ok (.new 49, 3) := by decide +kernel
theorem dX4_paid_10 : decode cX4_paid 10 = .ok (.dup, 1) := by decide +kernel
theorem dX4_paid_11 : decode cX4_paid 11 = .ok (.invokespecial 51, 3) := by decide +kernel
theorem dX4_paid_14 : decode cX4_paid 14 = .ok (.athrow, 1) := by decide +kernel
theorem dX4_paid_15 : decode cX4_paid 15 = .ok (.aload_n 0, 1) := by decide +kernel
theorem dX4_paid_16 : decode cX4_paid 16 = .ok (.getfield 21, 3) := by decide +kernel
theorem dX4_paid_19 : decode cX4_paid 19 = .ok (.iload_n 1, 1) := by decide +kernel
theorem dX4_paid_20 : decode cX4_paid 20 = .ok (.iaload, 1) := by decide +kernel
theorem dX4_paid_21 : decode cX4_paid 21 = .ok (.ireturn, 1) := by decide +kernel
theorem dX4_holes_0 : decode cX4_holes 0 = .ok (.iconst 0, 1) := by decide +kernel
theorem dX4_holes_1 : decode cX4_holes 1 = .ok (.istore_n 1, 1) := by decide +kernel
theorem dX4_holes_2 : decode cX4_holes 2 = .ok (.iconst 0, 1) := by decide +kernel
theorem dX4_holes_3 : decode cX4_holes 3 = .ok (.istore_n 2, 1) := by decide +kernel
theorem dX4_holes_4 : decode cX4_holes 4 = .ok (.iload_n 2, 1) := by decide +kernel
theorem dX4_holes_5 : decode cX4_holes 5 = .ok (.bipush 100, 2) := by decide +kernel
theorem dX4_holes_7 : decode cX4_holes 7 = .ok (.if_icmp .ge 20, 3) := by decide +kernel
theorem dX4_holes_10 : decode cX4_holes 10 = .ok (.aload_n 0, 1) := by decide +kernel
theorem dX4_holes_11 : decode cX4_holes 11 = .ok (.iload_n 2, 1) := by decide +kernel
theorem dX4_holes_12 : decode cX4_holes 12 = .ok (.invokevirtual 150, 3) := by decide +kernel
theorem dX4_holes_15 : decode cX4_holes 15 = .ok (.ifCond .ne 6, 3) := by decide +kernel
theorem dX4_holes_18 : decode cX4_holes 18 = .ok (.iinc 1 1, 3) := by decide +kernel
theorem dX4_holes_21 : decode cX4_holes 21 = .ok (.iinc 2 1, 3) := by decide +kernel
theorem dX4_holes_24 : decode cX4_holes 24 = .ok (.goto (-20), 3) := by decide +kernel
theorem dX4_holes_27 : decode cX4_holes 27 = .ok (.iload_n 1, 1) := by decide +kernel
theorem dX4_holes_28 : decode cX4_holes 28 = .ok (.ireturn, 1) := by decide +kernel
theorem dX4_isWithin_0 : decode cX4_isWithin 0 = .ok (.iload_n 1, 1) := by decide +kernel
theorem dX4_isWithin_1 : decode cX4_isWithin 1 = .ok (.iload_n 0, 1) := by decide +kernel
theorem dX4_isWithin_2 : decode cX4_isWithin 2 = .ok (.if_icmp .gt 12, 3) := by decide +kernel
theorem dX4_isWithin_5 : decode cX4_isWithin 5 = .ok (.iload_n 0, 1) := by decide +kernel
theorem dX4_isWithin_6 : decode cX4_isWithin 6 = .ok (.iload_n 2, 1) := by decide +kernel
theorem dX4_isWithin_7 : decode cX4_isWithin 7 = .ok (.if_icmp .gt 7, 3) := by decide +kernel
theorem dX4_isWithin_10 : decode cX4_isWithin 10 = .ok (.iconst 1, 1) := by decide +kernel
theorem dX4_isWithin_11 : decode cX4_isWithin 11 = .ok (.goto 4, 3) := by decide +kernel
theorem dX4_isWithin_14 : decode cX4_isWithin 14 = .ok (.iconst 0, 1) := by decide +kernel
theorem dX4_isWithin_15 : decode cX4_isWithin 15 = .ok (.ireturn, 1) := by decide +kernel
theorem dX4_isPlace_0 : decode cX4_isPlace 0 = .ok (.iload_n 0, 1) := by decide +kernel
theorem dX4_isPlace_1 : decode cX4_isPlace 1 = .ok (.iconst 0, 1) := by decide +kernel
theorem dX4_isPlace_2 : decode cX4_isPlace 2 = .ok (.bipush 99, 2) := by decide +kernel
theorem dX4_isPlace_4 : decode cX4_isPlace 4 = .ok (.invokestatic 29, 3) := by decide +kernel
theorem dX4_isPlace_7 : decode cX4_isPlace 7 = .ok (.ireturn, 1) := by decide +kernel
theorem dX4_isFarmer_0 : decode cX4_isFarmer 0 = .ok (.iload_n 0, 1) := by decide +kernel
theorem dX4_isFarmer_1 : decode cX4_isFarmer 1 = .ok (.iconst 0, 1) := by decide +kernel
theorem dX4_isFarmer_2 : decode cX4_isFarmer 2 = .ok (.iconst 5, 1) := by decide +kernel
theorem dX4_isFarmer_3 : decode cX4_isFarmer 3 = .ok (.invokestatic 29, 3) := by decide +kernel
theorem dX4_isFarmer_6 : decode cX4_isFarmer 6 = .ok (.ireturn, 1) := by decide +kernel
theorem dX4_mastAt_0 : decode cX4_mastAt 0 = .ok (.iload_n 1, 1) := by decide +kernel
theorem dX4_mastAt_1 : decode cX4_mastAt 1 = .ok (.iconst 0, 1) := by decide +kernel
theorem dX4_mastAt_2 : decode cX4_mastAt 2 = .ok (.aload_n 0, 1) := by decide +kernel
theorem dX4_mastAt_3 : decode cX4_mastAt 3 = .ok (.getfield 11, 3) := by decide +kernel
theorem dX4_mastAt_6 : decode cX4_mastAt 6 = .ok (.arraylength, 1) := by decide +kernel
theorem dX4_mastAt_7 : decode cX4_mastAt 7 = .ok (.iconst 1, 1) := by decide +kernel
theorem dX4_mastAt_8 : decode cX4_mastAt 8 = .ok (.isub, 1) := by decide +kernel
theorem dX4_mastAt_9 : decode cX4_mastAt 9 = .ok (.invokestatic 29, 3) := by decide +kernel
theorem dX4_mastAt_12 : decode cX4_mastAt 12 = .ok (.ifCond .eq 12, 3) := by decide +kernel
theorem dX4_mastAt_15 : decode cX4_mastAt 15 = .ok (.aload_n 0, 1) := by decide +kernel
theorem dX4_mastAt_16 : decode cX4_mastAt 16 = .ok (.getfield 11, 3) := by decide +kernel
theorem dX4_mastAt_19 : decode cX4_mastAt 19 = .ok (.iload_n 1, 1) := by decide +kernel
theorem dX4_mastAt_20 : decode cX4_mastAt 20 = .ok (.aaload, 1) := by decide +kernel
theorem dX4_mastAt_21 : decode cX4_mastAt 21 = .ok (.goto 4, 3) := by decide +kernel
theorem dX4_mastAt_24 : decode cX4_mastAt 24 = .ok (.aconst_null, 1) := by decide +kernel
theorem dX4_mastAt_25 : decode cX4_mastAt 25 = .ok (.areturn, 1) := by decide +kernel
theorem dX4_phoneAt_0 : decode cX4_phoneAt 0 = .ok (.iload_n 1, 1) := by decide +kernel
theorem dX4_phoneAt_1 : decode cX4_phoneAt 1 = .ok (.iconst 0, 1) := by decide +kernel
theorem dX4_phoneAt_2 : decode cX4_phoneAt 2 = .ok (.aload_n 0, 1) := by decide +kernel
theorem dX4_phoneAt_3 : decode cX4_phoneAt 3 = .ok (.getfield 17, 3) := by decide +kernel
theorem dX4_phoneAt_6 : decode cX4_phoneAt 6 = .ok (.arraylength, 1) := by decide +kernel
theorem dX4_phoneAt_7 : decode cX4_phoneAt 7 = .ok (.iconst 1, 1) := by decide +kernel
theorem dX4_phoneAt_8 : decode cX4_phoneAt 8 = .ok (.isub, 1) := by decide +kernel
theorem dX4_phoneAt_9 : decode cX4_phoneAt 9 = .ok (.invokestatic 29, 3) := by decide +kernel
theorem dX4_phoneAt_12 : decode cX4_phoneAt 12 = .ok (.ifCond .eq 12, 3) := by decide +kernel
theorem dX4_phoneAt_15 : decode cX4_phoneAt 15 = .ok (.aload_n 0, 1) := by decide +kernel
theorem dX4_phoneAt_16 : decode cX4_phoneAt 16 = .ok (.getfield 17, 3) := by decide +kernel
theorem dX4_phoneAt_19 : decode cX4_phoneAt 19 = .ok (.iload_n 1, 1) := by decide +kernel
theorem dX4_phoneAt_20 : decode cX4_phoneAt 20 = .ok (.aaload, 1) := by decide +kernel
theorem dX4_phoneAt_21 : decode cX4_phoneAt 21 = .ok (.goto 4, 3) := by decide +kernel
theorem dX4_phoneAt_24 : decode cX4_phoneAt 24 = .ok (.aconst_null, 1) := by decide +kernel
theorem dX4_phoneAt_25 : decode cX4_phoneAt 25 = .ok (.areturn, 1) := by decide +kernel
theorem dX4_isCovered_0 : decode cX4_isCovered 0 = .ok (.aload_n 0, 1) := by decide +kernel
theorem dX4_isCovered_1 : decode cX4_isCovered 1 = .ok (.getfield 11, 3) := by decide +kernel
theorem dX4_isCovered_4 : decode cX4_isCovered 4 = .ok (.astore_n 2, 1) := by decide +kernel
theorem dX4_isCovered_5 : decode cX4_isCovered 5 = .ok (.aload_n 2, 1) := by decide +kernel
theorem dX4_isCovered_6 : decode cX4_isCovered 6 = .ok (.arraylength, 1) := by decide +kernel
theorem dX4_isCovered_7 : decode cX4_isCovered 7 = .ok (.istore_n 3, 1) := by decide +kernel
theorem dX4_isCovered_8 : decode cX4_isCovered 8 = .ok (.iconst 0, 1) := by decide +kernel
theorem dX4_isCovered_9 : decode cX4_isCovered 9 = .ok (.istore 4, 2) := by decide +kernel
theorem dX4_isCovered_11 : decode cX4_isCovered 11 = .ok (.iload 4, 2) := by decide +kernel
theorem dX4_isCovered_13 : decode cX4_isCovered 13 = .ok (.iload_n 3, 1) := by decide +kernel
theorem dX4_isCovered_14 : decode cX4_isCovered 14 = .ok (.if_icmp .ge 39, 3) := by decide +kernel
theorem dX4_isCovered_17 : decode cX4_isCovered 17 = .ok (.aload_n 2, 1) := by decide +kernel
theorem dX4_isCovered_18 : decode cX4_isCovered 18 = .ok (.iload 4, 2) := by decide +kernel
theorem dX4_isCovered_20 : decode cX4_isCovered 20 = .ok (.aaload, 1) := by decide +kernel
theorem dX4_isCovered_21 : decode cX4_isCovered 21 = .ok (.astore 5, 2) := by decide +kernel
theorem dX4_isCovered_23 : decode cX4_isCovered 23 = .ok (.aload 5, 2) := by decide +kernel
theorem dX4_isCovered_25 : decode cX4_isCovered 25 = .ok (.ifnull 22, 3) := by decide +kernel
theorem dX4_isCovered_28 : decode cX4_isCovered 28 = .ok (.aload 5, 2) := by decide +kernel
theorem dX4_isCovered_30 : decode cX4_isCovered 30 = .ok (.invokevirtual 112, 3) := by decide +kernel
theorem dX4_isCovered_33 : decode cX4_isCovered 33 = .ok (.ifCond .eq 14, 3) := by decide +kernel
theorem dX4_isCovered_36 : decode cX4_isCovered 36 = .ok (.aload 5, 2) := by decide +kernel
theorem dX4_isCovered_38 : decode cX4_isCovered 38 = .ok (.iload_n 1, 1) := by decide +kernel
theorem dX4_isCovered_39 : decode cX4_isCovered 39 = .ok (.invokevirtual 102, 3) := by decide +kernel
theorem dX4_isCovered_42 : decode cX4_isCovered 42 = .ok (.ifCond .eq 5, 3) := by decide +kernel
theorem dX4_isCovered_45 : decode cX4_isCovered 45 = .ok (.iconst 1, 1) := by decide +kernel
theorem dX4_isCovered_46 : decode cX4_isCovered 46 = .ok (.ireturn, 1) := by decide +kernel
theorem dX4_isCovered_47 : decode cX4_isCovered 47 = .ok (.iinc 4 1, 3) := by decide +kernel
theorem dX4_isCovered_50 : decode cX4_isCovered 50 = .ok (.goto (-39), 3) := by decide +kernel
theorem dX4_isCovered_53 : decode cX4_isCovered 53 = .ok (.iconst 0, 1) := by decide +kernel
theorem dX4_isCovered_54 : decode cX4_isCovered 54 = .ok (.ireturn, 1) := by decide +kernel
theorem dX4_nearestFree_0 : decode cX4_nearestFree 0 = .ok (.aconst_null, 1) := by decide +kernel
theorem dX4_nearestFree_1 : decode cX4_nearestFree 1 = .ok (.astore_n 2, 1) := by decide +kernel
theorem dX4_nearestFree_2 : decode cX4_nearestFree 2 = .ok (.aload_n 0, 1) := by decide +kernel
theorem dX4_nearestFree_3 : decode cX4_nearestFree 3 = .ok (.getfield 11, 3) := by decide +kernel
theorem dX4_nearestFree_6 : decode cX4_nearestFree 6 = .ok (.astore_n 3, 1) := by decide +kernel
theorem dX4_nearestFree_7 : decode cX4_nearestFree 7 = .ok (.aload_n 3, 1) := by decide +kernel
theorem dX4_nearestFree_8 : decode cX4_nearestFree 8 = .ok (.arraylength, 1) := by decide +kernel
theorem dX4_nearestFree_9 : decode cX4_nearestFree 9 = .ok (.istore 4, 2) := by decide +kernel
theorem dX4_nearestFree_11 : decode cX4_nearestFree 11 = .ok (.iconst 0, 1) := by decide +kernel
theorem dX4_nearestFree_12 : decode cX4_nearestFree 12 = .ok (.istore 5, 2) := by decide +kernel
theorem dX4_nearestFree_14 : decode cX4_nearestFree 14 = .ok (.iload 5, 2) := by decide +kernel
theorem dX4_nearestFree_16 : decode cX4_nearestFree 16 = .ok (.iload 4, 2) := by decide +kernel
theorem dX4_nearestFree_18 : decode cX4_nearestFree 18 = .ok (.if_icmp .ge 50, 3) := by decide +kernel
theorem dX4_nearestFree_21 : decode cX4_nearestFree 21 = .ok (.aload_n 3, 1) := by decide +kernel
theorem dX4_nearestFree_22 : decode cX4_nearestFree 22 = .ok (.iload 5, 2) := by decide +kernel
theorem dX4_nearestFree_24 : decode cX4_nearestFree 24 = .ok (.aaload, 1) := by decide +kernel
theorem dX4_nearestFree_25 : decode cX4_nearestFree 25 = .ok (.astore 6, 2) := by decide +kernel
theorem dX4_nearestFree_27 : decode cX4_nearestFree 27 = .ok (.aload 6, 2) := by decide +kernel
theorem dX4_nearestFree_29 : decode cX4_nearestFree 29 = .ok (.ifnull 33, 3) := by decide +kernel
theorem dX4_nearestFree_32 : decode cX4_nearestFree 32 = .ok (.aload 6, 2) := by decide +kernel
theorem dX4_nearestFree_34 : decode cX4_nearestFree 34 = .ok (.iload_n 1, 1) := by decide +kernel
theorem dX4_nearestFree_35 : decode cX4_nearestFree 35 = .ok (.invokevirtual 153, 3) := by decide +kernel
theorem dX4_nearestFree_38 : decode cX4_nearestFree 38 = .ok (.ifCond .eq 24, 3) := by decide +kernel
theorem dX4_nearestFree_41 : decode cX4_nearestFree 41 = .ok (.aload_n 2, 1) := by decide +kernel
theorem dX4_nearestFree_42 : decode cX4_nearestFree 42 = .ok (.ifnull 17, 3) := by decide +kernel
theorem dX4_nearestFree_45 : decode cX4_nearestFree 45 = .ok (.aload 6, 2) := by decide +kernel
theorem dX4_nearestFree_47 : decode cX4_nearestFree 47 = .ok (.iload_n 1, 1) := by decide +kernel
theorem dX4_nearestFree_48 : decode cX4_nearestFree 48 = .ok (.invokevirtual 146, 3) := by decide +kernel
theorem dX4_nearestFree_51 : decode cX4_nearestFree 51 = .ok (.aload_n 2, 1) := by decide +kernel
theorem dX4_nearestFree_52 : decode cX4_nearestFree 52 = .ok (.iload_n 1, 1) := by decide +kernel
theorem dX4_nearestFree_53 : decode cX4_nearestFree 53 = .ok (.invokevirtual 146, 3) := by decide +kernel
theorem dX4_nearestFree_56 : decode cX4_nearestFree 56 = .ok (.if_icmp .ge 6, 3) := by decide +kernel
theorem dX4_nearestFree_59 : decode cX4_nearestFree 59 = .ok (.aload 6, 2) := by decide +kernel
theorem dX4_nearestFree_61 : decode cX4_nearestFree 61 = .ok (.astore_n 2, 1) := by decide +kernel
theorem dX4_nearestFree_62 : decode cX4_nearestFree 62 = .ok (.iinc 5 1, 3) := by decide +kernel
theorem dX4_nearestFree_65 : decode cX4_nearestFree 65 = .ok (.goto (-51), 3) := by decide +kernel
theorem dX4_nearestFree_68 : decode cX4_nearestFree 68 = .ok (.aload_n 2, 1) := by decide +kernel
theorem dX4_nearestFree_69 : decode cX4_nearestFree 69 = .ok (.areturn, 1) := by decide +kernel
theorem dX4_handOverOrDrop_0 : decode cX4_handOverOrDrop 0 = .ok (.aload_n 1, 1) := by decide +kernel
theorem dX4_handOverOrDrop_1 : decode cX4_handOverOrDrop 1 = .ok (.aload_n 0, 1) := by decide +kernel
theorem dX4_handOverOrDrop_2 : decode cX4_handOverOrDrop 2 = .ok (.getfield 52, 3) := by decide +kernel
theorem dX4_handOverOrDrop_5 : decode cX4_handOverOrDrop 5 = .ok (.invokevirtual 99, 3) := by decide +kernel
theorem dX4_handOverOrDrop_8 : decode cX4_handOverOrDrop 8 = .ok (.aload_n 0, 1) := by decide +kernel
theorem dX4_handOverOrDrop_9 : decode cX4_handOverOrDrop 9 = .ok (.aload_n 1, 1) := by decide +kernel
theorem dX4_handOverOrDrop_10 : decode cX4_handOverOrDrop 10 = .ok (.getfield 79, 3) := by decide +kernel
theorem dX4_handOverOrDrop_13 : decode cX4_handOverOrDrop 13 = .ok (.invokevirtual 82, 3) := by decide +kernel
theorem dX4_handOverOrDrop_16 : decode cX4_handOverOrDrop 16 = .ok (.astore_n 2, 1) := by decide +kernel
theorem dX4_handOverOrDrop_17 : decode cX4_handOverOrDrop 17 = .ok (.aload_n 2, 1) := by decide +kernel
theorem dX4_handOverOrDrop_18 : decode cX4_handOverOrDrop 18 = .ok (.ifnonnull 16, 3) := by decide +kernel
theorem dX4_handOverOrDrop_21 : decode cX4_handOverOrDrop 21 = .ok (.aload_n 1, 1) := by decide +kernel
theorem dX4_handOverOrDrop_22 : decode cX4_handOverOrDrop 22 = .ok (.dup, 1) := by decide +kernel
theorem dX4_handOverOrDrop_23 : decode cX4_handOverOrDrop 23 = .ok (.getfield 137, 3) := by decide +kernel
theorem dX4_handOverOrDrop_26 : decode cX4_handOverOrDrop 26 = .ok (.iconst 1, 1) := by decide +kernel
theorem dX4_handOverOrDrop_27 : decode cX4_handOverOrDrop 27 = .ok (.iadd, 1) := by decide +kernel
theorem dX4_handOverOrDrop_28 : decode cX4_handOverOrDrop 28 = .ok (.putfield 137, 3) := by decide +kernel
theorem dX4_handOverOrDrop_31 : decode cX4_handOverOrDrop 31 = .ok (.goto 22, 3) := by decide +kernel
theorem dX4_handOverOrDrop_34 : decode cX4_handOverOrDrop 34 = .ok (.aload_n 1, 1) := by decide +kernel
theorem dX4_handOverOrDrop_35 : decode cX4_handOverOrDrop 35 = .ok (.dup, 1) := by decide +kernel
theorem dX4_handOverOrDrop_36 : decode cX4_handOverOrDrop 36 = .ok (.getfield 140, 3) := by decide +kernel
theorem dX4_handOverOrDrop_39 : decode cX4_handOverOrDrop 39 = .ok (.iconst 1, 1) := by decide +kernel
theorem dX4_handOverOrDrop_40 : decode cX4_handOverOrDrop 40 = .ok (.iadd, 1) := by decide +kernel
theorem dX4_handOverOrDrop_41 : decode cX4_handOverOrDrop 41 = .ok (.putfield 140, 3) := by decide +kernel
theorem dX4_handOverOrDrop_44 : decode cX4_handOverOrDrop 44 = .ok (.aload_n 1, 1) := by decide +kernel
theorem dX4_handOverOrDrop_45 : decode cX4_handOverOrDrop 45 = .ok (.aload_n 2, 1) := by decide +kernel
theorem dX4_handOverOrDrop_46 : decode cX4_handOverOrDrop 46 = .ok (.aload_n 0, 1) := by decide +kernel
theorem dX4_handOverOrDrop_47 : decode cX4_handOverOrDrop 47 = .ok (.getfield 52, 3) := by decide +kernel
theorem dX4_handOverOrDrop_50 : decode cX4_handOverOrDrop 50 = .ok (.invokevirtual 88, 3) := by decide +kernel
theorem dX4_handOverOrDrop_53 : decode cX4_handOverOrDrop 53 = .ok (.return_, 1) := by decide +kernel
theorem dX4_letAnHourGoBy_0 : decode cX4_letAnHourGoBy 0 = .ok (.aload_n 0, 1) := by decide +kernel
theorem dX4_letAnHourGoBy_1 : decode cX4_letAnHourGoBy 1 = .ok (.invokevirtual 156, 3) := by decide +kernel
theorem dX4_letAnHourGoBy_4 : decode cX4_letAnHourGoBy 4 = .ok (.aload_n 0, 1) := by decide +kernel
theorem dX4_letAnHourGoBy_5 : decode cX4_letAnHourGoBy 5 = .ok (.invokevirtual 159, 3) := by decide +kernel
theorem dX4_letAnHourGoBy_8 : decode cX4_letAnHourGoBy 8 = .ok (.aload_n 0, 1) := by decide +kernel
theorem dX4_letAnHourGoBy_9 : decode cX4_letAnHourGoBy 9 = .ok (.invokevirtual 162, 3) := by decide +kernel
theorem dX4_letAnHourGoBy_12 : decode cX4_letAnHourGoBy 12 = .ok (.aload_n 0, 1) := by decide +kernel
theorem dX4_letAnHourGoBy_13 : decode cX4_letAnHourGoBy 13 = .ok (.dup, 1) := by decide +kernel
theorem dX4_letAnHourGoBy_14 : decode cX4_letAnHourGoBy 14 = .ok (.getfield 52, 3) := by decide +kernel
theorem dX4_letAnHourGoBy_17 : decode cX4_letAnHourGoBy 17 = .ok (.iconst 1, 1) := by decide +kernel
theorem dX4_letAnHourGoBy_18 : decode cX4_letAnHourGoBy 18 = .ok (.iadd, 1) := by decide +kernel
theorem dX4_letAnHourGoBy_19 : decode cX4_letAnHourGoBy 19 = .ok (.putfield 52, 3) := by decide +kernel
theorem dX4_letAnHourGoBy_22 : decode cX4_letAnHourGoBy 22 = .ok (.aload_n 0, 1) := by decide +kernel
theorem dX4_letAnHourGoBy_23 : decode cX4_letAnHourGoBy 23 = .ok (.invokevirtual 165, 3) := by decide +kernel
theorem dX4_letAnHourGoBy_26 : decode cX4_letAnHourGoBy 26 = .ok (.aload_n 0, 1) := by decide +kernel
theorem dX4_letAnHourGoBy_27 : decode cX4_letAnHourGoBy 27 = .ok (.invokevirtual 168, 3) := by decide +kernel
theorem dX4_letAnHourGoBy_30 : decode cX4_letAnHourGoBy 30 = .ok (.return_, 1) := by decide +kernel
theorem dX4_countTraffic_0 : decode cX4_countTraffic 0 = .ok (.aload_n 0, 1) := by decide +kernel
theorem dX4_countTraffic_1 : decode cX4_countTraffic 1 = .ok (.getfield 11, 3) := by decide +kernel
theorem dX4_countTraffic_4 : decode cX4_countTraffic 4 = .ok (.astore_n 1, 1) := by decide +kernel
theorem dX4_countTraffic_5 : decode cX4_countTraffic 5 = .ok (.aload_n 1, 1) := by decide +kernel
theorem dX4_countTraffic_6 : decode cX4_countTraffic 6 = .ok (.arraylength, 1) := by decide +kernel
theorem dX4_countTraffic_7 : decode cX4_countTraffic 7 = .ok (.istore_n 2, 1) := by decide +kernel
theorem dX4_countTraffic_8 : decode cX4_countTraffic 8 = .ok (.iconst 0, 1) := by decide +kernel
theorem dX4_countTraffic_9 : decode cX4_countTraffic 9 = .ok (.istore_n 3, 1) := by decide +kernel
theorem dX4_countTraffic_10 : decode cX4_countTraffic 10 = .ok (.iload_n 3, 1) := by decide +kernel
theorem dX4_countTraffic_11 : decode cX4_countTraffic 11 = .ok (.iload_n 2, 1) := by decide +kernel
theorem dX4_countTraffic_12 : decode cX4_countTraffic 12 = .ok (.if_icmp .ge 42, 3) := by decide +kernel
theorem dX4_countTraffic_15 : decode cX4_countTraffic 15 = .ok (.aload_n 1, 1) := by decide +kernel
theorem dX4_countTraffic_16 : decode cX4_countTraffic 16 = .ok (.iload_n 3, 1) := by decide +kernel
theorem dX4_countTraffic_17 : decode cX4_countTraffic 17 = .ok (.aaload, 1) := by decide +kernel
theorem dX4_countTraffic_18 : decode cX4_countTraffic 18 = .ok (.astore 4, 2) := by decide +kernel
theorem dX4_countTraffic_20 : decode cX4_countTraffic 20 = .ok (.aload 4, 2) := by decide +kernel
theorem dX4_countTraffic_22 : decode cX4_countTraffic 22 = .ok (.ifnull 26, 3) := by decide +kernel
theorem dX4_countTraffic_25 : decode cX4_countTraffic 25 = .ok (.aload 4, 2) := by decide +kernel
theorem dX4_countTraffic_27 : decode cX4_countTraffic 27 = .ok (.invokevirtual 112, 3) := by decide +kernel
theorem dX4_countTraffic_30 : decode cX4_countTraffic 30 = .ok (.ifCond .eq 18, 3) := by decide +kernel
theorem dX4_countTraffic_33 : decode cX4_countTraffic 33 = .ok (.aload 4, 2) := by decide +kernel
theorem dX4_countTraffic_35 : decode cX4_countTraffic 35 = .ok (.dup, 1) := by decide +kernel
theorem dX4_countTraffic_36 : decode cX4_countTraffic 36 = .ok (.getfield 125, 3) := by decide +kernel
theorem dX4_countTraffic_39 : decode cX4_countTraffic 39 = .ok (.aload 4, 2) := by decide +kernel
theorem dX4_countTraffic_41 : decode cX4_countTraffic 41 = .ok (.getfield 116, 3) := by decide +kernel
theorem dX4_countTraffic_44 : decode cX4_countTraffic 44 = .ok (.iadd, 1) := by decide +kernel
theorem dX4_countTraffic_45 : decode cX4_countTraffic 45 = .ok (.putfield 125, 3) := by decide +kernel
theorem dX4_countTraffic_48 : decode cX4_countTraffic 48 = .ok (.iinc 3 1, 3) := by decide +kernel
theorem dX4_countTraffic_51 : decode cX4_countTraffic 51 = .ok (.goto (-41), 3) := by decide +kernel
theorem dX4_countTraffic_54 : decode cX4_countTraffic 54 = .ok (.return_, 1) := by decide +kernel
theorem dX4_payRents_0 : decode cX4_payRents 0 = .ok (.aload_n 0, 1) := by decide +kernel
theorem dX4_payRents_1 : decode cX4_payRents 1 = .ok (.getfield 11, 3) := by decide +kernel
theorem dX4_payRents_4 : decode cX4_payRents 4 = .ok (.astore_n 1, 1) := by decide +kernel
theorem dX4_payRents_5 : decode cX4_payRents 5 = .ok (.aload_n 1, 1) := by decide +kernel
theorem dX4_payRents_6 : decode cX4_payRents 6 = .ok (.arraylength, 1) := by decide +kernel
theorem dX4_payRents_7 : decode cX4_payRents 7 = .ok (.istore_n 2, 1) := by decide +kernel
theorem dX4_payRents_8 : decode cX4_payRents 8 = .ok (.iconst 0, 1) := by decide +kernel
theorem dX4_payRents_9 : decode cX4_payRents 9 = .ok (.istore_n 3, 1) := by decide +kernel
theorem dX4_payRents_10 : decode cX4_payRents 10 = .ok (.iload_n 3, 1) := by decide +kernel
theorem dX4_payRents_11 : decode cX4_payRents 11 = .ok (.iload_n 2, 1) := by decide +kernel
theorem dX4_payRents_12 : decode cX4_payRents 12 = .ok (.if_icmp .ge 41, 3) := by decide +kernel
theorem dX4_payRents_15 : decode cX4_payRents 15 = .ok (.aload_n 1, 1) := by decide +kernel
theorem dX4_payRents_16 : decode cX4_payRents 16 = .ok (.iload_n 3, 1) := by decide +kernel
theorem dX4_payRents_17 : decode cX4_payRents 17 = .ok (.aaload, 1) := by decide +kernel
theorem dX4_payRents_18 : decode cX4_payRents 18 = .ok (.astore 4, 2) := by decide +kernel
theorem dX4_payRents_20 : decode cX4_payRents 20 = .ok (.aload 4, 2) := by decide +kernel
theorem dX4_payRents_22 : decode cX4_payRents 22 = .ok (.ifnull 25, 3) := by decide +kernel
theorem dX4_payRents_25 : decode cX4_payRents 25 = .ok (.aload 4, 2) := by decide +kernel
theorem dX4_payRents_27 : decode cX4_payRents 27 = .ok (.getfield 56, 3) := by decide +kernel
theorem dX4_payRents_30 : decode cX4_payRents 30 = .ok (.ifnull 17, 3) := by decide +kernel
theorem dX4_payRents_33 : decode cX4_payRents 33 = .ok (.aload_n 0, 1) := by decide +kernel
theorem dX4_payRents_34 : decode cX4_payRents 34 = .ok (.aload 4, 2) := by decide +kernel
theorem dX4_payRents_36 : decode cX4_payRents 36 = .ok (.getfield 56, 3) := by decide +kernel
theorem dX4_payRents_39 : decode cX4_payRents 39 = .ok (.aload 4, 2) := by decide +kernel
theorem dX4_payRents_41 : decode cX4_payRents 41 = .ok (.getfield 116, 3) := by decide +kernel
theorem dX4_payRents_44 : decode cX4_payRents 44 = .ok (.invokevirtual 171, 3) := by decide +kernel
theorem dX4_payRents_47 : decode cX4_payRents 47 = .ok (.iinc 3 1, 3) := by decide +kernel
theorem dX4_payRents_50 : decode cX4_payRents 50 = .ok (.goto (-40), 3) := by decide +kernel
theorem dX4_payRents_53 : decode cX4_payRents 53 = .ok (.return_, 1) := by decide +kernel
theorem dX4_payRent_0 : decode cX4_payRent 0 = .ok (.aload_n 1, 1) := by decide +kernel
theorem dX4_payRent_1 : decode cX4_payRent 1 = .ok (.getfield 175, 3) := by decide +kernel
theorem dX4_payRent_4 : decode cX4_payRent 4 = .ok (.aload_n 1, 1) := by decide +kernel
theorem dX4_payRent_5 : decode cX4_payRent 5 = .ok (.getfield 178, 3) := by decide +kernel
theorem dX4_payRent_8 : decode cX4_payRent 8 = .ok (.iload_n 2, 1) := by decide +kernel
theorem dX4_payRent_9 : decode cX4_payRent 9 = .ok (.imul, 1) := by decide +kernel
theorem dX4_payRent_10 : decode cX4_payRent 10 = .ok (.iadd, 1) := by decide +kernel
theorem dX4_payRent_11 : decode cX4_payRent 11 = .ok (.istore_n 3, 1) := by decide +kernel
theorem dX4_payRent_12 : decode cX4_payRent 12 = .ok (.iload_n 3, 1) := by decide +kernel
theorem dX4_payRent_13 : decode cX4_payRent 13 = .ok (.aload_n 1, 1) := by decide +kernel
theorem dX4_payRent_14 : decode cX4_payRent 14 = .ok (.getfield 181, 3) := by decide +kernel
theorem dX4_payRent_17 : decode cX4_payRent 17 = .ok (.imul, 1) := by decide +kernel
theorem dX4_payRent_18 : decode cX4_payRent 18 = .ok (.bipush 10, 2) := by decide +kernel
theorem dX4_payRent_20 : decode cX4_payRent 20 = .ok (.idiv, 1) := by decide +kernel
theorem dX4_payRent_21 : decode cX4_payRent 21 = .ok (.istore 4, 2) := by decide +kernel
theorem dX4_payRent_23 : decode cX4_payRent 23 = .ok (.aload_n 0, 1) := by decide +kernel
theorem dX4_payRent_24 : decode cX4_payRent 24 = .ok (.aload_n 1, 1) := by decide +kernel
theorem dX4_payRent_25 : decode cX4_payRent 25 = .ok (.getfield 184, 3) := by decide +kernel
theorem dX4_payRent_28 : decode cX4_payRent 28 = .ok (.iload 4, 2) := by decide +kernel
theorem dX4_payRent_30 : decode cX4_payRent 30 = .ok (.invokevirtual 187, 3) := by decide +kernel
theorem dX4_payRent_33 : decode cX4_payRent 33 = .ok (.aload_n 0, 1) := by decide +kernel
theorem dX4_payRent_34 : decode cX4_payRent 34 = .ok (.aload_n 1, 1) := by decide +kernel
theorem dX4_payRent_35 : decode cX4_payRent 35 = .ok (.getfield 191, 3) := by decide +kernel
theorem dX4_payRent_38 : decode cX4_payRent 38 = .ok (.iload_n 3, 1) := by decide +kernel
theorem dX4_payRent_39 : decode cX4_payRent 39 = .ok (.iload 4, 2) := by decide +kernel
theorem dX4_payRent_41 : decode cX4_payRent 41 = .ok (.isub, 1) := by decide +kernel
theorem dX4_payRent_42 : decode cX4_payRent 42 = .ok (.invokevirtual 187, 3) := by decide +kernel
theorem dX4_payRent_45 : decode cX4_payRent 45 = .ok (.return_, 1) := by decide +kernel
theorem dX4_pay_0 : decode cX4_pay 0 = .ok (.iload_n 1, 1) := by decide +kernel
theorem dX4_pay_1 : decode cX4_pay 1 = .ok (.invokestatic 46, 3) := by decide +kernel
theorem dX4_pay_4 : decode cX4_pay 4 = .ok (.ifCond .eq 13, 3) := by decide +kernel
theorem dX4_pay_7 : decode cX4_pay 7 = .ok (.aload_n 0, 1) := by decide +kernel
theorem dX4_pay_8 : decode cX4_pay 8 = .ok (.getfield 21, 3) := by decide +kernel
theorem dX4_pay_11 : decode cX4_pay 11 = .ok (.iload_n 1, 1) := by decide +kernel
theorem dX4_pay_12 : decode cX4_pay 12 = .ok (.dup2, 1) := by decide +kernel
theorem dX4_pay_13 : decode cX4_pay 13 = .ok (.iaload, 1) := by decide +kernel
theorem dX4_pay_14 : decode cX4_pay 14 = .ok (.iload_n 2, 1) := by decide +kernel
theorem dX4_pay_15 : decode cX4_pay 15 = .ok (.iadd, 1) := by decide +kernel
theorem dX4_pay_16 : decode cX4_pay 16 = .ok (.iastore, 1) := by decide +kernel
theorem dX4_pay_17 : decode cX4_pay 17 = .ok (.return_, 1) := by decide +kernel
theorem dX4_powerMasts_0 : decode cX4_powerMasts 0 = .ok (.aload_n 0, 1) := by decide +kernel
theorem dX4_powerMasts_1 : decode cX4_powerMasts 1 = .ok (.getfield 11, 3) := by decide +kernel
theorem dX4_powerMasts_4 : decode cX4_powerMasts 4 = .ok (.astore_n 1, 1) := by decide +kernel
theorem dX4_powerMasts_5 : decode cX4_powerMasts 5 = .ok (.aload_n 1, 1) := by decide +kernel
theorem dX4_powerMasts_6 : decode cX4_powerMasts 6 = .ok (.arraylength, 1) := by decide +kernel
theorem dX4_powerMasts_7 : decode cX4_powerMasts 7 = .ok (.istore_n 2, 1) := by decide +kernel
theorem dX4_powerMasts_8 : decode cX4_powerMasts 8 = .ok (.iconst 0, 1) := by decide +kernel
theorem dX4_powerMasts_9 : decode cX4_powerMasts 9 = .ok (.istore_n 3, 1) := by decide +kernel
theorem dX4_powerMasts_10 : decode cX4_powerMasts 10 = .ok (.iload_n 3, 1) := by decide +kernel
theorem dX4_powerMasts_11 : decode cX4_powerMasts 11 = .ok (.iload_n 2, 1) := by decide +kernel
theorem dX4_powerMasts_12 : decode cX4_powerMasts 12 = .ok (.if_icmp .ge 28, 3) := by decide +kernel
theorem dX4_powerMasts_15 : decode cX4_powerMasts 15 = .ok (.aload_n 1, 1) := by decide +kernel
theorem dX4_powerMasts_16 : decode cX4_powerMasts 16 = .ok (.iload_n 3, 1) := by decide +kernel
theorem dX4_powerMasts_17 : decode cX4_powerMasts 17 = .ok (.aaload, 1) := by decide +kernel
theorem dX4_powerMasts_18 : decode cX4_powerMasts 18 = .ok (.astore 4, 2) := by decide +kernel
theorem dX4_powerMasts_20 : decode cX4_powerMasts 20 = .ok (.aload 4, 2) := by decide +kernel
theorem dX4_powerMasts_22 : decode cX4_powerMasts 22 = .ok (.ifnull 12, 3) := by decide +kernel
theorem dX4_powerMasts_25 : decode cX4_powerMasts 25 = .ok (.aload 4, 2) := by decide +kernel
theorem dX4_powerMasts_27 : decode cX4_powerMasts 27 = .ok (.aload_n 0, 1) := by decide +kernel
theorem dX4_powerMasts_28 : decode cX4_powerMasts 28 = .ok (.getfield 65, 3) := by decide +kernel
theorem dX4_powerMasts_31 : decode cX4_powerMasts 31 = .ok (.invokevirtual 194, 3) := by decide +kernel
theorem dX4_powerMasts_34 : decode cX4_powerMasts 34 = .ok (.iinc 3 1, 3) := by decide +kernel
theorem dX4_powerMasts_37 : decode cX4_powerMasts 37 = .ok (.goto (-27), 3) := by decide +kernel
theorem dX4_powerMasts_40 : decode cX4_powerMasts 40 = .ok (.return_, 1) := by decide +kernel
theorem dX4_endLeases_0 : decode cX4_endLeases 0 = .ok (.aload_n 0, 1) := by decide +kernel
theorem dX4_endLeases_1 : decode cX4_endLeases 1 = .ok (.getfield 11, 3) := by decide +kernel
theorem dX4_endLeases_4 : decode cX4_endLeases 4 = .ok (.astore_n 1, 1) := by decide +kernel
theorem dX4_endLeases_5 : decode cX4_endLeases 5 = .ok (.aload_n 1, 1) := by decide +kernel
theorem dX4_endLeases_6 : decode cX4_endLeases 6 = .ok (.arraylength, 1) := by decide +kernel
theorem dX4_endLeases_7 : decode cX4_endLeases 7 = .ok (.istore_n 2, 1) := by decide +kernel
theorem dX4_endLeases_8 : decode cX4_endLeases 8 = .ok (.iconst 0, 1) := by decide +kernel
theorem dX4_endLeases_9 : decode cX4_endLeases 9 = .ok (.istore_n 3, 1) := by decide +kernel
theorem dX4_endLeases_10 : decode cX4_endLeases 10 = .ok (.iload_n 3, 1) := by decide +kernel
theorem dX4_endLeases_11 : decode cX4_endLeases 11 = .ok (.iload_n 2, 1) := by decide +kernel
theorem dX4_endLeases_12 : decode cX4_endLeases 12 = .ok (.if_icmp .ge 48, 3) := by decide +kernel
theorem dX4_endLeases_15 : decode cX4_endLeases 15 = .ok (.aload_n 1, 1) := by decide +kernel
theorem dX4_endLeases_16 : decode cX4_endLeases 16 = .ok (.iload_n 3, 1) := by decide +kernel
theorem dX4_endLeases_17 : decode cX4_endLeases 17 = .ok (.aaload, 1) := by decide +kernel
theorem dX4_endLeases_18 : decode cX4_endLeases 18 = .ok (.astore 4, 2) := by decide +kernel
theorem dX4_endLeases_20 : decode cX4_endLeases 20 = .ok (.aload 4, 2) := by decide +kernel
theorem dX4_endLeases_22 : decode cX4_endLeases 22 = .ok (.ifnull 32, 3) := by decide +kernel
theorem dX4_endLeases_25 : decode cX4_endLeases 25 = .ok (.aload 4, 2) := by decide +kernel
theorem dX4_endLeases_27 : decode cX4_endLeases 27 = .ok (.getfield 56, 3) := by decide +kernel
theorem dX4_endLeases_30 : decode cX4_endLeases 30 = .ok (.ifnull 24, 3) := by decide +kernel
theorem dX4_endLeases_33 : decode cX4_endLeases 33 = .ok (.aload 4, 2) := by decide +kernel
theorem dX4_endLeases_35 : decode cX4_endLeases 35 = .ok (.getfield 56, 3) := by decide +kernel
theorem dX4_endLeases_38 : decode cX4_endLeases 38 = .ok (.getfield 128, 3) := by decide +kernel
theorem dX4_endLeases_41 : decode cX4_endLeases 41 = .ok (.aload_n 0, 1) := by decide +kernel
theorem dX4_endLeases_42 : decode cX4_endLeases 42 = .ok (.getfield 52, 3) := by decide +kernel
theorem dX4_endLeases_45 : decode cX4_endLeases 45 = .ok (.if_icmp .gt 9, 3) := by decide +kernel
theorem dX4_endLeases_48 : decode cX4_endLeases 48 = .ok (.aload 4, 2) := by decide +kernel
theorem dX4_endLeases_50 : decode cX4_endLeases 50 = .ok (.aconst_null, 1) := by decide +kernel
theorem dX4_endLeases_51 : decode cX4_endLeases 51 = .ok (.putfield 56, 3) := by decide +kernel
theorem dX4_endLeases_54 : decode cX4_endLeases 54 = .ok (.iinc 3 1, 3) := by decide +kernel
theorem dX4_endLeases_57 : decode cX4_endLeases 57 = .ok (.goto (-47), 3) := by decide +kernel
theorem dX4_endLeases_60 : decode cX4_endLeases 60 = .ok (.return_, 1) := by decide +kernel
theorem dX4_leaveMastsThatAreNotOn_0 : decode cX4_leaveMastsThatAreNotOn 0 = .ok (.aload_n 0, 1) := by decide +kernel
theorem dX4_leaveMastsThatAreNotOn_1 : decode cX4_leaveMastsThatAreNotOn 1 = .ok (.getfield 17, 3) := by decide +kernel
theorem dX4_leaveMastsThatAreNotOn_4 : decode cX4_leaveMastsThatAreNotOn 4 = .ok (.astore_n 1, 1) := by decide +kernel
theorem dX4_leaveMastsThatAreNotOn_5 : decode cX4_leaveMastsThatAreNotOn 5 = .ok (.aload_n 1, 1) := by decide +kernel
theorem dX4_leaveMastsThatAreNotOn_6 : decode cX4_leaveMastsThatAreNotOn 6 = .ok (.arraylength, 1) := by decide +kernel
theorem dX4_leaveMastsThatAreNotOn_7 : decode cX4_leaveMastsThatAreNotOn 7 = .ok (.istore_n 2, 1) := by decide +kernel
theorem dX4_leaveMastsThatAreNotOn_8 : decode cX4_leaveMastsThatAreNotOn 8 = .ok (.iconst 0, 1) := by decide +kernel
theorem dX4_leaveMastsThatAreNotOn_9 : decode cX4_leaveMastsThatAreNotOn 9 = .ok (.istore_n 3, 1) := by decide +kernel
theorem dX4_leaveMastsThatAreNotOn_10 : decode cX4_leaveMastsThatAreNotOn 10 = .ok (.iload_n 3, 1) := by decide +kernel
theorem dX4_leaveMastsThatAreNotOn_11 : decode cX4_leaveMastsThatAreNotOn 11 = .ok (.iload_n 2, 1) := by decide +kernel
theorem dX4_leaveMastsThatAreNotOn_12 : decode cX4_leaveMastsThatAreNotOn 12 = .ok (.if_icmp .ge 44, 3) := by decide +kernel
theorem dX4_leaveMastsThatAreNotOn_15 : decode cX4_leaveMastsThatAreNotOn 15 = .ok (.aload_n 1, 1) := by decide +kernel
theorem dX4_leaveMastsThatAreNotOn_16 : decode cX4_leaveMastsThatAreNotOn 16 = .ok (.iload_n 3, 1) := by decide +kernel
theorem dX4_leaveMastsThatAreNotOn_17 : decode cX4_leaveMastsThatAreNotOn 17 = .ok (.aaload, 1) := by decide +kernel
theorem dX4_leaveMastsThatAreNotOn_18 : decode cX4_leaveMastsThatAreNotOn 18 = .ok (.astore 4, 2) := by decide +kernel
theorem dX4_leaveMastsThatAreNotOn_20 : decode cX4_leaveMastsThatAreNotOn 20 = .ok (.aload 4, 2) := by decide +kernel
theorem dX4_leaveMastsThatAreNotOn_22 : decode cX4_leaveMastsThatAreNotOn 22 = .ok (.ifnull 28, 3) := by decide +kernel
theorem dX4_leaveMastsThatAreNotOn_25 : decode cX4_leaveMastsThatAreNotOn 25 = .ok (.aload 4, 2) := by decide +kernel
theorem dX4_leaveMastsThatAreNotOn_27 : decode cX4_leaveMastsThatAreNotOn 27 = .ok (.getfield 75, 3) := by decide +kernel
theorem dX4_leaveMastsThatAreNotOn_30 : decode cX4_leaveMastsThatAreNotOn 30 = .ok (.ifnull 20, 3) := by decide +kernel
theorem dX4_leaveMastsThatAreNotOn_33 : decode cX4_leaveMastsThatAreNotOn 33 = .ok (.aload 4, 2) := by decide +kernel
theorem dX4_leaveMastsThatAreNotOn_35 : decode cX4_leaveMastsThatAreNotOn 35 = .ok (.getfield 75, 3) := by decide +kernel
theorem dX4_leaveMastsThatAreNotOn_38 : decode cX4_leaveMastsThatAreNotOn 38 = .ok (.invokevirtual 112, 3) := by decide +kernel
theorem dX4_leaveMastsThatAreNotOn_41 : decode cX4_leaveMastsThatAreNotOn 41 = .ok (.ifCond .ne 9, 3) := by decide +kernel
theorem dX4_leaveMastsThatAreNotOn_44 : decode cX4_leaveMastsThatAreNotOn 44 = .ok (.aload_n 0, 1) := by decide +kernel
theorem dX4_leaveMastsThatAreNotOn_45 : decode cX4_leaveMastsThatAreNotOn 45 = .ok (.aload 4, 2) := by decide +kernel
theorem dX4_leaveMastsThatAreNotOn_47 : decode cX4_leaveMastsThatAreNotOn 47 = .ok (.invokevirtual 105, 3) := by decide +kernel
theorem dX4_leaveMastsThatAreNotOn_50 : decode cX4_leaveMastsThatAreNotOn 50 = .ok (.iinc 3 1, 3) := by decide +kernel
theorem dX4_leaveMastsThatAreNotOn_53 : decode cX4_leaveMastsThatAreNotOn 53 = .ok (.goto (-43), 3) := by decide +kernel
theorem dX4_leaveMastsThatAreNotOn_56 : decode cX4_leaveMastsThatAreNotOn 56 = .ok (.return_, 1) := by decide +kernel
end
section
/-! decode rows: the reference -/
theorem dX5_init_0 : decode cX5_init 0 = .ok (.aload_n 0, 1) := by decide +kernel
theorem dX5_init_1 : decode cX5_init 1 = .ok (.invokespecial 1, 3) := by decide +kernel
theorem dX5_init_4 : decode cX5_init 4 = .ok (.aload_n 0, 1) := by decide +kernel
theorem dX5_init_5 : decode cX5_init 5 = .ok (.bipush 8, 2) := by decide +kernel
theorem dX5_init_7 : decode cX5_init 7 = .ok (.newarray .int, 2) := by decide +kernel
theorem dX5_init_9 : decode cX5_init 9 = .ok (.putfield 7, 3) := by decide +kernel
theorem dX5_init_12 : decode cX5_init 12 = .ok (.aload_n 0, 1) := by decide +kernel
theorem dX5_init_13 : decode cX5_init 13 = .ok (.bipush 8, 2) := by decide +kernel
theorem dX5_init_15 : decode cX5_init 15 = .ok (.newarray .int, 2) := by decide +kernel
theorem dX5_init_17 : decode cX5_init 17 = .ok (.putfield 13, 3) := by decide +kernel
theorem dX5_init_20 : decode cX5_init 20 = .ok (.aload_n 0, 1) := by decide +kernel
theorem dX5_init_21 : decode cX5_init 21 = .ok (.bipush 8, 2) := by decide +kernel
theorem dX5_init_23 : decode cX5_init 23 = .ok (.newarray .int, 2) := by decide +kernel
theorem dX5_init_25 : decode cX5_init 25 = .ok (.putfield 16, 3) := by decide +kernel
theorem dX5_init_28 : decode cX5_init 28 = .ok (.aload_n 0, 1) := by decide +kernel
theorem dX5_init_29 : decode cX5_init 29 = .ok (.bipush 8, 2) := by decide +kernel
theorem dX5_init_31 : decode cX5_init 31 = .ok (.newarray .int, 2) := by decide +kernel
theorem dX5_init_33 : decode cX5_init 33 = .ok (.putfield 19, 3) := by decide +kernel
theorem dX5_init_36 : decode cX5_init 36 = .ok (.aload_n 0, 1) := by decide +kernel
theorem dX5_init_37 : decode cX5_init 37 = .ok (.bipush 8, 2) := by decide +kernel
theorem dX5_init_39 : decode cX5_init 39 = .ok (.newarray .int, 2) := by decide +kernel
theorem dX5_init_41 : decode cX5_init 41 = .ok (.putfield 22, 3) := by decide +kernel
theorem dX5_init_44 : decode cX5_init 44 = .ok (.aload_n 0, 1) := by decide +kernel
theorem dX5_init_45 : decode cX5_init 45 = .ok (.bipush 8, 2) := by decide +kernel
theorem dX5_init_47 : decode cX5_init 47 = .ok (.newarray .boolean, 2) := by decide +kernel
theorem dX5_init_49 : decode cX5_init 49 = .ok (.putfield 25, 3) := by decide +kernel
theorem dX5_init_52 : decode cX5_init 52 = .ok (.aload_n 0, 1) := by decide +kernel
theorem dX5_init_53 : decode cX5_init 53 = .ok (.bipush 8, 2) := by decide +kernel
theorem dX5_init_55 : decode cX5_init 55 = .ok (.newarray .int, 2) := by decide +kernel
theorem dX5_init_57 : decode cX5_init 57 = .ok (.putfield 29, 3) := by decide +kernel
theorem dX5_init_60 : decode cX5_init 60 = .ok (.aload_n 0, 1) := by decide +kernel
theorem dX5_init_61 : decode cX5_init 61 = .ok (.bipush 8, 2) := by decide +kernel
theorem dX5_init_63 : decode cX5_init 63 = .ok (.newarray .boolean, 2) := by decide +kernel
theorem dX5_init_65 : decode cX5_init 65 = .ok (.putfield 32, 3) := by decide +kernel
theorem dX5_init_68 : decode cX5_init 68 = .ok (.aload_n 0, 1) := by decide +kernel
theorem dX5_init_69 : decode cX5_init 69 = .ok (.bipush 8, 2) := by decide +kernel
theorem dX5_init_71 : decode cX5_init 71 = .ok (.newarray .int, 2) := by decide +kernel
theorem dX5_init_73 : decode cX5_init 73 = .ok (.putfield 35, 3) := by decide +kernel
theorem dX5_init_76 : decode cX5_init 76 = .ok (.aload_n 0, 1) := by decide +kernel
theorem dX5_init_77 : decode cX5_init 77 = .ok (.bipush 8, 2) := by decide +kernel
theorem dX5_init_79 : decode cX5_init 79 = .ok (.newarray .int, 2) := by decide +kernel
theorem dX5_init_81 : decode cX5_init 81 = .ok (.putfield 38, 3) := by decide +kernel
theorem dX5_init_84 : decode cX5_init 84 = .ok (.aload_n 0, 1) := by decide +kernel
theorem dX5_init_85 : decode cX5_init 85 = .ok (.bipush 8, 2) := by decide +kernel
theorem dX5_init_87 : decode cX5_init 87 = .ok (.newarray .int, 2) := by decide +kernel
theorem dX5_init_89 : decode cX5_init 89 = .ok (.putfield 41, 3) := by decide +kernel
theorem dX5_init_92 : decode cX5_init 92 = .ok (.aload_n 0, 1) := by decide +kernel
theorem dX5_init_93 : decode cX5_init 93 = .ok (.bipush 8, 2) := by decide +kernel
theorem dX5_init_95 : decode cX5_init 95 = .ok (.newarray .int, 2) := by decide +kernel
theorem dX5_init_97 : decode cX5_init 97 = .ok (.putfield 44, 3) := by decide +kernel
theorem dX5_init_100 : decode cX5_init 100 = .ok (.aload_n 0, 1) := by decide +kernel
theorem dX5_init_101 : decode cX5_init 101 = .ok (.bipush 8, 2) := by decide +kernel
theorem dX5_init_103 : decode cX5_init 103 = .ok (.newarray .int, 2) := by decide +kernel
theorem dX5_init_105 : decode cX5_init 105 = .ok (.putfield 47, 3) := by decide +kernel
theorem dX5_init_108 : decode cX5_init 108 = .ok (.aload_n 0, 1) := by decide +kernel
theorem dX5_init_109 : decode cX5_init 109 = .ok (.bipush 8, 2) := by decide +kernel
theorem dX5_init_111 : decode cX5_init 111 = .ok (.newarray .int, 2) := by decide +kernel
theorem dX5_init_113 : decode cX5_init 113 = .ok (.putfield 50, 3) := by decide +kernel
theorem dX5_init_116 : decode cX5_init 116 = .ok (.aload_n 0, 1) := by decide +kernel
theorem dX5_init_117 : decode cX5_init 117 = .ok (.bipush 8, 2) := by decide +kernel
theorem dX5_init_119 : decode cX5_init 119 = .ok (.newarray .int, 2) := by decide +kernel
theorem dX5_init_121 : decode cX5_init 121 = .ok (.putfield 53, 3) := by decide +kernel
theorem dX5_init_124 : decode cX5_init 124 = .ok (.aload_n 0, 1) := by decide +kernel
theorem dX5_init_125 : decode cX5_init 125 = .ok (.bipush 8, 2) := by decide +kernel
theorem dX5_init_127 : decode cX5_init 127 = .ok (.newarray .int, 2) := by decide +kernel
theorem dX5_init_129 : decode cX5_init 129 = .ok (.putfield 56, 3) := by decide +kernel
theorem dX5_init_132 : decode cX5_init 132 = .ok (.aload_n 0, 1) := by decide +kernel
theorem dX5_init_133 : decode cX5_init 133 = .ok (.bipush 12, 2) := by decide +kernel
theorem dX5_init_135 : decode cX5_init 135 = .ok (.newarray .int, 2) := by decide +kernel
theorem dX5_init_137 : decode cX5_init 137 = .ok (.putfield 59, 3) := by decide +kernel
theorem dX5_init_140 : decode cX5_init 140 = .ok (.aload_n 0, 1) := by decide +kernel
theorem dX5_init_141 : decode cX5_init 141 = .ok (.bipush 12, 2) := by decide +kernel
theorem dX5_init_143 : decode cX5_init 143 = .ok (.newarray .int, 2) := by decide +kernel
theorem dX5_init_145 : decode cX5_init 145 = .ok (.putfield 62, 3) := by decide +kernel
theorem dX5_init_148 : decode cX5_init 148 = .ok (.aload_n 0, 1) := by decide +kernel
theorem dX5_init_149 : decode cX5_init 149 = .ok (.bipush 12, 2) := by decide +kernel
theorem dX5_init_151 : decode cX5_init 151 = .ok (.newarray .int, 2) := by decide +kernel
theorem dX5_init_153 : decode cX5_init 153 = .ok (.putfield 65, 3) := by decide +kernel
theorem dX5_init_156 : decode cX5_init 156 = .ok (.aload_n 0, 1) := by decide +kernel
theorem dX5_init_157 : decode cX5_init 157 = .ok (.bipush 12, 2) := by decide +kernel
theorem dX5_init_159 : decode cX5_init 159 = .ok (.newarray .int, 2) := by decide +kernel
theorem dX5_init_161 : decode cX5_init 161 = .ok (.putfield 68, 3) := by decide +kernel
theorem dX5_init_164 : decode cX5_init 164 = .ok (.aload_n 0, 1) := by decide +kernel
theorem dX5_init_165 : decode cX5_init 165 = .ok (.bipush 12, 2) := by decide +kernel
theorem dX5_init_167 : decode cX5_init 167 = .ok (.newarray .int, 2) := by decide +kernel
theorem dX5_init_169 : decode cX5_init 169 = .ok (.putfield 71, 3) := by decide +kernel
theorem dX5_init_172 : decode cX5_init 172 = .ok (.aload_n 0, 1) := by decide +kernel
theorem dX5_init_173 : decode cX5_init 173 = .ok (.bipush 6, 2) := by decide +kernel
theorem dX5_init_175 : decode cX5_init 175 = .ok (.newarray .int, 2) := by decide +kernel
theorem dX5_init_177 : decode cX5_init 177 = .ok (.putfield 74, 3) := by decide +kernel
theorem dX5_init_180 : decode cX5_init 180 = .ok (.aload_n 0, 1) := by decide +kernel
theorem dX5_init_181 : decode cX5_init 181 = .ok (.iconst 0, 1) := by decide +kernel
theorem dX5_init_182 : decode cX5_init 182 = .ok (.putfield 77, 3) := by decide +kernel
theorem dX5_init_185 : decode cX5_init 185 = .ok (.return_, 1) := by decide +kernel
theorem dX5_thrown_0 : decode cX5_thrown 0 = .ok (.aload_n 0, 1) := by decide +kernel
theorem dX5_thrown_1 : decode cX5_thrown 1 = .ok (.getfield 77, 3) := by decide +kernel
theorem dX5_thrown_4 : decode cX5_thrown 4 = .ok (.ireturn, 1) := by decide +kernel
theorem dX5_in_0 : decode cX5_in 0 = .ok (.iload_n 0, 1) := by decide +kernel
theorem dX5_in_1 : decode cX5_in 1 = .ok (.iload_n 1, 1) := by decide +kernel
theorem dX5_in_2 : decode cX5_in 2 = .ok (.if_icmp .lt 12, 3) := by decide +kernel
theorem dX5_in_5 : decode cX5_in 5 = .ok (.iload_n 0, 1) := by decide +kernel
theorem dX5_in_6 : decode cX5_in 6 = .ok (.iload_n 2, 1) := by decide +kernel
theorem dX5_in_7 : decode cX5_in 7 = .ok (.if_icmp .gt 7, 3) := by decide +kernel
theorem dX5_in_10 : decode cX5_in 10 = .ok (.iconst 1, 1) := by decide +kernel
theorem dX5_in_11 : decode cX5_in 11 = .ok (.goto 4, 3) := by decide +kernel
theorem dX5_in_14 : decode cX5_in 14 = .ok (.iconst 0, 1) := by decide +kernel
theorem dX5_in_15 : decode cX5_in 15 = .ok (.ireturn, 1) := by decide +kernel
theorem dX5_isMast_0 : decode cX5_isMast 0 = .ok (.iload_n 1, 1) := by decide +kernel
theorem dX5_isMast_1 : decode cX5_isMast 1 = .ok (.iconst 0, 1) := by decide +kernel
theorem dX5_isMast_2 : decode cX5_isMast 2 = .ok (.aload_n 0, 1) := by decide +kernel
theorem dX5_isMast_3 : decode cX5_isMast 3 = .ok (.getfield 81, 3) := by decide +kernel
theorem dX5_isMast_6 : decode cX5_isMast 6 = .ok (.iconst 1, 1) := by decide +kernel
theorem dX5_isMast_7 : decode cX5_isMast 7 = .ok (.isub, 1) := by decide +kernel
theorem dX5_isMast_8 : decode cX5_isMast 8 = .ok (.invokestatic 84, 3) := by decide +kernel
theorem dX5_isMast_11 : decode cX5_isMast 11 = .ok (.ireturn, 1) := by decide +kernel
theorem dX5_isFarmer_0 : decode cX5_isFarmer 0 = .ok (.iload_n 0, 1) := by decide +kernel
theorem dX5_isFarmer_1 : decode cX5_isFarmer 1 = .ok (.iconst 0, 1) := by decide +kernel
theorem dX5_isFarmer_2 : decode cX5_isFarmer 2 = .ok (.iconst 5, 1) := by decide +kernel
theorem dX5_isFarmer_3 : decode cX5_isFarmer 3 = .ok (.invokestatic 84, 3) := by decide +kernel
theorem dX5_isFarmer_6 : decode cX5_isFarmer 6 = .ok (.ireturn, 1) := by decide +kernel
theorem dX5_isPhone_0 : decode cX5_isPhone 0 = .ok (.iload_n 1, 1) := by decide +kernel
theorem dX5_isPhone_1 : decode cX5_isPhone 1 = .ok (.iconst 0, 1) := by decide +kernel
theorem dX5_isPhone_2 : decode cX5_isPhone 2 = .ok (.aload_n 0, 1) := by decide +kernel
theorem dX5_isPhone_3 : decode cX5_isPhone 3 = .ok (.getfield 88, 3) := by decide +kernel
theorem dX5_isPhone_6 : decode cX5_isPhone 6 = .ok (.iconst 1, 1) := by decide +kernel
theorem dX5_isPhone_7 : decode cX5_isPhone 7 = .ok (.isub, 1) := by decide +kernel
theorem dX5_isPhone_8 : decode cX5_isPhone 8 = .ok (.invokestatic 84, 3) := by decide +kernel
theorem dX5_isPhone_11 : decode cX5_isPhone 11 = .ok (.ireturn, 1) := by decide +kernel
theorem dX5_isLeased_0 : decode cX5_isLeased 0 = .ok (.aload_n 0, 1) := by decide +kernel
theorem dX5_isLeased_1 : decode cX5_isLeased 1 = .ok (.getfield 35, 3) := by decide +kernel
theorem dX5_isLeased_4 : decode cX5_isLeased 4 = .ok (.iload_n 1, 1) := by decide +kernel
theorem dX5_isLeased_5 : decode cX5_isLeased 5 = .ok (.iaload, 1) := by decide +kernel
theorem dX5_isLeased_6 : decode cX5_isLeased 6 = .ok (.iconst (-1), 1) := by decide +kernel
theorem dX5_isLeased_7 : decode cX5_isLeased 7 = .ok (.if_icmp .eq 7, 3) := by decide +kernel
theorem dX5_isLeased_10 : decode cX5_isLeased 10 = .ok (.iconst 1, 1) := by decide +kernel
theorem dX5_isLeased_11 : decode cX5_isLeased 11 = .ok (.goto 4, 3) := by decide +kernel
theorem dX5_isLeased_14 : decode cX5_isLeased 14 = .ok (.iconst 0, 1) := by decide +kernel
theorem dX5_isLeased_15 : decode cX5_isLeased 15 = .ok (.ireturn, 1) := by decide +kernel
theorem dX5_isOn_0 : decode cX5_isOn 0 = .ok (.aload_n 0, 1) := by decide +kernel
theorem dX5_isOn_1 : decode cX5_isOn 1 = .ok (.iload_n 1, 1) := by decide +kernel
theorem dX5_isOn_2 : decode cX5_isOn 2 = .ok (.invokevirtual 91, 3) := by decide +kernel
theorem dX5_isOn_5 : decode cX5_isOn 5 = .ok (.ifCond .eq 16, 3) := by decide +kernel
theorem dX5_isOn_8 : decode cX5_isOn 8 = .ok (.aload_n 0, 1) := by decide +kernel
theorem dX5_isOn_9 : decode cX5_isOn 9 = .ok (.getfield 32, 3) := by decide +kernel
theorem dX5_isOn_12 : decode cX5_isOn 12 = .ok (.iload_n 1, 1) := by decide +kernel
theorem dX5_isOn_13 : decode cX5_isOn 13 = .ok (.baload, 1) := by decide +kernel
theorem dX5_isOn_14 : decode cX5_isOn 14 = .ok (.ifCond .ne 7, 3) := by decide +kernel
theorem dX5_isOn_17 : decode cX5_isOn 17 = .ok (.iconst 1, 1) := by decide +kernel
theorem dX5_isOn_18 : decode cX5_isOn 18 = .ok (.goto 4, 3) := by decide +kernel
theorem dX5_isOn_21 : decode cX5_isOn 21 = .ok (.iconst 0, 1) := by decide +kernel
theorem dX5_isOn_22 : decode cX5_isOn 22 = .ok (.ireturn, 1) := by decide +kernel
theorem dX5_carries_0 : decode cX5_carries 0 = .ok (.iconst 0, 1) := by decide +kernel
theorem dX5_carries_1 : decode cX5_carries 1 = .ok (.istore_n 2, 1) := by decide +kernel
theorem dX5_carries_2 : decode cX5_carries 2 = .ok (.iconst 0, 1) := by decide +kernel
theorem dX5_carries_3 : decode cX5_carries 3 = .ok (.istore_n 3, 1) := by decide +kernel
theorem dX5_carries_4 : decode cX5_carries 4 = .ok (.iload_n 3, 1) := by decide +kernel
theorem dX5_carries_5 : decode cX5_carries 5 = .ok (.aload_n 0, 1) := by decide +kernel
theorem dX5_carries_6 : decode cX5_carries 6 = .ok (.getfield 88, 3) := by decide +kernel
theorem dX5_carries_9 : decode cX5_carries 9 = .ok (.if_icmp .ge 27, 3) := by decide +kernel
theorem dX5_carries_12 : decode cX5_carries 12 = .ok (.iload_n 2, 1) := by decide +kernel
theorem dX5_carries_13 : decode cX5_carries 13 = .ok (.aload_n 0, 1) := by decide +kernel
theorem dX5_carries_14 : decode cX5_carries 14 = .ok (.getfield 62, 3) := by decide +kernel
theorem dX5_carries_17 : decode cX5_carries 17 = .ok (.iload_n 3, 1) := by decide +kernel
theorem dX5_carries_18 : decode cX5_carries 18 = .ok (.iaload, 1) := by decide +kernel
theorem dX5_carries_19 : decode cX5_carries 19 = .ok (.iload_n 1, 1) := by decide +kernel
theorem dX5_carries_20 : decode cX5_carries 20 = .ok (.if_icmp .ne 7, 3) := by decide +kernel
theorem dX5_carries_23 : decode cX5_carries 23 = .ok (.iconst 1, 1) := by decide +kernel
theorem dX5_carries_24 : decode cX5_carries 24 = .ok (.goto 4, 3) := by decide +kernel
theorem dX5_carries_27 : decode cX5_carries 27 = .ok (.iconst 0, 1) := by decide +kernel
theorem dX5_carries_28 : decode cX5_carries 28 = .ok (.iadd, 1) := by decide +kernel
theorem dX5_carries_29 : decode cX5_carries 29 = .ok (.istore_n 2, 1) := by decide +kernel
theorem dX5_carries_30 : decode cX5_carries 30 = .ok (.iinc 3 1, 3) := by decide +kernel
theorem dX5_carries_33 : decode cX5_carries 33 = .ok (.goto (-29), 3) := by decide +kernel
theorem dX5_carries_36 : decode cX5_carries 36 = .ok (.iload_n 2, 1) := by decide +kernel
theorem dX5_carries_37 : decode cX5_carries 37 = .ok (.ireturn, 1) := by decide +kernel
theorem dX5_apart_0 : decode cX5_apart 0 = .ok (.aload_n 0, 1) := by decide +kernel
theorem dX5_apart_1 : decode cX5_apart 1 = .ok (.getfield 7, 3) := by decide +kernel
theorem dX5_apart_4 : decode cX5_apart 4 = .ok (.iload_n 1, 1) := by decide +kernel
theorem dX5_apart_5 : decode cX5_apart 5 = .ok (.iaload, 1) := by decide +kernel
theorem dX5_apart_6 : decode cX5_apart 6 = .ok (.iload_n 2, 1) := by decide +kernel
theorem dX5_apart_7 : decode cX5_apart 7 = .ok (.isub, 1) := by decide +kernel
theorem dX5_apart_8 : decode cX5_apart 8 = .ok (.istore_n 3, 1) := by decide +kernel
theorem dX5_apart_9 : decode cX5_apart 9 = .ok (.iload_n 3, 1) := by decide +kernel
theorem dX5_apart_10 : decode cX5_apart 10 = .ok (.ifCond .ge 8, 3) := by decide +kernel
theorem dX5_apart_13 : decode cX5_apart 13 = .ok (.iload_n 3, 1) := by decide +kernel
theorem dX5_apart_14 : decode cX5_apart 14 = .ok (.ineg, 1) := by decide +kernel
theorem dX5_apart_15 : decode cX5_apart 15 = .ok (.goto 4, 3) := by decide +kernel
theorem dX5_apart_18 : decode cX5_apart 18 = .ok (.iload_n 3, 1) := by decide +kernel
theorem dX5_apart_19 : decode cX5_apart 19 = .ok (.ireturn, 1) := by decide +kernel
theorem dX5_covers_0 : decode cX5_covers 0 = .ok (.aload_n 0, 1) := by decide +kernel
theorem dX5_covers_1 : decode cX5_covers 1 = .ok (.iload_n 1, 1) := by decide +kernel
theorem dX5_covers_2 : decode cX5_covers 2 = .ok (.iload_n 2, 1) := by decide +kernel
theorem dX5_covers_3 : decode cX5_covers 3 = .ok (.invokevirtual 95, 3) := by decide +kernel
theorem dX5_covers_6 : decode cX5_covers 6 = .ok (.aload_n 0, 1) := by decide +kernel
theorem dX5_covers_7 : decode cX5_covers 7 = .ok (.getfield 13, 3) := by decide +kernel
theorem dX5_covers_10 : decode cX5_covers 10 = .ok (.iload_n 1, 1) := by decide +kernel
theorem dX5_covers_11 : decode cX5_covers 11 = .ok (.iaload, 1) := by decide +kernel
theorem dX5_covers_12 : decode cX5_covers 12 = .ok (.if_icmp .gt 7, 3) := by decide +kernel
theorem dX5_covers_15 : decode cX5_covers 15 = .ok (.iconst 1, 1) := by decide +kernel
theorem dX5_covers_16 : decode cX5_covers 16 = .ok (.goto 4, 3) := by decide +kernel
theorem dX5_covers_19 : decode cX5_covers 19 = .ok (.iconst 0, 1) := by decide +kernel
theorem dX5_covers_20 : decode cX5_covers 20 = .ok (.ireturn, 1) := by decide +kernel
theorem dX5_mast_0 : decode cX5_mast 0 = .ok (.iload_n 1, 1) := by decide +kernel
theorem dX5_mast_1 : decode cX5_mast 1 = .ok (.iconst 0, 1) := by decide +kernel
theorem dX5_mast_2 : decode cX5_mast 2 = .ok (.bipush 99, 2) := by decide +kernel
theorem dX5_mast_4 : decode cX5_mast 4 = .ok (.invokestatic 84, 3) := by decide +kernel
theorem dX5_mast_7 : decode cX5_mast 7 = .ok (.ifCond .eq 49, 3) := by decide +kernel
theorem dX5_mast_10 : decode cX5_mast 10 = .ok (.iload_n 2, 1) := by decide +kernel
theorem dX5_mast_11 : decode cX5_mast 11 = .ok (.iconst 1, 1) := by decide +kernel
theorem dX5_mast_12 : decode cX5_mast 12 = .ok (.bipush 40, 2) := by decide +kernel
theorem dX5_mast_14 : decode cX5_mast 14 = .ok (.invokestatic 84, 3) := by decide +kernel
theorem dX5_mast_17 : decode cX5_mast 17 = .ok (.ifCond .eq 39, 3) := by decide +kernel
theorem dX5_mast_20 : decode cX5_mast 20 = .ok (.iload_n 3, 1) := by decide +kernel
theorem dX5_mast_21 : decode cX5_mast 21 = .ok (.iconst 1, 1) := by decide +kernel
theorem dX5_mast_22 : decode cX5_mast 22 = .ok (.bipush 10, 2) := by decide +kernel
theorem dX5_mast_24 : decode cX5_mast 24 = .ok (.invokestatic 84, 3) := by decide +kernel
theorem dX5_mast_27 : decode cX5_mast 27 = .ok (.ifCond .eq 29, 3) := by decide +kernel
theorem dX5_mast_30 : decode cX5_mast 30 = .ok (.iload 4, 2) := by decide +kernel
theorem dX5_mast_32 : decode cX5_mast 32 = .ok (.iconst 0, 1) := by decide +kernel
theorem dX5_mast_33 : decode cX5_mast 33 = .ok (.bipush 10, 2) := by decide +kernel
theorem dX5_mast_35 : decode cX5_mast 35 = .ok (.invokestatic 84, 3) := by decide +kernel
theorem dX5_mast_38 : decode cX5_mast 38 = .ok (.ifCond .eq 18, 3) := by decide +kernel
theorem dX5_mast_41 : decode cX5_mast 41 = .ok (.iload 5, 2) := by decide +kernel
theorem dX5_mast_43 : decode cX5_mast 43 = .ok (.iconst 0, 1) := by decide +kernel
theorem dX5_mast_44 : decode cX5_mast 44 = .ok (.bipush 100, 2) := by decide +kernel
theorem dX5_mast_46 : decode cX5_mast 46 = .ok (.invokestatic 84, 3) := by decide +kernel
theorem dX5_mast_49 : decode cX5_mast 49 = .ok (.ifCond .eq 7, 3) := by decide +kernel
theorem dX5_mast_52 : decode cX5_mast 52 = .ok (.iconst 1, 1) := by decide +kernel
theorem dX5_mast_53 : decode cX5_mast 53 = .ok (.goto 4, 3) := by decide +kernel
theorem dX5_mast_56 : decode cX5_mast 56 = .ok (.iconst 0, 1) := by decide +kernel
theorem dX5_mast_57 : decode cX5_mast 57 = .ok (.istore 7, 2) := by decide +kernel
theorem dX5_mast_59 : decode cX5_mast 59 = .ok (.aload_n 0, 1) := by decide +kernel
theorem dX5_mast_60 : decode cX5_mast 60 = .ok (.iload 7, 2) := by decide +kernel
theorem dX5_mast_62 : decode cX5_mast 62 = .ok (.ifCond .ne 7, 3) := by decide +kernel
theorem dX5_mast_65 : decode cX5_mast 65 = .ok (.iconst 1, 1) := by decide +kernel
theorem dX5_mast_66 : decode cX5_mast 66 = .ok (.goto 17, 3) := by decide +kernel
theorem dX5_mast_69 : decode cX5_mast 69 = .ok (.aload_n 0, 1) := by decide +kernel
theorem dX5_mast_70 : decode cX5_mast 70 = .ok (.getfield 81, 3) := by decide +kernel
theorem dX5_mast_73 : decode cX5_mast 73 = .ok (.bipush 8, 2) := by decide +kernel
theorem dX5_mast_75 : decode cX5_mast 75 = .ok (.if_icmp .ne 7, 3) := by decide +kernel
theorem dX5_mast_78 : decode cX5_mast 78 = .ok (.iconst 2, 1) := by decide +kernel
theorem dX5_mast_79 : decode cX5_mast 79 = .ok (.goto 4, 3) := by decide +kernel
theorem dX5_mast_82 : decode cX5_mast 82 = .ok (.iconst 0, 1) := by decide +kernel
theorem dX5_mast_83 : decode cX5_mast 83 = .ok (.putfield 77, 3) := by decide +kernel
theorem dX5_mast_86 : decode cX5_mast 86 = .ok (.aload_n 0, 1) := by decide +kernel
theorem dX5_mast_87 : decode cX5_mast 87 = .ok (.getfield 77, 3) := by decide +kernel
theorem dX5_mast_90 : decode cX5_mast 90 = .ok (.ifCond .le 5, 3) := by decide +kernel
theorem dX5_mast_93 : decode cX5_mast 93 = .ok (.iconst 0, 1) := by decide +kernel
theorem dX5_mast_94 : decode cX5_mast 94 = .ok (.ireturn, 1) := by decide +kernel
theorem dX5_mast_95 : decode cX5_mast 95 = .ok (.aload_n 0, 1) := by decide +kernel
theorem dX5_mast_96 : decode cX5_mast 96 = .ok (.getfield 81, 3) := by decide +kernel
theorem dX5_mast_99 : decode cX5_mast 99 = .ok (.istore 8, 2) := by decide +kernel
theorem dX5_mast_101 : decode cX5_mast 101 = .ok (.aload_n 0, 1) := by decide +kernel
theorem dX5_mast_102 : decode cX5_mast 102 = .ok (.getfield 7, 3) := by decide +kernel
theorem dX5_mast_105 : decode cX5_mast 105 = .ok (.iload 8, 2) := by decide +kernel
theorem dX5_mast_107 : decode cX5_mast 107 = .ok (.iload_n 1, 1) := by decide +kernel
theorem dX5_mast_108 : decode cX5_mast 108 = .ok (.iastore, 1) := by decide +kernel
theorem dX5_mast_109 : decode cX5_mast 109 = .ok (.aload_n 0, 1) := by decide +kernel
theorem dX5_mast_110 : decode cX5_mast 110 = .ok (.getfield 13, 3) := by decide +kernel
theorem dX5_mast_113 : decode cX5_mast 113 = .ok (.iload 8, 2) := by decide +kernel
theorem dX5_mast_115 : decode cX5_mast 115 = .ok (.iload_n 2, 1) := by decide +kernel
theorem dX5_mast_116 : decode cX5_mast 116 = .ok (.iastore, 1) := by decide +kernel
theorem dX5_mast_117 : decode cX5_mast 117 = .ok (.aload_n 0, 1) := by decide +kernel
theorem dX5_mast_118 : decode cX5_mast 118 = .ok (.getfield 16, 3) := by decide +kernel
theorem dX5_mast_121 : decode cX5_mast 121 = .ok (.iload 8, 2) := by decide +kernel
theorem dX5_mast_123 : decode cX5_mast 123 = .ok (.iload_n 3, 1) := by decide +kernel
theorem dX5_mast_124 : decode cX5_mast 124 = .ok (.iastore, 1) := by decide +kernel
theorem dX5_mast_125 : decode cX5_mast 125 = .ok (.aload_n 0, 1) := by decide +kernel
theorem dX5_mast_126 : decode cX5_mast 126 = .ok (.getfield 19, 3) := by decide +kernel
theorem dX5_mast_129 : decode cX5_mast 129 = .ok (.iload 8, 2) := by decide +kernel
theorem dX5_mast_131 : decode cX5_mast 131 = .ok (.iload 4, 2) := by decide +kernel
theorem dX5_mast_133 : decode cX5_mast 133 = .ok (.iastore, 1) := by decide +kernel
theorem dX5_mast_134 : decode cX5_mast 134 = .ok (.aload_n 0, 1) := by decide +kernel
theorem dX5_mast_135 : decode cX5_mast 135 = .ok (.getfield 22, 3) := by decide +kernel
theorem dX5_mast_138 : decode cX5_mast 138 = .ok (.iload 8, 2) := by decide +kernel
theorem dX5_mast_140 : decode cX5_mast 140 = .ok (.iload 5, 2) := by decide +kernel
theorem dX5_mast_142 : decode cX5_mast 142 = .ok (.iastore, 1) := by decide +kernel
theorem dX5_mast_143 : decode cX5_mast 143 = .ok (.aload_n 0, 1) := by decide +kernel
theorem dX5_mast_144 : decode cX5_mast 144 = .ok (.getfield 25, 3) := by decide +kernel
theorem dX5_mast_147 : decode cX5_mast 147 = .ok (.iload 8, 2) := by decide +kernel
theorem dX5_mast_149 : decode cX5_mast 149 = .ok (.iload 6, 2) := by decide +kernel
theorem dX5_mast_151 : decode cX5_mast 151 = .ok (.bastore, 1) := by decide +kernel
theorem dX5_mast_152 : decode cX5_mast 152 = .ok (.aload_n 0, 1) := by decide +kernel
theorem dX5_mast_153 : decode cX5_mast 153 = .ok (.getfield 35, 3) := by decide +kernel
theorem dX5_mast_156 : decode cX5_mast 156 = .ok (.iload 8, 2) := by decide +kernel
theorem dX5_mast_158 : decode cX5_mast 158 = .ok (.iconst (-1), 1) := by decide +kernel
theorem dX5_mast_159 : decode cX5_mast 159 = .ok (.iastore, 1) := by decide +kernel
theorem dX5_mast_160 : decode cX5_mast 160 = .ok (.aload_n 0, 1) := by decide +kernel
theorem dX5_mast_161 : decode cX5_mast 161 = .ok (.dup, 1) := by decide +kernel
theorem dX5_mast_162 : decode cX5_mast 162 = .ok (.getfield 81, 3) := by decide +kernel
theorem dX5_mast_165 : decode cX5_mast 165 = .ok (.iconst 1, 1) := by decide +kernel
theorem dX5_mast_166 : decode cX5_mast 166 = .ok (.iadd, 1) := by decide +kernel
theorem dX5_mast_167 : decode cX5_mast 167 = .ok (.putfield 81, 3) := by decide +kernel
theorem dX5_mast_170 : decode cX5_mast 170 = .ok (.iload 8, 2) := by decide +kernel
theorem dX5_mast_172 : decode cX5_mast 172 = .ok (.ireturn, 1) := by decide +kernel
theorem dX5_lease_0 : decode cX5_lease 0 = .ok (.aload_n 0, 1) := by decide +kernel
theorem dX5_lease_1 : decode cX5_lease 1 = .ok (.iload_n 1, 1) := by decide +kernel
theorem dX5_lease_2 : decode cX5_lease 2 = .ok (.invokevirtual 99, 3) := by decide +kernel
theorem dX5_lease_5 : decode cX5_lease 5 = .ok (.ifCond .eq 26, 3) := by decide +kernel
theorem dX5_lease_8 : decode cX5_lease 8 = .ok (.iload_n 2, 1) := by decide +kernel
theorem dX5_lease_9 : decode cX5_lease 9 = .ok (.invokestatic 102, 3) := by decide +kernel
theorem dX5_lease_12 : decode cX5_lease 12 = .ok (.ifCond .eq 19, 3) := by decide +kernel
theorem dX5_lease_15 : decode cX5_lease 15 = .ok (.iload_n 3, 1) := by decide +kernel
theorem dX5_lease_16 : decode cX5_lease 16 = .ok (.iconst (-1), 1) := by decide +kernel
theorem dX5_lease_17 : decode cX5_lease 17 = .ok (.if_icmp .eq 10, 3) := by decide +kernel
theorem dX5_lease_20 : decode cX5_lease 20 = .ok (.iload_n 3, 1) := by decide +kernel
theorem dX5_lease_21 : decode cX5_lease 21 = .ok (.invokestatic 102, 3) := by decide +kernel
theorem dX5_lease_24 : decode cX5_lease 24 = .ok (.ifCond .eq 7, 3) := by decide +kernel
theorem dX5_lease_27 : decode cX5_lease 27 = .ok (.iconst 1, 1) := by decide +kernel
theorem dX5_lease_28 : decode cX5_lease 28 = .ok (.goto 4, 3) := by decide +kernel
theorem dX5_lease_31 : decode cX5_lease 31 = .ok (.iconst 0, 1) := by decide +kernel
theorem dX5_lease_32 : decode cX5_lease 32 = .ok (.istore 8, 2) := by decide +kernel
theorem dX5_lease_34 : decode cX5_lease 34 = .ok (.iload_n 2, 1) := by decide +kernel
theorem dX5_lease_35 : decode cX5_lease 35 = .ok (.iload_n 3, 1) := by decide +kernel
theorem dX5_lease_36 : decode cX5_lease 36 = .ok (.if_icmp .eq 68, 3) := by decide +kernel
theorem dX5_lease_39 : decode cX5_lease 39 = .ok (.iload 4, 2) := by decide +kernel
theorem dX5_lease_41 : decode cX5_lease 41 = .ok (.iload_n 3, 1) := by decide +kernel
theorem dX5_lease_42 : decode cX5_lease 42 = .ok (.iconst (-1), 1) := by decide +kernel
theorem dX5_lease_43 : decode cX5_lease 43 = .ok (.if_icmp .ne 8, 3) := by decide +kernel
theorem dX5_lease_46 : decode cX5_lease 46 = .ok (.bipush 10, 2) := by decide +kernel
theorem dX5_lease_48 : decode cX5_lease 48 = .ok (.goto 4, 3) := by decide +kernel
theorem dX5_lease_51 : decode cX5_lease 51 = .ok (.iconst 0, 1) := by decide +kernel
theorem dX5_lease_52 : decode cX5_lease 52 = .ok (.bipush 10, 2) := by decide +kernel
theorem dX5_lease_54 : decode cX5_lease 54 = .ok (.invokestatic 84, 3) := by decide +kernel
theorem dX5_lease_57 : decode cX5_lease 57 = .ok (.ifCond .eq 47, 3) := by decide +kernel
theorem dX5_lease_60 : decode cX5_lease 60 = .ok (.iload 5, 2) := by decide +kernel
theorem dX5_lease_62 : decode cX5_lease 62 = .ok (.aload_n 0, 1) := by decide +kernel
theorem dX5_lease_63 : decode cX5_lease 63 = .ok (.getfield 105, 3) := by decide +kernel
theorem dX5_lease_66 : decode cX5_lease 66 = .ok (.iconst 1, 1) := by decide +kernel
theorem dX5_lease_67 : decode cX5_lease 67 = .ok (.iadd, 1) := by decide +kernel
theorem dX5_lease_68 : decode cX5_lease 68 = .ok (.sipush 10000, 3) := by decide +kernel
theorem dX5_lease_71 : decode cX5_lease 71 = .ok (.invokestatic 84, 3) := by decide +kernel
theorem dX5_lease_74 : decode cX5_lease 74 = .ok (.ifCond .eq 30, 3) := by decide +kernel
theorem dX5_lease_77 : decode cX5_lease 77 = .ok (.iload 6, 2) := by decide +kernel
theorem dX5_lease_79 : decode cX5_lease 79 = .ok (.iconst 0, 1) := by decide +kernel
theorem dX5_lease_80 : decode cX5_lease 80 = .ok (.sipush 1000, 3) := by decide +kernel
theorem dX5_lease_83 : decode cX5_lease 83 = .ok (.invokestatic 84, 3) := by decide +kernel
theorem dX5_lease_86 : decode cX5_lease 86 = .ok (.ifCond .eq 18, 3) := by decide +kernel
theorem dX5_lease_89 : decode cX5_lease 89 = .ok (.iload 7, 2) := by decide +kernel
theorem dX5_lease_91 : decode cX5_lease 91 = .ok (.iconst 0, 1) := by decide +kernel
theorem dX5_lease_92 : decode cX5_lease 92 = .ok (.bipush 100, 2) := by decide +kernel
theorem dX5_lease_94 : decode cX5_lease 94 = .ok (.invokestatic 84, 3) := by decide +kernel
theorem dX5_lease_97 : decode cX5_lease 97 = .ok (.ifCond .eq 7, 3) := by decide +kernel
theorem dX5_lease_100 : decode cX5_lease 100 = .ok (.iconst 1, 1) := by decide +kernel
theorem dX5_lease_101 : decode cX5_lease 101 = .ok (.goto 4, 3) := by decide +kernel
theorem dX5_lease_104 : decode cX5_lease 104 = .ok (.iconst 0, 1) := by decide +kernel
theorem dX5_lease_105 : decode cX5_lease 105 = .ok (.istore 9, 2) := by decide +kernel
theorem dX5_lease_107 : decode cX5_lease 107 = .ok (.aload_n 0, 1) := by decide +kernel
theorem dX5_lease_108 : decode cX5_lease 108 = .ok (.iload 8, 2) := by decide +kernel
theorem dX5_lease_110 : decode cX5_lease 110 = .ok (.ifCond .ne 7, 3) := by decide +kernel
theorem dX5_lease_113 : decode cX5_lease 113 = .ok (.iconst 1, 1) := by decide +kernel
theorem dX5_lease_114 : decode cX5_lease 114 = .ok (.goto 25, 3) := by decide +kernel
theorem dX5_lease_117 : decode cX5_lease 117 = .ok (.iload 9, 2) := by decide +kernel
theorem dX5_lease_119 : decode cX5_lease 119 = .ok (.ifCond .ne 7, 3) := by decide +kernel
theorem dX5_lease_122 : decode cX5_lease 122 = .ok (.iconst 2, 1) := by decide +kernel
theorem dX5_lease_123 : decode cX5_lease 123 = .ok (.goto 16, 3) := by decide +kernel
theorem dX5_lease_126 : decode cX5_lease 126 = .ok (.aload_n 0, 1) := by decide +kernel
theorem dX5_lease_127 : decode cX5_lease 127 = .ok (.iload_n 1, 1) := by decide +kernel
theorem dX5_lease_128 : decode cX5_lease 128 = .ok (.invokevirtual 91, 3) := by decide +kernel
theorem dX5_lease_131 : decode cX5_lease 131 = .ok (.ifCond .eq 7, 3) := by decide +kernel
theorem dX5_lease_134 : decode cX5_lease 134 = .ok (.iconst 3, 1) := by decide +kernel
theorem dX5_lease_135 : decode cX5_lease 135 = .ok (.goto 4, 3) := by decide +kernel
theorem dX5_lease_138 : decode cX5_lease 138 = .ok (.iconst 0, 1) := by decide +kernel
theorem dX5_lease_139 : decode cX5_lease 139 = .ok (.putfield 77, 3) := by decide +kernel
theorem dX5_lease_142 : decode cX5_lease 142 = .ok (.aload_n 0, 1) := by decide +kernel
theorem dX5_lease_143 : decode cX5_lease 143 = .ok (.getfield 77, 3) := by decide +kernel
theorem dX5_lease_146 : decode cX5_lease 146 = .ok (.ifCond .ne 49, 3) := by decide +kernel
theorem dX5_lease_149 : decode cX5_lease 149 = .ok (.aload_n 0, 1) := by decide +kernel
theorem dX5_lease_150 : decode cX5_lease 150 = .ok (.getfield 35, 3) := by decide +kernel
theorem dX5_lease_153 : decode cX5_lease 153 = .ok (.iload_n 1, 1) := by decide +kernel
theorem dX5_lease_154 : decode cX5_lease 154 = .ok (.iload 5, 2) := by decide +kernel
theorem dX5_lease_156 : decode cX5_lease 156 = .ok (.iastore, 1) := by decide +kernel
theorem dX5_lease_157 : decode cX5_lease 157 = .ok (.aload_n 0, 1) := by decide +kernel
theorem dX5_lease_158 : decode cX5_lease 158 = .ok (.getfield 38, 3) := by decide +kernel
theorem dX5_lease_161 : decode cX5_lease 161 = .ok (.iload_n 1, 1) := by decide +kernel
theorem dX5_lease_162 : decode cX5_lease 162 = .ok (.iload_n 2, 1) := by decide +kernel
theorem dX5_lease_163 : decode cX5_lease 163 = .ok (.iastore, 1) := by decide +kernel
theorem dX5_lease_164 : decode cX5_lease 164 = .ok (.aload_n 0, 1) := by decide +kernel
theorem dX5_lease_165 : decode cX5_lease 165 = .ok (.getfield 41, 3) := by decide +kernel
theorem dX5_lease_168 : decode cX5_lease 168 = .ok (.iload_n 1, 1) := by decide +kernel
theorem dX5_lease_169 : decode cX5_lease 169 = .ok (.iload_n 3, 1) := by decide +kernel
theorem dX5_lease_170 : decode cX5_lease 170 = .ok (.iastore, 1) := by decide +kernel
theorem dX5_lease_171 : decode cX5_lease 171 = .ok (.aload_n 0, 1) := by decide +kernel
theorem dX5_lease_172 : decode cX5_lease 172 = .ok (.getfield 44, 3) := by decide +kernel
theorem dX5_lease_175 : decode cX5_lease 175 = .ok (.iload_n 1, 1) := by decide +kernel
theorem dX5_lease_176 : decode cX5_lease 176 = .ok (.iload 4, 2) := by decide +kernel
theorem dX5_lease_178 : decode cX5_lease 178 = .ok (.iastore, 1) := by decide +kernel
theorem dX5_lease_179 : decode cX5_lease 179 = .ok (.aload_n 0, 1) := by decide +kernel
theorem dX5_lease_180 : decode cX5_lease 180 = .ok (.getfield 47, 3) := by decide +kernel
theorem dX5_lease_183 : decode cX5_lease 183 = .ok (.iload_n 1, 1) := by decide +kernel
theorem dX5_lease_184 : decode cX5_lease 184 = .ok (.iload 6, 2) := by decide +kernel
theorem dX5_lease_186 : decode cX5_lease 186 = .ok (.iastore, 1) := by decide +kernel
theorem dX5_lease_187 : decode cX5_lease 187 = .ok (.aload_n 0, 1) := by decide +kernel
theorem dX5_lease_188 : decode cX5_lease 188 = .ok (.getfield 50, 3) := by decide +kernel
theorem dX5_lease_191 : decode cX5_lease 191 = .ok (.iload_n 1, 1) := by decide +kernel
theorem dX5_lease_192 : decode cX5_lease 192 = .ok (.iload 7, 2) := by decide +kernel
theorem dX5_lease_194 : decode cX5_lease 194 = .ok (.iastore, 1) := by decide +kernel
theorem dX5_lease_195 : decode cX5_lease 195 = .ok (.return_, 1) := by decide +kernel
theorem dX5_sun_0 : decode cX5_sun 0 = .ok (.aload_n 0, 1) := by decide +kernel
theorem dX5_sun_1 : decode cX5_sun 1 = .ok (.iload_n 1, 1) := by decide +kernel
theorem dX5_sun_2 : decode cX5_sun 2 = .ok (.iconst 0, 1) := by decide +kernel
theorem dX5_sun_3 : decode cX5_sun 3 = .ok (.bipush 10, 2) := by decide +kernel
theorem dX5_sun_5 : decode cX5_sun 5 = .ok (.invokestatic 84, 3) := by decide +kernel
theorem dX5_sun_8 : decode cX5_sun 8 = .ok (.ifCond .eq 7, 3) := by decide +kernel
theorem dX5_sun_11 : decode cX5_sun 11 = .ok (.iconst 0, 1) := by decide +kernel
theorem dX5_sun_12 : decode cX5_sun 12 = .ok (.goto 4, 3) := by decide +kernel
theorem dX5_sun_15 : decode cX5_sun 15 = .ok (.iconst 1, 1) := by decide +kernel
theorem dX5_sun_16 : decode cX5_sun 16 = .ok (.putfield 77, 3) := by decide +kernel
theorem dX5_sun_19 : decode cX5_sun 19 = .ok (.aload_n 0, 1) := by decide +kernel
theorem dX5_sun_20 : decode cX5_sun 20 = .ok (.getfield 77, 3) := by decide +kernel
theorem dX5_sun_23 : decode cX5_sun 23 = .ok (.ifCond .le 5, 3) := by decide +kernel
theorem dX5_sun_26 : decode cX5_sun 26 = .ok (.iconst 0, 1) := by decide +kernel
theorem dX5_sun_27 : decode cX5_sun 27 = .ok (.ireturn, 1) := by decide +kernel
theorem dX5_sun_28 : decode cX5_sun 28 = .ok (.aload_n 0, 1) := by decide +kernel
theorem dX5_sun_29 : decode cX5_sun 29 = .ok (.getfield 108, 3) := by decide +kernel
theorem dX5_sun_32 : decode cX5_sun 32 = .ok (.istore_n 2, 1) := by decide +kernel
theorem dX5_sun_33 : decode cX5_sun 33 = .ok (.aload_n 0, 1) := by decide +kernel
theorem dX5_sun_34 : decode cX5_sun 34 = .ok (.iload_n 1, 1) := by decide +kernel
theorem dX5_sun_35 : decode cX5_sun 35 = .ok (.putfield 108, 3) := by decide +kernel
theorem dX5_sun_38 : decode cX5_sun 38 = .ok (.iload_n 2, 1) := by decide +kernel
theorem dX5_sun_39 : decode cX5_sun 39 = .ok (.ireturn, 1) := by decide +kernel
theorem dX5_phone_0 : decode cX5_phone 0 = .ok (.aload_n 0, 1) := by decide +kernel
theorem dX5_phone_1 : decode cX5_phone 1 = .ok (.iload_n 1, 1) := by decide +kernel
theorem dX5_phone_2 : decode cX5_phone 2 = .ok (.iconst 0, 1) := by decide +kernel
theorem dX5_phone_3 : decode cX5_phone 3 = .ok (.bipush 99, 2) := by decide +kernel
theorem dX5_phone_5 : decode cX5_phone 5 = .ok (.invokestatic 84, 3) := by decide +kernel
theorem dX5_phone_8 : decode cX5_phone 8 = .ok (.ifCond .ne 7, 3) := by decide +kernel
theorem dX5_phone_11 : decode cX5_phone 11 = .ok (.iconst 1, 1) := by decide +kernel
theorem dX5_phone_12 : decode cX5_phone 12 = .ok (.goto 17, 3) := by decide +kernel
theorem dX5_phone_15 : decode cX5_phone 15 = .ok (.aload_n 0, 1) := by decide +kernel
theorem dX5_phone_16 : decode cX5_phone 16 = .ok (.getfield 88, 3) := by decide +kernel
theorem dX5_phone_19 : decode cX5_phone 19 = .ok (.bipush 12, 2) := by decide +kernel
theorem dX5_phone_21 : decode cX5_phone 21 = .ok (.if_icmp .ne 7, 3) := by decide +kernel
theorem dX5_phone_24 : decode cX5_phone 24 = .ok (.iconst 2, 1) := by decide +kernel
theorem dX5_phone_25 : decode cX5_phone 25 = .ok (.goto 4, 3) := by decide +kernel
theorem dX5_phone_28 : decode cX5_phone 28 = .ok (.iconst 0, 1) := by decide +kernel
theorem dX5_phone_29 : decode cX5_phone 29 = .ok (.putfield 77, 3) := by decide +kernel
theorem dX5_phone_32 : decode cX5_phone 32 = .ok (.aload_n 0, 1) := by decide +kernel
theorem dX5_phone_33 : decode cX5_phone 33 = .ok (.getfield 77, 3) := by decide +kernel
theorem dX5_phone_36 : decode cX5_phone 36 = .ok (.ifCond .le 5, 3) := by decide +kernel
theorem dX5_phone_39 : decode cX5_phone 39 = .ok (.iconst 0, 1) := by decide +kernel
theorem dX5_phone_40 : decode cX5_phone 40 = .ok (.ireturn, 1) := by decide +kernel
theorem dX5_phone_41 : decode cX5_phone 41 = .ok (.aload_n 0, 1) := by decide +kernel
theorem dX5_phone_42 : decode cX5_phone 42 = .ok (.getfield 59, 3) := by decide +kernel
theorem dX5_phone_45 : decode cX5_phone 45 = .ok (.aload_n 0, 1) := by decide +kernel
theorem dX5_phone_46 : decode cX5_phone 46 = .ok (.getfield 88, 3) := by decide +kernel
theorem dX5_phone_49 : decode cX5_phone 49 = .ok (.iload_n 1, 1) := by decide +kernel
theorem dX5_phone_50 : decode cX5_phone 50 = .ok (.iastore, 1) := by decide +kernel
theorem dX5_phone_51 : decode cX5_phone 51 = .ok (.aload_n 0, 1) := by decide +kernel
theorem dX5_phone_52 : decode cX5_phone 52 = .ok (.getfield 62, 3) := by decide +kernel
theorem dX5_phone_55 : decode cX5_phone 55 = .ok (.aload_n 0, 1) := by decide +kernel
theorem dX5_phone_56 : decode cX5_phone 56 = .ok (.getfield 88, 3) := by decide +kernel
theorem dX5_phone_59 : decode cX5_phone 59 = .ok (.iconst (-1), 1) := by decide +kernel
theorem dX5_phone_60 : decode cX5_phone 60 = .ok (.iastore, 1) := by decide +kernel
theorem dX5_phone_61 : decode cX5_phone 61 = .ok (.aload_n 0, 1) := by decide +kernel
theorem dX5_phone_62 : decode cX5_phone 62 = .ok (.dup, 1) := by decide +kernel
theorem dX5_phone_63 : decode cX5_phone 63 = .ok (.getfield 88, 3) := by decide +kernel
theorem dX5_phone_66 : decode cX5_phone 66 = .ok (.iconst 1, 1) := by decide +kernel
theorem dX5_phone_67 : decode cX5_phone 67 = .ok (.iadd, 1) := by decide +kernel
theorem dX5_phone_68 : decode cX5_phone 68 = .ok (.putfield 88, 3) := by decide +kernel
theorem dX5_phone_71 : decode cX5_phone 71 = .ok (.aload_n 0, 1) := by decide +kernel
theorem dX5_phone_72 : decode cX5_phone 72 = .ok (.getfield 88, 3) := by decide +kernel
theorem dX5_phone_75 : decode cX5_phone 75 = .ok (.iconst 1, 1) := by decide +kernel
theorem dX5_phone_76 : decode cX5_phone 76 = .ok (.isub, 1) := by decide +kernel
theorem dX5_phone_77 : decode cX5_phone 77 = .ok (.ireturn, 1) := by decide +kernel
theorem dX5_mastFor_0 : decode cX5_mastFor 0 = .ok (.iconst (-1), 1) := by decide +kernel
theorem dX5_mastFor_1 : decode cX5_mastFor 1 = .ok (.istore_n 2, 1) := by decide +kernel
theorem dX5_mastFor_2 : decode cX5_mastFor 2 = .ok (.iconst 0, 1) := by decide +kernel
theorem dX5_mastFor_3 : decode cX5_mastFor 3 = .ok (.istore_n 3, 1) := by decide +kernel
theorem dX5_mastFor_4 : decode cX5_mastFor 4 = .ok (.iload_n 3, 1) := by decide +kernel
theorem dX5_mastFor_5 : decode cX5_mastFor 5 = .ok (.aload_n 0, 1) := by decide +kernel
theorem dX5_mastFor_6 : decode cX5_mastFor 6 = .ok (.getfield 81, 3) := by decide +kernel
theorem dX5_mastFor_9 : decode cX5_mastFor 9 = .ok (.if_icmp .ge 78, 3) := by decide +kernel
theorem dX5_mastFor_12 : decode cX5_mastFor 12 = .ok (.aload_n 0, 1) := by decide +kernel
theorem dX5_mastFor_13 : decode cX5_mastFor 13 = .ok (.iload_n 3, 1) := by decide +kernel
theorem dX5_mastFor_14 : decode cX5_mastFor 14 = .ok (.invokevirtual 111, 3) := by decide +kernel
theorem dX5_mastFor_17 : decode cX5_mastFor 17 = .ok (.ifCond .eq 30, 3) := by decide +kernel
theorem dX5_mastFor_20 : decode cX5_mastFor 20 = .ok (.aload_n 0, 1) := by decide +kernel
theorem dX5_mastFor_21 : decode cX5_mastFor 21 = .ok (.iload_n 3, 1) := by decide +kernel
theorem dX5_mastFor_22 : decode cX5_mastFor 22 = .ok (.iload_n 1, 1) := by decide +kernel
theorem dX5_mastFor_23 : decode cX5_mastFor 23 = .ok (.invokevirtual 114, 3) := by decide +kernel
theorem dX5_mastFor_26 : decode cX5_mastFor 26 = .ok (.ifCond .eq 21, 3) := by decide +kernel
theorem dX5_mastFor_29 : decode cX5_mastFor 29 = .ok (.aload_n 0, 1) := by decide +kernel
theorem dX5_mastFor_30 : decode cX5_mastFor 30 = .ok (.iload_n 3, 1) := by decide +kernel
theorem dX5_mastFor_31 : decode cX5_mastFor 31 = .ok (.invokevirtual 118, 3) := by decide +kernel
theorem dX5_mastFor_34 : decode cX5_mastFor 34 = .ok (.aload_n 0, 1) := by decide +kernel
theorem dX5_mastFor_35 : decode cX5_mastFor 35 = .ok (.getfield 16, 3) := by decide +kernel
theorem dX5_mastFor_38 : decode cX5_mastFor 38 = .ok (.iload_n 3, 1) := by decide +kernel
theorem dX5_mastFor_39 : decode cX5_mastFor 39 = .ok (.iaload, 1) := by decide +kernel
theorem dX5_mastFor_40 : decode cX5_mastFor 40 = .ok (.if_icmp .ge 7, 3) := by decide +kernel
theorem dX5_mastFor_43 : decode cX5_mastFor 43 = .ok (.iconst 1, 1) := by decide +kernel
theorem dX5_mastFor_44 : decode cX5_mastFor 44 = .ok (.goto 4, 3) := by decide +kernel
theorem dX5_mastFor_47 : decode cX5_mastFor 47 = .ok (.iconst 0, 1) := by decide +kernel
theorem dX5_mastFor_48 : decode cX5_mastFor 48 = .ok (.istore 4, 2) := by decide +kernel
theorem dX5_mastFor_50 : decode cX5_mastFor 50 = .ok (.iload 4, 2) := by decide +kernel
theorem dX5_mastFor_52 : decode cX5_mastFor 52 = .ok (.ifCond .eq 27, 3) := by decide +kernel
theorem dX5_mastFor_55 : decode cX5_mastFor 55 = .ok (.iload_n 2, 1) := by decide +kernel
theorem dX5_mastFor_56 : decode cX5_mastFor 56 = .ok (.iconst (-1), 1) := by decide +kernel
theorem dX5_mastFor_57 : decode cX5_mastFor 57 = .ok (.if_icmp .eq 18, 3) := by decide +kernel
theorem dX5_mastFor_60 : decode cX5_mastFor 60 = .ok (.aload_n 0, 1) := by decide +kernel
theorem dX5_mastFor_61 : decode cX5_mastFor 61 = .ok (.iload_n 3, 1) := by decide +kernel
theorem dX5_mastFor_62 : decode cX5_mastFor 62 = .ok (.iload_n 1, 1) := by decide +kernel
theorem dX5_mastFor_63 : decode cX5_mastFor 63 = .ok (.invokevirtual 95, 3) := by decide +kernel
theorem dX5_mastFor_66 : decode cX5_mastFor 66 = .ok (.aload_n 0, 1) := by decide +kernel
theorem dX5_mastFor_67 : decode cX5_mastFor 67 = .ok (.iload_n 2, 1) := by decide +kernel
theorem dX5_mastFor_68 : decode cX5_mastFor 68 = .ok (.iload_n 1, 1) := by decide +kernel
theorem dX5_mastFor_69 : decode cX5_mastFor 69 = .ok (.invokevirtual 95, 3) := by decide +kernel
theorem dX5_mastFor_72 : decode cX5_mastFor 72 = .ok (.if_icmp .ge 7, 3) := by decide +kernel
theorem dX5_mastFor_75 : decode cX5_mastFor 75 = .ok (.iload_n 3, 1) := by decide +kernel
theorem dX5_mastFor_76 : decode cX5_mastFor 76 = .ok (.goto 4, 3) := by decide +kernel
theorem dX5_mastFor_79 : decode cX5_mastFor 79 = .ok (.iload_n 2, 1) := by decide +kernel
theorem dX5_mastFor_80 : decode cX5_mastFor 80 = .ok (.istore_n 2, 1) := by decide +kernel
theorem dX5_mastFor_81 : decode cX5_mastFor 81 = .ok (.iinc 3 1, 3) := by decide +kernel
theorem dX5_mastFor_84 : decode cX5_mastFor 84 = .ok (.goto (-80), 3) := by decide +kernel
theorem dX5_mastFor_87 : decode cX5_mastFor 87 = .ok (.iload_n 2, 1) := by decide +kernel
theorem dX5_mastFor_88 : decode cX5_mastFor 88 = .ok (.ireturn, 1) := by decide +kernel
theorem dX5_call_0 : decode cX5_call 0 = .ok (.aload_n 0, 1) := by decide +kernel
theorem dX5_call_1 : decode cX5_call 1 = .ok (.aload_n 0, 1) := by decide +kernel
theorem dX5_call_2 : decode cX5_call 2 = .ok (.iload_n 1, 1) := by decide +kernel
theorem dX5_call_3 : decode cX5_call 3 = .ok (.invokevirtual 122, 3) := by decide +kernel
theorem dX5_call_6 : decode cX5_call 6 = .ok (.ifCond .ne 7, 3) := by decide +kernel
theorem dX5_call_9 : decode cX5_call 9 = .ok (.iconst 1, 1) := by decide +kernel
theorem dX5_call_10 : decode cX5_call 10 = .ok (.goto 18, 3) := by decide +kernel
theorem dX5_call_13 : decode cX5_call 13 = .ok (.aload_n 0, 1) := by decide +kernel
theorem dX5_call_14 : decode cX5_call 14 = .ok (.getfield 62, 3) := by decide +kernel
theorem dX5_call_17 : decode cX5_call 17 = .ok (.iload_n 1, 1) := by decide +kernel
theorem dX5_call_18 : decode cX5_call 18 = .ok (.iaload, 1) := by decide +kernel
theorem dX5_call_19 : decode cX5_call 19 = .ok (.iconst (-1), 1) := by decide +kernel
theorem dX5_call_20 : decode cX5_call 20 = .ok (.if_icmp .eq 7, 3) := by decide +kernel
theorem dX5_call_23 : decode cX5_call 23 = .ok (.iconst 2, 1) := by decide +kernel
theorem dX5_call_24 : decode cX5_call 24 = .ok (.goto 4, 3) := by decide +kernel
theorem dX5_call_27 : decode cX5_call 27 = .ok (.iconst 0, 1) := by decide +kernel
theorem dX5_call_28 : decode cX5_call 28 = .ok (.putfield 77, 3) := by decide +kernel
theorem dX5_call_31 : decode cX5_call 31 = .ok (.aload_n 0, 1) := by decide +kernel
theorem dX5_call_32 : decode cX5_call 32 = .ok (.getfield 77, 3) := by decide +kernel
theorem dX5_call_35 : decode cX5_call 35 = .ok (.ifCond .le 5, 3) := by decide +kernel
theorem dX5_call_38 : decode cX5_call 38 = .ok (.iconst 0, 1) := by decide +kernel
theorem dX5_call_39 : decode cX5_call 39 = .ok (.ireturn, 1) := by decide +kernel
theorem dX5_call_40 : decode cX5_call 40 = .ok (.aload_n 0, 1) := by decide +kernel
theorem dX5_call_41 : decode cX5_call 41 = .ok (.getfield 62, 3) := by decide +kernel
theorem dX5_call_44 : decode cX5_call 44 = .ok (.iload_n 1, 1) := by decide +kernel
theorem dX5_call_45 : decode cX5_call 45 = .ok (.aload_n 0, 1) := by decide +kernel
theorem dX5_call_46 : decode cX5_call 46 = .ok (.aload_n 0, 1) := by decide +kernel
theorem dX5_call_47 : decode cX5_call 47 = .ok (.getfield 59, 3) := by decide +kernel
theorem dX5_call_50 : decode cX5_call 50 = .ok (.iload_n 1, 1) := by decide +kernel
theorem dX5_call_51 : decode cX5_call 51 = .ok (.iaload, 1) := by decide +kernel
theorem dX5_call_52 : decode cX5_call 52 = .ok (.invokevirtual 125, 3) := by decide +kernel
theorem dX5_call_55 : decode cX5_call 55 = .ok (.iastore, 1) := by decide +kernel
theorem dX5_call_56 : decode cX5_call 56 = .ok (.aload_n 0, 1) := by decide +kernel
theorem dX5_call_57 : decode cX5_call 57 = .ok (.getfield 65, 3) := by decide +kernel
theorem dX5_call_60 : decode cX5_call 60 = .ok (.iload_n 1, 1) := by decide +kernel
theorem dX5_call_61 : decode cX5_call 61 = .ok (.dup2, 1) := by decide +kernel
theorem dX5_call_62 : decode cX5_call 62 = .ok (.iaload, 1) := by decide +kernel
theorem dX5_call_63 : decode cX5_call 63 = .ok (.aload_n 0, 1) := by decide +kernel
theorem dX5_call_64 : decode cX5_call 64 = .ok (.getfield 62, 3) := by decide +kernel
theorem dX5_call_67 : decode cX5_call 67 = .ok (.iload_n 1, 1) := by decide +kernel
theorem dX5_call_68 : decode cX5_call 68 = .ok (.iaload, 1) := by decide +kernel
theorem dX5_call_69 : decode cX5_call 69 = .ok (.iconst (-1), 1) := by decide +kernel
theorem dX5_call_70 : decode cX5_call 70 = .ok (.if_icmp .ne 7, 3) := by decide +kernel
theorem dX5_call_73 : decode cX5_call 73 = .ok (.iconst 1, 1) := by decide +kernel
theorem dX5_call_74 : decode cX5_call 74 = .ok (.goto 4, 3) := by decide +kernel
theorem dX5_call_77 : decode cX5_call 77 = .ok (.iconst 0, 1) := by decide +kernel
theorem dX5_call_78 : decode cX5_call 78 = .ok (.iadd, 1) := by decide +kernel
theorem dX5_call_79 : decode cX5_call 79 = .ok (.iastore, 1) := by decide +kernel
theorem dX5_call_80 : decode cX5_call 80 = .ok (.aload_n 0, 1) := by decide +kernel
theorem dX5_call_81 : decode cX5_call 81 = .ok (.getfield 62, 3) := by decide +kernel
theorem dX5_call_84 : decode cX5_call 84 = .ok (.iload_n 1, 1) := by decide +kernel
theorem dX5_call_85 : decode cX5_call 85 = .ok (.iaload, 1) := by decide +kernel
theorem dX5_call_86 : decode cX5_call 86 = .ok (.ireturn, 1) := by decide +kernel
theorem dX5_end_0 : decode cX5_end 0 = .ok (.aload_n 0, 1) := by decide +kernel
theorem dX5_end_1 : decode cX5_end 1 = .ok (.aload_n 0, 1) := by decide +kernel
theorem dX5_end_2 : decode cX5_end 2 = .ok (.iload_n 1, 1) := by decide +kernel
theorem dX5_end_3 : decode cX5_end 3 = .ok (.invokevirtual 122, 3) := by decide +kernel
theorem dX5_end_6 : decode cX5_end 6 = .ok (.ifCond .ne 7, 3) := by decide +kernel
theorem dX5_end_9 : decode cX5_end 9 = .ok (.iconst 1, 1) := by decide +kernel
theorem dX5_end_10 : decode cX5_end 10 = .ok (.goto 18, 3) := by decide +kernel
theorem dX5_end_13 : decode cX5_end 13 = .ok (.aload_n 0, 1) := by decide +kernel
theorem dX5_end_14 : decode cX5_end 14 = .ok (.getfield 62, 3) := by decide +kernel
theorem dX5_end_17 : decode cX5_end 17 = .ok (.iload_n 1, 1) := by decide +kernel
theorem dX5_end_18 : decode cX5_end 18 = .ok (.iaload, 1) := by decide +kernel
theorem dX5_end_19 : decode cX5_end 19 = .ok (.iconst (-1), 1) := by decide +kernel
theorem dX5_end_20 : decode cX5_end 20 = .ok (.if_icmp .ne 7, 3) := by decide +kernel
theorem dX5_end_23 : decode cX5_end 23 = .ok (.iconst 2, 1) := by decide +kernel
theorem dX5_end_24 : decode cX5_end 24 = .ok (.goto 4, 3) := by decide +kernel
theorem dX5_end_27 : decode cX5_end 27 = .ok (.iconst 0, 1) := by decide +kernel
theorem dX5_end_28 : decode cX5_end 28 = .ok (.putfield 77, 3) := by decide +kernel
theorem dX5_end_31 : decode cX5_end 31 = .ok (.aload_n 0, 1) := by decide +kernel
theorem dX5_end_32 : decode cX5_end 32 = .ok (.getfield 77, 3) := by decide +kernel
theorem dX5_end_35 : decode cX5_end 35 = .ok (.ifCond .le 5, 3) := by decide +kernel
theorem dX5_end_38 : decode cX5_end 38 = .ok (.iconst 0, 1) := by decide +kernel
theorem dX5_end_39 : decode cX5_end 39 = .ok (.ireturn, 1) := by decide +kernel
theorem dX5_end_40 : decode cX5_end 40 = .ok (.aload_n 0, 1) := by decide +kernel
theorem dX5_end_41 : decode cX5_end 41 = .ok (.getfield 62, 3) := by decide +kernel
theorem dX5_end_44 : decode cX5_end 44 = .ok (.iload_n 1, 1) := by decide +kernel
theorem dX5_end_45 : decode cX5_end 45 = .ok (.iaload, 1) := by decide +kernel
theorem dX5_end_46 : decode cX5_end 46 = .ok (.istore_n 2, 1) := by decide +kernel
theorem dX5_end_47 : decode cX5_end 47 = .ok (.aload_n 0, 1) := by decide +kernel
theorem dX5_end_48 : decode cX5_end 48 = .ok (.getfield 62, 3) := by decide +kernel
theorem dX5_end_51 : decode cX5_end 51 = .ok (.iload_n 1, 1) := by decide +kernel
theorem dX5_end_52 : decode cX5_end 52 = .ok (.iconst (-1), 1) := by decide +kernel
theorem dX5_end_53 : decode cX5_end 53 = .ok (.iastore, 1) := by decide +kernel
theorem dX5_end_54 : decode cX5_end 54 = .ok (.iload_n 2, 1) := by decide +kernel
theorem dX5_end_55 : decode cX5_end 55 = .ok (.ireturn, 1) := by decide +kernel
theorem dX5_handOver_0 : decode cX5_handOver 0 = .ok (.aload_n 0, 1) := by decide +kernel
theorem dX5_handOver_1 : decode cX5_handOver 1 = .ok (.getfield 62, 3) := by decide +kernel
theorem dX5_handOver_4 : decode cX5_handOver 4 = .ok (.iload_n 1, 1) := by decide +kernel
theorem dX5_handOver_5 : decode cX5_handOver 5 = .ok (.iconst (-1), 1) := by decide +kernel
theorem dX5_handOver_6 : decode cX5_handOver 6 = .ok (.iastore, 1) := by decide +kernel
theorem dX5_handOver_7 : decode cX5_handOver 7 = .ok (.aload_n 0, 1) := by decide +kernel
theorem dX5_handOver_8 : decode cX5_handOver 8 = .ok (.getfield 62, 3) := by decide +kernel
theorem dX5_handOver_11 : decode cX5_handOver 11 = .ok (.iload_n 1, 1) := by decide +kernel
theorem dX5_handOver_12 : decode cX5_handOver 12 = .ok (.aload_n 0, 1) := by decide +kernel
theorem dX5_handOver_13 : decode cX5_handOver 13 = .ok (.aload_n 0, 1) := by decide +kernel
theorem dX5_handOver_14 : decode cX5_handOver 14 = .ok (.getfield 59, 3) := by decide +kernel
theorem dX5_handOver_17 : decode cX5_handOver 17 = .ok (.iload_n 1, 1) := by decide +kernel
theorem dX5_handOver_18 : decode cX5_handOver 18 = .ok (.iaload, 1) := by decide +kernel
theorem dX5_handOver_19 : decode cX5_handOver 19 = .ok (.invokevirtual 125, 3) := by decide +kernel
theorem dX5_handOver_22 : decode cX5_handOver 22 = .ok (.iastore, 1) := by decide +kernel
theorem dX5_handOver_23 : decode cX5_handOver 23 = .ok (.aload_n 0, 1) := by decide +kernel
theorem dX5_handOver_24 : decode cX5_handOver 24 = .ok (.getfield 62, 3) := by decide +kernel
theorem dX5_handOver_27 : decode cX5_handOver 27 = .ok (.iload_n 1, 1) := by decide +kernel
theorem dX5_handOver_28 : decode cX5_handOver 28 = .ok (.iaload, 1) := by decide +kernel
theorem dX5_handOver_29 : decode cX5_handOver 29 = .ok (.iconst (-1), 1) := by decide +kernel
theorem dX5_handOver_30 : decode cX5_handOver 30 = .ok (.if_icmp .ne 16, 3) := by decide +kernel
theorem dX5_handOver_33 : decode cX5_handOver 33 = .ok (.aload_n 0, 1) := by decide +kernel
theorem dX5_handOver_34 : decode cX5_handOver 34 = .ok (.getfield 68, 3) := by decide +kernel
theorem dX5_handOver_37 : decode cX5_handOver 37 = .ok (.iload_n 1, 1) := by decide +kernel
theorem dX5_handOver_38 : decode cX5_handOver 38 = .ok (.dup2, 1) := by decide +kernel
theorem dX5_handOver_39 : decode cX5_handOver 39 = .ok (.iaload, 1) := by decide +kernel
theorem dX5_handOver_40 : decode cX5_handOver 40 = .ok (.iconst 1, 1) := by decide +kernel
theorem dX5_handOver_41 : decode cX5_handOver 41 = .ok (.iadd, 1) := by decide +kernel
theorem dX5_handOver_42 : decode cX5_handOver 42 = .ok (.iastore, 1) := by decide +kernel
theorem dX5_handOver_43 : decode cX5_handOver 43 = .ok (.goto 13, 3) := by decide +kernel
theorem dX5_handOver_46 : decode cX5_handOver 46 = .ok (.aload_n 0, 1) := by decide +kernel
theorem dX5_handOver_47 : decode cX5_handOver 47 = .ok (.getfield 71, 3) := by decide +kernel
theorem dX5_handOver_50 : decode cX5_handOver 50 = .ok (.iload_n 1, 1) := by decide +kernel
theorem dX5_handOver_51 : decode cX5_handOver 51 = .ok (.dup2, 1) := by decide +kernel
theorem dX5_handOver_52 : decode cX5_handOver 52 = .ok (.iaload, 1) := by decide +kernel
theorem dX5_handOver_53 : decode cX5_handOver 53 = .ok (.iconst 1, 1) := by decide +kernel
theorem dX5_handOver_54 : decode cX5_handOver 54 = .ok (.iadd, 1) := by decide +kernel
theorem dX5_handOver_55 : decode cX5_handOver 55 = .ok (.iastore, 1) := by decide +kernel
theorem dX5_handOver_56 : decode cX5_handOver 56 = .ok (.return_, 1) := by decide +kernel
theorem dX5_move_0 : decode cX5_move 0 = .ok (.aload_n 0, 1) := by decide +kernel
theorem dX5_move_1 : decode cX5_move 1 = .ok (.aload_n 0, 1) := by decide +kernel
theorem dX5_move_2 : decode cX5_move 2 = .ok (.iload_n 1, 1) := by decide +kernel
theorem dX5_move_3 : decode cX5_move 3 = .ok (.invokevirtual 122, 3) := by decide +kernel
theorem dX5_move_6 : decode cX5_move 6 = .ok (.ifCond .ne 7, 3) := by decide +kernel
theorem dX5_move_9 : decode cX5_move 9 = .ok (.iconst 1, 1) := by decide +kernel
theorem dX5_move_10 : decode cX5_move 10 = .ok (.goto 18, 3) := by decide +kernel
theorem dX5_move_13 : decode cX5_move 13 = .ok (.iload_n 2, 1) := by decide +kernel
theorem dX5_move_14 : decode cX5_move 14 = .ok (.iconst 0, 1) := by decide +kernel
theorem dX5_move_15 : decode cX5_move 15 = .ok (.bipush 99, 2) := by decide +kernel
theorem dX5_move_17 : decode cX5_move 17 = .ok (.invokestatic 84, 3) := by decide +kernel
theorem dX5_move_20 : decode cX5_move 20 = .ok (.ifCond .ne 7, 3) := by decide +kernel
theorem dX5_move_23 : decode cX5_move 23 = .ok (.iconst 2, 1) := by decide +kernel
theorem dX5_move_24 : decode cX5_move 24 = .ok (.goto 4, 3) := by decide +kernel
theorem dX5_move_27 : decode cX5_move 27 = .ok (.iconst 0, 1) := by decide +kernel
theorem dX5_move_28 : decode cX5_move 28 = .ok (.putfield 77, 3) := by decide +kernel
theorem dX5_move_31 : decode cX5_move 31 = .ok (.aload_n 0, 1) := by decide +kernel
theorem dX5_move_32 : decode cX5_move 32 = .ok (.getfield 77, 3) := by decide +kernel
theorem dX5_move_35 : decode cX5_move 35 = .ok (.ifCond .le 5, 3) := by decide +kernel
theorem dX5_move_38 : decode cX5_move 38 = .ok (.iconst 0, 1) := by decide +kernel
theorem dX5_move_39 : decode cX5_move 39 = .ok (.ireturn, 1) := by decide +kernel
theorem dX5_move_40 : decode cX5_move 40 = .ok (.aload_n 0, 1) := by decide +kernel
theorem dX5_move_41 : decode cX5_move 41 = .ok (.getfield 59, 3) := by decide +kernel
theorem dX5_move_44 : decode cX5_move 44 = .ok (.iload_n 1, 1) := by decide +kernel
theorem dX5_move_45 : decode cX5_move 45 = .ok (.iload_n 2, 1) := by decide +kernel
theorem dX5_move_46 : decode cX5_move 46 = .ok (.iastore, 1) := by decide +kernel
theorem dX5_move_47 : decode cX5_move 47 = .ok (.aload_n 0, 1) := by decide +kernel
theorem dX5_move_48 : decode cX5_move 48 = .ok (.getfield 62, 3) := by decide +kernel
theorem dX5_move_51 : decode cX5_move 51 = .ok (.iload_n 1, 1) := by decide +kernel
theorem dX5_move_52 : decode cX5_move 52 = .ok (.iaload, 1) := by decide +kernel
theorem dX5_move_53 : decode cX5_move 53 = .ok (.iconst (-1), 1) := by decide +kernel
theorem dX5_move_54 : decode cX5_move 54 = .ok (.if_icmp .eq 22, 3) := by decide +kernel
theorem dX5_move_57 : decode cX5_move 57 = .ok (.aload_n 0, 1) := by decide +kernel
theorem dX5_move_58 : decode cX5_move 58 = .ok (.aload_n 0, 1) := by decide +kernel
theorem dX5_move_59 : decode cX5_move 59 = .ok (.getfield 62, 3) := by decide +kernel
theorem dX5_move_62 : decode cX5_move 62 = .ok (.iload_n 1, 1) := by decide +kernel
theorem dX5_move_63 : decode cX5_move 63 = .ok (.iaload, 1) := by decide +kernel
theorem dX5_move_64 : decode cX5_move 64 = .ok (.iload_n 2, 1) := by decide +kernel
theorem dX5_move_65 : decode cX5_move 65 = .ok (.invokevirtual 114, 3) := by decide +kernel
theorem dX5_move_68 : decode cX5_move 68 = .ok (.ifCond .ne 8, 3) := by decide +kernel
theorem dX5_move_71 : decode cX5_move 71 = .ok (.aload_n 0, 1) := by decide +kernel
theorem dX5_move_72 : decode cX5_move 72 = .ok (.iload_n 1, 1) := by decide +kernel
theorem dX5_move_73 : decode cX5_move 73 = .ok (.invokevirtual 128, 3) := by decide +kernel
theorem dX5_move_76 : decode cX5_move 76 = .ok (.aload_n 0, 1) := by decide +kernel
theorem dX5_move_77 : decode cX5_move 77 = .ok (.getfield 62, 3) := by decide +kernel
theorem dX5_move_80 : decode cX5_move 80 = .ok (.iload_n 1, 1) := by decide +kernel
theorem dX5_move_81 : decode cX5_move 81 = .ok (.iaload, 1) := by decide +kernel
theorem dX5_move_82 : decode cX5_move 82 = .ok (.ireturn, 1) := by decide +kernel
theorem dX5_payRent_0 : decode cX5_payRent 0 = .ok (.aload_n 0, 1) := by decide +kernel
theorem dX5_payRent_1 : decode cX5_payRent 1 = .ok (.getfield 47, 3) := by decide +kernel
theorem dX5_payRent_4 : decode cX5_payRent 4 = .ok (.iload_n 1, 1) := by decide +kernel
theorem dX5_payRent_5 : decode cX5_payRent 5 = .ok (.iaload, 1) := by decide +kernel
theorem dX5_payRent_6 : decode cX5_payRent 6 = .ok (.aload_n 0, 1) := by decide +kernel
theorem dX5_payRent_7 : decode cX5_payRent 7 = .ok (.getfield 50, 3) := by decide +kernel
theorem dX5_payRent_10 : decode cX5_payRent 10 = .ok (.iload_n 1, 1) := by decide +kernel
theorem dX5_payRent_11 : decode cX5_payRent 11 = .ok (.iaload, 1) := by decide +kernel
theorem dX5_payRent_12 : decode cX5_payRent 12 = .ok (.aload_n 0, 1) := by decide +kernel
theorem dX5_payRent_13 : decode cX5_payRent 13 = .ok (.iload_n 1, 1) := by decide +kernel
theorem dX5_payRent_14 : decode cX5_payRent 14 = .ok (.invokevirtual 111, 3) := by decide +kernel
theorem dX5_payRent_17 : decode cX5_payRent 17 = .ok (.ifCond .eq 11, 3) := by decide +kernel
theorem dX5_payRent_20 : decode cX5_payRent 20 = .ok (.aload_n 0, 1) := by decide +kernel
theorem dX5_payRent_21 : decode cX5_payRent 21 = .ok (.iload_n 1, 1) := by decide +kernel
theorem dX5_payRent_22 : decode cX5_payRent 22 = .ok (.invokevirtual 118, 3) := by decide +kernel
theorem dX5_payRent_25 : decode cX5_payRent 25 = .ok (.goto 4, 3) := by decide +kernel
theorem dX5_payRent_28 : decode cX5_payRent 28 = .ok (.iconst 0, 1) := by decide +kernel
theorem dX5_payRent_29 : decode cX5_payRent 29 = .ok (.imul, 1) := by decide +kernel
theorem dX5_payRent_30 : decode cX5_payRent 30 = .ok (.iadd, 1) := by decide +kernel
theorem dX5_payRent_31 : decode cX5_payRent 31 = .ok (.istore_n 2, 1) := by decide +kernel
theorem dX5_payRent_32 : decode cX5_payRent 32 = .ok (.iload_n 2, 1) := by decide +kernel
theorem dX5_payRent_33 : decode cX5_payRent 33 = .ok (.aload_n 0, 1) := by decide +kernel
theorem dX5_payRent_34 : decode cX5_payRent 34 = .ok (.getfield 44, 3) := by decide +kernel
theorem dX5_payRent_37 : decode cX5_payRent 37 = .ok (.iload_n 1, 1) := by decide +kernel
theorem dX5_payRent_38 : decode cX5_payRent 38 = .ok (.iaload, 1) := by decide +kernel
theorem dX5_payRent_39 : decode cX5_payRent 39 = .ok (.imul, 1) := by decide +kernel
theorem dX5_payRent_40 : decode cX5_payRent 40 = .ok (.bipush 10, 2) := by decide +kernel
theorem dX5_payRent_42 : decode cX5_payRent 42 = .ok (.idiv, 1) := by decide +kernel
theorem dX5_payRent_43 : decode cX5_payRent 43 = .ok (.istore_n 3, 1) := by decide +kernel
theorem dX5_payRent_44 : decode cX5_payRent 44 = .ok (.aload_n 0, 1) := by decide +kernel
theorem dX5_payRent_45 : decode cX5_payRent 45 = .ok (.getfield 74, 3) := by decide +kernel
theorem dX5_payRent_48 : decode cX5_payRent 48 = .ok (.aload_n 0, 1) := by decide +kernel
theorem dX5_payRent_49 : decode cX5_payRent 49 = .ok (.getfield 38, 3) := by decide +kernel
theorem dX5_payRent_52 : decode cX5_payRent 52 = .ok (.iload_n 1, 1) := by decide +kernel
theorem dX5_payRent_53 : decode cX5_payRent 53 = .ok (.iaload, 1) := by decide +kernel
theorem dX5_payRent_54 : decode cX5_payRent 54 = .ok (.dup2, 1) := by decide +kernel
theorem dX5_payRent_55 : decode cX5_payRent 55 = .ok (.iaload, 1) := by decide +kernel
theorem dX5_payRent_56 : decode cX5_payRent 56 = .ok (.iload_n 3, 1) := by decide +kernel
theorem dX5_payRent_57 : decode cX5_payRent 57 = .ok (.iadd, 1) := by decide +kernel
theorem dX5_payRent_58 : decode cX5_payRent 58 = .ok (.iastore, 1) := by decide +kernel
theorem dX5_payRent_59 : decode cX5_payRent 59 = .ok (.aload_n 0, 1) := by decide +kernel
theorem dX5_payRent_60 : decode cX5_payRent 60 = .ok (.getfield 41, 3) := by decide +kernel
theorem dX5_payRent_63 : decode cX5_payRent 63 = .ok (.iload_n 1, 1) := by decide +kernel
theorem dX5_payRent_64 : decode cX5_payRent 64 = .ok (.iaload, 1) := by decide +kernel
theorem dX5_payRent_65 : decode cX5_payRent 65 = .ok (.iconst (-1), 1) := by decide +kernel
theorem dX5_payRent_66 : decode cX5_payRent 66 = .ok (.if_icmp .eq 20, 3) := by decide +kernel
theorem dX5_payRent_69 : decode cX5_payRent 69 = .ok (.aload_n 0, 1) := by decide +kernel
theorem dX5_payRent_70 : decode cX5_payRent 70 = .ok (.getfield 74, 3) := by decide +kernel
theorem dX5_payRent_73 : decode cX5_payRent 73 = .ok (.aload_n 0, 1) := by decide +kernel
theorem dX5_payRent_74 : decode cX5_payRent 74 = .ok (.getfield 41, 3) := by decide +kernel
theorem dX5_payRent_77 : decode cX5_payRent 77 = .ok (.iload_n 1, 1) := by decide +kernel
theorem dX5_payRent_78 : decode cX5_payRent 78 = .ok (.iaload, 1) := by decide +kernel
theorem dX5_payRent_79 : decode cX5_payRent 79 = .ok (.dup2, 1) := by decide +kernel
theorem dX5_payRent_80 : decode cX5_payRent 80 = .ok (.iaload, 1) := by decide +kernel
theorem dX5_payRent_81 : decode cX5_payRent 81 = .ok (.iload_n 2, 1) := by decide +kernel
theorem dX5_payRent_82 : decode cX5_payRent 82 = .ok (.iload_n 3, 1) := by decide +kernel
theorem dX5_payRent_83 : decode cX5_payRent 83 = .ok (.isub, 1) := by decide +kernel
theorem dX5_payRent_84 : decode cX5_payRent 84 = .ok (.iadd, 1) := by decide +kernel
theorem dX5_payRent_85 : decode cX5_payRent 85 = .ok (.iastore, 1) := by decide +kernel
theorem dX5_payRent_86 : decode cX5_payRent 86 = .ok (.return_, 1) := by decide +kernel
theorem dX5_power_0 : decode cX5_power 0 = .ok (.aload_n 0, 1) := by decide +kernel
theorem dX5_power_1 : decode cX5_power 1 = .ok (.getfield 19, 3) := by decide +kernel
theorem dX5_power_4 : decode cX5_power 4 = .ok (.iload_n 1, 1) := by decide +kernel
theorem dX5_power_5 : decode cX5_power 5 = .ok (.iaload, 1) := by decide +kernel
theorem dX5_power_6 : decode cX5_power 6 = .ok (.aload_n 0, 1) := by decide +kernel
theorem dX5_power_7 : decode cX5_power 7 = .ok (.getfield 108, 3) := by decide +kernel
theorem dX5_power_10 : decode cX5_power 10 = .ok (.imul, 1) := by decide +kernel
theorem dX5_power_11 : decode cX5_power 11 = .ok (.aload_n 0, 1) := by decide +kernel
theorem dX5_power_12 : decode cX5_power 12 = .ok (.getfield 29, 3) := by decide +kernel
theorem dX5_power_15 : decode cX5_power 15 = .ok (.iload_n 1, 1) := by decide +kernel
theorem dX5_power_16 : decode cX5_power 16 = .ok (.iaload, 1) := by decide +kernel
theorem dX5_power_17 : decode cX5_power 17 = .ok (.iadd, 1) := by decide +kernel
theorem dX5_power_18 : decode cX5_power 18 = .ok (.istore_n 2, 1) := by decide +kernel
theorem dX5_power_19 : decode cX5_power 19 = .ok (.iconst 2, 1) := by decide +kernel
theorem dX5_power_20 : decode cX5_power 20 = .ok (.aload_n 0, 1) := by decide +kernel
theorem dX5_power_21 : decode cX5_power 21 = .ok (.iload_n 1, 1) := by decide +kernel
theorem dX5_power_22 : decode cX5_power 22 = .ok (.invokevirtual 118, 3) := by decide +kernel
theorem dX5_power_25 : decode cX5_power 25 = .ok (.iadd, 1) := by decide +kernel
theorem dX5_power_26 : decode cX5_power 26 = .ok (.istore_n 3, 1) := by decide +kernel
theorem dX5_power_27 : decode cX5_power 27 = .ok (.aload_n 0, 1) := by decide +kernel
theorem dX5_power_28 : decode cX5_power 28 = .ok (.getfield 32, 3) := by decide +kernel
theorem dX5_power_31 : decode cX5_power 31 = .ok (.iload_n 1, 1) := by decide +kernel
theorem dX5_power_32 : decode cX5_power 32 = .ok (.iload_n 2, 1) := by decide +kernel
theorem dX5_power_33 : decode cX5_power 33 = .ok (.iload_n 3, 1) := by decide +kernel
theorem dX5_power_34 : decode cX5_power 34 = .ok (.if_icmp .ge 16, 3) := by decide +kernel
theorem dX5_power_37 : decode cX5_power 37 = .ok (.aload_n 0, 1) := by decide +kernel
theorem dX5_power_38 : decode cX5_power 38 = .ok (.getfield 25, 3) := by decide +kernel
theorem dX5_power_41 : decode cX5_power 41 = .ok (.iload_n 1, 1) := by decide +kernel
theorem dX5_power_42 : decode cX5_power 42 = .ok (.baload, 1) := by decide +kernel
theorem dX5_power_43 : decode cX5_power 43 = .ok (.ifCond .ne 7, 3) := by decide +kernel
theorem dX5_power_46 : decode cX5_power 46 = .ok (.iconst 1, 1) := by decide +kernel
theorem dX5_power_47 : decode cX5_power 47 = .ok (.goto 4, 3) := by decide +kernel
theorem dX5_power_50 : decode cX5_power 50 = .ok (.iconst 0, 1) := by decide +kernel
theorem dX5_power_51 : decode cX5_power 51 = .ok (.bastore, 1) := by decide +kernel
theorem dX5_power_52 : decode cX5_power 52 = .ok (.aload_n 0, 1) := by decide +kernel
theorem dX5_power_53 : decode cX5_power 53 = .ok (.getfield 32, 3) := by decide +kernel
theorem dX5_power_56 : decode cX5_power 56 = .ok (.iload_n 1, 1) := by decide +kernel
theorem dX5_power_57 : decode cX5_power 57 = .ok (.baload, 1) := by decide +kernel
theorem dX5_power_58 : decode cX5_power 58 = .ok (.ifCond .eq 7, 3) := by decide +kernel
theorem dX5_power_61 : decode cX5_power 61 = .ok (.iload_n 2, 1) := by decide +kernel
theorem dX5_power_62 : decode cX5_power 62 = .ok (.goto 15, 3) := by decide +kernel
theorem dX5_power_65 : decode cX5_power 65 = .ok (.iload_n 2, 1) := by decide +kernel
theorem dX5_power_66 : decode cX5_power 66 = .ok (.iload_n 3, 1) := by decide +kernel
theorem dX5_power_67 : decode cX5_power 67 = .ok (.if_icmp .ge 7, 3) := by decide +kernel
theorem dX5_power_70 : decode cX5_power 70 = .ok (.iconst 0, 1) := by decide +kernel
theorem dX5_power_71 : decode cX5_power 71 = .ok (.goto 6, 3) := by decide +kernel
theorem dX5_power_74 : decode cX5_power 74 = .ok (.iload_n 2, 1) := by decide +kernel
theorem dX5_power_75 : decode cX5_power 75 = .ok (.iload_n 3, 1) := by decide +kernel
theorem dX5_power_76 : decode cX5_power 76 = .ok (.isub, 1) := by decide +kernel
theorem dX5_power_77 : decode cX5_power 77 = .ok (.istore 4, 2) := by decide +kernel
theorem dX5_power_79 : decode cX5_power 79 = .ok (.aload_n 0, 1) := by decide +kernel
theorem dX5_power_80 : decode cX5_power 80 = .ok (.getfield 53, 3) := by decide +kernel
theorem dX5_power_83 : decode cX5_power 83 = .ok (.iload_n 1, 1) := by decide +kernel
theorem dX5_power_84 : decode cX5_power 84 = .ok (.dup2, 1) := by decide +kernel
theorem dX5_power_85 : decode cX5_power 85 = .ok (.iaload, 1) := by decide +kernel
theorem dX5_power_86 : decode cX5_power 86 = .ok (.iload_n 2, 1) := by decide +kernel
theorem dX5_power_87 : decode cX5_power 87 = .ok (.iload_n 3, 1) := by decide +kernel
theorem dX5_power_88 : decode cX5_power 88 = .ok (.if_icmp .ge 18, 3) := by decide +kernel
theorem dX5_power_91 : decode cX5_power 91 = .ok (.aload_n 0, 1) := by decide +kernel
theorem dX5_power_92 : decode cX5_power 92 = .ok (.getfield 25, 3) := by decide +kernel
theorem dX5_power_95 : decode cX5_power 95 = .ok (.iload_n 1, 1) := by decide +kernel
theorem dX5_power_96 : decode cX5_power 96 = .ok (.baload, 1) := by decide +kernel
theorem dX5_power_97 : decode cX5_power 97 = .ok (.ifCond .eq 9, 3) := by decide +kernel
theorem dX5_power_100 : decode cX5_power 100 = .ok (.iload_n 3, 1) := by decide +kernel
theorem dX5_power_101 : decode cX5_power 101 = .ok (.iload_n 2, 1) := by decide +kernel
theorem dX5_power_102 : decode cX5_power 102 = .ok (.isub, 1) := by decide +kernel
theorem dX5_power_103 : decode cX5_power 103 = .ok (.goto 4, 3) := by decide +kernel
theorem dX5_power_106 : decode cX5_power 106 = .ok (.iconst 0, 1) := by decide +kernel
theorem dX5_power_107 : decode cX5_power 107 = .ok (.iadd, 1) := by decide +kernel
theorem dX5_power_108 : decode cX5_power 108 = .ok (.iastore, 1) := by decide +kernel
theorem dX5_power_109 : decode cX5_power 109 = .ok (.aload_n 0, 1) := by decide +kernel
theorem dX5_power_110 : decode cX5_power 110 = .ok (.getfield 29, 3) := by decide +kernel
theorem dX5_power_113 : decode cX5_power 113 = .ok (.iload_n 1, 1) := by decide +kernel
theorem dX5_power_114 : decode cX5_power 114 = .ok (.iload 4, 2) := by decide +kernel
theorem dX5_power_116 : decode cX5_power 116 = .ok (.aload_n 0, 1) := by decide +kernel
theorem dX5_power_117 : decode cX5_power 117 = .ok (.getfield 22, 3) := by decide +kernel
theorem dX5_power_120 : decode cX5_power 120 = .ok (.iload_n 1, 1) := by decide +kernel
theorem dX5_power_121 : decode cX5_power 121 = .ok (.iaload, 1) := by decide +kernel
theorem dX5_power_122 : decode cX5_power 122 = .ok (.if_icmp .le 12, 3) := by decide +kernel
theorem dX5_power_125 : decode cX5_power 125 = .ok (.aload_n 0, 1) := by decide +kernel
theorem dX5_power_126 : decode cX5_power 126 = .ok (.getfield 22, 3) := by decide +kernel
theorem dX5_power_129 : decode cX5_power 129 = .ok (.iload_n 1, 1) := by decide +kernel
theorem dX5_power_130 : decode cX5_power 130 = .ok (.iaload, 1) := by decide +kernel
theorem dX5_power_131 : decode cX5_power 131 = .ok (.goto 5, 3) := by decide +kernel
theorem dX5_power_134 : decode cX5_power 134 = .ok (.iload 4, 2) := by decide +kernel
theorem dX5_power_136 : decode cX5_power 136 = .ok (.iastore, 1) := by decide +kernel
theorem dX5_power_137 : decode cX5_power 137 = .ok (.return_, 1) := by decide +kernel
theorem dX5_hourGoesBy_0 : decode cX5_hourGoesBy 0 = .ok (.iconst 0, 1) := by decide +kernel
theorem dX5_hourGoesBy_1 : decode cX5_hourGoesBy 1 = .ok (.istore_n 1, 1) := by decide +kernel
theorem dX5_hourGoesBy_2 : decode cX5_hourGoesBy 2 = .ok (.iload_n 1, 1) := by decide +kernel
theorem dX5_hourGoesBy_3 : decode cX5_hourGoesBy 3 = .ok (.aload_n 0, 1) := by decide +kernel
theorem dX5_hourGoesBy_4 : decode cX5_hourGoesBy 4 = .ok (.getfield 81, 3) := by decide +kernel
theorem dX5_hourGoesBy_7 : decode cX5_hourGoesBy 7 = .ok (.if_icmp .ge 35, 3) := by decide +kernel
theorem dX5_hourGoesBy_10 : decode cX5_hourGoesBy 10 = .ok (.aload_n 0, 1) := by decide +kernel
theorem dX5_hourGoesBy_11 : decode cX5_hourGoesBy 11 = .ok (.getfield 56, 3) := by decide +kernel
theorem dX5_hourGoesBy_14 : decode cX5_hourGoesBy 14 = .ok (.iload_n 1, 1) := by decide +kernel
theorem dX5_hourGoesBy_15 : decode cX5_hourGoesBy 15 = .ok (.dup2, 1) := by decide +kernel
theorem dX5_hourGoesBy_16 : decode cX5_hourGoesBy 16 = .ok (.iaload, 1) := by decide +kernel
theorem dX5_hourGoesBy_17 : decode cX5_hourGoesBy 17 = .ok (.aload_n 0, 1) := by decide +kernel
theorem dX5_hourGoesBy_18 : decode cX5_hourGoesBy 18 = .ok (.iload_n 1, 1) := by decide +kernel
theorem dX5_hourGoesBy_19 : decode cX5_hourGoesBy 19 = .ok (.invokevirtual 111, 3) := by decide +kernel
theorem dX5_hourGoesBy_22 : decode cX5_hourGoesBy 22 = .ok (.ifCond .eq 11, 3) := by decide +kernel
theorem dX5_hourGoesBy_25 : decode cX5_hourGoesBy 25 = .ok (.aload_n 0, 1) := by decide +kernel
theorem dX5_hourGoesBy_26 : decode cX5_hourGoesBy 26 = .ok (.iload_n 1, 1) := by decide +kernel
theorem dX5_hourGoesBy_27 : decode cX5_hourGoesBy 27 = .ok (.invokevirtual 118, 3) := by decide +kernel
theorem dX5_hourGoesBy_30 : decode cX5_hourGoesBy 30 = .ok (.goto 4, 3) := by decide +kernel
theorem dX5_hourGoesBy_33 : decode cX5_hourGoesBy 33 = .ok (.iconst 0, 1) := by decide +kernel
theorem dX5_hourGoesBy_34 : decode cX5_hourGoesBy 34 = .ok (.iadd, 1) := by decide +kernel
theorem dX5_hourGoesBy_35 : decode cX5_hourGoesBy 35 = .ok (.iastore, 1) := by decide +kernel
theorem dX5_hourGoesBy_36 : decode cX5_hourGoesBy 36 = .ok (.iinc 1 1, 3) := by decide +kernel
theorem dX5_hourGoesBy_39 : decode cX5_hourGoesBy 39 = .ok (.goto (-37), 3) := by decide +kernel
theorem dX5_hourGoesBy_42 : decode cX5_hourGoesBy 42 = .ok (.iconst 0, 1) := by decide +kernel
theorem dX5_hourGoesBy_43 : decode cX5_hourGoesBy 43 = .ok (.istore_n 1, 1) := by decide +kernel
theorem dX5_hourGoesBy_44 : decode cX5_hourGoesBy 44 = .ok (.iload_n 1, 1) := by decide +kernel
theorem dX5_hourGoesBy_45 : decode cX5_hourGoesBy 45 = .ok (.aload_n 0, 1) := by decide +kernel
theorem dX5_hourGoesBy_46 : decode cX5_hourGoesBy 46 = .ok (.getfield 81, 3) := by decide +kernel
theorem dX5_hourGoesBy_49 : decode cX5_hourGoesBy 49 = .ok (.if_icmp .ge 22, 3) := by decide +kernel
theorem dX5_hourGoesBy_52 : decode cX5_hourGoesBy 52 = .ok (.aload_n 0, 1) := by decide +kernel
theorem dX5_hourGoesBy_53 : decode cX5_hourGoesBy 53 = .ok (.iload_n 1, 1) := by decide +kernel
theorem dX5_hourGoesBy_54 : decode cX5_hourGoesBy 54 = .ok (.invokevirtual 91, 3) := by decide +kernel
theorem dX5_hourGoesBy_57 : decode cX5_hourGoesBy 57 = .ok (.ifCond .eq 8, 3) := by decide +kernel
theorem dX5_hourGoesBy_60 : decode cX5_hourGoesBy 60 = .ok (.aload_n 0, 1) := by decide +kernel
theorem dX5_hourGoesBy_61 : decode cX5_hourGoesBy 61 = .ok (.iload_n 1, 1) := by decide +kernel
theorem dX5_hourGoesBy_62 : decode cX5_hourGoesBy 62 = .ok (.invokevirtual 132, 3) := by decide +kernel
theorem dX5_hourGoesBy_65 : decode cX5_hourGoesBy 65 = .ok (.iinc 1 1, 3) := by decide +kernel
theorem dX5_hourGoesBy_68 : decode cX5_hourGoesBy 68 = .ok (.goto (-24), 3) := by decide +kernel
theorem dX5_hourGoesBy_71 : decode cX5_hourGoesBy 71 = .ok (.iconst 0, 1) := by decide +kernel
theorem dX5_hourGoesBy_72 : decode cX5_hourGoesBy 72 = .ok (.istore_n 1, 1) := by decide +kernel
theorem dX5_hourGoesBy_73 : decode cX5_hourGoesBy 73 = .ok (.iload_n 1, 1) := by decide +kernel
theorem dX5_hourGoesBy_74 : decode cX5_hourGoesBy 74 = .ok (.aload_n 0, 1) := by decide +kernel
theorem dX5_hourGoesBy_75 : decode cX5_hourGoesBy 75 = .ok (.getfield 81, 3) := by decide +kernel
theorem dX5_hourGoesBy_78 : decode cX5_hourGoesBy 78 = .ok (.if_icmp .ge 32, 3) := by decide +kernel
theorem dX5_hourGoesBy_81 : decode cX5_hourGoesBy 81 = .ok (.aload_n 0, 1) := by decide +kernel
theorem dX5_hourGoesBy_82 : decode cX5_hourGoesBy 82 = .ok (.iload_n 1, 1) := by decide +kernel
theorem dX5_hourGoesBy_83 : decode cX5_hourGoesBy 83 = .ok (.invokevirtual 91, 3) := by decide +kernel
theorem dX5_hourGoesBy_86 : decode cX5_hourGoesBy 86 = .ok (.ifCond .eq 11, 3) := by decide +kernel
theorem dX5_hourGoesBy_89 : decode cX5_hourGoesBy 89 = .ok (.aload_n 0, 1) := by decide +kernel
theorem dX5_hourGoesBy_90 : decode cX5_hourGoesBy 90 = .ok (.iload_n 1, 1) := by decide +kernel
theorem dX5_hourGoesBy_91 : decode cX5_hourGoesBy 91 = .ok (.invokevirtual 135, 3) := by decide +kernel
theorem dX5_hourGoesBy_94 : decode cX5_hourGoesBy 94 = .ok (.goto 10, 3) := by decide +kernel
theorem dX5_hourGoesBy_97 : decode cX5_hourGoesBy 97 = .ok (.aload_n 0, 1) := by decide +kernel
theorem dX5_hourGoesBy_98 : decode cX5_hourGoesBy 98 = .ok (.getfield 32, 3) := by decide +kernel
theorem dX5_hourGoesBy_101 : decode cX5_hourGoesBy 101 = .ok (.iload_n 1, 1) := by decide +kernel
theorem dX5_hourGoesBy_102 : decode cX5_hourGoesBy 102 = .ok (.iconst 0, 1) := by decide +kernel
theorem dX5_hourGoesBy_103 : decode cX5_hourGoesBy 103 = .ok (.bastore, 1) := by decide +kernel
theorem dX5_hourGoesBy_104 : decode cX5_hourGoesBy 104 = .ok (.iinc 1 1, 3) := by decide +kernel
theorem dX5_hourGoesBy_107 : decode cX5_hourGoesBy 107 = .ok (.goto (-34), 3) := by decide +kernel
theorem dX5_hourGoesBy_110 : decode cX5_hourGoesBy 110 = .ok (.aload_n 0, 1) := by decide +kernel
theorem dX5_hourGoesBy_111 : decode cX5_hourGoesBy 111 = .ok (.dup, 1) := by decide +kernel
theorem dX5_hourGoesBy_112 : decode cX5_hourGoesBy 112 = .ok (.getfield 105, 3) := by decide +kernel
theorem dX5_hourGoesBy_115 : decode cX5_hourGoesBy 115 = .ok (.iconst 1, 1) := by decide +kernel
theorem dX5_hourGoesBy_116 : decode cX5_hourGoesBy 116 = .ok (.iadd, 1) := by decide +kernel
theorem dX5_hourGoesBy_117 : decode cX5_hourGoesBy 117 = .ok (.putfield 105, 3) := by decide +kernel
theorem dX5_hourGoesBy_120 : decode cX5_hourGoesBy 120 = .ok (.iconst 0, 1) := by decide +kernel
theorem dX5_hourGoesBy_121 : decode cX5_hourGoesBy 121 = .ok (.istore_n 1, 1) := by decide +kernel
theorem dX5_hourGoesBy_122 : decode cX5_hourGoesBy 122 = .ok (.iload_n 1, 1) := by decide +kernel
theorem dX5_hourGoesBy_123 : decode cX5_hourGoesBy 123 = .ok (.aload_n 0, 1) := by decide +kernel
theorem dX5_hourGoesBy_124 : decode cX5_hourGoesBy 124 = .ok (.getfield 81, 3) := by decide +kernel
theorem dX5_hourGoesBy_127 : decode cX5_hourGoesBy 127 = .ok (.if_icmp .ge 38, 3) := by decide +kernel
theorem dX5_hourGoesBy_130 : decode cX5_hourGoesBy 130 = .ok (.aload_n 0, 1) := by decide +kernel
theorem dX5_hourGoesBy_131 : decode cX5_hourGoesBy 131 = .ok (.getfield 35, 3) := by decide +kernel
theorem dX5_hourGoesBy_134 : decode cX5_hourGoesBy 134 = .ok (.iload_n 1, 1) := by decide +kernel
theorem dX5_hourGoesBy_135 : decode cX5_hourGoesBy 135 = .ok (.aload_n 0, 1) := by decide +kernel
theorem dX5_hourGoesBy_136 : decode cX5_hourGoesBy 136 = .ok (.getfield 35, 3) := by decide +kernel
theorem dX5_hourGoesBy_139 : decode cX5_hourGoesBy 139 = .ok (.iload_n 1, 1) := by decide +kernel
theorem dX5_hourGoesBy_140 : decode cX5_hourGoesBy 140 = .ok (.iaload, 1) := by decide +kernel
theorem dX5_hourGoesBy_141 : decode cX5_hourGoesBy 141 = .ok (.aload_n 0, 1) := by decide +kernel
theorem dX5_hourGoesBy_142 : decode cX5_hourGoesBy 142 = .ok (.getfield 105, 3) := by decide +kernel
theorem dX5_hourGoesBy_145 : decode cX5_hourGoesBy 145 = .ok (.if_icmp .ne 7, 3) := by decide +kernel
theorem dX5_hourGoesBy_148 : decode cX5_hourGoesBy 148 = .ok (.iconst (-1), 1) := by decide +kernel
theorem dX5_hourGoesBy_149 : decode cX5_hourGoesBy 149 = .ok (.goto 9, 3) := by decide +kernel
theorem dX5_hourGoesBy_152 : decode cX5_hourGoesBy 152 = .ok (.aload_n 0, 1) := by decide +kernel
theorem dX5_hourGoesBy_153 : decode cX5_hourGoesBy 153 = .ok (.getfield 35, 3) := by decide +kernel
theorem dX5_hourGoesBy_156 : decode cX5_hourGoesBy 156 = .ok (.iload_n 1, 1) := by decide +kernel
theorem dX5_hourGoesBy_157 : decode cX5_hourGoesBy 157 = .ok (.iaload, 1) := by decide +kernel
theorem dX5_hourGoesBy_158 : decode cX5_hourGoesBy 158 = .ok (.iastore, 1) := by decide +kernel
theorem dX5_hourGoesBy_159 : decode cX5_hourGoesBy 159 = .ok (.iinc 1 1, 3) := by decide +kernel
theorem dX5_hourGoesBy_162 : decode cX5_hourGoesBy 162 = .ok (.goto (-40), 3) := by decide +kernel
theorem dX5_hourGoesBy_165 : decode cX5_hourGoesBy 165 = .ok (.iconst 0, 1) := by decide +kernel
theorem dX5_hourGoesBy_166 : decode cX5_hourGoesBy 166 = .ok (.istore_n 1, 1) := by decide +kernel
theorem dX5_hourGoesBy_167 : decode cX5_hourGoesBy 167 = .ok (.iload_n 1, 1) := by decide +kernel
theorem dX5_hourGoesBy_168 : decode cX5_hourGoesBy 168 = .ok (.aload_n 0, 1) := by decide +kernel
theorem dX5_hourGoesBy_169 : decode cX5_hourGoesBy 169 = .ok (.getfield 88, 3) := by decide +kernel
theorem dX5_hourGoesBy_172 : decode cX5_hourGoesBy 172 = .ok (.if_icmp .ge 37, 3) := by decide +kernel
theorem dX5_hourGoesBy_175 : decode cX5_hourGoesBy 175 = .ok (.aload_n 0, 1) := by decide +kernel
theorem dX5_hourGoesBy_176 : decode cX5_hourGoesBy 176 = .ok (.getfield 62, 3) := by decide +kernel
theorem dX5_hourGoesBy_179 : decode cX5_hourGoesBy 179 = .ok (.iload_n 1, 1) := by decide +kernel
theorem dX5_hourGoesBy_180 : decode cX5_hourGoesBy 180 = .ok (.iaload, 1) := by decide +kernel
theorem dX5_hourGoesBy_181 : decode cX5_hourGoesBy 181 = .ok (.iconst (-1), 1) := by decide +kernel
theorem dX5_hourGoesBy_182 : decode cX5_hourGoesBy 182 = .ok (.if_icmp .eq 21, 3) := by decide +kernel
theorem dX5_hourGoesBy_185 : decode cX5_hourGoesBy 185 = .ok (.aload_n 0, 1) := by decide +kernel
theorem dX5_hourGoesBy_186 : decode cX5_hourGoesBy 186 = .ok (.aload_n 0, 1) := by decide +kernel
theorem dX5_hourGoesBy_187 : decode cX5_hourGoesBy 187 = .ok (.getfield 62, 3) := by decide +kernel
theorem dX5_hourGoesBy_190 : decode cX5_hourGoesBy 190 = .ok (.iload_n 1, 1) := by decide +kernel
theorem dX5_hourGoesBy_191 : decode cX5_hourGoesBy 191 = .ok (.iaload, 1) := by decide +kernel
theorem dX5_hourGoesBy_192 : decode cX5_hourGoesBy 192 = .ok (.invokevirtual 111, 3) := by decide +kernel
theorem dX5_hourGoesBy_195 : decode cX5_hourGoesBy 195 = .ok (.ifCond .ne 8, 3) := by decide +kernel
theorem dX5_hourGoesBy_198 : decode cX5_hourGoesBy 198 = .ok (.aload_n 0, 1) := by decide +kernel
theorem dX5_hourGoesBy_199 : decode cX5_hourGoesBy 199 = .ok (.iload_n 1, 1) := by decide +kernel
theorem dX5_hourGoesBy_200 : decode cX5_hourGoesBy 200 = .ok (.invokevirtual 128, 3) := by decide +kernel
theorem dX5_hourGoesBy_203 : decode cX5_hourGoesBy 203 = .ok (.iinc 1 1, 3) := by decide +kernel
theorem dX5_hourGoesBy_206 : decode cX5_hourGoesBy 206 = .ok (.goto (-39), 3) := by decide +kernel
theorem dX5_hourGoesBy_209 : decode cX5_hourGoesBy 209 = .ok (.return_, 1) := by decide +kernel
theorem dX5_pass_0 : decode cX5_pass 0 = .ok (.aload_n 0, 1) := by decide +kernel
theorem dX5_pass_1 : decode cX5_pass 1 = .ok (.iload_n 1, 1) := by decide +kernel
theorem dX5_pass_2 : decode cX5_pass 2 = .ok (.iconst 1, 1) := by decide +kernel
theorem dX5_pass_3 : decode cX5_pass 3 = .ok (.bipush 100, 2) := by decide +kernel
theorem dX5_pass_5 : decode cX5_pass 5 = .ok (.invokestatic 84, 3) := by decide +kernel
theorem dX5_pass_8 : decode cX5_pass 8 = .ok (.ifCond .ne 7, 3) := by decide +kernel
theorem dX5_pass_11 : decode cX5_pass 11 = .ok (.iconst 1, 1) := by decide +kernel
theorem dX5_pass_12 : decode cX5_pass 12 = .ok (.goto 20, 3) := by decide +kernel
theorem dX5_pass_15 : decode cX5_pass 15 = .ok (.aload_n 0, 1) := by decide +kernel
theorem dX5_pass_16 : decode cX5_pass 16 = .ok (.getfield 105, 3) := by decide +kernel
theorem dX5_pass_19 : decode cX5_pass 19 = .ok (.iload_n 1, 1) := by decide +kernel
theorem dX5_pass_20 : decode cX5_pass 20 = .ok (.iadd, 1) := by decide +kernel
theorem dX5_pass_21 : decode cX5_pass 21 = .ok (.sipush 10000, 3) := by decide +kernel
theorem dX5_pass_24 : decode cX5_pass 24 = .ok (.if_icmp .le 7, 3) := by decide +kernel
theorem dX5_pass_27 : decode cX5_pass 27 = .ok (.iconst 2, 1) := by decide +kernel
theorem dX5_pass_28 : decode cX5_pass 28 = .ok (.goto 4, 3) := by decide +kernel
theorem dX5_pass_31 : decode cX5_pass 31 = .ok (.iconst 0, 1) := by decide +kernel
theorem dX5_pass_32 : decode cX5_pass 32 = .ok (.putfield 77, 3) := by decide +kernel
theorem dX5_pass_35 : decode cX5_pass 35 = .ok (.iconst 0, 1) := by decide +kernel
theorem dX5_pass_36 : decode cX5_pass 36 = .ok (.istore_n 2, 1) := by decide +kernel
theorem dX5_pass_37 : decode cX5_pass 37 = .ok (.iload_n 2, 1) := by decide +kernel
theorem dX5_pass_38 : decode cX5_pass 38 = .ok (.iload_n 1, 1) := by decide +kernel
theorem dX5_pass_39 : decode cX5_pass 39 = .ok (.if_icmp .ge 20, 3) := by decide +kernel
theorem dX5_pass_42 : decode cX5_pass 42 = .ok (.aload_n 0, 1) := by decide +kernel
theorem dX5_pass_43 : decode cX5_pass 43 = .ok (.getfield 77, 3) := by decide +kernel
theorem dX5_pass_46 : decode cX5_pass 46 = .ok (.ifCond .ne 13, 3) := by decide +kernel
theorem dX5_pass_49 : decode cX5_pass 49 = .ok (.aload_n 0, 1) := by decide +kernel
theorem dX5_pass_50 : decode cX5_pass 50 = .ok (.invokevirtual 138, 3) := by decide +kernel
theorem dX5_pass_53 : decode cX5_pass 53 = .ok (.iinc 2 1, 3) := by decide +kernel
theorem dX5_pass_56 : decode cX5_pass 56 = .ok (.goto (-19), 3) := by decide +kernel
theorem dX5_pass_59 : decode cX5_pass 59 = .ok (.aload_n 0, 1) := by decide +kernel
theorem dX5_pass_60 : decode cX5_pass 60 = .ok (.getfield 77, 3) := by decide +kernel
theorem dX5_pass_63 : decode cX5_pass 63 = .ok (.ifCond .ne 10, 3) := by decide +kernel
theorem dX5_pass_66 : decode cX5_pass 66 = .ok (.aload_n 0, 1) := by decide +kernel
theorem dX5_pass_67 : decode cX5_pass 67 = .ok (.getfield 105, 3) := by decide +kernel
theorem dX5_pass_70 : decode cX5_pass 70 = .ok (.goto 4, 3) := by decide +kernel
theorem dX5_pass_73 : decode cX5_pass 73 = .ok (.iconst 0, 1) := by decide +kernel
theorem dX5_pass_74 : decode cX5_pass 74 = .ok (.ireturn, 1) := by decide +kernel
theorem dX5_ofMast_0 : decode cX5_ofMast 0 = .ok (.aload_n 0, 1) := by decide +kernel
theorem dX5_ofMast_1 : decode cX5_ofMast 1 = .ok (.aload_n 0, 1) := by decide +kernel
theorem dX5_ofMast_2 : decode cX5_ofMast 2 = .ok (.iload_n 1, 1) := by decide +kernel
theorem dX5_ofMast_3 : decode cX5_ofMast 3 = .ok (.invokevirtual 99, 3) := by decide +kernel
theorem dX5_ofMast_6 : decode cX5_ofMast 6 = .ok (.ifCond .ne 7, 3) := by decide +kernel
theorem dX5_ofMast_9 : decode cX5_ofMast 9 = .ok (.iconst 1, 1) := by decide +kernel
theorem dX5_ofMast_10 : decode cX5_ofMast 10 = .ok (.goto 17, 3) := by decide +kernel
theorem dX5_ofMast_13 : decode cX5_ofMast 13 = .ok (.iload_n 2, 1) := by decide +kernel
theorem dX5_ofMast_14 : decode cX5_ofMast 14 = .ok (.iconst 0, 1) := by decide +kernel
theorem dX5_ofMast_15 : decode cX5_ofMast 15 = .ok (.iconst 5, 1) := by decide +kernel
theorem dX5_ofMast_16 : decode cX5_ofMast 16 = .ok (.invokestatic 84, 3) := by decide +kernel
theorem dX5_ofMast_19 : decode cX5_ofMast 19 = .ok (.ifCond .ne 7, 3) := by decide +kernel
theorem dX5_ofMast_22 : decode cX5_ofMast 22 = .ok (.iconst 2, 1) := by decide +kernel
theorem dX5_ofMast_23 : decode cX5_ofMast 23 = .ok (.goto 4, 3) := by decide +kernel
theorem dX5_ofMast_26 : decode cX5_ofMast 26 = .ok (.iconst 0, 1) := by decide +kernel
theorem dX5_ofMast_27 : decode cX5_ofMast 27 = .ok (.putfield 77, 3) := by decide +kernel
theorem dX5_ofMast_30 : decode cX5_ofMast 30 = .ok (.aload_n 0, 1) := by decide +kernel
theorem dX5_ofMast_31 : decode cX5_ofMast 31 = .ok (.getfield 77, 3) := by decide +kernel
theorem dX5_ofMast_34 : decode cX5_ofMast 34 = .ok (.ifCond .le 5, 3) := by decide +kernel
theorem dX5_ofMast_37 : decode cX5_ofMast 37 = .ok (.iconst 0, 1) := by decide +kernel
theorem dX5_ofMast_38 : decode cX5_ofMast 38 = .ok (.ireturn, 1) := by decide +kernel
theorem dX5_ofMast_39 : decode cX5_ofMast 39 = .ok (.iload_n 2, 1) := by decide +kernel
theorem dX5_ofMast_40 : decode cX5_ofMast 40 = .ok (.tableswitch 77 0 4 #[36, 50, 56, 63, 70], 36) := by decide +kernel
theorem dX5_ofMast_76 : decode cX5_ofMast 76 = .ok (.aload_n 0, 1) := by decide +kernel
theorem dX5_ofMast_77 : decode cX5_ofMast 77 = .ok (.iload_n 1, 1) := by decide +kernel
theorem dX5_ofMast_78 : decode cX5_ofMast 78 = .ok (.invokevirtual 111, 3) := by decide +kernel
theorem dX5_ofMast_81 : decode cX5_ofMast 81 = .ok (.ifCond .eq 7, 3) := by decide +kernel
theorem dX5_ofMast_84 : decode cX5_ofMast 84 = .ok (.iconst 1, 1) := by decide +kernel
theorem dX5_ofMast_85 : decode cX5_ofMast 85 = .ok (.goto 4, 3) := by decide +kernel
theorem dX5_ofMast_88 : decode cX5_ofMast 88 = .ok (.iconst 0, 1) := by decide +kernel
theorem dX5_ofMast_89 : decode cX5_ofMast 89 = .ok (.ireturn, 1) := by decide +kernel
theorem dX5_ofMast_90 : decode cX5_ofMast 90 = .ok (.aload_n 0, 1) := by decide +kernel
theorem dX5_ofMast_91 : decode cX5_ofMast 91 = .ok (.iload_n 1, 1) := by decide +kernel
theorem dX5_ofMast_92 : decode cX5_ofMast 92 = .ok (.invokevirtual 118, 3) := by decide +kernel
theorem dX5_ofMast_95 : decode cX5_ofMast 95 = .ok (.ireturn, 1) := by decide +kernel
theorem dX5_ofMast_96 : decode cX5_ofMast 96 = .ok (.aload_n 0, 1) := by decide +kernel
theorem dX5_ofMast_97 : decode cX5_ofMast 97 = .ok (.getfield 29, 3) := by decide +kernel
theorem dX5_ofMast_100 : decode cX5_ofMast 100 = .ok (.iload_n 1, 1) := by decide +kernel
theorem dX5_ofMast_101 : decode cX5_ofMast 101 = .ok (.iaload, 1) := by decide +kernel
theorem dX5_ofMast_102 : decode cX5_ofMast 102 = .ok (.ireturn, 1) := by decide +kernel
theorem dX5_ofMast_103 : decode cX5_ofMast 103 = .ok (.aload_n 0, 1) := by decide +kernel
theorem dX5_ofMast_104 : decode cX5_ofMast 104 = .ok (.getfield 53, 3) := by decide +kernel
theorem dX5_ofMast_107 : decode cX5_ofMast 107 = .ok (.iload_n 1, 1) := by decide +kernel
theorem dX5_ofMast_108 : decode cX5_ofMast 108 = .ok (.iaload, 1) := by decide +kernel
theorem dX5_ofMast_109 : decode cX5_ofMast 109 = .ok (.ireturn, 1) := by decide +kernel
theorem dX5_ofMast_110 : decode cX5_ofMast 110 = .ok (.aload_n 0, 1) := by decide +kernel
theorem dX5_ofMast_111 : decode cX5_ofMast 111 = .ok (.getfield 56, 3) := by decide +kernel
theorem dX5_ofMast_114 : decode cX5_ofMast 114 = .ok (.iload_n 1, 1) := by decide +kernel
theorem dX5_ofMast_115 : decode cX5_ofMast 115 = .ok (.iaload, 1) := by decide +kernel
theorem dX5_ofMast_116 : decode cX5_ofMast 116 = .ok (.ireturn, 1) := by decide +kernel
theorem dX5_ofMast_117 : decode cX5_ofMast 117 = .ok (.aload_n 0, 1) := by decide +kernel
theorem dX5_ofMast_118 : decode cX5_ofMast 118 = .ok (.getfield 35, 3) := by decide +kernel
theorem dX5_ofMast_121 : decode cX5_ofMast 121 = .ok (.iload_n 1, 1) := by decide +kernel
theorem dX5_ofMast_122 : decode cX5_ofMast 122 = .ok (.iaload, 1) := by decide +kernel
theorem dX5_ofMast_123 : decode cX5_ofMast 123 = .ok (.ireturn, 1) := by decide +kernel
theorem dX5_trafficAnew_0 : decode cX5_trafficAnew 0 = .ok (.aload_n 0, 1) := by decide +kernel
theorem dX5_trafficAnew_1 : decode cX5_trafficAnew 1 = .ok (.aload_n 0, 1) := by decide +kernel
theorem dX5_trafficAnew_2 : decode cX5_trafficAnew 2 = .ok (.iload_n 1, 1) := by decide +kernel
theorem dX5_trafficAnew_3 : decode cX5_trafficAnew 3 = .ok (.invokevirtual 99, 3) := by decide +kernel
theorem dX5_trafficAnew_6 : decode cX5_trafficAnew 6 = .ok (.ifCond .eq 7, 3) := by decide +kernel
theorem dX5_trafficAnew_9 : decode cX5_trafficAnew 9 = .ok (.iconst 0, 1) := by decide +kernel
theorem dX5_trafficAnew_10 : decode cX5_trafficAnew 10 = .ok (.goto 4, 3) := by decide +kernel
theorem dX5_trafficAnew_13 : decode cX5_trafficAnew 13 = .ok (.iconst 1, 1) := by decide +kernel
theorem dX5_trafficAnew_14 : decode cX5_trafficAnew 14 = .ok (.putfield 77, 3) := by decide +kernel
theorem dX5_trafficAnew_17 : decode cX5_trafficAnew 17 = .ok (.aload_n 0, 1) := by decide +kernel
theorem dX5_trafficAnew_18 : decode cX5_trafficAnew 18 = .ok (.getfield 77, 3) := by decide +kernel
theorem dX5_trafficAnew_21 : decode cX5_trafficAnew 21 = .ok (.ifCond .ne 12, 3) := by decide +kernel
theorem dX5_trafficAnew_24 : decode cX5_trafficAnew 24 = .ok (.aload_n 0, 1) := by decide +kernel
theorem dX5_trafficAnew_25 : decode cX5_trafficAnew 25 = .ok (.getfield 56, 3) := by decide +kernel
theorem dX5_trafficAnew_28 : decode cX5_trafficAnew 28 = .ok (.iload_n 1, 1) := by decide +kernel
theorem dX5_trafficAnew_29 : decode cX5_trafficAnew 29 = .ok (.iaload, 1) := by decide +kernel
theorem dX5_trafficAnew_30 : decode cX5_trafficAnew 30 = .ok (.goto 4, 3) := by decide +kernel
theorem dX5_trafficAnew_33 : decode cX5_trafficAnew 33 = .ok (.iconst 0, 1) := by decide +kernel
theorem dX5_trafficAnew_34 : decode cX5_trafficAnew 34 = .ok (.ireturn, 1) := by decide +kernel
theorem dX5_ofPhone_0 : decode cX5_ofPhone 0 = .ok (.aload_n 0, 1) := by decide +kernel
theorem dX5_ofPhone_1 : decode cX5_ofPhone 1 = .ok (.aload_n 0, 1) := by decide +kernel
theorem dX5_ofPhone_2 : decode cX5_ofPhone 2 = .ok (.iload_n 1, 1) := by decide +kernel
theorem dX5_ofPhone_3 : decode cX5_ofPhone 3 = .ok (.invokevirtual 122, 3) := by decide +kernel
theorem dX5_ofPhone_6 : decode cX5_ofPhone 6 = .ok (.ifCond .ne 7, 3) := by decide +kernel
theorem dX5_ofPhone_9 : decode cX5_ofPhone 9 = .ok (.iconst 1, 1) := by decide +kernel
theorem dX5_ofPhone_10 : decode cX5_ofPhone 10 = .ok (.goto 17, 3) := by decide +kernel
theorem dX5_ofPhone_13 : decode cX5_ofPhone 13 = .ok (.iload_n 2, 1) := by decide +kernel
theorem dX5_ofPhone_14 : decode cX5_ofPhone 14 = .ok (.iconst 0, 1) := by decide +kernel
theorem dX5_ofPhone_15 : decode cX5_ofPhone 15 = .ok (.iconst 4, 1) := by decide +kernel
theorem dX5_ofPhone_16 : decode cX5_ofPhone 16 = .ok (.invokestatic 84, 3) := by decide +kernel
theorem dX5_ofPhone_19 : decode cX5_ofPhone 19 = .ok (.ifCond .ne 7, 3) := by decide +kernel
theorem dX5_ofPhone_22 : decode cX5_ofPhone 22 = .ok (.iconst 2, 1) := by decide +kernel
theorem dX5_ofPhone_23 : decode cX5_ofPhone 23 = .ok (.goto 4, 3) := by decide +kernel
theorem dX5_ofPhone_26 : decode cX5_ofPhone 26 = .ok (.iconst 0, 1) := by decide +kernel
theorem dX5_ofPhone_27 : decode cX5_ofPhone 27 = .ok (.putfield 77, 3) := by decide +kernel
theorem dX5_ofPhone_30 : decode cX5_ofPhone 30 = .ok (.aload_n 0, 1) := by decide +kernel
theorem dX5_ofPhone_31 : decode cX5_ofPhone 31 = .ok (.getfield 77, 3) := by decide +kernel
theorem dX5_ofPhone_34 : decode cX5_ofPhone 34 = .ok (.ifCond .le 5, 3) := by decide +kernel
theorem dX5_ofPhone_37 : decode cX5_ofPhone 37 = .ok (.iconst 0, 1) := by decide +kernel
theorem dX5_ofPhone_38 : decode cX5_ofPhone 38 = .ok (.ireturn, 1) := by decide +kernel
theorem dX5_ofPhone_39 : decode cX5_ofPhone 39 = .ok (.iload_n 2, 1) := by decide +kernel
theorem dX5_ofPhone_40 : decode cX5_ofPhone 40 = .ok (.ifCond .ne 12, 3) := by decide +kernel
theorem dX5_ofPhone_43 : decode cX5_ofPhone 43 = .ok (.aload_n 0, 1) := by decide +kernel
theorem dX5_ofPhone_44 : decode cX5_ofPhone 44 = .ok (.getfield 59, 3) := by decide +kernel
theorem dX5_ofPhone_47 : decode cX5_ofPhone 47 = .ok (.iload_n 1, 1) := by decide +kernel
theorem dX5_ofPhone_48 : decode cX5_ofPhone 48 = .ok (.iaload, 1) := by decide +kernel
theorem dX5_ofPhone_49 : decode cX5_ofPhone 49 = .ok (.goto 51, 3) := by decide +kernel
theorem dX5_ofPhone_52 : decode cX5_ofPhone 52 = .ok (.iload_n 2, 1) := by decide +kernel
theorem dX5_ofPhone_53 : decode cX5_ofPhone 53 = .ok (.iconst 1, 1) := by decide +kernel
theorem dX5_ofPhone_54 : decode cX5_ofPhone 54 = .ok (.if_icmp .ne 12, 3) := by decide +kernel
theorem dX5_ofPhone_57 : decode cX5_ofPhone 57 = .ok (.aload_n 0, 1) := by decide +kernel
theorem dX5_ofPhone_58 : decode cX5_ofPhone 58 = .ok (.getfield 62, 3) := by decide +kernel
theorem dX5_ofPhone_61 : decode cX5_ofPhone 61 = .ok (.iload_n 1, 1) := by decide +kernel
theorem dX5_ofPhone_62 : decode cX5_ofPhone 62 = .ok (.iaload, 1) := by decide +kernel
theorem dX5_ofPhone_63 : decode cX5_ofPhone 63 = .ok (.goto 37, 3) := by decide +kernel
theorem dX5_ofPhone_66 : decode cX5_ofPhone 66 = .ok (.iload_n 2, 1) := by decide +kernel
theorem dX5_ofPhone_67 : decode cX5_ofPhone 67 = .ok (.iconst 2, 1) := by decide +kernel
theorem dX5_ofPhone_68 : decode cX5_ofPhone 68 = .ok (.if_icmp .ne 12, 3) := by decide +kernel
theorem dX5_ofPhone_71 : decode cX5_ofPhone 71 = .ok (.aload_n 0, 1) := by decide +kernel
theorem dX5_ofPhone_72 : decode cX5_ofPhone 72 = .ok (.getfield 65, 3) := by decide +kernel
theorem dX5_ofPhone_75 : decode cX5_ofPhone 75 = .ok (.iload_n 1, 1) := by decide +kernel
theorem dX5_ofPhone_76 : decode cX5_ofPhone 76 = .ok (.iaload, 1) := by decide +kernel
theorem dX5_ofPhone_77 : decode cX5_ofPhone 77 = .ok (.goto 23, 3) := by decide +kernel
theorem dX5_ofPhone_80 : decode cX5_ofPhone 80 = .ok (.iload_n 2, 1) := by decide +kernel
theorem dX5_ofPhone_81 : decode cX5_ofPhone 81 = .ok (.iconst 3, 1) := by decide +kernel
theorem dX5_ofPhone_82 : decode cX5_ofPhone 82 = .ok (.if_icmp .ne 12, 3) := by decide +kernel
theorem dX5_ofPhone_85 : decode cX5_ofPhone 85 = .ok (.aload_n 0, 1) := by decide +kernel
theorem dX5_ofPhone_86 : decode cX5_ofPhone 86 = .ok (.getfield 68, 3) := by decide +kernel
theorem dX5_ofPhone_89 : decode cX5_ofPhone 89 = .ok (.iload_n 1, 1) := by decide +kernel
theorem dX5_ofPhone_90 : decode cX5_ofPhone 90 = .ok (.iaload, 1) := by decide +kernel
theorem dX5_ofPhone_91 : decode cX5_ofPhone 91 = .ok (.goto 9, 3) := by decide +kernel
theorem dX5_ofPhone_94 : decode cX5_ofPhone 94 = .ok (.aload_n 0, 1) := by decide +kernel
theorem dX5_ofPhone_95 : decode cX5_ofPhone 95 = .ok (.getfield 71, 3) := by decide +kernel
theorem dX5_ofPhone_98 : decode cX5_ofPhone 98 = .ok (.iload_n 1, 1) := by decide +kernel
theorem dX5_ofPhone_99 : decode cX5_ofPhone 99 = .ok (.iaload, 1) := by decide +kernel
theorem dX5_ofPhone_100 : decode cX5_ofPhone 100 = .ok (.ireturn, 1) := by decide +kernel
theorem dX5_strength_0 : decode cX5_strength 0 = .ok (.aload_n 0, 1) := by decide +kernel
theorem dX5_strength_1 : decode cX5_strength 1 = .ok (.aload_n 0, 1) := by decide +kernel
theorem dX5_strength_2 : decode cX5_strength 2 = .ok (.iload_n 1, 1) := by decide +kernel
theorem dX5_strength_3 : decode cX5_strength 3 = .ok (.invokevirtual 122, 3) := by decide +kernel
theorem dX5_strength_6 : decode cX5_strength 6 = .ok (.ifCond .eq 7, 3) := by decide +kernel
theorem dX5_strength_9 : decode cX5_strength 9 = .ok (.iconst 0, 1) := by decide +kernel
theorem dX5_strength_10 : decode cX5_strength 10 = .ok (.goto 4, 3) := by decide +kernel
theorem dX5_strength_13 : decode cX5_strength 13 = .ok (.iconst 1, 1) := by decide +kernel
theorem dX5_strength_14 : decode cX5_strength 14 = .ok (.putfield 77, 3) := by decide +kernel
theorem dX5_strength_17 : decode cX5_strength 17 = .ok (.aload_n 0, 1) := by decide +kernel
theorem dX5_strength_18 : decode cX5_strength 18 = .ok (.getfield 77, 3) := by decide +kernel
theorem dX5_strength_21 : decode cX5_strength 21 = .ok (.ifCond .gt 13, 3) := by decide +kernel
theorem dX5_strength_24 : decode cX5_strength 24 = .ok (.aload_n 0, 1) := by decide +kernel
theorem dX5_strength_25 : decode cX5_strength 25 = .ok (.getfield 62, 3) := by decide +kernel
theorem dX5_strength_28 : decode cX5_strength 28 = .ok (.iload_n 1, 1) := by decide +kernel
theorem dX5_strength_29 : decode cX5_strength 29 = .ok (.iaload, 1) := by decide +kernel
theorem dX5_strength_30 : decode cX5_strength 30 = .ok (.iconst (-1), 1) := by decide +kernel
theorem dX5_strength_31 : decode cX5_strength 31 = .ok (.if_icmp .ne 5, 3) := by decide +kernel
theorem dX5_strength_34 : decode cX5_strength 34 = .ok (.fconst 0, 1) := by decide +kernel
theorem dX5_strength_35 : decode cX5_strength 35 = .ok (.freturn, 1) := by decide +kernel
theorem dX5_strength_36 : decode cX5_strength 36 = .ok (.aload_n 0, 1) := by decide +kernel
theorem dX5_strength_37 : decode cX5_strength 37 = .ok (.getfield 62, 3) := by decide +kernel
theorem dX5_strength_40 : decode cX5_strength 40 = .ok (.iload_n 1, 1) := by decide +kernel
theorem dX5_strength_41 : decode cX5_strength 41 = .ok (.iaload, 1) := by decide +kernel
theorem dX5_strength_42 : decode cX5_strength 42 = .ok (.istore_n 2, 1) := by decide +kernel
theorem dX5_strength_43 : decode cX5_strength 43 = .ok (.fconst 1, 1) := by decide +kernel
theorem dX5_strength_44 : decode cX5_strength 44 = .ok (.aload_n 0, 1) := by decide +kernel
theorem dX5_strength_45 : decode cX5_strength 45 = .ok (.iload_n 2, 1) := by decide +kernel
theorem dX5_strength_46 : decode cX5_strength 46 = .ok (.aload_n 0, 1) := by decide +kernel
theorem dX5_strength_47 : decode cX5_strength 47 = .ok (.getfield 59, 3) := by decide +kernel
theorem dX5_strength_50 : decode cX5_strength 50 = .ok (.iload_n 1, 1) := by decide +kernel
theorem dX5_strength_51 : decode cX5_strength 51 = .ok (.iaload, 1) := by decide +kernel
theorem dX5_strength_52 : decode cX5_strength 52 = .ok (.invokevirtual 95, 3) := by decide +kernel
theorem dX5_strength_55 : decode cX5_strength 55 = .ok (.i2f, 1) := by decide +kernel
theorem dX5_strength_56 : decode cX5_strength 56 = .ok (.aload_n 0, 1) := by decide +kernel
theorem dX5_strength_57 : decode cX5_strength 57 = .ok (.getfield 13, 3) := by decide +kernel
theorem dX5_strength_60 : decode cX5_strength 60 = .ok (.iload_n 2, 1) := by decide +kernel
theorem dX5_strength_61 : decode cX5_strength 61 = .ok (.iaload, 1) := by decide +kernel
theorem dX5_strength_62 : decode cX5_strength 62 = .ok (.i2f, 1) := by decide +kernel
theorem dX5_strength_63 : decode cX5_strength 63 = .ok (.fdiv, 1) := by decide +kernel
theorem dX5_strength_64 : decode cX5_strength 64 = .ok (.fsub, 1) := by decide +kernel
theorem dX5_strength_65 : decode cX5_strength 65 = .ok (.freturn, 1) := by decide +kernel
theorem dX5_paid_0 : decode cX5_paid 0 = .ok (.aload_n 0, 1) := by decide +kernel
theorem dX5_paid_1 : decode cX5_paid 1 = .ok (.iload_n 1, 1) := by decide +kernel
theorem dX5_paid_2 : decode cX5_paid 2 = .ok (.invokestatic 102, 3) := by decide +kernel
theorem dX5_paid_5 : decode cX5_paid 5 = .ok (.ifCond .eq 7, 3) := by decide +kernel
theorem dX5_paid_8 : decode cX5_paid 8 = .ok (.iconst 0, 1) := by decide +kernel
theorem dX5_paid_9 : decode cX5_paid 9 = .ok (.goto 4, 3) := by decide +kernel
theorem dX5_paid_12 : decode cX5_paid 12 = .ok (.iconst 1, 1) := by decide +kernel
theorem dX5_paid_13 : decode cX5_paid 13 = .ok (.putfield 77, 3) := by decide +kernel
theorem dX5_paid_16 : decode cX5_paid 16 = .ok (.aload_n 0, 1) := by decide +kernel
theorem dX5_paid_17 : decode cX5_paid 17 = .ok (.getfield 77, 3) := by decide +kernel
theorem dX5_paid_20 : decode cX5_paid 20 = .ok (.ifCond .ne 12, 3) := by decide +kernel
theorem dX5_paid_23 : decode cX5_paid 23 = .ok (.aload_n 0, 1) := by decide +kernel
theorem dX5_paid_24 : decode cX5_paid 24 = .ok (.getfield 74, 3) := by decide +kernel
theorem dX5_paid_27 : decode cX5_paid 27 = .ok (.iload_n 1, 1) := by decide +kernel
theorem dX5_paid_28 : decode cX5_paid 28 = .ok (.iaload, 1) := by decide +kernel
theorem dX5_paid_29 : decode cX5_paid 29 = .ok (.goto 4, 3) := by decide +kernel
theorem dX5_paid_32 : decode cX5_paid 32 = .ok (.iconst 0, 1) := by decide +kernel
theorem dX5_paid_33 : decode cX5_paid 33 = .ok (.ireturn, 1) := by decide +kernel
theorem dX5_holes_0 : decode cX5_holes 0 = .ok (.aload_n 0, 1) := by decide +kernel
theorem dX5_holes_1 : decode cX5_holes 1 = .ok (.iconst 0, 1) := by decide +kernel
theorem dX5_holes_2 : decode cX5_holes 2 = .ok (.putfield 77, 3) := by decide +kernel
theorem dX5_holes_5 : decode cX5_holes 5 = .ok (.iconst 0, 1) := by decide +kernel
theorem dX5_holes_6 : decode cX5_holes 6 = .ok (.istore_n 1, 1) := by decide +kernel
theorem dX5_holes_7 : decode cX5_holes 7 = .ok (.iconst 0, 1) := by decide +kernel
theorem dX5_holes_8 : decode cX5_holes 8 = .ok (.istore_n 2, 1) := by decide +kernel
theorem dX5_holes_9 : decode cX5_holes 9 = .ok (.iload_n 2, 1) := by decide +kernel
theorem dX5_holes_10 : decode cX5_holes 10 = .ok (.bipush 100, 2) := by decide +kernel
theorem dX5_holes_12 : decode cX5_holes 12 = .ok (.if_icmp .ge 70, 3) := by decide +kernel
theorem dX5_holes_15 : decode cX5_holes 15 = .ok (.iconst 0, 1) := by decide +kernel
theorem dX5_holes_16 : decode cX5_holes 16 = .ok (.istore_n 3, 1) := by decide +kernel
theorem dX5_holes_17 : decode cX5_holes 17 = .ok (.iconst 0, 1) := by decide +kernel
theorem dX5_holes_18 : decode cX5_holes 18 = .ok (.istore 4, 2) := by decide +kernel
theorem dX5_holes_20 : decode cX5_holes 20 = .ok (.iload 4, 2) := by decide +kernel
theorem dX5_holes_22 : decode cX5_holes 22 = .ok (.aload_n 0, 1) := by decide +kernel
theorem dX5_holes_23 : decode cX5_holes 23 = .ok (.getfield 81, 3) := by decide +kernel
theorem dX5_holes_26 : decode cX5_holes 26 = .ok (.if_icmp .ge 38, 3) := by decide +kernel
theorem dX5_holes_29 : decode cX5_holes 29 = .ok (.iload_n 3, 1) := by decide +kernel
theorem dX5_holes_30 : decode cX5_holes 30 = .ok (.ifCond .ne 22, 3) := by decide +kernel
theorem dX5_holes_33 : decode cX5_holes 33 = .ok (.aload_n 0, 1) := by decide +kernel
theorem dX5_holes_34 : decode cX5_holes 34 = .ok (.iload 4, 2) := by decide +kernel
theorem dX5_holes_36 : decode cX5_holes 36 = .ok (.invokevirtual 111, 3) := by decide +kernel
theorem dX5_holes_39 : decode cX5_holes 39 = .ok (.ifCond .eq 17, 3) := by decide +kernel
theorem dX5_holes_42 : decode cX5_holes 42 = .ok (.aload_n 0, 1) := by decide +kernel
theorem dX5_holes_43 : decode cX5_holes 43 = .ok (.iload 4, 2) := by decide +kernel
theorem dX5_holes_45 : decode cX5_holes 45 = .ok (.iload_n 2, 1) := by decide +kernel
theorem dX5_holes_46 : decode cX5_holes 46 = .ok (.invokevirtual 114, 3) := by decide +kernel
theorem dX5_holes_49 : decode cX5_holes 49 = .ok (.ifCond .eq 7, 3) := by decide +kernel
theorem dX5_holes_52 : decode cX5_holes 52 = .ok (.iconst 1, 1) := by decide +kernel
theorem dX5_holes_53 : decode cX5_holes 53 = .ok (.goto 4, 3) := by decide +kernel
theorem dX5_holes_56 : decode cX5_holes 56 = .ok (.iconst 0, 1) := by decide +kernel
theorem dX5_holes_57 : decode cX5_holes 57 = .ok (.istore_n 3, 1) := by decide +kernel
theorem dX5_holes_58 : decode cX5_holes 58 = .ok (.iinc 4 1, 3) := by decide +kernel
theorem dX5_holes_61 : decode cX5_holes 61 = .ok (.goto (-41), 3) := by decide +kernel
theorem dX5_holes_64 : decode cX5_holes 64 = .ok (.iload_n 1, 1) := by decide +kernel
theorem dX5_holes_65 : decode cX5_holes 65 = .ok (.iload_n 3, 1) := by decide +kernel
theorem dX5_holes_66 : decode cX5_holes 66 = .ok (.ifCond .eq 7, 3) := by decide +kernel
theorem dX5_holes_69 : decode cX5_holes 69 = .ok (.iconst 0, 1) := by decide +kernel
theorem dX5_holes_70 : decode cX5_holes 70 = .ok (.goto 4, 3) := by decide +kernel
theorem dX5_holes_73 : decode cX5_holes 73 = .ok (.iconst 1, 1) := by decide +kernel
theorem dX5_holes_74 : decode cX5_holes 74 = .ok (.iadd, 1) := by decide +kernel
theorem dX5_holes_75 : decode cX5_holes 75 = .ok (.istore_n 1, 1) := by decide +kernel
theorem dX5_holes_76 : decode cX5_holes 76 = .ok (.iinc 2 1, 3) := by decide +kernel
theorem dX5_holes_79 : decode cX5_holes 79 = .ok (.goto (-70), 3) := by decide +kernel
theorem dX5_holes_82 : decode cX5_holes 82 = .ok (.iload_n 1, 1) := by decide +kernel
theorem dX5_holes_83 : decode cX5_holes 83 = .ok (.ireturn, 1) := by decide +kernel
end
section
/-! decode rows: the law -/
theorem dL_mast_0 : decode cL_mast 0 = .ok (.aload 7, 2) := by decide +kernel
theorem dL_mast_2 : decode cL_mast 2 = .ok (.iconst 0, 1) := by decide +kernel
theorem dL_mast_3 : decode cL_mast 3 = .ok (.aload_n 0, 1) := by decide +kernel
theorem dL_mast_4 : decode cL_mast 4 = .ok (.iload_n 1, 1) := by decide +kernel
theorem dL_mast_5 : decode cL_mast 5 = .ok (.iload_n 2, 1) := by decide +kernel
theorem dL_mast_6 : decode cL_mast 6 = .ok (.iload_n 3, 1) := by decide +kernel
theorem dL_mast_7 : decode cL_mast 7 = .ok (.iload 4, 2) := by decide +kernel
theorem dL_mast_9 : decode cL_mast 9 = .ok (.iload 5, 2) := by decide +kernel
theorem dL_mast_11 : decode cL_mast 11 = .ok (.iload 6, 2) := by decide +kernel
theorem dL_mast_13 : decode cL_mast 13 = .ok (.invokevirtual 7, 3) := by decide +kernel
theorem dL_mast_16 : decode cL_mast 16 = .ok (.i2l, 1) := by decide +kernel
theorem dL_mast_17 : decode cL_mast 17 = .ok (.lastore, 1) := by decide +kernel
theorem dL_mast_18 : decode cL_mast 18 = .ok (.goto 11, 3) := by decide +kernel
theorem dL_mast_21 : decode cL_mast 21 = .ok (.astore 8, 2) := by decide +kernel
theorem dL_mast_23 : decode cL_mast 23 = .ok (.iconst 1, 1) := by decide +kernel
theorem dL_mast_24 : decode cL_mast 24 = .ok (.ireturn, 1) := by decide +kernel
theorem dL_mast_25 : decode cL_mast 25 = .ok (.astore 8, 2) := by decide +kernel
theorem dL_mast_27 : decode cL_mast 27 = .ok (.iconst 2, 1) := by decide +kernel
theorem dL_mast_28 : decode cL_mast 28 = .ok (.ireturn, 1) := by decide +kernel
theorem dL_mast_29 : decode cL_mast 29 = .ok (.iconst 0, 1) := by decide +kernel
theorem dL_mast_30 : decode cL_mast 30 = .ok (.ireturn, 1) := by decide +kernel
theorem dL_lease_0 : decode cL_lease 0 = .ok (.aload_n 0, 1) := by decide +kernel
theorem dL_lease_1 : decode cL_lease 1 = .ok (.iload_n 1, 1) := by decide +kernel
theorem dL_lease_2 : decode cL_lease 2 = .ok (.iload_n 2, 1) := by decide +kernel
theorem dL_lease_3 : decode cL_lease 3 = .ok (.iload_n 3, 1) := by decide +kernel
theorem dL_lease_4 : decode cL_lease 4 = .ok (.iload 4, 2) := by decide +kernel
theorem dL_lease_6 : decode cL_lease 6 = .ok (.iload 5, 2) := by decide +kernel
theorem dL_lease_8 : decode cL_lease 8 = .ok (.iload 6, 2) := by decide +kernel
theorem dL_lease_10 : decode cL_lease 10 = .ok (.iload 7, 2) := by decide +kernel
theorem dL_lease_12 : decode cL_lease 12 = .ok (.invokevirtual 17, 3) := by decide +kernel
theorem dL_lease_15 : decode cL_lease 15 = .ok (.goto 15, 3) := by decide +kernel
theorem dL_lease_18 : decode cL_lease 18 = .ok (.astore 8, 2) := by decide +kernel
theorem dL_lease_20 : decode cL_lease 20 = .ok (.iconst 1, 1) := by decide +kernel
theorem dL_lease_21 : decode cL_lease 21 = .ok (.ireturn, 1) := by decide +kernel
theorem dL_lease_22 : decode cL_lease 22 = .ok (.astore 8, 2) := by decide +kernel
theorem dL_lease_24 : decode cL_lease 24 = .ok (.iconst 2, 1) := by decide +kernel
theorem dL_lease_25 : decode cL_lease 25 = .ok (.ireturn, 1) := by decide +kernel
theorem dL_lease_26 : decode cL_lease 26 = .ok (.astore 8, 2) := by decide +kernel
theorem dL_lease_28 : decode cL_lease 28 = .ok (.iconst 3, 1) := by decide +kernel
theorem dL_lease_29 : decode cL_lease 29 = .ok (.ireturn, 1) := by decide +kernel
theorem dL_lease_30 : decode cL_lease 30 = .ok (.iconst 0, 1) := by decide +kernel
theorem dL_lease_31 : decode cL_lease 31 = .ok (.ireturn, 1) := by decide +kernel
theorem dL_sun_0 : decode cL_sun 0 = .ok (.aload_n 2, 1) := by decide +kernel
theorem dL_sun_1 : decode cL_sun 1 = .ok (.iconst 0, 1) := by decide +kernel
theorem dL_sun_2 : decode cL_sun 2 = .ok (.aload_n 0, 1) := by decide +kernel
theorem dL_sun_3 : decode cL_sun 3 = .ok (.iload_n 1, 1) := by decide +kernel
theorem dL_sun_4 : decode cL_sun 4 = .ok (.invokevirtual 23, 3) := by decide +kernel
theorem dL_sun_7 : decode cL_sun 7 = .ok (.i2l, 1) := by decide +kernel
theorem dL_sun_8 : decode cL_sun 8 = .ok (.lastore, 1) := by decide +kernel
theorem dL_sun_9 : decode cL_sun 9 = .ok (.goto 6, 3) := by decide +kernel
theorem dL_sun_12 : decode cL_sun 12 = .ok (.astore_n 3, 1) := by decide +kernel
theorem dL_sun_13 : decode cL_sun 13 = .ok (.iconst 1, 1) := by decide +kernel
theorem dL_sun_14 : decode cL_sun 14 = .ok (.ireturn, 1) := by decide +kernel
theorem dL_sun_15 : decode cL_sun 15 = .ok (.iconst 0, 1) := by decide +kernel
theorem dL_sun_16 : decode cL_sun 16 = .ok (.ireturn, 1) := by decide +kernel
theorem dL_phone_0 : decode cL_phone 0 = .ok (.aload_n 2, 1) := by decide +kernel
theorem dL_phone_1 : decode cL_phone 1 = .ok (.iconst 0, 1) := by decide +kernel
theorem dL_phone_2 : decode cL_phone 2 = .ok (.aload_n 0, 1) := by decide +kernel
theorem dL_phone_3 : decode cL_phone 3 = .ok (.iload_n 1, 1) := by decide +kernel
theorem dL_phone_4 : decode cL_phone 4 = .ok (.invokevirtual 27, 3) := by decide +kernel
theorem dL_phone_7 : decode cL_phone 7 = .ok (.i2l, 1) := by decide +kernel
theorem dL_phone_8 : decode cL_phone 8 = .ok (.lastore, 1) := by decide +kernel
theorem dL_phone_9 : decode cL_phone 9 = .ok (.goto 9, 3) := by decide +kernel
theorem dL_phone_12 : decode cL_phone 12 = .ok (.astore_n 3, 1) := by decide +kernel
theorem dL_phone_13 : decode cL_phone 13 = .ok (.iconst 1, 1) := by decide +kernel
theorem dL_phone_14 : decode cL_phone 14 = .ok (.ireturn, 1) := by decide +kernel
theorem dL_phone_15 : decode cL_phone 15 = .ok (.astore_n 3, 1) := by decide +kernel
theorem dL_phone_16 : decode cL_phone 16 = .ok (.iconst 2, 1) := by decide +kernel
theorem dL_phone_17 : decode cL_phone 17 = .ok (.ireturn, 1) := by decide +kernel
theorem dL_phone_18 : decode cL_phone 18 = .ok (.iconst 0, 1) := by decide +kernel
theorem dL_phone_19 : decode cL_phone 19 = .ok (.ireturn, 1) := by decide +kernel
theorem dL_call_0 : decode cL_call 0 = .ok (.aload_n 2, 1) := by decide +kernel
theorem dL_call_1 : decode cL_call 1 = .ok (.iconst 0, 1) := by decide +kernel
theorem dL_call_2 : decode cL_call 2 = .ok (.aload_n 0, 1) := by decide +kernel
theorem dL_call_3 : decode cL_call 3 = .ok (.iload_n 1, 1) := by decide +kernel
theorem dL_call_4 : decode cL_call 4 = .ok (.invokevirtual 30, 3) := by decide +kernel
theorem dL_call_7 : decode cL_call 7 = .ok (.i2l, 1) := by decide +kernel
theorem dL_call_8 : decode cL_call 8 = .ok (.lastore, 1) := by decide +kernel
theorem dL_call_9 : decode cL_call 9 = .ok (.goto 9, 3) := by decide +kernel
theorem dL_call_12 : decode cL_call 12 = .ok (.astore_n 3, 1) := by decide +kernel
theorem dL_call_13 : decode cL_call 13 = .ok (.iconst 1, 1) := by decide +kernel
theorem dL_call_14 : decode cL_call 14 = .ok (.ireturn, 1) := by decide +kernel
theorem dL_call_15 : decode cL_call 15 = .ok (.astore_n 3, 1) := by decide +kernel
theorem dL_call_16 : decode cL_call 16 = .ok (.iconst 2, 1) := by decide +kernel
theorem dL_call_17 : decode cL_call 17 = .ok (.ireturn, 1) := by decide +kernel
theorem dL_call_18 : decode cL_call 18 = .ok (.iconst 0, 1) := by decide +kernel
theorem dL_call_19 : decode cL_call 19 = .ok (.ireturn, 1) := by decide +kernel
theorem dL_end_0 : decode cL_end 0 = .ok (.aload_n 2, 1) := by decide +kernel
theorem dL_end_1 : decode cL_end 1 = .ok (.iconst 0, 1) := by decide +kernel
theorem dL_end_2 : decode cL_end 2 = .ok (.aload_n 0, 1) := by decide +kernel
theorem dL_end_3 : decode cL_end 3 = .ok (.iload_n 1, 1) := by decide +kernel
theorem dL_end_4 : decode cL_end 4 = .ok (.invokevirtual 33, 3) := by decide +kernel
theorem dL_end_7 : decode cL_end 7 = .ok (.i2l, 1) := by decide +kernel
theorem dL_end_8 : decode cL_end 8 = .ok (.lastore, 1) := by decide +kernel
theorem dL_end_9 : decode cL_end 9 = .ok (.goto 9, 3) := by decide +kernel
theorem dL_end_12 : decode cL_end 12 = .ok (.astore_n 3, 1) := by decide +kernel
theorem dL_end_13 : decode cL_end 13 = .ok (.iconst 1, 1) := by decide +kernel
theorem dL_end_14 : decode cL_end 14 = .ok (.ireturn, 1) := by decide +kernel
theorem dL_end_15 : decode cL_end 15 = .ok (.astore_n 3, 1) := by decide +kernel
theorem dL_end_16 : decode cL_end 16 = .ok (.iconst 2, 1) := by decide +kernel
theorem dL_end_17 : decode cL_end 17 = .ok (.ireturn, 1) := by decide +kernel
theorem dL_end_18 : decode cL_end 18 = .ok (.iconst 0, 1) := by decide +kernel
theorem dL_end_19 : decode cL_end 19 = .ok (.ireturn, 1) := by decide +kernel
theorem dL_move_0 : decode cL_move 0 = .ok (.aload_n 3, 1) := by decide +kernel
theorem dL_move_1 : decode cL_move 1 = .ok (.iconst 0, 1) := by decide +kernel
theorem dL_move_2 : decode cL_move 2 = .ok (.aload_n 0, 1) := by decide +kernel
theorem dL_move_3 : decode cL_move 3 = .ok (.iload_n 1, 1) := by decide +kernel
theorem dL_move_4 : decode cL_move 4 = .ok (.iload_n 2, 1) := by decide +kernel
theorem dL_move_5 : decode cL_move 5 = .ok (.invokevirtual 36, 3) := by decide +kernel
theorem dL_move_8 : decode cL_move 8 = .ok (.i2l, 1) := by decide +kernel
theorem dL_move_9 : decode cL_move 9 = .ok (.lastore, 1) := by decide +kernel
theorem dL_move_10 : decode cL_move 10 = .ok (.goto 11, 3) := by decide +kernel
theorem dL_move_13 : decode cL_move 13 = .ok (.astore 4, 2) := by decide +kernel
theorem dL_move_15 : decode cL_move 15 = .ok (.iconst 1, 1) := by decide +kernel
theorem dL_move_16 : decode cL_move 16 = .ok (.ireturn, 1) := by decide +kernel
theorem dL_move_17 : decode cL_move 17 = .ok (.astore 4, 2) := by decide +kernel
theorem dL_move_19 : decode cL_move 19 = .ok (.iconst 2, 1) := by decide +kernel
theorem dL_move_20 : decode cL_move 20 = .ok (.ireturn, 1) := by decide +kernel
theorem dL_move_21 : decode cL_move 21 = .ok (.iconst 0, 1) := by decide +kernel
theorem dL_move_22 : decode cL_move 22 = .ok (.ireturn, 1) := by decide +kernel
theorem dL_pass_0 : decode cL_pass 0 = .ok (.aload_n 2, 1) := by decide +kernel
theorem dL_pass_1 : decode cL_pass 1 = .ok (.iconst 0, 1) := by decide +kernel
theorem dL_pass_2 : decode cL_pass 2 = .ok (.aload_n 0, 1) := by decide +kernel
theorem dL_pass_3 : decode cL_pass 3 = .ok (.iload_n 1, 1) := by decide +kernel
theorem dL_pass_4 : decode cL_pass 4 = .ok (.invokevirtual 40, 3) := by decide +kernel
theorem dL_pass_7 : decode cL_pass 7 = .ok (.i2l, 1) := by decide +kernel
theorem dL_pass_8 : decode cL_pass 8 = .ok (.lastore, 1) := by decide +kernel
theorem dL_pass_9 : decode cL_pass 9 = .ok (.goto 9, 3) := by decide +kernel
theorem dL_pass_12 : decode cL_pass 12 = .ok (.astore_n 3, 1) := by decide +kernel
theorem dL_pass_13 : decode cL_pass 13 = .ok (.iconst 1, 1) := by decide +kernel
theorem dL_pass_14 : decode cL_pass 14 = .ok (.ireturn, 1) := by decide +kernel
theorem dL_pass_15 : decode cL_pass 15 = .ok (.astore_n 3, 1) := by decide +kernel
theorem dL_pass_16 : decode cL_pass 16 = .ok (.iconst 2, 1) := by decide +kernel
theorem dL_pass_17 : decode cL_pass 17 = .ok (.ireturn, 1) := by decide +kernel
theorem dL_pass_18 : decode cL_pass 18 = .ok (.iconst 0, 1) := by decide +kernel
theorem dL_pass_19 : decode cL_pass 19 = .ok (.ireturn, 1) := by decide +kernel
theorem dL_ofMast_0 : decode cL_ofMast 0 = .ok (.aload_n 3, 1) := by decide +kernel
theorem dL_ofMast_1 : decode cL_ofMast 1 = .ok (.iconst 0, 1) := by decide +kernel
theorem dL_ofMast_2 : decode cL_ofMast 2 = .ok (.aload_n 0, 1) := by decide +kernel
theorem dL_ofMast_3 : decode cL_ofMast 3 = .ok (.iload_n 1, 1) := by decide +kernel
theorem dL_ofMast_4 : decode cL_ofMast 4 = .ok (.iload_n 2, 1) := by decide +kernel
theorem dL_ofMast_5 : decode cL_ofMast 5 = .ok (.invokevirtual 43, 3) := by decide +kernel
theorem dL_ofMast_8 : decode cL_ofMast 8 = .ok (.i2l, 1) := by decide +kernel
theorem dL_ofMast_9 : decode cL_ofMast 9 = .ok (.lastore, 1) := by decide +kernel
theorem dL_ofMast_10 : decode cL_ofMast 10 = .ok (.goto 11, 3) := by decide +kernel
theorem dL_ofMast_13 : decode cL_ofMast 13 = .ok (.astore 4, 2) := by decide +kernel
theorem dL_ofMast_15 : decode cL_ofMast 15 = .ok (.iconst 1, 1) := by decide +kernel
theorem dL_ofMast_16 : decode cL_ofMast 16 = .ok (.ireturn, 1) := by decide +kernel
theorem dL_ofMast_17 : decode cL_ofMast 17 = .ok (.astore 4, 2) := by decide +kernel
theorem dL_ofMast_19 : decode cL_ofMast 19 = .ok (.iconst 2, 1) := by decide +kernel
theorem dL_ofMast_20 : decode cL_ofMast 20 = .ok (.ireturn, 1) := by decide +kernel
theorem dL_ofMast_21 : decode cL_ofMast 21 = .ok (.iconst 0, 1) := by decide +kernel
theorem dL_ofMast_22 : decode cL_ofMast 22 = .ok (.ireturn, 1) := by decide +kernel
theorem dL_trafficAnew_0 : decode cL_trafficAnew 0 = .ok (.aload_n 2, 1) := by decide +kernel
theorem dL_trafficAnew_1 : decode cL_trafficAnew 1 = .ok (.iconst 0, 1) := by decide +kernel
theorem dL_trafficAnew_2 : decode cL_trafficAnew 2 = .ok (.aload_n 0, 1) := by decide +kernel
theorem dL_trafficAnew_3 : decode cL_trafficAnew 3 = .ok (.iload_n 1, 1) := by decide +kernel
theorem dL_trafficAnew_4 : decode cL_trafficAnew 4 = .ok (.invokevirtual 46, 3) := by decide +kernel
theorem dL_trafficAnew_7 : decode cL_trafficAnew 7 = .ok (.i2l, 1) := by decide +kernel
theorem dL_trafficAnew_8 : decode cL_trafficAnew 8 = .ok (.lastore, 1) := by decide +kernel
theorem dL_trafficAnew_9 : decode cL_trafficAnew 9 = .ok (.goto 6, 3) := by decide +kernel
theorem dL_trafficAnew_12 : decode cL_trafficAnew 12 = .ok (.astore_n 3, 1) := by decide +kernel
theorem dL_trafficAnew_13 : decode cL_trafficAnew 13 = .ok (.iconst 1, 1) := by decide +kernel
theorem dL_trafficAnew_14 : decode cL_trafficAnew 14 = .ok (.ireturn, 1) := by decide +kernel
theorem dL_trafficAnew_15 : decode cL_trafficAnew 15 = .ok (.iconst 0, 1) := by decide +kernel
theorem dL_trafficAnew_16 : decode cL_trafficAnew 16 = .ok (.ireturn, 1) := by decide +kernel
theorem dL_ofPhone_0 : decode cL_ofPhone 0 = .ok (.aload_n 3, 1) := by decide +kernel
theorem dL_ofPhone_1 : decode cL_ofPhone 1 = .ok (.iconst 0, 1) := by decide +kernel
theorem dL_ofPhone_2 : decode cL_ofPhone 2 = .ok (.aload_n 0, 1) := by decide +kernel
theorem dL_ofPhone_3 : decode cL_ofPhone 3 = .ok (.iload_n 1, 1) := by decide +kernel
theorem dL_ofPhone_4 : decode cL_ofPhone 4 = .ok (.iload_n 2, 1) := by decide +kernel
theorem dL_ofPhone_5 : decode cL_ofPhone 5 = .ok (.invokevirtual 49, 3) := by decide +kernel
theorem dL_ofPhone_8 : decode cL_ofPhone 8 = .ok (.i2l, 1) := by decide +kernel
theorem dL_ofPhone_9 : decode cL_ofPhone 9 = .ok (.lastore, 1) := by decide +kernel
theorem dL_ofPhone_10 : decode cL_ofPhone 10 = .ok (.goto 11, 3) := by decide +kernel
theorem dL_ofPhone_13 : decode cL_ofPhone 13 = .ok (.astore 4, 2) := by decide +kernel
theorem dL_ofPhone_15 : decode cL_ofPhone 15 = .ok (.iconst 1, 1) := by decide +kernel
theorem dL_ofPhone_16 : decode cL_ofPhone 16 = .ok (.ireturn, 1) := by decide +kernel
theorem dL_ofPhone_17 : decode cL_ofPhone 17 = .ok (.astore 4, 2) := by decide +kernel
theorem dL_ofPhone_19 : decode cL_ofPhone 19 = .ok (.iconst 2, 1) := by decide +kernel
theorem dL_ofPhone_20 : decode cL_ofPhone 20 = .ok (.ireturn, 1) := by decide +kernel
theorem dL_ofPhone_21 : decode cL_ofPhone 21 = .ok (.iconst 0, 1) := by decide +kernel
theorem dL_ofPhone_22 : decode cL_ofPhone 22 = .ok (.ireturn, 1) := by decide +kernel
theorem dL_strength_0 : decode cL_strength 0 = .ok (.aload_n 2, 1) := by decide +kernel
theorem dL_strength_1 : decode cL_strength 1 = .ok (.iconst 0, 1) := by decide +kernel
theorem dL_strength_2 : decode cL_strength 2 = .ok (.aload_n 0, 1) := by decide +kernel
theorem dL_strength_3 : decode cL_strength 3 = .ok (.iload_n 1, 1) := by decide +kernel
theorem dL_strength_4 : decode cL_strength 4 = .ok (.invokevirtual 52, 3) := by decide +kernel
theorem dL_strength_7 : decode cL_strength 7 = .ok (.f2d, 1) := by decide +kernel
theorem dL_strength_8 : decode cL_strength 8 = .ok (.dastore, 1) := by decide +kernel
theorem dL_strength_9 : decode cL_strength 9 = .ok (.goto 6, 3) := by decide +kernel
theorem dL_strength_12 : decode cL_strength 12 = .ok (.astore_n 3, 1) := by decide +kernel
theorem dL_strength_13 : decode cL_strength 13 = .ok (.iconst 1, 1) := by decide +kernel
theorem dL_strength_14 : decode cL_strength 14 = .ok (.ireturn, 1) := by decide +kernel
theorem dL_strength_15 : decode cL_strength 15 = .ok (.iconst 0, 1) := by decide +kernel
theorem dL_strength_16 : decode cL_strength 16 = .ok (.ireturn, 1) := by decide +kernel
theorem dL_paid_0 : decode cL_paid 0 = .ok (.aload_n 2, 1) := by decide +kernel
theorem dL_paid_1 : decode cL_paid 1 = .ok (.iconst 0, 1) := by decide +kernel
theorem dL_paid_2 : decode cL_paid 2 = .ok (.aload_n 0, 1) := by decide +kernel
theorem dL_paid_3 : decode cL_paid 3 = .ok (.iload_n 1, 1) := by decide +kernel
theorem dL_paid_4 : decode cL_paid 4 = .ok (.invokevirtual 56, 3) := by decide +kernel
theorem dL_paid_7 : decode cL_paid 7 = .ok (.i2l, 1) := by decide +kernel
theorem dL_paid_8 : decode cL_paid 8 = .ok (.lastore, 1) := by decide +kernel
theorem dL_paid_9 : decode cL_paid 9 = .ok (.goto 6, 3) := by decide +kernel
theorem dL_paid_12 : decode cL_paid 12 = .ok (.astore_n 3, 1) := by decide +kernel
theorem dL_paid_13 : decode cL_paid 13 = .ok (.iconst 1, 1) := by decide +kernel
theorem dL_paid_14 : decode cL_paid 14 = .ok (.ireturn, 1) := by decide +kernel
theorem dL_paid_15 : decode cL_paid 15 = .ok (.iconst 0, 1) := by decide +kernel
theorem dL_paid_16 : decode cL_paid 16 = .ok (.ireturn, 1) := by decide +kernel
theorem dL_law_0 : decode cL_law 0 = .ok (.new 8, 3) := by decide +kernel
theorem dL_law_3 : decode cL_law 3 = .ok (.dup, 1) := by decide +kernel
theorem dL_law_4 : decode cL_law 4 = .ok (.invokespecial 59, 3) := by decide +kernel
theorem dL_law_7 : decode cL_law 7 = .ok (.astore_n 1, 1) := by decide +kernel
theorem dL_law_8 : decode cL_law 8 = .ok (.new 60, 3) := by decide +kernel
theorem dL_law_11 : decode cL_law 11 = .ok (.dup, 1) := by decide +kernel
theorem dL_law_12 : decode cL_law 12 = .ok (.invokespecial 62, 3) := by decide +kernel
theorem dL_law_15 : decode cL_law 15 = .ok (.astore_n 2, 1) := by decide +kernel
theorem dL_law_16 : decode cL_law 16 = .ok (.iconst 1, 1) := by decide +kernel
theorem dL_law_17 : decode cL_law 17 = .ok (.newarray .long, 2) := by decide +kernel
theorem dL_law_19 : decode cL_law 19 = .ok (.astore_n 3, 1) := by decide +kernel
theorem dL_law_20 : decode cL_law 20 = .ok (.iconst 1, 1) := by decide +kernel
theorem dL_law_21 : decode cL_law 21 = .ok (.newarray .double, 2) := by decide +kernel
theorem dL_law_23 : decode cL_law 23 = .ok (.astore 4, 2) := by decide +kernel
theorem dL_law_25 : decode cL_law 25 = .ok (.iconst 0, 1) := by decide +kernel
theorem dL_law_26 : decode cL_law 26 = .ok (.istore 5, 2) := by decide +kernel
theorem dL_law_28 : decode cL_law 28 = .ok (.iload 5, 2) := by decide +kernel
theorem dL_law_30 : decode cL_law 30 = .ok (.aload_n 0, 1) := by decide +kernel
theorem dL_law_31 : decode cL_law 31 = .ok (.arraylength, 1) := by decide +kernel
theorem dL_law_32 : decode cL_law 32 = .ok (.bipush 8, 2) := by decide +kernel
theorem dL_law_34 : decode cL_law 34 = .ok (.isub, 1) := by decide +kernel
theorem dL_law_35 : decode cL_law 35 = .ok (.if_icmp .gt 1020, 3) := by decide +kernel
theorem dL_law_38 : decode cL_law 38 = .ok (.aload_n 0, 1) := by decide +kernel
theorem dL_law_39 : decode cL_law 39 = .ok (.iload 5, 2) := by decide +kernel
theorem dL_law_41 : decode cL_law 41 = .ok (.iaload, 1) := by decide +kernel
theorem dL_law_42 : decode cL_law 42 = .ok (.bipush 15, 2) := by decide +kernel
theorem dL_law_44 : decode cL_law 44 = .ok (.iand, 1) := by decide +kernel
theorem dL_law_45 : decode cL_law 45 = .ok (.tableswitch 1004 0 13 #[71, 205, 317, 373, 429, 485, 541, 609, 665, 733, 789, 857, 935, 991], 71) := by decide +kernel
theorem dL_law_116 : decode cL_law 116 = .ok (.aload_n 1, 1) := by decide +kernel
theorem dL_law_117 : decode cL_law 117 = .ok (.aload_n 0, 1) := by decide +kernel
theorem dL_law_118 : decode cL_law 118 = .ok (.iload 5, 2) := by decide +kernel
theorem dL_law_120 : decode cL_law 120 = .ok (.iconst 1, 1) := by decide +kernel
theorem dL_law_121 : decode cL_law 121 = .ok (.iadd, 1) := by decide +kernel
theorem dL_law_122 : decode cL_law 122 = .ok (.iaload, 1) := by decide +kernel
theorem dL_law_123 : decode cL_law 123 = .ok (.aload_n 0, 1) := by decide +kernel
theorem dL_law_124 : decode cL_law 124 = .ok (.iload 5, 2) := by decide +kernel
theorem dL_law_126 : decode cL_law 126 = .ok (.iconst 2, 1) := by decide +kernel
theorem dL_law_127 : decode cL_law 127 = .ok (.iadd, 1) := by decide +kernel
theorem dL_law_128 : decode cL_law 128 = .ok (.iaload, 1) := by decide +kernel
theorem dL_law_129 : decode cL_law 129 = .ok (.aload_n 0, 1) := by decide +kernel
theorem dL_law_130 : decode cL_law 130 = .ok (.iload 5, 2) := by decide +kernel
theorem dL_law_132 : decode cL_law 132 = .ok (.iconst 3, 1) := by decide +kernel
theorem dL_law_133 : decode cL_law 133 = .ok (.iadd, 1) := by decide +kernel
theorem dL_law_134 : decode cL_law 134 = .ok (.iaload, 1) := by decide +kernel
theorem dL_law_135 : decode cL_law 135 = .ok (.aload_n 0, 1) := by decide +kernel
theorem dL_law_136 : decode cL_law 136 = .ok (.iload 5, 2) := by decide +kernel
theorem dL_law_138 : decode cL_law 138 = .ok (.iconst 4, 1) := by decide +kernel
theorem dL_law_139 : decode cL_law 139 = .ok (.iadd, 1) := by decide +kernel
theorem dL_law_140 : decode cL_law 140 = .ok (.iaload, 1) := by decide +kernel
theorem dL_law_141 : decode cL_law 141 = .ok (.aload_n 0, 1) := by decide +kernel
theorem dL_law_142 : decode cL_law 142 = .ok (.iload 5, 2) := by decide +kernel
theorem dL_law_144 : decode cL_law 144 = .ok (.iconst 5, 1) := by decide +kernel
theorem dL_law_145 : decode cL_law 145 = .ok (.iadd, 1) := by decide +kernel
theorem dL_law_146 : decode cL_law 146 = .ok (.iaload, 1) := by decide +kernel
theorem dL_law_147 : decode cL_law 147 = .ok (.aload_n 0, 1) := by decide +kernel
theorem dL_law_148 : decode cL_law 148 = .ok (.iload 5, 2) := by decide +kernel
theorem dL_law_150 : decode cL_law 150 = .ok (.bipush 6, 2) := by decide +kernel
theorem dL_law_152 : decode cL_law 152 = .ok (.iadd, 1) := by decide +kernel
theorem dL_law_153 : decode cL_law 153 = .ok (.iaload, 1) := by decide +kernel
theorem dL_law_154 : decode cL_law 154 = .ok (.ifCond .eq 7, 3) := by decide +kernel
theorem dL_law_157 : decode cL_law 157 = .ok (.iconst 1, 1) := by decide +kernel
theorem dL_law_158 : decode cL_law 158 = .ok (.goto 4, 3) := by decide +kernel
theorem dL_law_161 : decode cL_law 161 = .ok (.iconst 0, 1) := by decide +kernel
theorem dL_law_162 : decode cL_law 162 = .ok (.aload_n 3, 1) := by decide +kernel
theorem dL_law_163 : decode cL_law 163 = .ok (.invokestatic 63, 3) := by decide +kernel
theorem dL_law_166 : decode cL_law 166 = .ok (.istore 6, 2) := by decide +kernel
theorem dL_law_168 : decode cL_law 168 = .ok (.aload_n 2, 1) := by decide +kernel
theorem dL_law_169 : decode cL_law 169 = .ok (.aload_n 0, 1) := by decide +kernel
theorem dL_law_170 : decode cL_law 170 = .ok (.iload 5, 2) := by decide +kernel
theorem dL_law_172 : decode cL_law 172 = .ok (.iconst 1, 1) := by decide +kernel
theorem dL_law_173 : decode cL_law 173 = .ok (.iadd, 1) := by decide +kernel
theorem dL_law_174 : decode cL_law 174 = .ok (.iaload, 1) := by decide +kernel
theorem dL_law_175 : decode cL_law 175 = .ok (.aload_n 0, 1) := by decide +kernel
theorem dL_law_176 : decode cL_law 176 = .ok (.iload 5, 2) := by decide +kernel
theorem dL_law_178 : decode cL_law 178 = .ok (.iconst 2, 1) := by decide +kernel
theorem dL_law_179 : decode cL_law 179 = .ok (.iadd, 1) := by decide +kernel
theorem dL_law_180 : decode cL_law 180 = .ok (.iaload, 1) := by decide +kernel
theorem dL_law_181 : decode cL_law 181 = .ok (.aload_n 0, 1) := by decide +kernel
theorem dL_law_182 : decode cL_law 182 = .ok (.iload 5, 2) := by decide +kernel
theorem dL_law_184 : decode cL_law 184 = .ok (.iconst 3, 1) := by decide +kernel
theorem dL_law_185 : decode cL_law 185 = .ok (.iadd, 1) := by decide +kernel
theorem dL_law_186 : decode cL_law 186 = .ok (.iaload, 1) := by decide +kernel
theorem dL_law_187 : decode cL_law 187 = .ok (.aload_n 0, 1) := by decide +kernel
theorem dL_law_188 : decode cL_law 188 = .ok (.iload 5, 2) := by decide +kernel
theorem dL_law_190 : decode cL_law 190 = .ok (.iconst 4, 1) := by decide +kernel
theorem dL_law_191 : decode cL_law 191 = .ok (.iadd, 1) := by decide +kernel
theorem dL_law_192 : decode cL_law 192 = .ok (.iaload, 1) := by decide +kernel
theorem dL_law_193 : decode cL_law 193 = .ok (.aload_n 0, 1) := by decide +kernel
theorem dL_law_194 : decode cL_law 194 = .ok (.iload 5, 2) := by decide +kernel
theorem dL_law_196 : decode cL_law 196 = .ok (.iconst 5, 1) := by decide +kernel
theorem dL_law_197 : decode cL_law 197 = .ok (.iadd, 1) := by decide +kernel
theorem dL_law_198 : decode cL_law 198 = .ok (.iaload, 1) := by decide +kernel
theorem dL_law_199 : decode cL_law 199 = .ok (.aload_n 0, 1) := by decide +kernel
theorem dL_law_200 : decode cL_law 200 = .ok (.iload 5, 2) := by decide +kernel
theorem dL_law_202 : decode cL_law 202 = .ok (.bipush 6, 2) := by decide +kernel
theorem dL_law_204 : decode cL_law 204 = .ok (.iadd, 1) := by decide +kernel
theorem dL_law_205 : decode cL_law 205 = .ok (.iaload, 1) := by decide +kernel
theorem dL_law_206 : decode cL_law 206 = .ok (.ifCond .eq 7, 3) := by decide +kernel
theorem dL_law_209 : decode cL_law 209 = .ok (.iconst 1, 1) := by decide +kernel
theorem dL_law_210 : decode cL_law 210 = .ok (.goto 4, 3) := by decide +kernel
theorem dL_law_213 : decode cL_law 213 = .ok (.iconst 0, 1) := by decide +kernel
theorem dL_law_214 : decode cL_law 214 = .ok (.invokevirtual 68, 3) := by decide +kernel
theorem dL_law_217 : decode cL_law 217 = .ok (.istore 7, 2) := by decide +kernel
theorem dL_law_219 : decode cL_law 219 = .ok (.aload_n 2, 1) := by decide +kernel
theorem dL_law_220 : decode cL_law 220 = .ok (.invokevirtual 69, 3) := by decide +kernel
theorem dL_law_223 : decode cL_law 223 = .ok (.iload 6, 2) := by decide +kernel
theorem dL_law_225 : decode cL_law 225 = .ok (.if_icmp .eq 5, 3) := by decide +kernel
theorem dL_law_228 : decode cL_law 228 = .ok (.iconst 0, 1) := by decide +kernel
theorem dL_law_229 : decode cL_law 229 = .ok (.ireturn, 1) := by decide +kernel
theorem dL_law_230 : decode cL_law 230 = .ok (.iload 6, 2) := by decide +kernel
theorem dL_law_232 : decode cL_law 232 = .ok (.ifCond .ne 15, 3) := by decide +kernel
theorem dL_law_235 : decode cL_law 235 = .ok (.aload_n 3, 1) := by decide +kernel
theorem dL_law_236 : decode cL_law 236 = .ok (.iconst 0, 1) := by decide +kernel
theorem dL_law_237 : decode cL_law 237 = .ok (.laload, 1) := by decide +kernel
theorem dL_law_238 : decode cL_law 238 = .ok (.iload 7, 2) := by decide +kernel
theorem dL_law_240 : decode cL_law 240 = .ok (.i2l, 1) := by decide +kernel
theorem dL_law_241 : decode cL_law 241 = .ok (.lcmp, 1) := by decide +kernel
theorem dL_law_242 : decode cL_law 242 = .ok (.ifCond .eq 5, 3) := by decide +kernel
theorem dL_law_245 : decode cL_law 245 = .ok (.iconst 0, 1) := by decide +kernel
theorem dL_law_246 : decode cL_law 246 = .ok (.ireturn, 1) := by decide +kernel
theorem dL_law_247 : decode cL_law 247 = .ok (.goto 802, 3) := by decide +kernel
theorem dL_law_250 : decode cL_law 250 = .ok (.aload_n 1, 1) := by decide +kernel
theorem dL_law_251 : decode cL_law 251 = .ok (.aload_n 0, 1) := by decide +kernel
theorem dL_law_252 : decode cL_law 252 = .ok (.iload 5, 2) := by decide +kernel
theorem dL_law_254 : decode cL_law 254 = .ok (.iconst 1, 1) := by decide +kernel
theorem dL_law_255 : decode cL_law 255 = .ok (.iadd, 1) := by decide +kernel
theorem dL_law_256 : decode cL_law 256 = .ok (.iaload, 1) := by decide +kernel
theorem dL_law_257 : decode cL_law 257 = .ok (.aload_n 0, 1) := by decide +kernel
theorem dL_law_258 : decode cL_law 258 = .ok (.iload 5, 2) := by decide +kernel
theorem dL_law_260 : decode cL_law 260 = .ok (.iconst 2, 1) := by decide +kernel
theorem dL_law_261 : decode cL_law 261 = .ok (.iadd, 1) := by decide +kernel
theorem dL_law_262 : decode cL_law 262 = .ok (.iaload, 1) := by decide +kernel
theorem dL_law_263 : decode cL_law 263 = .ok (.aload_n 0, 1) := by decide +kernel
theorem dL_law_264 : decode cL_law 264 = .ok (.iload 5, 2) := by decide +kernel
theorem dL_law_266 : decode cL_law 266 = .ok (.iconst 3, 1) := by decide +kernel
theorem dL_law_267 : decode cL_law 267 = .ok (.iadd, 1) := by decide +kernel
theorem dL_law_268 : decode cL_law 268 = .ok (.iaload, 1) := by decide +kernel
theorem dL_law_269 : decode cL_law 269 = .ok (.aload_n 0, 1) := by decide +kernel
theorem dL_law_270 : decode cL_law 270 = .ok (.iload 5, 2) := by decide +kernel
theorem dL_law_272 : decode cL_law 272 = .ok (.iconst 4, 1) := by decide +kernel
theorem dL_law_273 : decode cL_law 273 = .ok (.iadd, 1) := by decide +kernel
theorem dL_law_274 : decode cL_law 274 = .ok (.iaload, 1) := by decide +kernel
theorem dL_law_275 : decode cL_law 275 = .ok (.aload_n 0, 1) := by decide +kernel
theorem dL_law_276 : decode cL_law 276 = .ok (.iload 5, 2) := by decide +kernel
theorem dL_law_278 : decode cL_law 278 = .ok (.iconst 5, 1) := by decide +kernel
theorem dL_law_279 : decode cL_law 279 = .ok (.iadd, 1) := by decide +kernel
theorem dL_law_280 : decode cL_law 280 = .ok (.iaload, 1) := by decide +kernel
theorem dL_law_281 : decode cL_law 281 = .ok (.aload_n 0, 1) := by decide +kernel
theorem dL_law_282 : decode cL_law 282 = .ok (.iload 5, 2) := by decide +kernel
theorem dL_law_284 : decode cL_law 284 = .ok (.bipush 6, 2) := by decide +kernel
theorem dL_law_286 : decode cL_law 286 = .ok (.iadd, 1) := by decide +kernel
theorem dL_law_287 : decode cL_law 287 = .ok (.iaload, 1) := by decide +kernel
theorem dL_law_288 : decode cL_law 288 = .ok (.aload_n 0, 1) := by decide +kernel
theorem dL_law_289 : decode cL_law 289 = .ok (.iload 5, 2) := by decide +kernel
theorem dL_law_291 : decode cL_law 291 = .ok (.bipush 7, 2) := by decide +kernel
theorem dL_law_293 : decode cL_law 293 = .ok (.iadd, 1) := by decide +kernel
theorem dL_law_294 : decode cL_law 294 = .ok (.iaload, 1) := by decide +kernel
theorem dL_law_295 : decode cL_law 295 = .ok (.invokestatic 73, 3) := by decide +kernel
theorem dL_law_298 : decode cL_law 298 = .ok (.istore 6, 2) := by decide +kernel
theorem dL_law_300 : decode cL_law 300 = .ok (.aload_n 2, 1) := by decide +kernel
theorem dL_law_301 : decode cL_law 301 = .ok (.aload_n 0, 1) := by decide +kernel
theorem dL_law_302 : decode cL_law 302 = .ok (.iload 5, 2) := by decide +kernel
theorem dL_law_304 : decode cL_law 304 = .ok (.iconst 1, 1) := by decide +kernel
theorem dL_law_305 : decode cL_law 305 = .ok (.iadd, 1) := by decide +kernel
theorem dL_law_306 : decode cL_law 306 = .ok (.iaload, 1) := by decide +kernel
theorem dL_law_307 : decode cL_law 307 = .ok (.aload_n 0, 1) := by decide +kernel
theorem dL_law_308 : decode cL_law 308 = .ok (.iload 5, 2) := by decide +kernel
theorem dL_law_310 : decode cL_law 310 = .ok (.iconst 2, 1) := by decide +kernel
theorem dL_law_311 : decode cL_law 311 = .ok (.iadd, 1) := by decide +kernel
theorem dL_law_312 : decode cL_law 312 = .ok (.iaload, 1) := by decide +kernel
theorem dL_law_313 : decode cL_law 313 = .ok (.aload_n 0, 1) := by decide +kernel
theorem dL_law_314 : decode cL_law 314 = .ok (.iload 5, 2) := by decide +kernel
theorem dL_law_316 : decode cL_law 316 = .ok (.iconst 3, 1) := by decide +kernel
theorem dL_law_317 : decode cL_law 317 = .ok (.iadd, 1) := by decide +kernel
theorem dL_law_318 : decode cL_law 318 = .ok (.iaload, 1) := by decide +kernel
theorem dL_law_319 : decode cL_law 319 = .ok (.aload_n 0, 1) := by decide +kernel
theorem dL_law_320 : decode cL_law 320 = .ok (.iload 5, 2) := by decide +kernel
theorem dL_law_322 : decode cL_law 322 = .ok (.iconst 4, 1) := by decide +kernel
theorem dL_law_323 : decode cL_law 323 = .ok (.iadd, 1) := by decide +kernel
theorem dL_law_324 : decode cL_law 324 = .ok (.iaload, 1) := by decide +kernel
theorem dL_law_325 : decode cL_law 325 = .ok (.aload_n 0, 1) := by decide +kernel
theorem dL_law_326 : decode cL_law 326 = .ok (.iload 5, 2) := by decide +kernel
theorem dL_law_328 : decode cL_law 328 = .ok (.iconst 5, 1) := by decide +kernel
theorem dL_law_329 : decode cL_law 329 = .ok (.iadd, 1) := by decide +kernel
theorem dL_law_330 : decode cL_law 330 = .ok (.iaload, 1) := by decide +kernel
theorem dL_law_331 : decode cL_law 331 = .ok (.aload_n 0, 1) := by decide +kernel
theorem dL_law_332 : decode cL_law 332 = .ok (.iload 5, 2) := by decide +kernel
theorem dL_law_334 : decode cL_law 334 = .ok (.bipush 6, 2) := by decide +kernel
theorem dL_law_336 : decode cL_law 336 = .ok (.iadd, 1) := by decide +kernel
theorem dL_law_337 : decode cL_law 337 = .ok (.iaload, 1) := by decide +kernel
theorem dL_law_338 : decode cL_law 338 = .ok (.aload_n 0, 1) := by decide +kernel
theorem dL_law_339 : decode cL_law 339 = .ok (.iload 5, 2) := by decide +kernel
theorem dL_law_341 : decode cL_law 341 = .ok (.bipush 7, 2) := by decide +kernel
theorem dL_law_343 : decode cL_law 343 = .ok (.iadd, 1) := by decide +kernel
theorem dL_law_344 : decode cL_law 344 = .ok (.iaload, 1) := by decide +kernel
theorem dL_law_345 : decode cL_law 345 = .ok (.invokevirtual 76, 3) := by decide +kernel
theorem dL_law_348 : decode cL_law 348 = .ok (.aload_n 2, 1) := by decide +kernel
theorem dL_law_349 : decode cL_law 349 = .ok (.invokevirtual 69, 3) := by decide +kernel
theorem dL_law_352 : decode cL_law 352 = .ok (.iload 6, 2) := by decide +kernel
theorem dL_law_354 : decode cL_law 354 = .ok (.if_icmp .eq 5, 3) := by decide +kernel
theorem dL_law_357 : decode cL_law 357 = .ok (.iconst 0, 1) := by decide +kernel
theorem dL_law_358 : decode cL_law 358 = .ok (.ireturn, 1) := by decide +kernel
theorem dL_law_359 : decode cL_law 359 = .ok (.goto 690, 3) := by decide +kernel
theorem dL_law_362 : decode cL_law 362 = .ok (.aload_n 1, 1) := by decide +kernel
theorem dL_law_363 : decode cL_law 363 = .ok (.aload_n 0, 1) := by decide +kernel
theorem dL_law_364 : decode cL_law 364 = .ok (.iload 5, 2) := by decide +kernel
theorem dL_law_366 : decode cL_law 366 = .ok (.iconst 1, 1) := by decide +kernel
theorem dL_law_367 : decode cL_law 367 = .ok (.iadd, 1) := by decide +kernel
theorem dL_law_368 : decode cL_law 368 = .ok (.iaload, 1) := by decide +kernel
theorem dL_law_369 : decode cL_law 369 = .ok (.aload_n 3, 1) := by decide +kernel
theorem dL_law_370 : decode cL_law 370 = .ok (.invokestatic 77, 3) := by decide +kernel
theorem dL_law_373 : decode cL_law 373 = .ok (.istore 6, 2) := by decide +kernel
theorem dL_law_375 : decode cL_law 375 = .ok (.aload_n 2, 1) := by decide +kernel
theorem dL_law_376 : decode cL_law 376 = .ok (.aload_n 0, 1) := by decide +kernel
theorem dL_law_377 : decode cL_law 377 = .ok (.iload 5, 2) := by decide +kernel
theorem dL_law_379 : decode cL_law 379 = .ok (.iconst 1, 1) := by decide +kernel
theorem dL_law_380 : decode cL_law 380 = .ok (.iadd, 1) := by decide +kernel
theorem dL_law_381 : decode cL_law 381 = .ok (.iaload, 1) := by decide +kernel
theorem dL_law_382 : decode cL_law 382 = .ok (.invokevirtual 80, 3) := by decide +kernel
theorem dL_law_385 : decode cL_law 385 = .ok (.istore 7, 2) := by decide +kernel
theorem dL_law_387 : decode cL_law 387 = .ok (.aload_n 2, 1) := by decide +kernel
theorem dL_law_388 : decode cL_law 388 = .ok (.invokevirtual 69, 3) := by decide +kernel
theorem dL_law_391 : decode cL_law 391 = .ok (.iload 6, 2) := by decide +kernel
theorem dL_law_393 : decode cL_law 393 = .ok (.if_icmp .eq 5, 3) := by decide +kernel
theorem dL_law_396 : decode cL_law 396 = .ok (.iconst 0, 1) := by decide +kernel
theorem dL_law_397 : decode cL_law 397 = .ok (.ireturn, 1) := by decide +kernel
theorem dL_law_398 : decode cL_law 398 = .ok (.iload 6, 2) := by decide +kernel
theorem dL_law_400 : decode cL_law 400 = .ok (.ifCond .ne 15, 3) := by decide +kernel
theorem dL_law_403 : decode cL_law 403 = .ok (.aload_n 3, 1) := by decide +kernel
theorem dL_law_404 : decode cL_law 404 = .ok (.iconst 0, 1) := by decide +kernel
theorem dL_law_405 : decode cL_law 405 = .ok (.laload, 1) := by decide +kernel
theorem dL_law_406 : decode cL_law 406 = .ok (.iload 7, 2) := by decide +kernel
theorem dL_law_408 : decode cL_law 408 = .ok (.i2l, 1) := by decide +kernel
theorem dL_law_409 : decode cL_law 409 = .ok (.lcmp, 1) := by decide +kernel
theorem dL_law_410 : decode cL_law 410 = .ok (.ifCond .eq 5, 3) := by decide +kernel
theorem dL_law_413 : decode cL_law 413 = .ok (.iconst 0, 1) := by decide +kernel
theorem dL_law_414 : decode cL_law 414 = .ok (.ireturn, 1) := by decide +kernel
theorem dL_law_415 : decode cL_law 415 = .ok (.goto 634, 3) := by decide +kernel
theorem dL_law_418 : decode cL_law 418 = .ok (.aload_n 1, 1) := by decide +kernel
theorem dL_law_419 : decode cL_law 419 = .ok (.aload_n 0, 1) := by decide +kernel
theorem dL_law_420 : decode cL_law 420 = .ok (.iload 5, 2) := by decide +kernel
theorem dL_law_422 : decode cL_law 422 = .ok (.iconst 1, 1) := by decide +kernel
theorem dL_law_423 : decode cL_law 423 = .ok (.iadd, 1) := by decide +kernel
theorem dL_law_424 : decode cL_law 424 = .ok (.iaload, 1) := by decide +kernel
theorem dL_law_425 : decode cL_law 425 = .ok (.aload_n 3, 1) := by decide +kernel
theorem dL_law_426 : decode cL_law 426 = .ok (.invokestatic 81, 3) := by decide +kernel
theorem dL_law_429 : decode cL_law 429 = .ok (.istore 6, 2) := by decide +kernel
theorem dL_law_431 : decode cL_law 431 = .ok (.aload_n 2, 1) := by decide +kernel
theorem dL_law_432 : decode cL_law 432 = .ok (.aload_n 0, 1) := by decide +kernel
theorem dL_law_433 : decode cL_law 433 = .ok (.iload 5, 2) := by decide +kernel
theorem dL_law_435 : decode cL_law 435 = .ok (.iconst 1, 1) := by decide +kernel
theorem dL_law_436 : decode cL_law 436 = .ok (.iadd, 1) := by decide +kernel
theorem dL_law_437 : decode cL_law 437 = .ok (.iaload, 1) := by decide +kernel
theorem dL_law_438 : decode cL_law 438 = .ok (.invokevirtual 83, 3) := by decide +kernel
theorem dL_law_441 : decode cL_law 441 = .ok (.istore 7, 2) := by decide +kernel
theorem dL_law_443 : decode cL_law 443 = .ok (.aload_n 2, 1) := by decide +kernel
theorem dL_law_444 : decode cL_law 444 = .ok (.invokevirtual 69, 3) := by decide +kernel
theorem dL_law_447 : decode cL_law 447 = .ok (.iload 6, 2) := by decide +kernel
theorem dL_law_449 : decode cL_law 449 = .ok (.if_icmp .eq 5, 3) := by decide +kernel
theorem dL_law_452 : decode cL_law 452 = .ok (.iconst 0, 1) := by decide +kernel
theorem dL_law_453 : decode cL_law 453 = .ok (.ireturn, 1) := by decide +kernel
theorem dL_law_454 : decode cL_law 454 = .ok (.iload 6, 2) := by decide +kernel
theorem dL_law_456 : decode cL_law 456 = .ok (.ifCond .ne 15, 3) := by decide +kernel
theorem dL_law_459 : decode cL_law 459 = .ok (.aload_n 3, 1) := by decide +kernel
theorem dL_law_460 : decode cL_law 460 = .ok (.iconst 0, 1) := by decide +kernel
theorem dL_law_461 : decode cL_law 461 = .ok (.laload, 1) := by decide +kernel
theorem dL_law_462 : decode cL_law 462 = .ok (.iload 7, 2) := by decide +kernel
theorem dL_law_464 : decode cL_law 464 = .ok (.i2l, 1) := by decide +kernel
theorem dL_law_465 : decode cL_law 465 = .ok (.lcmp, 1) := by decide +kernel
theorem dL_law_466 : decode cL_law 466 = .ok (.ifCond .eq 5, 3) := by decide +kernel
theorem dL_law_469 : decode cL_law 469 = .ok (.iconst 0, 1) := by decide +kernel
theorem dL_law_470 : decode cL_law 470 = .ok (.ireturn, 1) := by decide +kernel
theorem dL_law_471 : decode cL_law 471 = .ok (.goto 578, 3) := by decide +kernel
theorem dL_law_474 : decode cL_law 474 = .ok (.aload_n 1, 1) := by decide +kernel
theorem dL_law_475 : decode cL_law 475 = .ok (.aload_n 0, 1) := by decide +kernel
theorem dL_law_476 : decode cL_law 476 = .ok (.iload 5, 2) := by decide +kernel
theorem dL_law_478 : decode cL_law 478 = .ok (.iconst 1, 1) := by decide +kernel
theorem dL_law_479 : decode cL_law 479 = .ok (.iadd, 1) := by decide +kernel
theorem dL_law_480 : decode cL_law 480 = .ok (.iaload, 1) := by decide +kernel
theorem dL_law_481 : decode cL_law 481 = .ok (.aload_n 3, 1) := by decide +kernel
theorem dL_law_482 : decode cL_law 482 = .ok (.invokestatic 84, 3) := by decide +kernel
theorem dL_law_485 : decode cL_law 485 = .ok (.istore 6, 2) := by decide +kernel
theorem dL_law_487 : decode cL_law 487 = .ok (.aload_n 2, 1) := by decide +kernel
theorem dL_law_488 : decode cL_law 488 = .ok (.aload_n 0, 1) := by decide +kernel
theorem dL_law_489 : decode cL_law 489 = .ok (.iload 5, 2) := by decide +kernel
theorem dL_law_491 : decode cL_law 491 = .ok (.iconst 1, 1) := by decide +kernel
theorem dL_law_492 : decode cL_law 492 = .ok (.iadd, 1) := by decide +kernel
theorem dL_law_493 : decode cL_law 493 = .ok (.iaload, 1) := by decide +kernel
theorem dL_law_494 : decode cL_law 494 = .ok (.invokevirtual 86, 3) := by decide +kernel
theorem dL_law_497 : decode cL_law 497 = .ok (.istore 7, 2) := by decide +kernel
theorem dL_law_499 : decode cL_law 499 = .ok (.aload_n 2, 1) := by decide +kernel
theorem dL_law_500 : decode cL_law 500 = .ok (.invokevirtual 69, 3) := by decide +kernel
theorem dL_law_503 : decode cL_law 503 = .ok (.iload 6, 2) := by decide +kernel
theorem dL_law_505 : decode cL_law 505 = .ok (.if_icmp .eq 5, 3) := by decide +kernel
theorem dL_law_508 : decode cL_law 508 = .ok (.iconst 0, 1) := by decide +kernel
theorem dL_law_509 : decode cL_law 509 = .ok (.ireturn, 1) := by decide +kernel
theorem dL_law_510 : decode cL_law 510 = .ok (.iload 6, 2) := by decide +kernel
theorem dL_law_512 : decode cL_law 512 = .ok (.ifCond .ne 15, 3) := by decide +kernel
theorem dL_law_515 : decode cL_law 515 = .ok (.aload_n 3, 1) := by decide +kernel
theorem dL_law_516 : decode cL_law 516 = .ok (.iconst 0, 1) := by decide +kernel
theorem dL_law_517 : decode cL_law 517 = .ok (.laload, 1) := by decide +kernel
theorem dL_law_518 : decode cL_law 518 = .ok (.iload 7, 2) := by decide +kernel
theorem dL_law_520 : decode cL_law 520 = .ok (.i2l, 1) := by decide +kernel
theorem dL_law_521 : decode cL_law 521 = .ok (.lcmp, 1) := by decide +kernel
theorem dL_law_522 : decode cL_law 522 = .ok (.ifCond .eq 5, 3) := by decide +kernel
theorem dL_law_525 : decode cL_law 525 = .ok (.iconst 0, 1) := by decide +kernel
theorem dL_law_526 : decode cL_law 526 = .ok (.ireturn, 1) := by decide +kernel
theorem dL_law_527 : decode cL_law 527 = .ok (.goto 522, 3) := by decide +kernel
theorem dL_law_530 : decode cL_law 530 = .ok (.aload_n 1, 1) := by decide +kernel
theorem dL_law_531 : decode cL_law 531 = .ok (.aload_n 0, 1) := by decide +kernel
theorem dL_law_532 : decode cL_law 532 = .ok (.iload 5, 2) := by decide +kernel
theorem dL_law_534 : decode cL_law 534 = .ok (.iconst 1, 1) := by decide +kernel
theorem dL_law_535 : decode cL_law 535 = .ok (.iadd, 1) := by decide +kernel
theorem dL_law_536 : decode cL_law 536 = .ok (.iaload, 1) := by decide +kernel
theorem dL_law_537 : decode cL_law 537 = .ok (.aload_n 3, 1) := by decide +kernel
theorem dL_law_538 : decode cL_law 538 = .ok (.invokestatic 87, 3) := by decide +kernel
theorem dL_law_541 : decode cL_law 541 = .ok (.istore 6, 2) := by decide +kernel
theorem dL_law_543 : decode cL_law 543 = .ok (.aload_n 2, 1) := by decide +kernel
theorem dL_law_544 : decode cL_law 544 = .ok (.aload_n 0, 1) := by decide +kernel
theorem dL_law_545 : decode cL_law 545 = .ok (.iload 5, 2) := by decide +kernel
theorem dL_law_547 : decode cL_law 547 = .ok (.iconst 1, 1) := by decide +kernel
theorem dL_law_548 : decode cL_law 548 = .ok (.iadd, 1) := by decide +kernel
theorem dL_law_549 : decode cL_law 549 = .ok (.iaload, 1) := by decide +kernel
theorem dL_law_550 : decode cL_law 550 = .ok (.invokevirtual 89, 3) := by decide +kernel
theorem dL_law_553 : decode cL_law 553 = .ok (.istore 7, 2) := by decide +kernel
theorem dL_law_555 : decode cL_law 555 = .ok (.aload_n 2, 1) := by decide +kernel
theorem dL_law_556 : decode cL_law 556 = .ok (.invokevirtual 69, 3) := by decide +kernel
theorem dL_law_559 : decode cL_law 559 = .ok (.iload 6, 2) := by decide +kernel
theorem dL_law_561 : decode cL_law 561 = .ok (.if_icmp .eq 5, 3) := by decide +kernel
theorem dL_law_564 : decode cL_law 564 = .ok (.iconst 0, 1) := by decide +kernel
theorem dL_law_565 : decode cL_law 565 = .ok (.ireturn, 1) := by decide +kernel
theorem dL_law_566 : decode cL_law 566 = .ok (.iload 6, 2) := by decide +kernel
theorem dL_law_568 : decode cL_law 568 = .ok (.ifCond .ne 15, 3) := by decide +kernel
theorem dL_law_571 : decode cL_law 571 = .ok (.aload_n 3, 1) := by decide +kernel
theorem dL_law_572 : decode cL_law 572 = .ok (.iconst 0, 1) := by decide +kernel
theorem dL_law_573 : decode cL_law 573 = .ok (.laload, 1) := by decide +kernel
theorem dL_law_574 : decode cL_law 574 = .ok (.iload 7, 2) := by decide +kernel
theorem dL_law_576 : decode cL_law 576 = .ok (.i2l, 1) := by decide +kernel
theorem dL_law_577 : decode cL_law 577 = .ok (.lcmp, 1) := by decide +kernel
theorem dL_law_578 : decode cL_law 578 = .ok (.ifCond .eq 5, 3) := by decide +kernel
theorem dL_law_581 : decode cL_law 581 = .ok (.iconst 0, 1) := by decide +kernel
theorem dL_law_582 : decode cL_law 582 = .ok (.ireturn, 1) := by decide +kernel
theorem dL_law_583 : decode cL_law 583 = .ok (.goto 466, 3) := by decide +kernel
theorem dL_law_586 : decode cL_law 586 = .ok (.aload_n 1, 1) := by decide +kernel
theorem dL_law_587 : decode cL_law 587 = .ok (.aload_n 0, 1) := by decide +kernel
theorem dL_law_588 : decode cL_law 588 = .ok (.iload 5, 2) := by decide +kernel
theorem dL_law_590 : decode cL_law 590 = .ok (.iconst 1, 1) := by decide +kernel
theorem dL_law_591 : decode cL_law 591 = .ok (.iadd, 1) := by decide +kernel
theorem dL_law_592 : decode cL_law 592 = .ok (.iaload, 1) := by decide +kernel
theorem dL_law_593 : decode cL_law 593 = .ok (.aload_n 0, 1) := by decide +kernel
theorem dL_law_594 : decode cL_law 594 = .ok (.iload 5, 2) := by decide +kernel
theorem dL_law_596 : decode cL_law 596 = .ok (.iconst 2, 1) := by decide +kernel
theorem dL_law_597 : decode cL_law 597 = .ok (.iadd, 1) := by decide +kernel
theorem dL_law_598 : decode cL_law 598 = .ok (.iaload, 1) := by decide +kernel
theorem dL_law_599 : decode cL_law 599 = .ok (.aload_n 3, 1) := by decide +kernel
theorem dL_law_600 : decode cL_law 600 = .ok (.invokestatic 90, 3) := by decide +kernel
theorem dL_law_603 : decode cL_law 603 = .ok (.istore 6, 2) := by decide +kernel
theorem dL_law_605 : decode cL_law 605 = .ok (.aload_n 2, 1) := by decide +kernel
theorem dL_law_606 : decode cL_law 606 = .ok (.aload_n 0, 1) := by decide +kernel
theorem dL_law_607 : decode cL_law 607 = .ok (.iload 5, 2) := by decide +kernel
theorem dL_law_609 : decode cL_law 609 = .ok (.iconst 1, 1) := by decide +kernel
theorem dL_law_610 : decode cL_law 610 = .ok (.iadd, 1) := by decide +kernel
theorem dL_law_611 : decode cL_law 611 = .ok (.iaload, 1) := by decide +kernel
theorem dL_law_612 : decode cL_law 612 = .ok (.aload_n 0, 1) := by decide +kernel
theorem dL_law_613 : decode cL_law 613 = .ok (.iload 5, 2) := by decide +kernel
theorem dL_law_615 : decode cL_law 615 = .ok (.iconst 2, 1) := by decide +kernel
theorem dL_law_616 : decode cL_law 616 = .ok (.iadd, 1) := by decide +kernel
theorem dL_law_617 : decode cL_law 617 = .ok (.iaload, 1) := by decide +kernel
theorem dL_law_618 : decode cL_law 618 = .ok (.invokevirtual 93, 3) := by decide +kernel
theorem dL_law_621 : decode cL_law 621 = .ok (.istore 7, 2) := by decide +kernel
theorem dL_law_623 : decode cL_law 623 = .ok (.aload_n 2, 1) := by decide +kernel
theorem dL_law_624 : decode cL_law 624 = .ok (.invokevirtual 69, 3) := by decide +kernel
theorem dL_law_627 : decode cL_law 627 = .ok (.iload 6, 2) := by decide +kernel
theorem dL_law_629 : decode cL_law 629 = .ok (.if_icmp .eq 5, 3) := by decide +kernel
theorem dL_law_632 : decode cL_law 632 = .ok (.iconst 0, 1) := by decide +kernel
theorem dL_law_633 : decode cL_law 633 = .ok (.ireturn, 1) := by decide +kernel
theorem dL_law_634 : decode cL_law 634 = .ok (.iload 6, 2) := by decide +kernel
theorem dL_law_636 : decode cL_law 636 = .ok (.ifCond .ne 15, 3) := by decide +kernel
theorem dL_law_639 : decode cL_law 639 = .ok (.aload_n 3, 1) := by decide +kernel
theorem dL_law_640 : decode cL_law 640 = .ok (.iconst 0, 1) := by decide +kernel
theorem dL_law_641 : decode cL_law 641 = .ok (.laload, 1) := by decide +kernel
theorem dL_law_642 : decode cL_law 642 = .ok (.iload 7, 2) := by decide +kernel
theorem dL_law_644 : decode cL_law 644 = .ok (.i2l, 1) := by decide +kernel
theorem dL_law_645 : decode cL_law 645 = .ok (.lcmp, 1) := by decide +kernel
theorem dL_law_646 : decode cL_law 646 = .ok (.ifCond .eq 5, 3) := by decide +kernel
theorem dL_law_649 : decode cL_law 649 = .ok (.iconst 0, 1) := by decide +kernel
theorem dL_law_650 : decode cL_law 650 = .ok (.ireturn, 1) := by decide +kernel
theorem dL_law_651 : decode cL_law 651 = .ok (.goto 398, 3) := by decide +kernel
theorem dL_law_654 : decode cL_law 654 = .ok (.aload_n 1, 1) := by decide +kernel
theorem dL_law_655 : decode cL_law 655 = .ok (.aload_n 0, 1) := by decide +kernel
theorem dL_law_656 : decode cL_law 656 = .ok (.iload 5, 2) := by decide +kernel
theorem dL_law_658 : decode cL_law 658 = .ok (.iconst 1, 1) := by decide +kernel
theorem dL_law_659 : decode cL_law 659 = .ok (.iadd, 1) := by decide +kernel
theorem dL_law_660 : decode cL_law 660 = .ok (.iaload, 1) := by decide +kernel
theorem dL_law_661 : decode cL_law 661 = .ok (.aload_n 3, 1) := by decide +kernel
theorem dL_law_662 : decode cL_law 662 = .ok (.invokestatic 94, 3) := by decide +kernel
theorem dL_law_665 : decode cL_law 665 = .ok (.istore 6, 2) := by decide +kernel
theorem dL_law_667 : decode cL_law 667 = .ok (.aload_n 2, 1) := by decide +kernel
theorem dL_law_668 : decode cL_law 668 = .ok (.aload_n 0, 1) := by decide +kernel
theorem dL_law_669 : decode cL_law 669 = .ok (.iload 5, 2) := by decide +kernel
theorem dL_law_671 : decode cL_law 671 = .ok (.iconst 1, 1) := by decide +kernel
theorem dL_law_672 : decode cL_law 672 = .ok (.iadd, 1) := by decide +kernel
theorem dL_law_673 : decode cL_law 673 = .ok (.iaload, 1) := by decide +kernel
theorem dL_law_674 : decode cL_law 674 = .ok (.invokevirtual 96, 3) := by decide +kernel
theorem dL_law_677 : decode cL_law 677 = .ok (.istore 7, 2) := by decide +kernel
theorem dL_law_679 : decode cL_law 679 = .ok (.aload_n 2, 1) := by decide +kernel
theorem dL_law_680 : decode cL_law 680 = .ok (.invokevirtual 69, 3) := by decide +kernel
theorem dL_law_683 : decode cL_law 683 = .ok (.iload 6, 2) := by decide +kernel
theorem dL_law_685 : decode cL_law 685 = .ok (.if_icmp .eq 5, 3) := by decide +kernel
theorem dL_law_688 : decode cL_law 688 = .ok (.iconst 0, 1) := by decide +kernel
theorem dL_law_689 : decode cL_law 689 = .ok (.ireturn, 1) := by decide +kernel
theorem dL_law_690 : decode cL_law 690 = .ok (.iload 6, 2) := by decide +kernel
theorem dL_law_692 : decode cL_law 692 = .ok (.ifCond .ne 15, 3) := by decide +kernel
theorem dL_law_695 : decode cL_law 695 = .ok (.aload_n 3, 1) := by decide +kernel
theorem dL_law_696 : decode cL_law 696 = .ok (.iconst 0, 1) := by decide +kernel
theorem dL_law_697 : decode cL_law 697 = .ok (.laload, 1) := by decide +kernel
theorem dL_law_698 : decode cL_law 698 = .ok (.iload 7, 2) := by decide +kernel
theorem dL_law_700 : decode cL_law 700 = .ok (.i2l, 1) := by decide +kernel
theorem dL_law_701 : decode cL_law 701 = .ok (.lcmp, 1) := by decide +kernel
theorem dL_law_702 : decode cL_law 702 = .ok (.ifCond .eq 5, 3) := by decide +kernel
theorem dL_law_705 : decode cL_law 705 = .ok (.iconst 0, 1) := by decide +kernel
theorem dL_law_706 : decode cL_law 706 = .ok (.ireturn, 1) := by decide +kernel
theorem dL_law_707 : decode cL_law 707 = .ok (.goto 342, 3) := by decide +kernel
theorem dL_law_710 : decode cL_law 710 = .ok (.aload_n 1, 1) := by decide +kernel
theorem dL_law_711 : decode cL_law 711 = .ok (.aload_n 0, 1) := by decide +kernel
theorem dL_law_712 : decode cL_law 712 = .ok (.iload 5, 2) := by decide +kernel
theorem dL_law_714 : decode cL_law 714 = .ok (.iconst 1, 1) := by decide +kernel
theorem dL_law_715 : decode cL_law 715 = .ok (.iadd, 1) := by decide +kernel
theorem dL_law_716 : decode cL_law 716 = .ok (.iaload, 1) := by decide +kernel
theorem dL_law_717 : decode cL_law 717 = .ok (.aload_n 0, 1) := by decide +kernel
theorem dL_law_718 : decode cL_law 718 = .ok (.iload 5, 2) := by decide +kernel
theorem dL_law_720 : decode cL_law 720 = .ok (.iconst 2, 1) := by decide +kernel
theorem dL_law_721 : decode cL_law 721 = .ok (.iadd, 1) := by decide +kernel
theorem dL_law_722 : decode cL_law 722 = .ok (.iaload, 1) := by decide +kernel
theorem dL_law_723 : decode cL_law 723 = .ok (.aload_n 3, 1) := by decide +kernel
theorem dL_law_724 : decode cL_law 724 = .ok (.invokestatic 97, 3) := by decide +kernel
theorem dL_law_727 : decode cL_law 727 = .ok (.istore 6, 2) := by decide +kernel
theorem dL_law_729 : decode cL_law 729 = .ok (.aload_n 2, 1) := by decide +kernel
theorem dL_law_730 : decode cL_law 730 = .ok (.aload_n 0, 1) := by decide +kernel
theorem dL_law_731 : decode cL_law 731 = .ok (.iload 5, 2) := by decide +kernel
theorem dL_law_733 : decode cL_law 733 = .ok (.iconst 1, 1) := by decide +kernel
theorem dL_law_734 : decode cL_law 734 = .ok (.iadd, 1) := by decide +kernel
theorem dL_law_735 : decode cL_law 735 = .ok (.iaload, 1) := by decide +kernel
theorem dL_law_736 : decode cL_law 736 = .ok (.aload_n 0, 1) := by decide +kernel
theorem dL_law_737 : decode cL_law 737 = .ok (.iload 5, 2) := by decide +kernel
theorem dL_law_739 : decode cL_law 739 = .ok (.iconst 2, 1) := by decide +kernel
theorem dL_law_740 : decode cL_law 740 = .ok (.iadd, 1) := by decide +kernel
theorem dL_law_741 : decode cL_law 741 = .ok (.iaload, 1) := by decide +kernel
theorem dL_law_742 : decode cL_law 742 = .ok (.invokevirtual 99, 3) := by decide +kernel
theorem dL_law_745 : decode cL_law 745 = .ok (.istore 7, 2) := by decide +kernel
theorem dL_law_747 : decode cL_law 747 = .ok (.aload_n 2, 1) := by decide +kernel
theorem dL_law_748 : decode cL_law 748 = .ok (.invokevirtual 69, 3) := by decide +kernel
theorem dL_law_751 : decode cL_law 751 = .ok (.iload 6, 2) := by decide +kernel
theorem dL_law_753 : decode cL_law 753 = .ok (.if_icmp .eq 5, 3) := by decide +kernel
theorem dL_law_756 : decode cL_law 756 = .ok (.iconst 0, 1) := by decide +kernel
theorem dL_law_757 : decode cL_law 757 = .ok (.ireturn, 1) := by decide +kernel
theorem dL_law_758 : decode cL_law 758 = .ok (.iload 6, 2) := by decide +kernel
theorem dL_law_760 : decode cL_law 760 = .ok (.ifCond .ne 15, 3) := by decide +kernel
theorem dL_law_763 : decode cL_law 763 = .ok (.aload_n 3, 1) := by decide +kernel
theorem dL_law_764 : decode cL_law 764 = .ok (.iconst 0, 1) := by decide +kernel
theorem dL_law_765 : decode cL_law 765 = .ok (.laload, 1) := by decide +kernel
theorem dL_law_766 : decode cL_law 766 = .ok (.iload 7, 2) := by decide +kernel
theorem dL_law_768 : decode cL_law 768 = .ok (.i2l, 1) := by decide +kernel
theorem dL_law_769 : decode cL_law 769 = .ok (.lcmp, 1) := by decide +kernel
theorem dL_law_770 : decode cL_law 770 = .ok (.ifCond .eq 5, 3) := by decide +kernel
theorem dL_law_773 : decode cL_law 773 = .ok (.iconst 0, 1) := by decide +kernel
theorem dL_law_774 : decode cL_law 774 = .ok (.ireturn, 1) := by decide +kernel
theorem dL_law_775 : decode cL_law 775 = .ok (.goto 274, 3) := by decide +kernel
theorem dL_law_778 : decode cL_law 778 = .ok (.aload_n 1, 1) := by decide +kernel
theorem dL_law_779 : decode cL_law 779 = .ok (.aload_n 0, 1) := by decide +kernel
theorem dL_law_780 : decode cL_law 780 = .ok (.iload 5, 2) := by decide +kernel
theorem dL_law_782 : decode cL_law 782 = .ok (.iconst 1, 1) := by decide +kernel
theorem dL_law_783 : decode cL_law 783 = .ok (.iadd, 1) := by decide +kernel
theorem dL_law_784 : decode cL_law 784 = .ok (.iaload, 1) := by decide +kernel
theorem dL_law_785 : decode cL_law 785 = .ok (.aload_n 3, 1) := by decide +kernel
theorem dL_law_786 : decode cL_law 786 = .ok (.invokestatic 100, 3) := by decide +kernel
theorem dL_law_789 : decode cL_law 789 = .ok (.istore 6, 2) := by decide +kernel
theorem dL_law_791 : decode cL_law 791 = .ok (.aload_n 2, 1) := by decide +kernel
theorem dL_law_792 : decode cL_law 792 = .ok (.aload_n 0, 1) := by decide +kernel
theorem dL_law_793 : decode cL_law 793 = .ok (.iload 5, 2) := by decide +kernel
theorem dL_law_795 : decode cL_law 795 = .ok (.iconst 1, 1) := by decide +kernel
theorem dL_law_796 : decode cL_law 796 = .ok (.iadd, 1) := by decide +kernel
theorem dL_law_797 : decode cL_law 797 = .ok (.iaload, 1) := by decide +kernel
theorem dL_law_798 : decode cL_law 798 = .ok (.invokevirtual 102, 3) := by decide +kernel
theorem dL_law_801 : decode cL_law 801 = .ok (.istore 7, 2) := by decide +kernel
theorem dL_law_803 : decode cL_law 803 = .ok (.aload_n 2, 1) := by decide +kernel
theorem dL_law_804 : decode cL_law 804 = .ok (.invokevirtual 69, 3) := by decide +kernel
theorem dL_law_807 : decode cL_law 807 = .ok (.iload 6, 2) := by decide +kernel
theorem dL_law_809 : decode cL_law 809 = .ok (.if_icmp .eq 5, 3) := by decide +kernel
theorem dL_law_812 : decode cL_law 812 = .ok (.iconst 0, 1) := by decide +kernel
theorem dL_law_813 : decode cL_law 813 = .ok (.ireturn, 1) := by decide +kernel
theorem dL_law_814 : decode cL_law 814 = .ok (.iload 6, 2) := by decide +kernel
theorem dL_law_816 : decode cL_law 816 = .ok (.ifCond .ne 15, 3) := by decide +kernel
theorem dL_law_819 : decode cL_law 819 = .ok (.aload_n 3, 1) := by decide +kernel
theorem dL_law_820 : decode cL_law 820 = .ok (.iconst 0, 1) := by decide +kernel
theorem dL_law_821 : decode cL_law 821 = .ok (.laload, 1) := by decide +kernel
theorem dL_law_822 : decode cL_law 822 = .ok (.iload 7, 2) := by decide +kernel
theorem dL_law_824 : decode cL_law 824 = .ok (.i2l, 1) := by decide +kernel
theorem dL_law_825 : decode cL_law 825 = .ok (.lcmp, 1) := by decide +kernel
theorem dL_law_826 : decode cL_law 826 = .ok (.ifCond .eq 5, 3) := by decide +kernel
theorem dL_law_829 : decode cL_law 829 = .ok (.iconst 0, 1) := by decide +kernel
theorem dL_law_830 : decode cL_law 830 = .ok (.ireturn, 1) := by decide +kernel
theorem dL_law_831 : decode cL_law 831 = .ok (.goto 218, 3) := by decide +kernel
theorem dL_law_834 : decode cL_law 834 = .ok (.aload_n 1, 1) := by decide +kernel
theorem dL_law_835 : decode cL_law 835 = .ok (.aload_n 0, 1) := by decide +kernel
theorem dL_law_836 : decode cL_law 836 = .ok (.iload 5, 2) := by decide +kernel
theorem dL_law_838 : decode cL_law 838 = .ok (.iconst 1, 1) := by decide +kernel
theorem dL_law_839 : decode cL_law 839 = .ok (.iadd, 1) := by decide +kernel
theorem dL_law_840 : decode cL_law 840 = .ok (.iaload, 1) := by decide +kernel
theorem dL_law_841 : decode cL_law 841 = .ok (.aload_n 0, 1) := by decide +kernel
theorem dL_law_842 : decode cL_law 842 = .ok (.iload 5, 2) := by decide +kernel
theorem dL_law_844 : decode cL_law 844 = .ok (.iconst 2, 1) := by decide +kernel
theorem dL_law_845 : decode cL_law 845 = .ok (.iadd, 1) := by decide +kernel
theorem dL_law_846 : decode cL_law 846 = .ok (.iaload, 1) := by decide +kernel
theorem dL_law_847 : decode cL_law 847 = .ok (.aload_n 3, 1) := by decide +kernel
theorem dL_law_848 : decode cL_law 848 = .ok (.invokestatic 103, 3) := by decide +kernel
theorem dL_law_851 : decode cL_law 851 = .ok (.istore 6, 2) := by decide +kernel
theorem dL_law_853 : decode cL_law 853 = .ok (.aload_n 2, 1) := by decide +kernel
theorem dL_law_854 : decode cL_law 854 = .ok (.aload_n 0, 1) := by decide +kernel
theorem dL_law_855 : decode cL_law 855 = .ok (.iload 5, 2) := by decide +kernel
theorem dL_law_857 : decode cL_law 857 = .ok (.iconst 1, 1) := by decide +kernel
theorem dL_law_858 : decode cL_law 858 = .ok (.iadd, 1) := by decide +kernel
theorem dL_law_859 : decode cL_law 859 = .ok (.iaload, 1) := by decide +kernel
theorem dL_law_860 : decode cL_law 860 = .ok (.aload_n 0, 1) := by decide +kernel
theorem dL_law_861 : decode cL_law 861 = .ok (.iload 5, 2) := by decide +kernel
theorem dL_law_863 : decode cL_law 863 = .ok (.iconst 2, 1) := by decide +kernel
theorem dL_law_864 : decode cL_law 864 = .ok (.iadd, 1) := by decide +kernel
theorem dL_law_865 : decode cL_law 865 = .ok (.iaload, 1) := by decide +kernel
theorem dL_law_866 : decode cL_law 866 = .ok (.invokevirtual 105, 3) := by decide +kernel
theorem dL_law_869 : decode cL_law 869 = .ok (.istore 7, 2) := by decide +kernel
theorem dL_law_871 : decode cL_law 871 = .ok (.aload_n 2, 1) := by decide +kernel
theorem dL_law_872 : decode cL_law 872 = .ok (.invokevirtual 69, 3) := by decide +kernel
theorem dL_law_875 : decode cL_law 875 = .ok (.iload 6, 2) := by decide +kernel
theorem dL_law_877 : decode cL_law 877 = .ok (.if_icmp .eq 5, 3) := by decide +kernel
theorem dL_law_880 : decode cL_law 880 = .ok (.iconst 0, 1) := by decide +kernel
theorem dL_law_881 : decode cL_law 881 = .ok (.ireturn, 1) := by decide +kernel
theorem dL_law_882 : decode cL_law 882 = .ok (.iload 6, 2) := by decide +kernel
theorem dL_law_884 : decode cL_law 884 = .ok (.ifCond .ne 15, 3) := by decide +kernel
theorem dL_law_887 : decode cL_law 887 = .ok (.aload_n 3, 1) := by decide +kernel
theorem dL_law_888 : decode cL_law 888 = .ok (.iconst 0, 1) := by decide +kernel
theorem dL_law_889 : decode cL_law 889 = .ok (.laload, 1) := by decide +kernel
theorem dL_law_890 : decode cL_law 890 = .ok (.iload 7, 2) := by decide +kernel
theorem dL_law_892 : decode cL_law 892 = .ok (.i2l, 1) := by decide +kernel
theorem dL_law_893 : decode cL_law 893 = .ok (.lcmp, 1) := by decide +kernel
theorem dL_law_894 : decode cL_law 894 = .ok (.ifCond .eq 5, 3) := by decide +kernel
theorem dL_law_897 : decode cL_law 897 = .ok (.iconst 0, 1) := by decide +kernel
theorem dL_law_898 : decode cL_law 898 = .ok (.ireturn, 1) := by decide +kernel
theorem dL_law_899 : decode cL_law 899 = .ok (.goto 150, 3) := by decide +kernel
theorem dL_law_902 : decode cL_law 902 = .ok (.aload_n 1, 1) := by decide +kernel
theorem dL_law_903 : decode cL_law 903 = .ok (.aload_n 0, 1) := by decide +kernel
theorem dL_law_904 : decode cL_law 904 = .ok (.iload 5, 2) := by decide +kernel
theorem dL_law_906 : decode cL_law 906 = .ok (.iconst 1, 1) := by decide +kernel
theorem dL_law_907 : decode cL_law 907 = .ok (.iadd, 1) := by decide +kernel
theorem dL_law_908 : decode cL_law 908 = .ok (.iaload, 1) := by decide +kernel
theorem dL_law_909 : decode cL_law 909 = .ok (.aload 4, 2) := by decide +kernel
theorem dL_law_911 : decode cL_law 911 = .ok (.invokestatic 106, 3) := by decide +kernel
theorem dL_law_914 : decode cL_law 914 = .ok (.istore 6, 2) := by decide +kernel
theorem dL_law_916 : decode cL_law 916 = .ok (.aload_n 2, 1) := by decide +kernel
theorem dL_law_917 : decode cL_law 917 = .ok (.aload_n 0, 1) := by decide +kernel
theorem dL_law_918 : decode cL_law 918 = .ok (.iload 5, 2) := by decide +kernel
theorem dL_law_920 : decode cL_law 920 = .ok (.iconst 1, 1) := by decide +kernel
theorem dL_law_921 : decode cL_law 921 = .ok (.iadd, 1) := by decide +kernel
theorem dL_law_922 : decode cL_law 922 = .ok (.iaload, 1) := by decide +kernel
theorem dL_law_923 : decode cL_law 923 = .ok (.invokevirtual 109, 3) := by decide +kernel
theorem dL_law_926 : decode cL_law 926 = .ok (.fstore 7, 2) := by decide +kernel
theorem dL_law_928 : decode cL_law 928 = .ok (.aload_n 2, 1) := by decide +kernel
theorem dL_law_929 : decode cL_law 929 = .ok (.invokevirtual 69, 3) := by decide +kernel
theorem dL_law_932 : decode cL_law 932 = .ok (.iload 6, 2) := by decide +kernel
theorem dL_law_934 : decode cL_law 934 = .ok (.if_icmp .eq 5, 3) := by decide +kernel
theorem dL_law_937 : decode cL_law 937 = .ok (.iconst 0, 1) := by decide +kernel
theorem dL_law_938 : decode cL_law 938 = .ok (.ireturn, 1) := by decide +kernel
theorem dL_law_939 : decode cL_law 939 = .ok (.iload 6, 2) := by decide +kernel
theorem dL_law_941 : decode cL_law 941 = .ok (.ifCond .ne 36, 3) := by decide +kernel
theorem dL_law_944 : decode cL_law 944 = .ok (.aload 4, 2) := by decide +kernel
theorem dL_law_946 : decode cL_law 946 = .ok (.iconst 0, 1) := by decide +kernel
theorem dL_law_947 : decode cL_law 947 = .ok (.daload, 1) := by decide +kernel
theorem dL_law_948 : decode cL_law 948 = .ok (.fload 7, 2) := by decide +kernel
theorem dL_law_950 : decode cL_law 950 = .ok (.f2d, 1) := by decide +kernel
theorem dL_law_951 : decode cL_law 951 = .ok (.dcmp .l, 1) := by decide +kernel
theorem dL_law_952 : decode cL_law 952 = .ok (.ifCond .eq 25, 3) := by decide +kernel
theorem dL_law_955 : decode cL_law 955 = .ok (.aload 4, 2) := by decide +kernel
theorem dL_law_957 : decode cL_law 957 = .ok (.iconst 0, 1) := by decide +kernel
theorem dL_law_958 : decode cL_law 958 = .ok (.daload, 1) := by decide +kernel
theorem dL_law_959 : decode cL_law 959 = .ok (.aload 4, 2) := by decide +kernel
theorem dL_law_961 : decode cL_law 961 = .ok (.iconst 0, 1) := by decide +kernel
theorem dL_law_962 : decode cL_law 962 = .ok (.daload, 1) := by decide +kernel
theorem dL_law_963 : decode cL_law 963 = .ok (.dcmp .l, 1) := by decide +kernel
theorem dL_law_964 : decode cL_law 964 = .ok (.ifCond .eq 11, 3) := by decide +kernel
theorem dL_law_967 : decode cL_law 967 = .ok (.fload 7, 2) := by decide +kernel
theorem dL_law_969 : decode cL_law 969 = .ok (.fload 7, 2) := by decide +kernel
theorem dL_law_971 : decode cL_law 971 = .ok (.fcmp .l, 1) := by decide +kernel
theorem dL_law_972 : decode cL_law 972 = .ok (.ifCond .ne 5, 3) := by decide +kernel
theorem dL_law_975 : decode cL_law 975 = .ok (.iconst 0, 1) := by decide +kernel
theorem dL_law_976 : decode cL_law 976 = .ok (.ireturn, 1) := by decide +kernel
theorem dL_law_977 : decode cL_law 977 = .ok (.goto 72, 3) := by decide +kernel
theorem dL_law_980 : decode cL_law 980 = .ok (.aload_n 1, 1) := by decide +kernel
theorem dL_law_981 : decode cL_law 981 = .ok (.aload_n 0, 1) := by decide +kernel
theorem dL_law_982 : decode cL_law 982 = .ok (.iload 5, 2) := by decide +kernel
theorem dL_law_984 : decode cL_law 984 = .ok (.iconst 1, 1) := by decide +kernel
theorem dL_law_985 : decode cL_law 985 = .ok (.iadd, 1) := by decide +kernel
theorem dL_law_986 : decode cL_law 986 = .ok (.iaload, 1) := by decide +kernel
theorem dL_law_987 : decode cL_law 987 = .ok (.aload_n 3, 1) := by decide +kernel
theorem dL_law_988 : decode cL_law 988 = .ok (.invokestatic 110, 3) := by decide +kernel
theorem dL_law_991 : decode cL_law 991 = .ok (.istore 6, 2) := by decide +kernel
theorem dL_law_993 : decode cL_law 993 = .ok (.aload_n 2, 1) := by decide +kernel
theorem dL_law_994 : decode cL_law 994 = .ok (.aload_n 0, 1) := by decide +kernel
theorem dL_law_995 : decode cL_law 995 = .ok (.iload 5, 2) := by decide +kernel
theorem dL_law_997 : decode cL_law 997 = .ok (.iconst 1, 1) := by decide +kernel
theorem dL_law_998 : decode cL_law 998 = .ok (.iadd, 1) := by decide +kernel
theorem dL_law_999 : decode cL_law 999 = .ok (.iaload, 1) := by decide +kernel
theorem dL_law_1000 : decode cL_law 1000 = .ok (.invokevirtual 112, 3) := by decide +kernel
theorem dL_law_1003 : decode cL_law 1003 = .ok (.istore 7, 2) := by decide +kernel
theorem dL_law_1005 : decode cL_law 1005 = .ok (.aload_n 2, 1) := by decide +kernel
theorem dL_law_1006 : decode cL_law 1006 = .ok (.invokevirtual 69, 3) := by decide +kernel
theorem dL_law_1009 : decode cL_law 1009 = .ok (.iload 6, 2) := by decide +kernel
theorem dL_law_1011 : decode cL_law 1011 = .ok (.if_icmp .eq 5, 3) := by decide +kernel
theorem dL_law_1014 : decode cL_law 1014 = .ok (.iconst 0, 1) := by decide +kernel
theorem dL_law_1015 : decode cL_law 1015 = .ok (.ireturn, 1) := by decide +kernel
theorem dL_law_1016 : decode cL_law 1016 = .ok (.iload 6, 2) := by decide +kernel
theorem dL_law_1018 : decode cL_law 1018 = .ok (.ifCond .ne 15, 3) := by decide +kernel
theorem dL_law_1021 : decode cL_law 1021 = .ok (.aload_n 3, 1) := by decide +kernel
theorem dL_law_1022 : decode cL_law 1022 = .ok (.iconst 0, 1) := by decide +kernel
theorem dL_law_1023 : decode cL_law 1023 = .ok (.laload, 1) := by decide +kernel
theorem dL_law_1024 : decode cL_law 1024 = .ok (.iload 7, 2) := by decide +kernel
theorem dL_law_1026 : decode cL_law 1026 = .ok (.i2l, 1) := by decide +kernel
theorem dL_law_1027 : decode cL_law 1027 = .ok (.lcmp, 1) := by decide +kernel
theorem dL_law_1028 : decode cL_law 1028 = .ok (.ifCond .eq 5, 3) := by decide +kernel
theorem dL_law_1031 : decode cL_law 1031 = .ok (.iconst 0, 1) := by decide +kernel
theorem dL_law_1032 : decode cL_law 1032 = .ok (.ireturn, 1) := by decide +kernel
theorem dL_law_1033 : decode cL_law 1033 = .ok (.goto 16, 3) := by decide +kernel
theorem dL_law_1036 : decode cL_law 1036 = .ok (.aload_n 1, 1) := by decide +kernel
theorem dL_law_1037 : decode cL_law 1037 = .ok (.invokevirtual 113, 3) := by decide +kernel
theorem dL_law_1040 : decode cL_law 1040 = .ok (.aload_n 2, 1) := by decide +kernel
theorem dL_law_1041 : decode cL_law 1041 = .ok (.invokevirtual 116, 3) := by decide +kernel
theorem dL_law_1044 : decode cL_law 1044 = .ok (.if_icmp .eq 5, 3) := by decide +kernel
theorem dL_law_1047 : decode cL_law 1047 = .ok (.iconst 0, 1) := by decide +kernel
theorem dL_law_1048 : decode cL_law 1048 = .ok (.ireturn, 1) := by decide +kernel
theorem dL_law_1049 : decode cL_law 1049 = .ok (.iinc 5 8, 3) := by decide +kernel
theorem dL_law_1052 : decode cL_law 1052 = .ok (.goto (-1024), 3) := by decide +kernel
theorem dL_law_1055 : decode cL_law 1055 = .ok (.iconst 1, 1) := by decide +kernel
theorem dL_law_1056 : decode cL_law 1056 = .ok (.ireturn, 1) := by decide +kernel
end
section
/-! LAYER: a heap as cells under tags; calls, reads and writes over it -/
abbrev Tg : Type := Nat × Nat × Nat
abbrev Tys (k : Nat → ClassId) : List (ClassId × FieldType) := [(k 0, .int), (k 1, .boolean), (k 2, .long), (k 3, .double), (k 4, .object RX2), (k 5, .object RX3)]
def Hp (D : va_G) (b : Nat) (L : Tg → Prop) (ad : Tg → Nat) (w : Tg → va_E) (H : Heap) : Prop :=
  (∀ t, L t → va_at D vwCl (ad t, w t) H) ∧ (∀ t u, L t → L u → ad t = ad u → t = u) ∧ (∀ t, L t → b ≤ ad t) ∧ b ≤ H.size
def uE (w : Tg → va_E) (t : Tg) (v : va_E) : Tg → va_E := fun u => if u = t then v else w u
def uA (ad : Tg → Nat) (t : Tg) (q : Nat) : Tg → Nat := fun u => if u = t then q else ad u
theorem uE_s {w : Tg → va_E} {t : Tg} {v : va_E} : uE w t v t = v := by simp [uE]
theorem uE_n {w : Tg → va_E} {t u : Tg} {v : va_E} (h : u ≠ t) : uE w t v u = w u := by simp [uE, h]
theorem uA_s {ad : Tg → Nat} {t : Tg} {q : Nat} : uA ad t q t = q := by simp [uA]
theorem uA_n {ad : Tg → Nat} {t u : Tg} {q : Nat} (h : u ≠ t) : uA ad t q u = ad u := by simp [uA, h]
abbrev Fb (b : Nat) : Nat → Prop := fun q => b ≤ q
theorem Hp.at {D : va_G} {b : Nat} {L : Tg → Prop} {ad : Tg → Nat} {w : Tg → va_E} {H : Heap} (h : Hp D b L ad w H) (t : Tg) (hL : L t) : va_P D vwCl [(ad t, w t)] H := by
  intro k q hq
  cases k with
  | zero => cases hq; exact h.1 t hL
  | succ k => simp at hq
theorem Hp.lt {D : va_G} {b : Nat} {L : Tg → Prop} {ad : Tg → Nat} {w : Tg → va_E} {H : Heap} (h : Hp D b L ad w H) {t : Tg} (hL : L t) : ad t < H.size := (h.1 t hL).lt
theorem Hp.set {D : va_G} {b : Nat} {L : Tg → Prop} {ad : Tg → Nat} {w : Tg → va_E} {H H1 : Heap} (h : Hp D b L ad w H) {t : Tg} (hL : L t) {v : va_E} (hc : va_at D vwCl (ad t, v) H1) (hz : H1.size = H.size) (ho : ∀ q : Nat, q ≠ ad t → H1[q]? = H[q]?) : Hp D b L ad (uE w t v) H1 := by
  refine ⟨fun u hu => ?_, h.2.1, h.2.2.1, by rw [hz]; exact h.2.2.2⟩
  by_cases e : u = t
  · subst e
    rw [uE_s]
    exact hc
  · rw [uE_n e]
    exact (h.1 u hu).kept (ho _ (fun q => e (h.2.1 u t hu hL q)))
theorem Hp.mono {D : va_G} {b : Nat} {L : Tg → Prop} {ad : Tg → Nat} {w : Tg → va_E} {H : Heap} (h : Hp D b L ad w H) {L' : Tg → Prop} {ad' : Tg → Nat} {w' : Tg → va_E} (hL : ∀ t, L' t → L t ∧ ad' t = ad t ∧ w' t = w t) : Hp D b L' ad' w' H := by
  refine ⟨fun t ht => ?_, fun t u ht hu q => ?_, fun t ht => ?_, h.2.2.2⟩
  · obtain ⟨h1, h2, h3⟩ := hL t ht
    rw [h2, h3]
    exact h.1 t h1
  · obtain ⟨h1, h2, -⟩ := hL t ht
    obtain ⟨g1, g2, -⟩ := hL u hu
    rw [h2, g2] at q
    exact h.2.1 t u h1 g1 q
  · obtain ⟨h1, h2, -⟩ := hL t ht
    rw [h2]
    exact h.2.2.1 t h1
theorem Hp.cg {D : va_G} {b : Nat} {L : Tg → Prop} {ad : Tg → Nat} {w w' : Tg → va_E} {H : Heap} (h : Hp D b L ad w H) (hw : ∀ t, L t → w' t = w t) : Hp D b L ad w' H := h.mono fun t ht => ⟨ht, rfl, hw t ht⟩
theorem Hp.push {D : va_G} {b : Nat} {L : Tg → Prop} {ad : Tg → Nat} {w : Tg → va_E} {H H1 : Heap} (h : Hp D b L ad w H) (t : Tg) {v : va_E} (hc : va_at D vwCl (H.size, v) H1) (hz : H1.size = H.size + 1) (ho : ∀ q : Nat, q < H.size → H1[q]? = H[q]?) : Hp D b (fun u => L u ∨ u = t) (uA ad t H.size) (uE w t v) H1 := by
  have key : ∀ u, (L u ∨ u = t) → u ≠ t → L u := fun u hu hn => hu.resolve_right hn
  refine ⟨fun u hu => ?_, fun u z hu hz2 q => ?_, fun u hu => ?_, by rw [hz]; exact Nat.le_succ_of_le h.2.2.2⟩
  · by_cases e : u = t
    · subst e
      rw [uE_s, uA_s]
      exact hc
    · rw [uE_n e, uA_n e]
      exact (h.1 u (key u hu e)).kept (ho _ (h.lt (key u hu e)))
  · by_cases e : u = t <;> by_cases e2 : z = t
    · rw [e, e2]
    · rw [e, uA_s, uA_n e2] at q
      have := h.lt (key z hz2 e2)
      omega
    · rw [e2, uA_s, uA_n e] at q
      have := h.lt (key u hu e)
      omega
    · rw [uA_n e, uA_n e2] at q
      exact h.2.1 u z (key u hu e) (key z hz2 e2) q
  · by_cases e : u = t
    · rw [e, uA_s]
      exact h.2.2.2
    · rw [uA_n e]
      exact h.2.2.1 u (key u hu e)
/-- what a method may take as given of the machine: classes, arrays' classes, the two statics of Throwable, who can't be cast to whom -/
def Nca (U : State) : Prop :=
  va_Nc "java/lang/IllegalStateException" "java/lang/IllegalArgumentException" U ∧ va_Nc "java/lang/IndexOutOfBoundsException" "java/lang/IllegalArgumentException" U ∧ va_Nc "java/lang/IllegalArgumentException" "java/lang/IllegalStateException" U ∧ va_Nc "java/lang/IndexOutOfBoundsException" "java/lang/IllegalStateException" U ∧ va_Nc "java/lang/IllegalArgumentException" "java/lang/IndexOutOfBoundsException" U ∧ va_Nc "java/lang/IllegalStateException" "java/lang/IndexOutOfBoundsException" U
theorem Nca.moved {u U : State} (hvm : u.vm.Alike U.vm) (h : Nca u) : Nca U := ⟨h.1.moved hvm, h.2.1.moved hvm, h.2.2.1.moved hvm, h.2.2.2.1.moved hvm, h.2.2.2.2.1.moved hvm, h.2.2.2.2.2.moved hvm⟩
def Cs (D : va_G) (k : Nat → ClassId) (b : Nat) (U : State) : Prop :=
  va_K D vwCl (Tys k) U ∧ vx_Zq Bundle.tN "UNASSIGNED_STACK" Bundle.steD (Fb b) U U.heap ∧ vx_Zq Bundle.tN "SUPPRESSED_SENTINEL" Bundle.listD (Fb b) U U.heap ∧ Nca U
theorem Cs.calling {D : va_G} {k : Nat → ClassId} {b : Nat} {U : State} {g : JFrame} {mk : MethodId} {a : Array Value} (h : Cs D k b U) : Cs D k b (U.calling g mk a) :=
  ⟨va_K.moved (u := U) (U := U.calling g mk a) (Vm.Alike.refl U.vm) h.1, vx_Zq.moved (u := U) (U := U.calling g mk a) (Vm.Alike.refl U.vm) h.2.1, vx_Zq.moved (u := U) (U := U.calling g mk a) (Vm.Alike.refl U.vm) h.2.2.1, Nca.moved (u := U) (U := U.calling g mk a) (Vm.Alike.refl U.vm) h.2.2.2⟩
theorem Cs.at {D : va_G} {k : Nat → ClassId} {b : Nat} {s U : State} {H : Heap} {locs : List Loc} (h : Cs D k b s) (hS : va_S (Fb b) s.heap H locs) (hU : U.heap = H) (hW : s.WarmedH U.vm) : Cs D k b U :=
  ⟨va_K.moved hW.alike h.1, by rw [hU]; exact vx_Zq.moved hW.alike (h.2.1.kept hS.2.1), by rw [hU]; exact vx_Zq.moved hW.alike (h.2.2.1.kept hS.2.1), h.2.2.2.moved hW.alike⟩
/-- a start; an end that only reads; one that writes (or makes); one that may throw -/
def P0 (D : va_G) (k : Nat → ClassId) (b : Nat) (B : Heap → Prop) (As : List Value) : Array Value → State → Prop := va_Pc As (fun U => Cs D k b U ∧ B U.heap)
def Qr (v : Option Value) : Array Value → State → Outcome → State → Prop := fun _ st oc t => oc = .returned v ∧ t.heap = st.heap
def Qw (b : Nat) (v : Option Value) (B : Heap → Prop) : Array Value → State → Outcome → State → Prop := fun _ st oc t => (oc = .returned v ∧ B t.heap) ∧ va_F (Fb b) st t
def Qx (b : Nat) (P : Prop) (v : Option Value) (B : Heap → Prop) : Array Value → State → Outcome → State → Prop := fun _ st oc t => (oc = .returned v ∧ P ∧ B t.heap) ∧ va_F (Fb b) st t
def Xx (b : Nat) (PE : String → Prop) (B : Heap → Prop) : String → State → State → Prop := fun E st t => (PE E ∧ B t.heap) ∧ va_F (Fb b) st t
theorem P0.blind {D : va_G} {k : Nat → ClassId} {b : Nat} {B : Heap → Prop} {As : List Value} : FrameBlind (P0 D k b B As) := fun _ _ _ _ q => ⟨q.1, q.2.1.calling, q.2.2⟩
theorem P0.pre {D : va_G} {k : Nat → ClassId} {b : Nat} {B : Heap → Prop} {As : List Value} {s : State} {H : Heap} {locs : List Loc} (hC : Cs D k b s) (hS : va_S (Fb b) s.heap H locs) (hB : B H) : PreS s H (P0 D k b B As) As :=
  ⟨P0.blind, fun _ hU hW => ⟨rfl, hC.at hS hU hW, by rw [hU]; exact hB⟩⟩
theorem Hp.recv {D : va_G} {b : Nat} {L : Tg → Prop} {ad : Tg → Nat} {w : Tg → va_E} {H : Heap} {s : State} {tys : List (ClassId × FieldType)} (hK : va_K D vwCl tys s) (h : Hp D b L ad w H) (t : Tg) (hL : L t) {ci : Nat} {fs : List Value} (he : w t = .inr (ci, fs)) {q : vw_C} (hc : vwCl[ci]? = some q) : ∃ cell : Cell, H[ad t]? = some cell ∧ cell.vm.isStatics = false ∧ s.vm.findClass q.1 = some cell.cls :=
  va_recv hK (h.at t hL) hc (q0 := 0) (by rw [he]; rfl)
theorem P0.preV {D : va_G} {k : Nat → ClassId} {b : Nat} {B : Heap → Prop} {a : Nat} {As : List Value} {s : State} {H : Heap} {locs : List Loc} {C : String} (hC : Cs D k b s) (hS : va_S (Fb b) s.heap H locs) (hB : B H) (hr : ∃ cell : Cell, H[a]? = some cell ∧ cell.vm.isStatics = false ∧ s.vm.findClass C = some cell.cls) : PreV s H C a (P0 D k b B (.ref a :: As)) As :=
  ⟨P0.blind, hr, fun _ hU hW => ⟨rfl, hC.at hS hU hW, by rw [hU]; exact hB⟩⟩
abbrev WS (y : MethodName) (bytes : ByteArray) (maxL : Nat) (ret : Option FieldType) : List Cond := .code y bytes maxL ret :: AW
abbrev WH (y : MethodName) (bytes : ByteArray) (maxL : Nat) (ret : Option FieldType) (hh : List (Nat × Nat × Nat × Nat)) : List Cond := .codeWith y bytes maxL ret hh :: AW
abbrev Sd (y : MethodName) (n : Nat) : Prop := y.cls ≠ "java/lang/invoke/MethodHandle" ∧ y.cls ≠ "java/lang/invoke/VarHandle" ∧ (parseMethodDescriptor y.desc).map (fun d => d.parameters.length) = some n
/-- contracts from bodies -/
theorem Met0 {l : Launch} {y : MethodName} {cc : ByteArray} {maxL : Nat} {ret : Option FieldType} {rm : Room} {D : va_G} {k : Nat → ClassId} {b : Nat} {B : Heap → Prop} {As : List Value} {Qc : Array Value → State → Outcome → State → Prop} {mc ms : Nat} {free : Addr → Prop} (hy : plainName y.cls = true) (hlen : (lg_sl As).length ≤ maxL)
    (body : ∀ (p : Program) (e : Env) (s : State) (m : MethodId) (below : List Frame) (meth : Method) (c : Code) (ls : Array Slot), p.tables.exec = Jvm.exec → c.code = cc → meth.sig.returnType = ret → (∀ w ∈ AW, w.before As.toArray s = true) → s.vm.findClass y.cls = some m.cls → c.maxLocals = maxL → meth.locks = false → meth.name = y.name → Cs D k b s → B s.heap → lv_has ls maxL (lv_args 0 As) →
      W p l e rm s m As.toArray below meth c s.heap [] 0 0 (MQ below Qc As.toArray s mc ms free) (F0 m 0 ls [])) : Met l y (WS y cc maxL ret) rm (P0 D k b B As) Qc mc ms free := by
  refine Met.ofW (cc := cc) (maxL := maxL) (ret := ret) hy rfl ?_
  intro p e s m args below meth c s₁ B9 hml hv
  obtain ⟨rfl, hC, hB⟩ := hv
  have hts0 := atoms_spec (ws := WS y cc maxL ret) B9.pre
  rw [lg_entry_eq]
  exact body p e s m below meth c _ B9.exec B9.bytes B9.returns (fun w h => hts0 w (List.mem_cons_of_mem _ h)) (findClass_of_methodNamed B9.named) hml B9.notSynchronized (name_of_methodNamed B9.named B9.method).1 hC hB (lv_entry As hlen)
theorem Met0x {l : Launch} {y : MethodName} {cc : ByteArray} {maxL : Nat} {ret : Option FieldType} {rm : Room} {D : va_G} {k : Nat → ClassId} {b : Nat} {B : Heap → Prop} {As : List Value} {Qc : Array Value → State → Outcome → State → Prop} {XC : String → State → State → Prop} {mc ms : Nat} {free : Addr → Prop} (hy : plainName y.cls = true) (hlen : (lg_sl As).length ≤ maxL)
    (body : ∀ (p : Program) (e : Env) (s : State) (m : MethodId) (below : List Frame) (meth : Method) (c : Code) (ls : Array Slot), p.tables.exec = Jvm.exec → c.code = cc → meth.sig.returnType = ret → (∀ w ∈ AW, w.before As.toArray s = true) → s.vm.findClass y.cls = some m.cls → c.maxLocals = maxL → meth.locks = false → (∀ x ∈ c.exceptionTable.toList, False) → Cs D k b s → B s.heap → lv_has ls maxL (lv_args 0 As) →
      W p l e rm s m As.toArray below meth c s.heap [] 0 0 (vx_MQ below Qc XC As.toArray s mc ms free) (F0 m 0 ls [])) : vx_Met l y (WS y cc maxL ret) rm (P0 D k b B As) Qc XC mc ms free := by
  refine vx_ofW (cc := cc) (maxL := maxL) (ret := ret) hy rfl ?_
  intro p e s m args below meth c s₁ B9 hml ht hv
  obtain ⟨rfl, hC, hB⟩ := hv
  have hts0 := atoms_spec (ws := WS y cc maxL ret) B9.pre
  rw [lg_entry_eq]
  exact body p e s m below meth c _ B9.exec B9.bytes B9.returns (fun w h => hts0 w (List.mem_cons_of_mem _ h)) (findClass_of_methodNamed B9.named) hml B9.notSynchronized ht hC hB (lv_entry As hlen)
theorem Met0h {l : Launch} {y : MethodName} {cc : ByteArray} {maxL : Nat} {ret : Option FieldType} {hh : List (Nat × Nat × Nat × Nat)} {rm : Room} {D : va_G} {k : Nat → ClassId} {b : Nat} {B : Heap → Prop} {As : List Value} {Qc : Array Value → State → Outcome → State → Prop} {mc ms : Nat} {free : Addr → Prop} (hy : plainName y.cls = true) (hlen : (lg_sl As).length ≤ maxL)
    (body : ∀ (p : Program) (e : Env) (s : State) (m : MethodId) (below : List Frame) (meth : Method) (c : Code) (ls : Array Slot), p.tables.exec = Jvm.exec → c.code = cc → meth.sig.returnType = ret → (∀ w ∈ AW, w.before As.toArray s = true) → s.vm.findClass y.cls = some m.cls → c.maxLocals = maxL → meth.locks = false → c.exceptionTable.toList = tableOf hh → Cs D k b s → B s.heap → lv_has ls maxL (lv_args 0 As) →
      W p l e rm s m As.toArray below meth c s.heap [] 0 0 (MQ below Qc As.toArray s mc ms free) (F0 m 0 ls [])) : Met l y (WH y cc maxL ret hh) rm (P0 D k b B As) Qc mc ms free := by
  refine va_MetW (cc := cc) (maxL := maxL) (ret := ret) (hh := hh) hy rfl ?_
  intro p e s m args below meth c s₁ B9 hml hv
  obtain ⟨rfl, hC, hB⟩ := hv
  have hts0 := atoms_spec (ws := WH y cc maxL ret hh) B9.pre
  rw [lg_entry_eq]
  exact body p e s m below meth c _ B9.exec B9.bytes B9.returns (fun w h => hts0 w (List.mem_cons_of_mem _ h)) (findClass_of_methodNamed B9.named) hml B9.notSynchronized (vx_table (x := y) B9 (hts0 _ List.mem_cons_self)) hC hB (lv_entry As hlen)
section LY
variable {p : Program} {l : Launch} {e : Env} {R : Room} {s : State} {m : MethodId} {args : Array Value} {below : List Frame} {meth : Method} {c : Code} {H : Heap} {locs : List Loc} {cells slots : Nat} {Q : State → Prop}
variable {cc : ByteArray} {pc : Nat} {ls : Array Slot} {rest st0 : List Value} {D : va_G} {b : Nat} {L : Tg → Prop} {ad : Tg → Nat} {w : Tg → va_E} {H0 : Heap} {k : Nat → ClassId} {a : Array Value} {mc ms : Nat}
/-- behind a call -/
theorem k_r {v : Option Value} (hr : va_Run p l e R s m args below meth c H locs cells slots 0 0 (F0 m pc ls st0) rest (Qr v a) (fun _ => False)) (kk : W p l e R s m args below meth c H locs cells slots Q (F0 m (pc + 3) ls (v.toList ++ rest))) : W p l e R s m args below meth c H locs cells slots Q (F0 m pc ls st0) := by
  intro T hT X
  obtain ⟨v', st₀, t, T', L9, h0, X', hL, e1, -, ⟨hv, hh⟩, st⟩ := hr T hT X
  cases hv
  obtain ⟨t2, a1, b1⟩ := kk T' (by rw [e1, hh, h0]) (Stand.forget X' (fun q h => (hL q h).elim))
  exact ⟨t2, st t2 a1, b1⟩
theorem k_w {v : Option Value} {B : Heap → Prop} (hr : va_Run p l e R s m args below meth c H locs cells slots mc ms (F0 m pc ls st0) rest (Qw b v B a) (Fb b)) (hS : va_S (Fb b) H0 H locs) (kk : ∀ (H1 : Heap) (locs1 : List Loc), B H1 → va_S (Fb b) H0 H1 locs1 → W p l e R s m args below meth c H1 locs1 (cells + mc) (slots + ms) Q (F0 m (pc + 3) ls (v.toList ++ rest))) : W p l e R s m args below meth c H locs cells slots Q (F0 m pc ls st0) := by
  intro T hT X
  obtain ⟨v', st₀, t, T', L9, h0, X', hL, e1, -, ⟨⟨hv, hB⟩, hF⟩, st⟩ := hr T hT X
  cases hv
  obtain ⟨-, -, k3⟩ := vx_keep h0 e1 hS (fun _ _ h => h) (fun _ h => h) hL hF
  obtain ⟨t2, a1, b1⟩ := kk T'.heap (locs ++ L9) (by rw [e1]; exact hB) k3 T' rfl X'
  exact ⟨t2, st t2 a1, b1⟩
theorem k_x {v : Option Value} {P : Prop} {PE : String → Prop} {B BX : Heap → Prop} (hr : vx_Run p l e R s m args below meth c H locs cells slots mc ms (F0 m pc ls st0) rest (Qx b P v B a) (Xx b PE BX) (Fb b)) (hS : va_S (Fb b) H0 H locs)
    (kx : ∀ (E : String) (ce : Cell) (q9 : Addr) (H1 : Heap) (locs1 : List Loc), PE E → BX H1 → va_S (Fb b) H0 H1 locs1 → H1[q9]? = some ce → ce.vm = .none → s.vm.findClass E = some ce.cls → vx_W p l e R s m args below meth c H1 locs1 (cells + mc) (slots + ms) Q (F0 m pc ls rest) q9)
    (kk : P → ∀ (H1 : Heap) (locs1 : List Loc), B H1 → va_S (Fb b) H0 H1 locs1 → W p l e R s m args below meth c H1 locs1 (cells + mc) (slots + ms) Q (F0 m (pc + 3) ls (v.toList ++ rest))) : W p l e R s m args below meth c H locs cells slots Q (F0 m pc ls st0) := by
  intro T hT X
  rcases hr T hT X with ⟨v', st₀, t, T', L9, h0, X', hL, e1, -, ⟨⟨hv, hP, hB⟩, hF⟩, st⟩ | ⟨q, st₀, t, T', L9, E, ce, h0, X', hL, e1, -, ⟨⟨hp, hB⟩, hF⟩, hce, hcv, hcl, st⟩
  · cases hv
    obtain ⟨-, -, k3⟩ := vx_keep h0 e1 hS (fun _ _ h => h) (fun _ h => h) hL hF
    obtain ⟨t2, a1, b1⟩ := kk hP T'.heap (locs ++ L9) (by rw [e1]; exact hB) k3 T' rfl X'
    exact ⟨t2, st t2 a1, b1⟩
  · obtain ⟨-, -, k3⟩ := vx_keep h0 e1 hS (fun _ _ h => h) (fun _ h => h) hL hF
    obtain ⟨t2, a1, b1⟩ := kx E ce q T'.heap (locs ++ L9) hp (by rw [e1]; exact hB) k3 (by rw [e1]; exact hce) hcv hcl T' rfl X'
    exact ⟨t2, st.trans a1, b1⟩
/-- a callee's words are ours -/
theorem cb_of {y : MethodName} {bytes : ByteArray} {maxL : Nat} {ret : Option FieldType} {rm : Room} {own : String} {index n : Nat} (hts : ∀ x ∈ AW, x.before args s = true) (hcode : Cond.code y bytes maxL ret ∈ AW) (hini : Cond.initialized y.cls ∈ AW) (hlink : Cond.methodLink own index y ∈ AW) (hd : Sd y n) (hrc : rm.cells = mc) (hrs : rm.slots = ms) (hR : rm.frames + 1 ≤ R.frames ∧ 8 + (maxL + 11) + rm.locals ≤ R.locals) :
    CallB R s args own index y bytes maxL ret (WS y bytes maxL ret) rm mc ms n := by
  refine ⟨hrc, hrs, hR.1, hR.2, fun x h a' U hW => ?_, List.mem_cons_self, hts _ hcode, hts _ hini, ⟨hd.1, hd.2.1⟩, fun sig h => ?_, hts _ hlink⟩
  · rcases List.mem_cons.mp h with h | h
    · rw [h]
      exact aw_stay hts _ hcode a' U hW
    · exact aw_stay hts _ h a' U hW
  · have h2 := hd.2.2
    rw [h] at h2
    exact (Option.some.inj h2).symm
theorem cn_of {y : MethodName} {bytes : ByteArray} {maxL : Nat} {ret : Option FieldType} {rm : Room} {own host : String} {index n : Nat} (hts : ∀ x ∈ AW, x.before args s = true) (hcode : Cond.code y bytes maxL ret ∈ AW) (hini : Cond.initialized y.cls ∈ AW) (hlink : Cond.methodLinkNest own index y host ∈ AW) (hd : Sd y n) (hrc : rm.cells = mc) (hrs : rm.slots = ms) (hR : rm.frames + 1 ≤ R.frames ∧ 8 + (maxL + 11) + rm.locals ≤ R.locals) :
    va_CN R s args own index y host bytes maxL ret (WS y bytes maxL ret) rm mc ms n := by
  refine ⟨⟨hrc, hrs, hR.1, hR.2, fun x h a' U hW => ?_, List.mem_cons_self⟩, hts _ hcode, hts _ hini, ⟨hd.1, hd.2.1⟩, fun sig h => ?_, hts _ hlink⟩
  · rcases List.mem_cons.mp h with h | h
    · rw [h]
      exact aw_stay hts _ hcode a' U hW
    · exact aw_stay hts _ h a' U hW
  · have h2 := hd.2.2
    rw [h] at h2
    exact (Option.some.inj h2).symm
theorem ch_of {y : MethodName} {bytes : ByteArray} {maxL : Nat} {ret : Option FieldType} {hh : List (Nat × Nat × Nat × Nat)} {rm : Room} {own : String} {index n : Nat} (hts : ∀ x ∈ AW, x.before args s = true) (hcode : Cond.codeWith y bytes maxL ret hh ∈ AW) (hini : Cond.initialized y.cls ∈ AW) (hlink : Cond.methodLink own index y ∈ AW) (hst : Cond.static y ∈ AW) (hd : Sd y n) (hrc : rm.cells = mc) (hrs : rm.slots = ms) (hR : rm.frames + 1 ≤ R.frames ∧ 8 + (maxL + 11) + rm.locals ≤ R.locals) :
    vx_CSW R s args own index y bytes maxL ret hh (WH y bytes maxL ret hh) rm mc ms n := by
  refine ⟨⟨hrc, hrs, hR.1, hR.2, fun x h a' U hW => ?_, List.mem_cons_self⟩, hts _ hcode, hts _ hini, ⟨hd.1, hd.2.1⟩, fun sig h => ?_, hts _ hlink, hts _ hst⟩
  · rcases List.mem_cons.mp h with h | h
    · rw [h]
      exact aw_stay hts _ hcode a' U hW
    · exact aw_stay hts _ h a' U hW
  · have h2 := hd.2.2
    rw [h] at h2
    exact (Option.some.inj h2).symm
/-- ends -/
theorem e_i {v z : Int32} (hx : p.tables.exec = Jvm.exec) (hb : c.code = cc) (hr : meth.sig.returnType = some .int) (hlocks : meth.locks = false) (hv : v = z) (hdg : decode cc pc = .ok (.ireturn, 1)) : W p l e R s m args below meth c s.heap [] 0 0 (MQ below (Qr (some (.int z))) args s 0 0 (fun _ => False)) (F0 m pc ls [.int v]) := by
  subst hv
  exact W.iret hx hb hr (fun t ht _ => ⟨rfl, ht⟩) (fun q hq => absurd hq List.not_mem_nil) hdg hlocks
theorem e_z {v z : Int32} (hx : p.tables.exec = Jvm.exec) (hb : c.code = cc) (hr : meth.sig.returnType = some .boolean) (hlocks : meth.locks = false) (hv : v = z) (hn : narrow .boolean (.int v) = .int v) (hdg : decode cc pc = .ok (.ireturn, 1)) : W p l e R s m args below meth c s.heap [] 0 0 (MQ below (Qr (some (.int z))) args s 0 0 (fun _ => False)) (F0 m pc ls [.int v]) := by
  subst hv
  exact W.zret hx hb hr hn (fun t ht _ => ⟨rfl, ht⟩) (fun q hq => absurd hq List.not_mem_nil) hdg hlocks
theorem e_a {v z : Value} {C : String} (hx : p.tables.exec = Jvm.exec) (hb : c.code = cc) (hr : meth.sig.returnType = some (.object C)) (hlocks : meth.locks = false) (hv : v = z) (hn : v = .null ∨ ∃ a, v = .ref a) (hdg : decode cc pc = .ok (.areturn, 1)) : W p l e R s m args below meth c s.heap [] 0 0 (MQ below (Qr (some z)) args s 0 0 (fun _ => False)) (F0 m pc ls [v]) := by
  subst hv
  exact W.aret hx hb hr (Or.inl ⟨_, rfl⟩) hn (fun t ht _ => ⟨rfl, ht⟩) (fun q hq => absurd hq List.not_mem_nil) hdg hlocks
theorem e_wv {B : Heap → Prop} (hx : p.tables.exec = Jvm.exec) (hb : c.code = cc) (hr : meth.sig.returnType = none) (hlocks : meth.locks = false) (hS : va_S (Fb b) s.heap H locs) (hB : B H) (hc : cells ≤ mc) (hs : slots ≤ ms) (hdg : decode cc pc = .ok (.return_, 1)) : W p l e R s m args below meth c H locs cells slots (MQ below (Qw b none B) args s mc ms (Fb b)) (F0 m pc ls []) :=
  W.widen hc hs (W.vret hx hb hr (fun t ht _ => ⟨⟨rfl, by rw [ht]; exact hB⟩, hS.F ht⟩) hS.2.2 hdg hlocks)
theorem e_wi {v z : Int32} {B : Heap → Prop} (hx : p.tables.exec = Jvm.exec) (hb : c.code = cc) (hr : meth.sig.returnType = some .int) (hlocks : meth.locks = false) (hv : v = z) (hS : va_S (Fb b) s.heap H locs) (hB : B H) (hc : cells ≤ mc) (hs : slots ≤ ms) (hdg : decode cc pc = .ok (.ireturn, 1)) : W p l e R s m args below meth c H locs cells slots (MQ below (Qw b (some (.int z)) B) args s mc ms (Fb b)) (F0 m pc ls [.int v]) := by
  subst hv
  exact W.widen hc hs (W.iret hx hb hr (fun t ht _ => ⟨⟨rfl, by rw [ht]; exact hB⟩, hS.F ht⟩) hS.2.2 hdg hlocks)
theorem e_xv {P : Prop} {B : Heap → Prop} {XC : String → State → State → Prop} (hx : p.tables.exec = Jvm.exec) (hb : c.code = cc) (hr : meth.sig.returnType = none) (hlocks : meth.locks = false) (hP : P) (hS : va_S (Fb b) s.heap H locs) (hB : B H) (hc : cells ≤ mc) (hs : slots ≤ ms) (hdg : decode cc pc = .ok (.return_, 1)) : W p l e R s m args below meth c H locs cells slots (vx_MQ below (Qx b P none B) XC args s mc ms (Fb b)) (F0 m pc ls []) :=
  W.widen hc hs (vx_ret (W.vret hx hb hr (fun t ht _ => ⟨⟨rfl, hP, by rw [ht]; exact hB⟩, hS.F ht⟩) hS.2.2 hdg hlocks))
theorem e_xi {P : Prop} {v z : Int32} {B : Heap → Prop} {XC : String → State → State → Prop} (hx : p.tables.exec = Jvm.exec) (hb : c.code = cc) (hr : meth.sig.returnType = some .int) (hlocks : meth.locks = false) (hP : P) (hv : v = z) (hS : va_S (Fb b) s.heap H locs) (hB : B H) (hc : cells ≤ mc) (hs : slots ≤ ms) (hdg : decode cc pc = .ok (.ireturn, 1)) : W p l e R s m args below meth c H locs cells slots (vx_MQ below (Qx b P (some (.int z)) B) XC args s mc ms (Fb b)) (F0 m pc ls [.int v]) := by
  subst hv
  exact W.widen hc hs (vx_ret (W.iret hx hb hr (fun t ht _ => ⟨⟨rfl, hP, by rw [ht]; exact hB⟩, hS.F ht⟩) hS.2.2 hdg hlocks))
theorem e_xf {P : Prop} {v z : UInt32} {B : Heap → Prop} {XC : String → State → State → Prop} (hx : p.tables.exec = Jvm.exec) (hb : c.code = cc) (hr : meth.sig.returnType = some .float) (hlocks : meth.locks = false) (hP : P) (hv : v = z) (hS : va_S (Fb b) s.heap H locs) (hB : B H) (hc : cells ≤ mc) (hs : slots ≤ ms) (hdg : decode cc pc = .ok (.freturn, 1)) : W p l e R s m args below meth c H locs cells slots (vx_MQ below (Qx b P (some (.float z)) B) XC args s mc ms (Fb b)) (F0 m pc ls [.float v]) := by
  subst hv
  exact W.widen hc hs (vx_ret (W.fret hx hb hr (fun t ht _ => ⟨⟨rfl, hP, by rw [ht]; exact hB⟩, hS.F ht⟩) hS.2.2 hdg hlocks))
theorem e_wf {v z : UInt32} {B : Heap → Prop} (hx : p.tables.exec = Jvm.exec) (hb : c.code = cc) (hr : meth.sig.returnType = some .float) (hlocks : meth.locks = false) (hv : v = z) (hS : va_S (Fb b) s.heap H locs) (hB : B H) (hc : cells ≤ mc) (hs : slots ≤ ms) (hdg : decode cc pc = .ok (.freturn, 1)) : W p l e R s m args below meth c H locs cells slots (MQ below (Qw b (some (.float z)) B) args s mc ms (Fb b)) (F0 m pc ls [.float v]) := by
  subst hv
  exact W.widen hc hs (W.fret hx hb hr (fun t ht _ => ⟨⟨rfl, by rw [ht]; exact hB⟩, hS.F ht⟩) hS.2.2 hdg hlocks)
/-- fields -/
theorem r_get (hx : p.tables.exec = Jvm.exec) (hb : c.code = cc) (hts : ∀ x ∈ AW, x.before args s = true) {ow : String} (hown : s.vm.findClass ow = some m.cls) (hC : Cs D k b s) (hH : Hp D b L ad w H) (t : Tg) (hL : L t) {C : String} {T : u_T} {N ci : Nat} {fs : List Value} (he : w t = .inr (ci, fs)) (hc : vwCl[ci]? = some (C, T, N)) (hin : ∀ x ∈ u_ws C T N, x ∈ AW) (j : Nat) (hj : j < N) {index : Nat} (hlink : Cond.fieldLink ow index (T j).1 (T j).2.1 (T j).2.2.1 ∈ AW) {v : Value} (hv : fs[j]? = some v) (hdg : decode cc pc = .ok (.getfield index, 3))
    (kk : W p l e R s m args below meth c H locs cells slots Q (F0 m (pc + 3) ls (v :: rest))) : W p l e R s m args below meth c H locs cells slots Q (F0 m pc ls (.ref (ad t) :: rest)) :=
  va_get hx hb hts hin hown hC.1 (hH.at t hL) 0 (by rw [he]; rfl) hc j hj (hts _ hlink) (fun _ h => h) hv hdg kk
theorem r_getN (hx : p.tables.exec = Jvm.exec) (hb : c.code = cc) (hts : ∀ x ∈ AW, x.before args s = true) {ow : String} (hown : s.vm.findClass ow = some m.cls) (hC : Cs D k b s) (hH : Hp D b L ad w H) (t : Tg) (hL : L t) {C : String} {T : u_T} {N ci : Nat} {fs : List Value} (he : w t = .inr (ci, fs)) (hc : vwCl[ci]? = some (C, T, N)) (hin : ∀ x ∈ u_ws C T N, x ∈ AW) (j : Nat) (hj : j < N) {index : Nat} {host : String} (hlink : Cond.fieldLinkNest ow index (T j).1 (T j).2.1 (T j).2.2.1 host ∈ AW) {v : Value} (hv : fs[j]? = some v) (hdg : decode cc pc = .ok (.getfield index, 3))
    (kk : W p l e R s m args below meth c H locs cells slots Q (F0 m (pc + 3) ls (v :: rest))) : W p l e R s m args below meth c H locs cells slots Q (F0 m pc ls (.ref (ad t) :: rest)) :=
  va_getN hx hb hts hin hown hC.1 (hH.at t hL) 0 (by rw [he]; rfl) hc j hj (hts _ hlink) (fun _ h => h) hv hdg kk
theorem r_put (hx : p.tables.exec = Jvm.exec) (hb : c.code = cc) (hts : ∀ x ∈ AW, x.before args s = true) {ow : String} (hown : s.vm.findClass ow = some m.cls) (hC : Cs D k b s) (hH : Hp D b L ad w H) (hS0 : va_S (Fb b) H0 H locs) (t : Tg) (hL : L t) {C : String} {T : u_T} {N ci : Nat} {fs : List Value} (he : w t = .inr (ci, fs)) (hc : vwCl[ci]? = some (C, T, N)) (hin : ∀ x ∈ u_ws C T N, x ∈ AW) (ty0 : Nat → FieldType) (hty : ∀ k, k < N → parseFieldDescriptor (T k).2.2.1 = some (ty0 k)) (hnm : ∀ a, a < N → ∀ b, b < N → a ≠ b → (T a).2.1 ≠ (T b).2.1) (j : Nat) (hj : j < N) (hfin : (T j).2.2.2 = false) {index : Nat} (hlink : Cond.fieldLink ow index (T j).1 (T j).2.1 (T j).2.2.1 ∈ AW) {v : Value} (hn : narrow (ty0 j) v = v) (hfit : fits (ty0 j) v = true) (hl : j < fs.length) (hdg : decode cc pc = .ok (.putfield index, 3))
    (kk : ∀ (H1 : Heap) (locs1 : List Loc), Hp D b L ad (uE w t (.inr (ci, fs.set j v))) H1 → va_S (Fb b) H0 H1 locs1 → W p l e R s m args below meth c H1 locs1 cells slots Q (F0 m (pc + 3) ls rest)) : W p l e R s m args below meth c H locs cells slots Q (F0 m pc ls (v :: .ref (ad t) :: rest)) := by
  have hap := va_apart (own := ow) hts hin ty0 hty hnm hC.1 hc
  have hat := hH.1 t hL
  rw [he] at hat
  obtain ⟨r, h1, cell, q1, q2, q3, q4⟩ := hat
  have hr : r = (C, T, N) := Option.some.inj (h1.symm.trans hc)
  subst hr
  obtain ⟨hS, hfc, kC, hkC, hkind⟩ := hC.1.1 ci _ hc
  obtain ⟨cf, kf, fi, f, hi, hsl⟩ := hS j hj
  have hlay := hts _ (hin _ (u_in_lay hj))
  unfold u_lay at hlay
  rw [if_neg (by rw [hfin]; decide)] at hlay
  have hst := (u_facts hfc hkC (u_lays hts hin hj) hi).1
  have h6 := u_store hfc hkC hkind hlay hi (hty j hj) hn hfit
  refine W.putK hx hb (f := f) ⟨hown, hts _ hlink, ⟨_, _, _, hi⟩, hst⟩ (by rw [q2]; exact h6) q1 q3 (by rw [hsl]; exact k2_hasslot (q4 j hj)) rfl rfl hdg fun H' e1 e2 e3 => ?_
  rw [hsl] at e1 ⊢
  exact kk H' _ (hH.set hL ⟨_, hc, t_OB.to (V := updV (vp_V fs) j v) ⟨_, e1, q2, q3, t_set q4 hap hj v⟩ (fun z _ => vp_updV_set hl v z)⟩ e2 e3) (hS0.put e2 e3 (hH.2.2.1 t hL))
theorem r_putN (hx : p.tables.exec = Jvm.exec) (hb : c.code = cc) (hts : ∀ x ∈ AW, x.before args s = true) {ow : String} (hown : s.vm.findClass ow = some m.cls) (hC : Cs D k b s) (hH : Hp D b L ad w H) (hS0 : va_S (Fb b) H0 H locs) (t : Tg) (hL : L t) {C : String} {T : u_T} {N ci : Nat} {fs : List Value} (he : w t = .inr (ci, fs)) (hc : vwCl[ci]? = some (C, T, N)) (hin : ∀ x ∈ u_ws C T N, x ∈ AW) (ty0 : Nat → FieldType) (hty : ∀ k, k < N → parseFieldDescriptor (T k).2.2.1 = some (ty0 k)) (hnm : ∀ a, a < N → ∀ b, b < N → a ≠ b → (T a).2.1 ≠ (T b).2.1) (j : Nat) (hj : j < N) (hfin : (T j).2.2.2 = false) {index : Nat} {host : String} (hlink : Cond.fieldLinkNest ow index (T j).1 (T j).2.1 (T j).2.2.1 host ∈ AW) {v : Value} (hn : narrow (ty0 j) v = v) (hfit : fits (ty0 j) v = true) (hl : j < fs.length) (hdg : decode cc pc = .ok (.putfield index, 3))
    (kk : ∀ (H1 : Heap) (locs1 : List Loc), Hp D b L ad (uE w t (.inr (ci, fs.set j v))) H1 → va_S (Fb b) H0 H1 locs1 → W p l e R s m args below meth c H1 locs1 cells slots Q (F0 m (pc + 3) ls rest)) : W p l e R s m args below meth c H locs cells slots Q (F0 m pc ls (v :: .ref (ad t) :: rest)) := by
  have hap := va_apart (own := ow) hts hin ty0 hty hnm hC.1 hc
  have hat := hH.1 t hL
  rw [he] at hat
  obtain ⟨r, h1, cell, q1, q2, q3, q4⟩ := hat
  have hr : r = (C, T, N) := Option.some.inj (h1.symm.trans hc)
  subst hr
  obtain ⟨hS, hfc, kC, hkC, hkind⟩ := hC.1.1 ci _ hc
  obtain ⟨cf, kf, fi, f, hi, hsl⟩ := hS j hj
  have hlay := hts _ (hin _ (u_in_lay hj))
  unfold u_lay at hlay
  rw [if_neg (by rw [hfin]; decide)] at hlay
  have hst := (u_facts hfc hkC (u_lays hts hin hj) hi).1
  have h6 := u_store hfc hkC hkind hlay hi (hty j hj) hn hfit
  refine va_WputK hx hb (f := f) hown (hts _ hlink) hi hst (by rw [q2]; exact h6) q1 q3 (by rw [hsl]; exact k2_hasslot (q4 j hj)) rfl rfl hdg fun H' e1 e2 e3 => ?_
  rw [hsl] at e1 ⊢
  exact kk H' _ (hH.set hL ⟨_, hc, t_OB.to (V := updV (vp_V fs) j v) ⟨_, e1, q2, q3, t_set q4 hap hj v⟩ (fun z _ => vp_updV_set hl v z)⟩ e2 e3) (hS0.put e2 e3 (hH.2.2.1 t hL))
theorem r_putF (hx : p.tables.exec = Jvm.exec) (hb : c.code = cc) (hts : ∀ x ∈ AW, x.before args s = true) {ow : String} (hown : s.vm.findClass ow = some m.cls) (hnm0 : meth.name = "<init>") (hC : Cs D k b s) (hH : Hp D b L ad w H) (hS0 : va_S (Fb b) H0 H locs) (t : Tg) (hL : L t) {C : String} {T : u_T} {N ci : Nat} {fs : List Value} (he : w t = .inr (ci, fs)) (hc : vwCl[ci]? = some (C, T, N)) (hin : ∀ x ∈ u_ws C T N, x ∈ AW) (ty0 : Nat → FieldType) (hty : ∀ k, k < N → parseFieldDescriptor (T k).2.2.1 = some (ty0 k)) (hnm : ∀ a, a < N → ∀ b, b < N → a ≠ b → (T a).2.1 ≠ (T b).2.1) (j : Nat) (hj : j < N) (hfin : (T j).2.2.2 = true) (hdecl : (T j).1 = ow) {index : Nat} (hlink : Cond.fieldLink ow index (T j).1 (T j).2.1 (T j).2.2.1 ∈ AW) {v : Value} (hn : narrow (ty0 j) v = v) (hfit : fits (ty0 j) v = true) (hl : j < fs.length) (hdg : decode cc pc = .ok (.putfield index, 3))
    (kk : ∀ (H1 : Heap) (locs1 : List Loc), Hp D b L ad (uE w t (.inr (ci, fs.set j v))) H1 → va_S (Fb b) H0 H1 locs1 → W p l e R s m args below meth c H1 locs1 cells slots Q (F0 m (pc + 3) ls rest)) : W p l e R s m args below meth c H locs cells slots Q (F0 m pc ls (v :: .ref (ad t) :: rest)) := by
  have hap := va_apart (own := ow) hts hin ty0 hty hnm hC.1 hc
  have hat := hH.1 t hL
  rw [he] at hat
  obtain ⟨r, h1, cell, q1, q2, q3, q4⟩ := hat
  have hr : r = (C, T, N) := Option.some.inj (h1.symm.trans hc)
  subst hr
  obtain ⟨hS, hfc, kC, hkC, hkind⟩ := hC.1.1 ci _ hc
  obtain ⟨cf, kf, fi, f, hi, hsl⟩ := hS j hj
  have hlay := hts _ (hin _ (u_in_lay hj))
  unfold u_lay at hlay
  rw [if_pos hfin] at hlay
  have hst := (u_facts hfc hkC (u_lays hts hin hj) hi).1
  have hcf : m.cls = cf := by
    obtain ⟨_, _, c', _, _, _, -, -, hf', -, -, -, hown2, -⟩ := Cond.laysFinal_spec hlay
    have e1 : c' = cf := by have := hi.symm.trans hf'; simp at this; exact this.1.symm
    rw [hdecl] at hown2
    rw [← e1]; exact Option.some.inj (hown.symm.trans hown2)
  have h6 := u_fits hfc hkC hkind (Or.inr hlay) hi (hty j hj) hn hfit
  refine W.putFinK hx hb hown (hts _ hlink) hi hst hcf hnm0 (by rw [q2]; exact h6) q1 q3 (by rw [hsl]; exact k2_hasslot (q4 j hj)) rfl rfl hdg fun H' e1 e2 e3 => ?_
  rw [hsl] at e1 ⊢
  exact kk H' _ (hH.set hL ⟨_, hc, t_OB.to (V := updV (vp_V fs) j v) ⟨_, e1, q2, q3, t_set q4 hap hj v⟩ (fun z _ => vp_updV_set hl v z)⟩ e2 e3) (hS0.put e2 e3 (hH.2.2.1 t hL))
/-- arrays -/
theorem r_iald (hx : p.tables.exec = Jvm.exec) (hb : c.code = cc) (hC : Cs D k b s) (hH : Hp D b L ad w H) (t : Tg) (hL : L t) {n : Nat} {f : Nat → Int32} (he : w t = .inl (k 0, n, .inl f)) {i : Int32} (hin : vp_in i n) (hdg : decode cc pc = .ok (.iaload, 1))
    (kk : W p l e R s m args below meth c H locs cells slots Q (F0 m (pc + 1) ls (.int (f i.toNatClampNeg) :: rest))) : W p l e R s m args below meth c H locs cells slots Q (F0 m pc ls (.int i :: .ref (ad t) :: rest)) :=
  va_iald hx hb hC.1 (hH.at t hL) 0 0 (by rw [he]; rfl) rfl hin hdg kk
theorem r_zald (hx : p.tables.exec = Jvm.exec) (hb : c.code = cc) (hC : Cs D k b s) (hH : Hp D b L ad w H) (t : Tg) (hL : L t) {n : Nat} {f : Nat → Int32} (he : w t = .inl (k 1, n, .inl f)) {i : Int32} (hin : vp_in i n) (hdg : decode cc pc = .ok (.baload, 1))
    (kk : W p l e R s m args below meth c H locs cells slots Q (F0 m (pc + 1) ls (.int (f i.toNatClampNeg) :: rest))) : W p l e R s m args below meth c H locs cells slots Q (F0 m pc ls (.int i :: .ref (ad t) :: rest)) :=
  va_zald hx hb hC.1 (hH.at t hL) 0 1 (by rw [he]; rfl) rfl hin hdg kk
theorem r_lald (hx : p.tables.exec = Jvm.exec) (hb : c.code = cc) (hC : Cs D k b s) (hH : Hp D b L ad w H) (t : Tg) (hL : L t) {n : Nat} {f : Nat → Int64} (he : w t = .inl (k 2, n, .inr (.inl f))) {i : Int32} (hin : vp_in i n) (hdg : decode cc pc = .ok (.laload, 1))
    (kk : W p l e R s m args below meth c H locs cells slots Q (F0 m (pc + 1) ls (.long (f i.toNatClampNeg) :: rest))) : W p l e R s m args below meth c H locs cells slots Q (F0 m pc ls (.int i :: .ref (ad t) :: rest)) :=
  va_lald hx hb hC.1 (hH.at t hL) 0 2 (by rw [he]; rfl) rfl hin hdg kk
theorem r_dald (hx : p.tables.exec = Jvm.exec) (hb : c.code = cc) (hC : Cs D k b s) (hH : Hp D b L ad w H) (t : Tg) (hL : L t) {n : Nat} {f : Nat → UInt64} (he : w t = .inl (k 3, n, .inr (.inr (.inr (.inl f))))) {i : Int32} (hin : vp_in i n) (hdg : decode cc pc = .ok (.daload, 1))
    (kk : W p l e R s m args below meth c H locs cells slots Q (F0 m (pc + 1) ls (.double (f i.toNatClampNeg) :: rest))) : W p l e R s m args below meth c H locs cells slots Q (F0 m pc ls (.int i :: .ref (ad t) :: rest)) :=
  va_dald hx hb hC.1 (hH.at t hL) 0 3 (by rw [he]; rfl) rfl hin hdg kk
theorem r_aldM (hx : p.tables.exec = Jvm.exec) (hb : c.code = cc) (hC : Cs D k b s) (hH : Hp D b L ad w H) (t : Tg) (hL : L t) {n : Nat} {f : Nat → Option Nat} (he : w t = .inl (k 4, n, .inr (.inr (.inr (.inr f))))) {i : Int32} (hin : vp_in i n) (hdg : decode cc pc = .ok (.aaload, 1))
    (kk : W p l e R s m args below meth c H locs cells slots Q (F0 m (pc + 1) ls (va_rf (f i.toNatClampNeg) :: rest))) : W p l e R s m args below meth c H locs cells slots Q (F0 m pc ls (.int i :: .ref (ad t) :: rest)) :=
  va_aldq hx hb hC.1 (hH.at t hL) 0 4 (by rw [he]; rfl) rfl hin hdg kk
theorem r_aldP (hx : p.tables.exec = Jvm.exec) (hb : c.code = cc) (hC : Cs D k b s) (hH : Hp D b L ad w H) (t : Tg) (hL : L t) {n : Nat} {f : Nat → Option Nat} (he : w t = .inl (k 5, n, .inr (.inr (.inr (.inr f))))) {i : Int32} (hin : vp_in i n) (hdg : decode cc pc = .ok (.aaload, 1))
    (kk : W p l e R s m args below meth c H locs cells slots Q (F0 m (pc + 1) ls (va_rf (f i.toNatClampNeg) :: rest))) : W p l e R s m args below meth c H locs cells slots Q (F0 m pc ls (.int i :: .ref (ad t) :: rest)) :=
  va_aldq hx hb hC.1 (hH.at t hL) 0 5 (by rw [he]; rfl) rfl hin hdg kk
theorem r_alen (hx : p.tables.exec = Jvm.exec) (hb : c.code = cc) (hC : Cs D k b s) (hH : Hp D b L ad w H) (t : Tg) (hL : L t) {cA : ClassId} {x : vp_A} (he : w t = .inl (cA, x)) (t0 : Nat) {ty : FieldType} (ht : (Tys k)[t0]? = some (cA, ty)) {v : Int32} (hv : Int32.ofNat x.1 = v) (hdg : decode cc pc = .ok (.arraylength, 1))
    (kk : W p l e R s m args below meth c H locs cells slots Q (F0 m (pc + 1) ls (.int v :: rest))) : W p l e R s m args below meth c H locs cells slots Q (F0 m pc ls (.ref (ad t) :: rest)) :=
  va_alen hx hb hC.1 (hH.at t hL) 0 t0 (by rw [he]; rfl) ht hv hdg kk
theorem cell_upd {α : Type} (mk : α → Value) {cA : ClassId} {n q : Nat} {f g : Nat → α} {x : α} (hs : g q = x) (hn : ∀ j, j ≠ q → g j = f j) : (arrV cA n (fun j => mk (f j))).setSlot q (mk x) = arrV cA n (fun j => mk (g j)) := by
  rw [arrV_store]
  congr 1
  funext j
  by_cases h : j = q
  · subst h
    simp [updV, hs]
  · simp [updV, h, hn j h]
theorem r_iast (hx : p.tables.exec = Jvm.exec) (hb : c.code = cc) (hC : Cs D k b s) (hH : Hp D b L ad w H) (hS : va_S (Fb b) H0 H locs) (t : Tg) (hL : L t) {n : Nat} {f : Nat → Int32} (he : w t = .inl (k 0, n, .inl f)) {i x : Int32} (hin : vp_in i n) (hdg : decode cc pc = .ok (.iastore, 1))
    (kk : ∀ (H1 : Heap) (locs1 : List Loc), Hp D b L ad (uE w t (.inl (k 0, n, .inl (upd f i.toNatClampNeg x)))) H1 → va_S (Fb b) H0 H1 locs1 → W p l e R s m args below meth c H1 locs1 cells slots Q (F0 m (pc + 1) ls rest)) : W p l e R s m args below meth c H locs cells slots Q (F0 m pc ls (.int x :: .int i :: .ref (ad t) :: rest)) := by
  have hat := hH.1 t hL
  rw [he] at hat
  refine W.iast hx hb hat ((hC.1.2 0 _ rfl).1 n (fun j => .int (f j))) (fun q => by cases q) (by show ¬ (i < 0 ∨ (arrV _ _ _).slots.size ≤ _); rw [arrV_size]; exact hin) rfl rfl hdg fun H1 e1 z oq => ?_
  refine kk H1 _ (hH.set hL ?_ z oq) (hS.put z oq (hH.2.2.1 t hL))
  show H1[ad t]? = some (vp_cell _ _)
  rw [e1]
  exact congrArg some (cell_upd (fun y => Value.int y) (by simp [upd]) (fun j h => by simp [upd, h]))
theorem r_zast (hx : p.tables.exec = Jvm.exec) (hb : c.code = cc) (hC : Cs D k b s) (hH : Hp D b L ad w H) (hS : va_S (Fb b) H0 H locs) (t : Tg) (hL : L t) {n : Nat} {f : Nat → Int32} (he : w t = .inl (k 1, n, .inl f)) {i x : Int32} (hin : vp_in i n) (hn : narrow .boolean (.int x) = .int x) (hdg : decode cc pc = .ok (.bastore, 1))
    (kk : ∀ (H1 : Heap) (locs1 : List Loc), Hp D b L ad (uE w t (.inl (k 1, n, .inl (upd f i.toNatClampNeg x)))) H1 → va_S (Fb b) H0 H1 locs1 → W p l e R s m args below meth c H1 locs1 cells slots Q (F0 m (pc + 1) ls rest)) : W p l e R s m args below meth c H locs cells slots Q (F0 m pc ls (.int x :: .int i :: .ref (ad t) :: rest)) := by
  have hat := hH.1 t hL
  rw [he] at hat
  refine W.zast hx hb hat ((hC.1.2 1 _ rfl).1 n (fun j => .int (f j))) (fun q => by cases q) (by show ¬ (i < 0 ∨ (arrV _ _ _).slots.size ≤ _); rw [arrV_size]; exact hin) rfl rfl hdg fun H1 e1 z oq => ?_
  refine kk H1 _ (hH.set hL ?_ z oq) (hS.put z oq (hH.2.2.1 t hL))
  show H1[ad t]? = some (vp_cell _ _)
  rw [e1, hn]
  exact congrArg some (cell_upd (fun y => Value.int y) (by simp [upd]) (fun j h => by simp [upd, h]))
theorem r_last (hx : p.tables.exec = Jvm.exec) (hb : c.code = cc) (hC : Cs D k b s) (hH : Hp D b L ad w H) (hS : va_S (Fb b) H0 H locs) (t : Tg) (hL : L t) {n : Nat} {f : Nat → Int64} (he : w t = .inl (k 2, n, .inr (.inl f))) {i : Int32} {x : Int64} (hin : vp_in i n) (hdg : decode cc pc = .ok (.lastore, 1))
    (kk : ∀ (H1 : Heap) (locs1 : List Loc), Hp D b L ad (uE w t (.inl (k 2, n, .inr (.inl (vp_updL f i.toNatClampNeg x))))) H1 → va_S (Fb b) H0 H1 locs1 → W p l e R s m args below meth c H1 locs1 cells slots Q (F0 m (pc + 1) ls rest)) : W p l e R s m args below meth c H locs cells slots Q (F0 m pc ls (.long x :: .int i :: .ref (ad t) :: rest)) := by
  have hat := hH.1 t hL
  rw [he] at hat
  refine W.last hx hb hat ((hC.1.2 2 _ rfl).1 n (fun j => .long (f j))) (fun q => by cases q) (by show ¬ (i < 0 ∨ (arrV _ _ _).slots.size ≤ _); rw [arrV_size]; exact hin) rfl rfl hdg fun H1 e1 z oq => ?_
  refine kk H1 _ (hH.set hL ?_ z oq) (hS.put z oq (hH.2.2.1 t hL))
  show H1[ad t]? = some (vp_cell _ _)
  rw [e1]
  exact congrArg some (cell_upd (fun y => Value.long y) (by simp [vp_updL]) (fun j h => by simp [vp_updL, h]))
theorem r_dast (hx : p.tables.exec = Jvm.exec) (hb : c.code = cc) (hC : Cs D k b s) (hH : Hp D b L ad w H) (hS : va_S (Fb b) H0 H locs) (t : Tg) (hL : L t) {n : Nat} {f : Nat → UInt64} (he : w t = .inl (k 3, n, .inr (.inr (.inr (.inl f))))) {i : Int32} {x : UInt64} (hin : vp_in i n) (hdg : decode cc pc = .ok (.dastore, 1))
    (kk : ∀ (H1 : Heap) (locs1 : List Loc), Hp D b L ad (uE w t (.inl (k 3, n, .inr (.inr (.inr (.inl (vf_upd f i.toNatClampNeg x))))))) H1 → va_S (Fb b) H0 H1 locs1 → W p l e R s m args below meth c H1 locs1 cells slots Q (F0 m (pc + 1) ls rest)) : W p l e R s m args below meth c H locs cells slots Q (F0 m pc ls (.double x :: .int i :: .ref (ad t) :: rest)) := by
  have hat := hH.1 t hL
  rw [he] at hat
  refine W.dast hx hb hat ((hC.1.2 3 _ rfl).1 n (fun j => .double (f j))) (fun q => by cases q) (by show ¬ (i < 0 ∨ (arrV _ _ _).slots.size ≤ _); rw [arrV_size]; exact hin) rfl rfl hdg fun H1 e1 z oq => ?_
  refine kk H1 _ (hH.set hL ?_ z oq) (hS.put z oq (hH.2.2.1 t hL))
  show H1[ad t]? = some (vp_cell _ _)
  rw [e1]
  exact congrArg some (cell_upd (fun y => Value.double y) (by simp [vf_upd]) (fun j h => by simp [vf_upd, h]))
/-- a reference into an array of masts or phones (t0: its place in Tys) -/
theorem r_aast (hx : p.tables.exec = Jvm.exec) (hb : c.code = cc) (hC : Cs D k b s) (hH : Hp D b L ad w H) (hS : va_S (Fb b) H0 H locs) (t : Tg) (hL : L t) (t0 : Nat) {r : vw_C} (ht : (Tys k)[t0]? = some (k t0, .object r.1)) {n : Nat} {f : Nat → Option Nat} (he : w t = .inl (k t0, n, .inr (.inr (.inr (.inr f))))) (u : Tg) (hu : L u) {ci : Nat} {vs : List Value} (hv : w u = .inr (ci, vs)) (hc : vwCl[ci]? = some r) {i : Int32} (hin : vp_in i n) (hdg : decode cc pc = .ok (.aastore, 1))
    (kk : ∀ (H1 : Heap) (locs1 : List Loc), Hp D b L ad (uE w t (.inl (k t0, n, .inr (.inr (.inr (.inr (va_up f i.toNatClampNeg (some (ad u)))))))) ) H1 → va_S (Fb b) H0 H1 locs1 → W p l e R s m args below meth c H1 locs1 cells slots Q (F0 m (pc + 1) ls rest)) : W p l e R s m args below meth c H locs cells slots Q (F0 m pc ls (.ref (ad u) :: .int i :: .ref (ad t) :: rest)) := by
  have hat := hH.1 t hL
  rw [he] at hat
  have hau := hH.1 u hu
  rw [hv] at hau
  have hlt : i.toNatClampNeg < n := Nat.not_le.mp fun q => hin (Or.inr q)
  have h0 : ¬ i < 0 := fun q => hin (Or.inl q)
  obtain ⟨r', hr', cellV, g1, g2, g3, -⟩ := hau
  have hcls := (hC.1.1 ci r hc).2
  obtain ⟨kA, comp, k1, k2, k3, -⟩ := (hC.1.2 t0 _ ht).2
  have hcomp : comp = D.1 ci := Option.some.inj (k3.symm.trans hcls.1)
  subst hcomp
  obtain ⟨kC, hkC, -⟩ := hcls.2
  refine W.aast hx hb hat (fun q h => by cases h) (fun h => by cases h) k1 k2 rfl hkC ⟨h0, by show _ < (arrV _ _ _).slots.size; rw [arrV_size]; exact hlt⟩ g1 (fun q h => by rw [g3] at h; cases h) (by rw [g2]; exact hkC) (by rw [g2]; exact va_assign hcls) rfl rfl hdg fun H1 e1 z oq => ?_
  refine kk H1 _ (hH.set hL ?_ z oq) (hS.put z oq (hH.2.2.1 t hL))
  show H1[ad t]? = some (vp_cell _ _)
  rw [e1]
  exact congrArg some (cell_upd (x := some (ad u)) va_rf (by simp [va_up]) (fun j h => by simp [va_up, h]))
/-- making: an object, an array of numbers, an array of references -/
theorem r_new (hx : p.tables.exec = Jvm.exec) (hb : c.code = cc) (hts : ∀ x ∈ AW, x.before args s = true) {ow : String} (hown : s.vm.findClass ow = some m.cls) (hC : Cs D k b s) (hH : Hp D b L ad w H) (hS : va_S (Fb b) H0 H locs) (hb0 : b ≤ H0.size) (t : Tg) {C : String} {T : u_T} {N ci : Nat} (hc : vwCl[ci]? = some (C, T, N)) (hin : ∀ x ∈ u_ws C T N, x ∈ AW) (ty0 : Nat → FieldType) (hty : ∀ k, k < N → parseFieldDescriptor (T k).2.2.1 = some (ty0 k)) {index : Nat} (hcl : Cond.classLink ow index C ∈ AW) (hinst : Cond.instantiable C N ∈ AW) (hini : Cond.initialized C ∈ AW) (fs : List Value) (hfs : ∀ j, j < N → defaultValue (ty0 j) = vp_V fs j) (hcells : cells + 1 ≤ R.cells) (hslots : slots + N ≤ R.slots) (hdg : decode cc pc = .ok (.new index, 3))
    (kk : ∀ (H1 : Heap), Hp D b (fun u => L u ∨ u = t) (uA ad t H.size) (uE w t (.inr (ci, fs))) H1 → va_S (Fb b) H0 H1 locs → W p l e R s m args below meth c H1 locs (cells + 1) (slots + N) Q (F0 m (pc + 3) ls (.ref H.size :: rest))) : W p l e R s m args below meth c H locs cells slots Q (F0 m pc ls rest) := by
  have hKn := hC.1.1 ci _ hc
  refine W.newcK hx hb hown (hts _ hcl) (hts _ hinst) (hts _ hini) rfl hdg hcells hslots hKn.2.1 rfl fun H1 kC hkC e1 z1 o1 => ?_
  exact kk H1 (hH.push t ⟨_, hc, (u_born ty0 hts hin hKn hkC e1 hty).to hfs⟩ z1 o1) ⟨Nat.le_trans hS.1 (by omega), fun x h1 h2 => (o1 x (Nat.lt_of_lt_of_le h1 hS.1)).trans (hS.2.1 x h1 h2), hS.2.2⟩
theorem r_newa (hx : p.tables.exec = Jvm.exec) (hb : c.code = cc) (hts : ∀ x ∈ AW, x.before args s = true) (hC : Cs D k b s) (hH : Hp D b L ad w H) (hS : va_S (Fb b) H0 H locs) (t : Tg) {atype : ArrayType} (t0 : Nat) (ht : (Tys k)[t0]? = some (k t0, newarray.typeOf atype)) (harr : Cond.arrayClass (newarray.typeOf atype) ∈ AW) (hra : ∀ U cA, va_RA U cA (newarray.typeOf atype) → U.vm.findClass ("[" ++ (newarray.typeOf atype).toString) = some cA) {n : Int32} {N' : Nat} (a0 : vp_A) (ha : ∀ cA : ClassId, vp_cell cA a0 = arrV cA N' (fun _ => defaultValue (newarray.typeOf atype))) (hn : ¬ n < 0) (hN : n.toNatClampNeg = N') (hbytes : N' * componentBytes (newarray.typeOf atype) ≤ 536870912) (hcells : cells + 1 ≤ R.cells) (hslots : slots + N' ≤ R.slots) (hdg : decode cc pc = .ok (.newarray atype, 2))
    (kk : ∀ (H1 : Heap), Hp D b (fun u => L u ∨ u = t) (uA ad t H.size) (uE w t (.inl (k t0, a0))) H1 → va_S (Fb b) H0 H1 locs → W p l e R s m args below meth c H1 locs (cells + 1) (slots + N') Q (F0 m (pc + 2) ls (.ref H.size :: rest))) : W p l e R s m args below meth c H locs cells slots Q (F0 m pc ls (.int n :: rest)) := by
  refine va_newaK hx hb (hts _ harr) rfl hdg rfl hn hN hbytes hcells hslots rfl fun H1 cA e1 z1 o1 hAr hNm => ?_
  have hcA : cA = k t0 := Option.some.inj (hNm.symm.trans (hra _ _ (hC.1.2 t0 _ ht).2))
  subst hcA
  refine kk H1 (hH.push t ?_ z1 o1) ⟨Nat.le_trans hS.1 (by omega), fun x h1 h2 => (o1 x (Nat.lt_of_lt_of_le h1 hS.1)).trans (hS.2.1 x h1 h2), hS.2.2⟩
  show H1[H.size]? = some (vp_cell _ _)
  rw [ha]
  exact e1
theorem r_newq (hx : p.tables.exec = Jvm.exec) (hb : c.code = cc) (hts : ∀ x ∈ AW, x.before args s = true) {ow : String} (hown : s.vm.findClass ow = some m.cls) (hC : Cs D k b s) (hH : Hp D b L ad w H) (hS : va_S (Fb b) H0 H locs) (t : Tg) {C : String} (t0 : Nat) (ht : (Tys k)[t0]? = some (k t0, .object C)) {index : Nat} (hcl : Cond.classLink ow index C ∈ AW) (hover : Cond.arrayOver (.object C) ∈ AW) {n : Int32} {N' : Nat} (hn : ¬ n < 0) (hN : n.toNatClampNeg = N') (hbytes : N' * 4 ≤ 536870912) (hcells : cells + 1 ≤ R.cells) (hslots : slots + N' ≤ R.slots) (hdg : decode cc pc = .ok (.anewarray index, 3))
    (kk : ∀ (H1 : Heap), Hp D b (fun u => L u ∨ u = t) (uA ad t H.size) (uE w t (.inl (k t0, N', .inr (.inr (.inr (.inr (fun _ => none))))))) H1 → va_S (Fb b) H0 H1 locs → W p l e R s m args below meth c H1 locs (cells + 1) (slots + N') Q (F0 m (pc + 3) ls (.ref H.size :: rest))) : W p l e R s m args below meth c H locs cells slots Q (F0 m pc ls (.int n :: rest)) := by
  subst hN
  refine W.anew hx hb hown (hts _ hcl) (hts _ hover) rfl hdg rfl hn hbytes hcells hslots fun cA kA comp f1 f2 f3 f4 => ?_
  generalize hH1 : H.push ({ cls := cA, slots := Array.replicate n.toNatClampNeg .null, vm := .none } : Cell) = H1
  have z1 : H1.size = H.size + 1 := by rw [← hH1, Array.size_push]
  have e1 : H1[H.size]? = some (arrV cA n.toNatClampNeg (fun _ => .null)) := by rw [← hH1, Array.getElem?_push_size, ← arrV_new]
  have o1 : ∀ q : Nat, q < H.size → H1[q]? = H[q]? := fun q hq => by rw [← hH1, Array.getElem?_push, if_neg (Nat.ne_of_lt hq)]
  have hcA : cA = k t0 := by
    obtain ⟨_, _, -, -, -, h4⟩ := (hC.1.2 t0 _ ht).2
    exact Option.some.inj (f1.symm.trans h4)
  subst hcA
  refine kk H1 (hH.push t ?_ z1 o1) ⟨Nat.le_trans hS.1 (by omega), fun x h1 h2 => (o1 x (Nat.lt_of_lt_of_le h1 hS.1)).trans (hS.2.1 x h1 h2), hS.2.2⟩
  show H1[H.size]? = some (vp_cell _ _)
  rw [vp_cell_q]
  exact e1
/-- references that may be null -/
theorem lv_aloadO (hx : p.tables.exec = Jvm.exec) (hb : c.code = cc) {r : Option Nat} {i : Nat} (hdg : decode cc pc = .ok (.aload i, 2)) (hl : ls[i]? = some (.val (va_rf r))) (kk : W p l e R s m args below meth c H locs cells slots Q (F0 m (pc + 2) ls (va_rf r :: rest))) : W p l e R s m args below meth c H locs cells slots Q (F0 m pc ls rest) := by
  cases r with
  | none => exact lv_aloadN hx hb hdg hl kk
  | some a => exact lv_aload hx hb hdg hl kk
theorem lv_aload_nO (hx : p.tables.exec = Jvm.exec) (hb : c.code = cc) {r : Option Nat} {j : Fin 4} {i : Nat} (hdg : decode cc pc = .ok (.aload_n j, 1)) (hi : (j : Nat) = i) (hl : ls[i]? = some (.val (va_rf r))) (kk : W p l e R s m args below meth c H locs cells slots Q (F0 m (pc + 1) ls (va_rf r :: rest))) : W p l e R s m args below meth c H locs cells slots Q (F0 m pc ls rest) := by
  cases r with
  | none => exact lv_aload_nN hx hb hdg hi hl kk
  | some a => exact lv_aload_n hx hb hdg hi hl kk
theorem lv_astoreO (hx : p.tables.exec = Jvm.exec) (hb : c.code = cc) {r : Option Nat} {i nL : Nat} {lv lv' : List (Nat × Value)} (hdg : decode cc pc = .ok (.astore i, 2)) (h : lv_has ls nL lv) (hn : i < nL) (hl : (i, va_rf r) :: lv.filter (fun q => !(q.1 == i) && !(q.1 + 1 == i && q.2.category == 2)) = lv')
    (kk : ∀ ls' : Array Slot, lv_has ls' nL lv' → W p l e R s m args below meth c H locs cells slots Q (F0 m (pc + 2) ls' rest)) : W p l e R s m args below meth c H locs cells slots Q (F0 m pc ls (va_rf r :: rest)) := by
  cases r with
  | none => exact lv_astoreN hx hb hdg h hn hl kk
  | some a => exact lv_astore hx hb hdg h hn hl kk
theorem lv_astore_nO (hx : p.tables.exec = Jvm.exec) (hb : c.code = cc) {r : Option Nat} {j : Fin 4} {i nL : Nat} {lv lv' : List (Nat × Value)} (hdg : decode cc pc = .ok (.astore_n j, 1)) (hi : (j : Nat) = i) (h : lv_has ls nL lv) (hn : i < nL) (hl : (i, va_rf r) :: lv.filter (fun q => !(q.1 == i) && !(q.1 + 1 == i && q.2.category == 2)) = lv')
    (kk : ∀ ls' : Array Slot, lv_has ls' nL lv' → W p l e R s m args below meth c H locs cells slots Q (F0 m (pc + 1) ls' rest)) : W p l e R s m args below meth c H locs cells slots Q (F0 m pc ls (va_rf r :: rest)) := by
  cases r with
  | none => exact lv_astore_nN hx hb hdg hi h hn hl kk
  | some a => exact lv_astore_n hx hb hdg hi h hn hl kk
theorem lv_ifnullO (hx : p.tables.exec = Jvm.exec) (hb : c.code = cc) {r : Option Nat} {off : Int} {tgt : Nat} (hdg : decode cc pc = .ok (.ifnull off, 3)) (ht : (pc : Int) + off = (tgt : Int)) (kt : r = none → W p l e R s m args below meth c H locs cells slots Q (F0 m tgt ls rest)) (kf : ∀ a, r = some a → W p l e R s m args below meth c H locs cells slots Q (F0 m (pc + 3) ls rest)) : W p l e R s m args below meth c H locs cells slots Q (F0 m pc ls (va_rf r :: rest)) := by
  cases r with
  | none => exact lv_ifnullN hx hb hdg ht (kt rfl)
  | some a => exact lv_ifnull hx hb hdg (kf a rfl)
theorem lv_ifnonnullO (hx : p.tables.exec = Jvm.exec) (hb : c.code = cc) {r : Option Nat} {off : Int} {tgt : Nat} (hdg : decode cc pc = .ok (.ifnonnull off, 3)) (ht : (pc : Int) + off = (tgt : Int)) (kt : ∀ a, r = some a → W p l e R s m args below meth c H locs cells slots Q (F0 m tgt ls rest)) (kf : r = none → W p l e R s m args below meth c H locs cells slots Q (F0 m (pc + 3) ls rest)) : W p l e R s m args below meth c H locs cells slots Q (F0 m pc ls (va_rf r :: rest)) := by
  cases r with
  | none => exact lv_ifnonnullN hx hb hdg (kf rfl)
  | some a => exact lv_ifnonnull hx hb hdg ht (kt a rfl)
end LY
end
section
/-! WORLD: what the class holds (numbers, counts, logs), what the reference holds, and the cells that hold them -/
abbrev XF : Type := Nat → Nat → Int32
abbrev NF : Type := Nat → Nat → Nat
abbrev LF : Type := Nat → Nat → Nat → Int32
abbrev XS : Type := XF × NF × LF
abbrev OF : Type := (Nat → Int64) × (Nat → UInt64)
def up {α : Type} (x : Nat → Nat → α) (f i : Nat) (v : α) : Nat → Nat → α := fun a j => if a = f ∧ j = i then v else x a j
theorem up_s {α : Type} {x : Nat → Nat → α} {f i : Nat} {v : α} : up x f i v f i = v := by simp [up]
theorem up_f {α : Type} {x : Nat → Nat → α} {f i a j : Nat} {v : α} (h : a ≠ f) : up x f i v a j = x a j := by simp [up, h]
theorem up_i {α : Type} {x : Nat → Nat → α} {f i a j : Nat} {v : α} (h : j ≠ i) : up x f i v a j = x a j := by simp [up, h]
theorem up_row {α : Type} {x : Nat → Nat → α} {f i a : Nat} {v : α} (h : a ≠ f) : up x f i v a = x a := by funext j; simp [up, h]
def b2 (b : Bool) : Int32 := if b then 1 else 0
theorem b2_0 {b : Bool} : b2 b = 0 ↔ b = false := by cases b <;> simp [b2]
theorem b2_n0 {b : Bool} : ¬ b2 b = 0 ↔ b = true := by cases b <;> simp [b2]
theorem b2_z {b : Bool} : narrow .boolean (.int (b2 b)) = .int (b2 b) := by cases b <;> rfl
theorem b2_t : b2 true = 1 := rfl
theorem b2_f : b2 false = 0 := rfl
def inB (a lo hi : Int32) : Bool := decide (lo ≤ a) && decide (a ≤ hi)
/-- an optional reference to a mast, a phone: none, or the number and one -/
def mrO (ad : Tg → Nat) (r : Nat) : Option Nat := if r = 0 then none else some (ad (1, r - 1, 0))
def prO (ad : Tg → Nat) (r : Nat) : Option Nat := if r = 0 then none else some (ad (2, r - 1, 0))
def lsO (ad : Tg → Nat) (i z : Nat) : Option Nat := if z = 0 then none else some (ad (3, i, 0))
def lgO (ad : Tg → Nat) (i z : Nat) : Option Nat := if z = 0 then none else some (ad (4, i, (z - 1) / 64))
def bfO (ad : Tg → Nat) (i j : Nat) : Option Nat := if j = 0 then none else some (ad (4, i, j - 1))
theorem mrO_0 {ad : Tg → Nat} {r : Nat} : mrO ad r = none ↔ r = 0 := by unfold mrO; split <;> simp [*]
theorem prO_0 {ad : Tg → Nat} {r : Nat} : prO ad r = none ↔ r = 0 := by unfold prO; split <;> simp [*]
theorem lsO_0 {ad : Tg → Nat} {i z : Nat} : lsO ad i z = none ↔ z = 0 := by unfold lsO; split <;> simp [*]
theorem lgO_0 {ad : Tg → Nat} {i z : Nat} : lgO ad i z = none ↔ z = 0 := by unfold lgO; split <;> simp [*]
theorem mrO_1 {ad : Tg → Nat} {r : Nat} (h : ¬ r = 0) : mrO ad r = some (ad (1, r - 1, 0)) := by simp [mrO, h]
theorem prO_1 {ad : Tg → Nat} {r : Nat} (h : ¬ r = 0) : prO ad r = some (ad (2, r - 1, 0)) := by simp [prO, h]
theorem lsO_1 {ad : Tg → Nat} {i z : Nat} (h : ¬ z = 0) : lsO ad i z = some (ad (3, i, 0)) := by simp [lsO, h]
theorem lgO_1 {ad : Tg → Nat} {i z : Nat} (h : ¬ z = 0) : lgO ad i z = some (ad (4, i, (z - 1) / 64)) := by simp [lgO, h]
/-- the fields of each kind of cell -/
def maO (g : XS) (ad : Tg → Nat) : Nat → Option Nat := fun i => if i < g.2.1 0 0 then some (ad (1, i, 0)) else none
def phO (g : XS) (ad : Tg → Nat) : Nat → Option Nat := fun q => if q < g.2.1 1 0 then some (ad (2, q, 0)) else none
def fX (g : XS) (ad : Tg → Nat) : List Value := [.ref (ad (0, 1, 0)), .ref (ad (0, 2, 0)), .ref (ad (0, 3, 0)), .int (g.1 40 0), .int (g.1 41 0)]
def fM (g : XS) (ad : Tg → Nat) (i : Nat) : List Value := [.int (g.1 0 i), .int (g.1 1 i), .int (g.1 2 i), .int (g.1 3 i), .int (g.1 4 i), .int (g.1 5 i), .int (g.1 6 i), va_rf (lsO ad i (g.2.1 2 i)), .int (g.1 8 i), .int (g.1 9 i), .int (g.1 10 i), .int (g.1 11 i), .int (g.1 12 i), va_rf (lgO ad i (g.2.1 4 i))]
def fP (g : XS) (ad : Tg → Nat) (q : Nat) : List Value := [.int (g.1 30 q), va_rf (mrO ad (g.2.1 3 q)), .int (g.1 32 q), .int (g.1 33 q), .int (g.1 34 q), .int (g.1 35 q)]
def fL (g : XS) (i : Nat) : List Value := [.int (g.1 20 i), .int (g.1 21 i), .int (g.1 22 i), .int (g.1 23 i), .int (g.1 24 i), .int (g.1 25 i)]
def fG (g : XS) (ad : Tg → Nat) (i j : Nat) : List Value := [.ref (ad (5, i, j)), .ref (ad (6, i, j)), va_rf (bfO ad i j), .int (nI (min 64 (g.2.1 4 i - 64 * j)))]
abbrev MF : Type := Nat → Nat → Int32
def fR (M : MF) (ad : Tg → Nat) : List Value := [.int (M 0 0), .int (M 1 0), .int (M 2 0), .ref (ad (8, 3, 0)), .ref (ad (8, 4, 0)), .ref (ad (8, 5, 0)), .ref (ad (8, 6, 0)), .ref (ad (8, 7, 0)), .ref (ad (8, 8, 0)), .ref (ad (8, 9, 0)), .ref (ad (8, 10, 0)), .ref (ad (8, 11, 0)), .ref (ad (8, 12, 0)), .ref (ad (8, 13, 0)), .ref (ad (8, 14, 0)), .ref (ad (8, 15, 0)), .ref (ad (8, 16, 0)), .ref (ad (8, 17, 0)), .ref (ad (8, 18, 0)), .int (M 19 0), .ref (ad (8, 20, 0)), .ref (ad (8, 21, 0)), .ref (ad (8, 22, 0)), .ref (ad (8, 23, 0)), .ref (ad (8, 24, 0)), .ref (ad (8, 25, 0)), .int (M 26 0)]
/-- a block of a log: 64 entries of it -/
def lcut (f : Nat → Int32) (j : Nat) : Nat → Int32 := fun q => if q < 64 then f (64 * j + q) else 0
/-- how long a row of the reference is -/
def rl (f : Nat) : Nat := if f < 19 then 8 else if f < 25 then 12 else 6
def eW (k : Nat → ClassId) (ad : Tg → Nat) (g : XS) (M : MF) (o : OF) : Tg → va_E
  | (0, 0, _) => .inr (4, fX g ad)
  | (0, 1, _) => .inl (k 4, 8, .inr (.inr (.inr (.inr (maO g ad)))))
  | (0, 2, _) => .inl (k 5, 12, .inr (.inr (.inr (.inr (phO g ad)))))
  | (0, _, _) => .inl (k 0, 6, .inl (g.1 42))
  | (1, i, _) => .inr (2, fM g ad i)
  | (2, q, _) => .inr (3, fP g ad q)
  | (3, i, _) => .inr (0, fL g i)
  | (4, i, j) => .inr (1, fG g ad i j)
  | (5, i, j) => .inl (k 0, 64, .inl (lcut (g.2.2 0 i) j))
  | (6, i, j) => .inl (k 0, 64, .inl (lcut (g.2.2 1 i) j))
  | (7, _, _) => .inr (5, fR M ad)
  | (8, f, _) => .inl (if f = 8 ∨ f = 10 then k 1 else k 0, rl f, .inl (M f))
  | (9, 0, _) => .inl (k 2, 1, .inr (.inl o.1))
  | _ => .inl (k 3, 1, .inr (.inr (.inr (.inl o.2))))
/-- the tags that are there -/
def LW (n : NF) : Tg → Prop
  | (0, i, j) => i < 4 ∧ j = 0
  | (1, i, j) => i < n 0 0 ∧ j = 0
  | (2, i, j) => i < n 1 0 ∧ j = 0
  | (3, i, j) => (i < n 0 0 ∧ n 2 i ≠ 0) ∧ j = 0
  | (4, i, j) => i < n 0 0 ∧ 64 * j < n 4 i
  | (5, i, j) => i < n 0 0 ∧ 64 * j < n 4 i
  | (6, i, j) => i < n 0 0 ∧ 64 * j < n 4 i
  | (7, i, j) => i = 0 ∧ j = 0
  | (8, i, j) => (2 < i ∧ i < 26 ∧ i ≠ 19) ∧ j = 0
  | (9, i, j) => i < 2 ∧ j = 0
  | _ => False
def Wo (D : va_G) (k : Nat → ClassId) (b : Nat) (ad : Tg → Nat) (g : XS) (M : MF) (o : OF) (H : Heap) : Prop := Hp D b (LW g.2.1) ad (eW k ad g M o) H
theorem tg_all {P : Tg → Prop} (h0 : ∀ i j, P (0, i, j)) (h1 : ∀ i j, P (1, i, j)) (h2 : ∀ i j, P (2, i, j)) (h3 : ∀ i j, P (3, i, j)) (h4 : ∀ i j, P (4, i, j)) (h5 : ∀ i j, P (5, i, j)) (h6 : ∀ i j, P (6, i, j)) (h7 : ∀ i j, P (7, i, j)) (h8 : ∀ i j, P (8, i, j)) (h9 : ∀ i j, P (9, i, j)) (hx : ∀ a i j, P (a + 10, i, j)) : ∀ t, P t := fun ⟨a, i, j⟩ => match a with
  | 0 => h0 i j
  | 1 => h1 i j
  | 2 => h2 i j
  | 3 => h3 i j
  | 4 => h4 i j
  | 5 => h5 i j
  | 6 => h6 i j
  | 7 => h7 i j
  | 8 => h8 i j
  | 9 => h9 i j
  | a + 10 => hx a i j
abbrev sx (g : XS) (f i : Nat) (v : Int32) : XS := (up g.1 f i v, g.2.1, g.2.2)
abbrev sn (g : XS) (f i v : Nat) : XS := (g.1, up g.2.1 f i v, g.2.2)
def ul (lg : LF) (z i q : Nat) (v : Int32) : LF := fun a j r => if a = z ∧ j = i ∧ r = q then v else lg a j r
/-- one field of one cell changes: the new world -/
theorem eW_M {k : Nat → ClassId} {ad : Tg → Nat} {g : XS} {M : MF} {o : OF} {i f : Nat} {v : Int32} (hf : f < 14) (hs : (fM g ad i).set f (.int v) = fM (sx g f i v) ad i) : ∀ t, LW g.2.1 t → eW k ad (sx g f i v) M o t = uE (eW k ad g M o) (1, i, 0) (.inr (2, (fM g ad i).set f (.int v))) t := by
  have h40 : (40 : Nat) ≠ f := by omega
  have h41 : (41 : Nat) ≠ f := by omega
  have h42 : (42 : Nat) ≠ f := by omega
  have hr : ∀ a j, a ≠ f → up g.1 f i v a j = g.1 a j := fun a j h => up_f h
  refine tg_all (fun a j h => ?_) (fun a j h => ?_) (fun a j h => ?_) (fun a j h => ?_) (fun a j h => ?_) (fun a j h => ?_) (fun a j h => ?_) (fun a j h => ?_) (fun a j h => ?_) (fun a j h => ?_) (fun a i j h => h.elim)
  · rw [uE_n (by simp)]
    match a with
    | 0 => simp only [eW, fX]; rw [hr 40 0 h40, hr 41 0 h41]
    | 1 => rfl
    | 2 => rfl
    | a + 3 => simp only [eW]; rw [up_row h42]
  · obtain ⟨-, rfl⟩ := h
    by_cases e : a = i
    · subst e
      rw [uE_s, hs]
      rfl
    · rw [uE_n (by simp [e])]
      simp only [eW, fM]
      simp only [up_i e]
  · rw [uE_n (by simp)]
    simp only [eW, fP]
    rw [hr 30 _ (by omega), hr 32 _ (by omega), hr 33 _ (by omega), hr 34 _ (by omega), hr 35 _ (by omega)]
  · rw [uE_n (by simp)]
    simp only [eW, fL]
    rw [hr 20 _ (by omega), hr 21 _ (by omega), hr 22 _ (by omega), hr 23 _ (by omega), hr 24 _ (by omega), hr 25 _ (by omega)]
  all_goals (rw [uE_n (by simp)]; first | rfl | (cases a <;> rfl))
theorem fM_int {g : XS} {ad : Tg → Nat} {i f : Nat} {v : Int32} (h : f = 8 ∨ f = 9 ∨ f = 10 ∨ f = 11 ∨ f = 12) : (fM g ad i).set f (.int v) = fM (sx g f i v) ad i := by
  rcases h with rfl | rfl | rfl | rfl | rfl <;> simp [fM, up]
theorem Wo_M {D : va_G} {k : Nat → ClassId} {b : Nat} {ad : Tg → Nat} {g : XS} {M : MF} {o : OF} {H : Heap} {i f : Nat} {v : Int32} (hf : f = 8 ∨ f = 9 ∨ f = 10 ∨ f = 11 ∨ f = 12) (h : Hp D b (LW g.2.1) ad (uE (eW k ad g M o) (1, i, 0) (.inr (2, (fM g ad i).set f (.int v)))) H) : Wo D k b ad (sx g f i v) M o H := Hp.cg h (eW_M (g := g) (by omega) (fM_int hf))
theorem eW_P {k : Nat → ClassId} {ad : Tg → Nat} {g : XS} {M : MF} {o : OF} {i f : Nat} {v : Int32} (hf : f < 6) (hs : (fP g ad i).set f (.int v) = fP (sx g (30 + f) i v) ad i) : ∀ t, LW g.2.1 t → eW k ad (sx g (30 + f) i v) M o t = uE (eW k ad g M o) (2, i, 0) (.inr (3, (fP g ad i).set f (.int v))) t := by
  have hr : ∀ a j, a ≠ 30 + f → up g.1 (30 + f) i v a j = g.1 a j := fun a j h => up_f h
  refine tg_all (fun a j h => ?_) (fun a j h => ?_) (fun a j h => ?_) (fun a j h => ?_) (fun a j h => ?_) (fun a j h => ?_) (fun a j h => ?_) (fun a j h => ?_) (fun a j h => ?_) (fun a j h => ?_) (fun a i j h => h.elim)
  · rw [uE_n (by simp)]
    match a with
    | 0 => simp only [eW, fX]; rw [hr 40 0 (by omega), hr 41 0 (by omega)]
    | 1 => rfl
    | 2 => rfl
    | a + 3 => simp only [eW]; rw [up_row (by omega)]
  · rw [uE_n (by simp)]
    simp only [eW, fM]
    rw [hr 0 _ (by omega), hr 1 _ (by omega), hr 2 _ (by omega), hr 3 _ (by omega), hr 4 _ (by omega), hr 5 _ (by omega), hr 6 _ (by omega), hr 8 _ (by omega), hr 9 _ (by omega), hr 10 _ (by omega), hr 11 _ (by omega), hr 12 _ (by omega)]
  · obtain ⟨-, rfl⟩ := h
    by_cases e : a = i
    · subst e
      rw [uE_s, hs]
      rfl
    · rw [uE_n (by simp [e])]
      simp only [eW, fP]
      simp only [up_i e]
  · rw [uE_n (by simp)]
    simp only [eW, fL]
    rw [hr 20 _ (by omega), hr 21 _ (by omega), hr 22 _ (by omega), hr 23 _ (by omega), hr 24 _ (by omega), hr 25 _ (by omega)]
  all_goals (rw [uE_n (by simp)]; first | rfl | (cases a <;> rfl))
theorem fP_int {g : XS} {ad : Tg → Nat} {i f : Nat} {v : Int32} (h : f = 0 ∨ f = 2 ∨ f = 3 ∨ f = 4 ∨ f = 5) : (fP g ad i).set f (.int v) = fP (sx g (30 + f) i v) ad i := by
  rcases h with rfl | rfl | rfl | rfl | rfl <;> simp [fP, up]
theorem Wo_P {D : va_G} {k : Nat → ClassId} {b : Nat} {ad : Tg → Nat} {g : XS} {M : MF} {o : OF} {H : Heap} {i f : Nat} {v : Int32} (hf : f = 0 ∨ f = 2 ∨ f = 3 ∨ f = 4 ∨ f = 5) (h : Hp D b (LW g.2.1) ad (uE (eW k ad g M o) (2, i, 0) (.inr (3, (fP g ad i).set f (.int v)))) H) : Wo D k b ad (sx g (30 + f) i v) M o H := Hp.cg h (eW_P (g := g) (by omega) (fP_int hf))
/-- hour, sun -/
theorem Wo_X {D : va_G} {k : Nat → ClassId} {b : Nat} {ad : Tg → Nat} {g : XS} {M : MF} {o : OF} {H : Heap} {f : Nat} {v : Int32} (hf : f = 3 ∨ f = 4) (h : Hp D b (LW g.2.1) ad (uE (eW k ad g M o) (0, 0, 0) (.inr (4, (fX g ad).set f (.int v)))) H) : Wo D k b ad (sx g (37 + f) 0 v) M o H := by
  refine Hp.cg h ?_
  have hr : ∀ a j, a ≠ 37 + f → up g.1 (37 + f) 0 v a j = g.1 a j := fun a j h => up_f h
  refine tg_all (fun a j h => ?_) (fun a j h => ?_) (fun a j h => ?_) (fun a j h => ?_) (fun a j h => ?_) (fun a j h => ?_) (fun a j h => ?_) (fun a j h => ?_) (fun a j h => ?_) (fun a j h => ?_) (fun a i j h => h.elim)
  · obtain ⟨-, rfl⟩ := h
    match a with
    | 0 =>
      rw [uE_s]
      rcases hf with rfl | rfl <;> simp [eW, fX, up]
    | 1 => rw [uE_n (by simp)]; rfl
    | 2 => rw [uE_n (by simp)]; rfl
    | a + 3 => rw [uE_n (by simp)]; simp only [eW]; rw [up_row (by omega)]
  · rw [uE_n (by simp)]
    simp only [eW, fM]
    rw [hr 0 _ (by omega), hr 1 _ (by omega), hr 2 _ (by omega), hr 3 _ (by omega), hr 4 _ (by omega), hr 5 _ (by omega), hr 6 _ (by omega), hr 8 _ (by omega), hr 9 _ (by omega), hr 10 _ (by omega), hr 11 _ (by omega), hr 12 _ (by omega)]
  · rw [uE_n (by simp)]
    simp only [eW, fP]
    rw [hr 30 _ (by omega), hr 32 _ (by omega), hr 33 _ (by omega), hr 34 _ (by omega), hr 35 _ (by omega)]
  · rw [uE_n (by simp)]
    simp only [eW, fL]
    rw [hr 20 _ (by omega), hr 21 _ (by omega), hr 22 _ (by omega), hr 23 _ (by omega), hr 24 _ (by omega), hr 25 _ (by omega)]
  all_goals (rw [uE_n (by simp)]; first | rfl | (cases a <;> rfl))
theorem upd_up {x : Nat → Nat → Int32} {f q : Nat} {v : Int32} : upd (x f) q v = up x f q v f := by funext j; simp [upd, up]
/-- what was paid to a farmer -/
theorem Wo_Y {D : va_G} {k : Nat → ClassId} {b : Nat} {ad : Tg → Nat} {g : XS} {M : MF} {o : OF} {H : Heap} {q : Nat} {v : Int32} (h : Hp D b (LW g.2.1) ad (uE (eW k ad g M o) (0, 3, 0) (.inl (k 0, 6, .inl (upd (g.1 42) q v)))) H) : Wo D k b ad (sx g 42 q v) M o H := by
  refine Hp.cg h ?_
  have hr : ∀ a j, a ≠ 42 → up g.1 42 q v a j = g.1 a j := fun a j h => up_f h
  refine tg_all (fun a j h => ?_) (fun a j h => ?_) (fun a j h => ?_) (fun a j h => ?_) (fun a j h => ?_) (fun a j h => ?_) (fun a j h => ?_) (fun a j h => ?_) (fun a j h => ?_) (fun a j h => ?_) (fun a i j h => h.elim)
  · obtain ⟨h4, rfl⟩ := h
    match a with
    | 0 => rw [uE_n (by simp)]; simp only [eW, fX]; rw [hr 40 0 (by omega), hr 41 0 (by omega)]
    | 1 => rw [uE_n (by simp)]; rfl
    | 2 => rw [uE_n (by simp)]; rfl
    | 3 => rw [uE_s, upd_up]; rfl
    | a + 4 => exact absurd h4 (by omega)
  · rw [uE_n (by simp)]
    simp only [eW, fM]
    rw [hr 0 _ (by omega), hr 1 _ (by omega), hr 2 _ (by omega), hr 3 _ (by omega), hr 4 _ (by omega), hr 5 _ (by omega), hr 6 _ (by omega), hr 8 _ (by omega), hr 9 _ (by omega), hr 10 _ (by omega), hr 11 _ (by omega), hr 12 _ (by omega)]
  · rw [uE_n (by simp)]
    simp only [eW, fP]
    rw [hr 30 _ (by omega), hr 32 _ (by omega), hr 33 _ (by omega), hr 34 _ (by omega), hr 35 _ (by omega)]
  · rw [uE_n (by simp)]
    simp only [eW, fL]
    rw [hr 20 _ (by omega), hr 21 _ (by omega), hr 22 _ (by omega), hr 23 _ (by omega), hr 24 _ (by omega), hr 25 _ (by omega)]
  all_goals (rw [uE_n (by simp)]; first | rfl | (cases a <;> rfl))
/-- a phone's mast -/
theorem Wo_C {D : va_G} {k : Nat → ClassId} {b : Nat} {ad : Tg → Nat} {g : XS} {M : MF} {o : OF} {H : Heap} {q r : Nat} (h : Hp D b (LW g.2.1) ad (uE (eW k ad g M o) (2, q, 0) (.inr (3, (fP g ad q).set 1 (va_rf (mrO ad r))))) H) : Wo D k b ad (sn g 3 q r) M o H := by
  refine Hp.mono h ?_
  have hr : ∀ a j, a ≠ 3 → up g.2.1 3 q r a j = g.2.1 a j := fun a j h => up_f h
  refine tg_all (fun a j h => ?_) (fun a j h => ?_) (fun a j h => ?_) (fun a j h => ?_) (fun a j h => ?_) (fun a j h => ?_) (fun a j h => ?_) (fun a j h => ?_) (fun a j h => ?_) (fun a j h => ?_) (fun a i j h => h.elim)
  · refine ⟨h, rfl, ?_⟩
    rw [uE_n (by simp)]
    match a with
    | 0 => rfl
    | 1 => rfl
    | 2 => rfl
    | a + 3 => rfl
  · refine ⟨h, rfl, ?_⟩
    rw [uE_n (by simp)]
    rfl
  · refine ⟨h, rfl, ?_⟩
    obtain ⟨-, rfl⟩ := h
    by_cases e : a = q
    · subst e
      rw [uE_s]
      simp [eW, fP, up]
    · rw [uE_n (by simp [e])]
      simp only [eW, fP]
      simp only [up_i e]
  all_goals (refine ⟨h, rfl, ?_⟩; rw [uE_n (by simp)]; first | rfl | (cases a <;> rfl))
/-- a lease ends -/
theorem Wo_E {D : va_G} {k : Nat → ClassId} {b : Nat} {ad : Tg → Nat} {g : XS} {M : MF} {o : OF} {H : Heap} {q : Nat} (h : Hp D b (LW g.2.1) ad (uE (eW k ad g M o) (1, q, 0) (.inr (2, (fM g ad q).set 7 .null))) H) : Wo D k b ad (sn g 2 q 0) M o H := by
  refine Hp.mono h ?_
  refine tg_all (fun a j h => ?_) (fun a j h => ?_) (fun a j h => ?_) (fun a j h => ?_) (fun a j h => ?_) (fun a j h => ?_) (fun a j h => ?_) (fun a j h => ?_) (fun a j h => ?_) (fun a j h => ?_) (fun a i j h => h.elim)
  · refine ⟨h, rfl, ?_⟩
    rw [uE_n (by simp)]
    match a with
    | 0 => rfl
    | 1 => rfl
    | 2 => rfl
    | a + 3 => rfl
  · refine ⟨h, rfl, ?_⟩
    obtain ⟨-, rfl⟩ := h
    by_cases e : a = q
    · subst e
      rw [uE_s]
      simp [eW, fM, up, lsO, va_rf]
    · rw [uE_n (by simp [e])]
      simp only [eW, fM]
      simp only [up_i e, up_f (show (4 : Nat) ≠ 2 by decide)]
  · refine ⟨h, rfl, ?_⟩
    rw [uE_n (by simp)]
    rfl
  · refine ⟨⟨⟨h.1.1, ?_⟩, h.2⟩, rfl, ?_⟩
    · by_cases e : a = q
      · subst e
        exact absurd up_s h.1.2
      · have h2 : up g.2.1 2 q 0 2 a ≠ 0 := h.1.2
        rw [up_i e] at h2
        exact h2
    · rw [uE_n (by simp)]
      rfl
  all_goals (refine ⟨h, rfl, ?_⟩; rw [uE_n (by simp)]; first | rfl | (cases a <;> rfl))
/-- the reference's numbers and rows -/
theorem Wo_R {D : va_G} {k : Nat → ClassId} {b : Nat} {ad : Tg → Nat} {g : XS} {M : MF} {o : OF} {H : Heap} {f : Nat} {v : Int32} (hf : f = 0 ∨ f = 1 ∨ f = 2 ∨ f = 19 ∨ f = 26) (h : Hp D b (LW g.2.1) ad (uE (eW k ad g M o) (7, 0, 0) (.inr (5, (fR M ad).set f (.int v)))) H) : Wo D k b ad g (up M f 0 v) o H := by
  refine Hp.cg h ?_
  refine tg_all (fun a j h => ?_) (fun a j h => ?_) (fun a j h => ?_) (fun a j h => ?_) (fun a j h => ?_) (fun a j h => ?_) (fun a j h => ?_) (fun a j h => ?_) (fun a j h => ?_) (fun a j h => ?_) (fun a i j h => h.elim)
  · rw [uE_n (by simp)]
    match a with
    | 0 => rfl
    | 1 => rfl
    | 2 => rfl
    | a + 3 => rfl
  · rw [uE_n (by simp)]; rfl
  · rw [uE_n (by simp)]; rfl
  · rw [uE_n (by simp)]; rfl
  · rw [uE_n (by simp)]; rfl
  · rw [uE_n (by simp)]; rfl
  · rw [uE_n (by simp)]; rfl
  · obtain ⟨rfl, rfl⟩ := h
    rw [uE_s]
    rcases hf with rfl | rfl | rfl | rfl | rfl <;> simp [eW, fR, up]
  · rw [uE_n (by simp)]
    simp only [eW]
    rw [up_row (by have := h.1; omega)]
  · rw [uE_n (by simp)]; cases a <;> rfl
theorem Wo_A {D : va_G} {k : Nat → ClassId} {b : Nat} {ad : Tg → Nat} {g : XS} {M : MF} {o : OF} {H : Heap} {f q : Nat} {v : Int32} (hf : 2 < f ∧ f < 26 ∧ f ≠ 19) {cA : ClassId} (hc : cA = if f = 8 ∨ f = 10 then k 1 else k 0) (h : Hp D b (LW g.2.1) ad (uE (eW k ad g M o) (8, f, 0) (.inl (cA, rl f, .inl (upd (M f) q v)))) H) : Wo D k b ad g (up M f q v) o H := by
  subst hc
  have hr : ∀ a j, a ≠ f → up M f q v a j = M a j := fun a j h => up_f h
  refine Hp.cg h ?_
  refine tg_all (fun a j h => ?_) (fun a j h => ?_) (fun a j h => ?_) (fun a j h => ?_) (fun a j h => ?_) (fun a j h => ?_) (fun a j h => ?_) (fun a j h => ?_) (fun a j h => ?_) (fun a j h => ?_) (fun a i j h => h.elim)
  · rw [uE_n (by simp)]
    match a with
    | 0 => rfl
    | 1 => rfl
    | 2 => rfl
    | a + 3 => rfl
  · rw [uE_n (by simp)]; rfl
  · rw [uE_n (by simp)]; rfl
  · rw [uE_n (by simp)]; rfl
  · rw [uE_n (by simp)]; rfl
  · rw [uE_n (by simp)]; rfl
  · rw [uE_n (by simp)]; rfl
  · rw [uE_n (by simp)]
    simp only [eW, fR]
    rw [hr 0 0 (by omega), hr 1 0 (by omega), hr 2 0 (by omega), hr 19 0 (by omega), hr 26 0 (by omega)]
  · obtain ⟨-, rfl⟩ := h
    by_cases e : a = f
    · subst e
      rw [uE_s, upd_up]
      rfl
    · rw [uE_n (by simp [e])]
      simp only [eW]
      rw [up_row e]
  · rw [uE_n (by simp)]; cases a <;> rfl
theorem Wo_O {D : va_G} {k : Nat → ClassId} {b : Nat} {ad : Tg → Nat} {g : XS} {M : MF} {o : OF} {H : Heap} {f : Nat → Int64} (h : Hp D b (LW g.2.1) ad (uE (eW k ad g M o) (9, 0, 0) (.inl (k 2, 1, .inr (.inl f)))) H) : Wo D k b ad g M (f, o.2) H := by
  refine Hp.cg h ?_
  refine tg_all (fun a j h => ?_) (fun a j h => ?_) (fun a j h => ?_) (fun a j h => ?_) (fun a j h => ?_) (fun a j h => ?_) (fun a j h => ?_) (fun a j h => ?_) (fun a j h => ?_) (fun a j h => ?_) (fun a i j h => h.elim)
  · rw [uE_n (by simp)]
    match a with
    | 0 => rfl
    | 1 => rfl
    | 2 => rfl
    | a + 3 => rfl
  · rw [uE_n (by simp)]; rfl
  · rw [uE_n (by simp)]; rfl
  · rw [uE_n (by simp)]; rfl
  · rw [uE_n (by simp)]; rfl
  · rw [uE_n (by simp)]; rfl
  · rw [uE_n (by simp)]; rfl
  · rw [uE_n (by simp)]; rfl
  · rw [uE_n (by simp)]; rfl
  · obtain ⟨h2, rfl⟩ := h
    match a with
    | 0 => rw [uE_s]; rfl
    | 1 => rw [uE_n (by simp)]; rfl
    | a + 2 => exact absurd h2 (by omega)
theorem Wo_F {D : va_G} {k : Nat → ClassId} {b : Nat} {ad : Tg → Nat} {g : XS} {M : MF} {o : OF} {H : Heap} {f : Nat → UInt64} (h : Hp D b (LW g.2.1) ad (uE (eW k ad g M o) (9, 1, 0) (.inl (k 3, 1, .inr (.inr (.inr (.inl f)))))) H) : Wo D k b ad g M (o.1, f) H := by
  refine Hp.cg h ?_
  refine tg_all (fun a j h => ?_) (fun a j h => ?_) (fun a j h => ?_) (fun a j h => ?_) (fun a j h => ?_) (fun a j h => ?_) (fun a j h => ?_) (fun a j h => ?_) (fun a j h => ?_) (fun a j h => ?_) (fun a i j h => h.elim)
  · rw [uE_n (by simp)]
    match a with
    | 0 => rfl
    | 1 => rfl
    | 2 => rfl
    | a + 3 => rfl
  · rw [uE_n (by simp)]; rfl
  · rw [uE_n (by simp)]; rfl
  · rw [uE_n (by simp)]; rfl
  · rw [uE_n (by simp)]; rfl
  · rw [uE_n (by simp)]; rfl
  · rw [uE_n (by simp)]; rfl
  · rw [uE_n (by simp)]; rfl
  · rw [uE_n (by simp)]; rfl
  · obtain ⟨h2, rfl⟩ := h
    match a with
    | 0 => rw [uE_n (by simp)]; rfl
    | 1 => rw [uE_s]; rfl
    | a + 2 => exact absurd h2 (by omega)

section LW2
variable {p : Program} {l : Launch} {e : Env} {R : Room} {s : State} {m : MethodId} {args : Array Value} {below : List Frame} {meth : Method} {c : Code} {H : Heap} {locs : List Loc} {cells slots : Nat} {Q : State → Prop}
variable {cc : ByteArray} {pc : Nat} {ls : Array Slot} {rest : List Value} {D : va_G} {b : Nat} {ad : Tg → Nat} {H0 : Heap} {k : Nat → ClassId} {g : XS} {M : MF} {o : OF} {ow host : String} {index : Nat}

theorem g0 (hx : p.tables.exec = Jvm.exec) (hb : c.code = cc) (hts : ∀ x ∈ AW, x.before args s = true) (hown : s.vm.findClass ow = some m.cls) (hC : Cs D k b s) (hH : Wo D k b ad g M o H) (i : Nat) (hi : i < g.2.1 0 0) (hl : g.2.1 2 i ≠ 0) (f : Nat) (hf : f < 6) (hlink : Cond.fieldLink ow index (TX0 f).1 (TX0 f).2.1 (TX0 f).2.2.1 ∈ AW) {v : Value} (hv : (fL g i)[f]? = some v) (hdg : decode cc pc = .ok (.getfield index, 3))
    (kk : W p l e R s m args below meth c H locs cells slots Q (F0 m (pc + 3) ls (v :: rest))) : W p l e R s m args below meth c H locs cells slots Q (F0 m pc ls (.ref (ad (3, i, 0)) :: rest)) :=
  r_get hx hb hts hown hC hH (3, i, 0) ⟨⟨hi, hl⟩, rfl⟩ rfl rfl inX0 f hf hlink hv hdg kk
theorem g0N (hx : p.tables.exec = Jvm.exec) (hb : c.code = cc) (hts : ∀ x ∈ AW, x.before args s = true) (hown : s.vm.findClass ow = some m.cls) (hC : Cs D k b s) (hH : Wo D k b ad g M o H) (i : Nat) (hi : i < g.2.1 0 0) (hl : g.2.1 2 i ≠ 0) (f : Nat) (hf : f < 6) (hlink : Cond.fieldLinkNest ow index (TX0 f).1 (TX0 f).2.1 (TX0 f).2.2.1 host ∈ AW) {v : Value} (hv : (fL g i)[f]? = some v) (hdg : decode cc pc = .ok (.getfield index, 3))
    (kk : W p l e R s m args below meth c H locs cells slots Q (F0 m (pc + 3) ls (v :: rest))) : W p l e R s m args below meth c H locs cells slots Q (F0 m pc ls (.ref (ad (3, i, 0)) :: rest)) :=
  r_getN hx hb hts hown hC hH (3, i, 0) ⟨⟨hi, hl⟩, rfl⟩ rfl rfl inX0 f hf hlink hv hdg kk
theorem g1 (hx : p.tables.exec = Jvm.exec) (hb : c.code = cc) (hts : ∀ x ∈ AW, x.before args s = true) (hown : s.vm.findClass ow = some m.cls) (hC : Cs D k b s) (hH : Wo D k b ad g M o H) (i j : Nat) (hi : i < g.2.1 0 0) (hj : 64 * j < g.2.1 4 i) (f : Nat) (hf : f < 4) (hlink : Cond.fieldLink ow index (TX1 f).1 (TX1 f).2.1 (TX1 f).2.2.1 ∈ AW) {v : Value} (hv : (fG g ad i j)[f]? = some v) (hdg : decode cc pc = .ok (.getfield index, 3))
    (kk : W p l e R s m args below meth c H locs cells slots Q (F0 m (pc + 3) ls (v :: rest))) : W p l e R s m args below meth c H locs cells slots Q (F0 m pc ls (.ref (ad (4, i, j)) :: rest)) :=
  r_get hx hb hts hown hC hH (4, i, j) ⟨hi, hj⟩ rfl rfl inX1 f hf hlink hv hdg kk
theorem g1N (hx : p.tables.exec = Jvm.exec) (hb : c.code = cc) (hts : ∀ x ∈ AW, x.before args s = true) (hown : s.vm.findClass ow = some m.cls) (hC : Cs D k b s) (hH : Wo D k b ad g M o H) (i j : Nat) (hi : i < g.2.1 0 0) (hj : 64 * j < g.2.1 4 i) (f : Nat) (hf : f < 4) (hlink : Cond.fieldLinkNest ow index (TX1 f).1 (TX1 f).2.1 (TX1 f).2.2.1 host ∈ AW) {v : Value} (hv : (fG g ad i j)[f]? = some v) (hdg : decode cc pc = .ok (.getfield index, 3))
    (kk : W p l e R s m args below meth c H locs cells slots Q (F0 m (pc + 3) ls (v :: rest))) : W p l e R s m args below meth c H locs cells slots Q (F0 m pc ls (.ref (ad (4, i, j)) :: rest)) :=
  r_getN hx hb hts hown hC hH (4, i, j) ⟨hi, hj⟩ rfl rfl inX1 f hf hlink hv hdg kk
theorem g2 (hx : p.tables.exec = Jvm.exec) (hb : c.code = cc) (hts : ∀ x ∈ AW, x.before args s = true) (hown : s.vm.findClass ow = some m.cls) (hC : Cs D k b s) (hH : Wo D k b ad g M o H) (i : Nat) (hi : i < g.2.1 0 0) (f : Nat) (hf : f < 14) (hlink : Cond.fieldLink ow index (TX2 f).1 (TX2 f).2.1 (TX2 f).2.2.1 ∈ AW) {v : Value} (hv : (fM g ad i)[f]? = some v) (hdg : decode cc pc = .ok (.getfield index, 3))
    (kk : W p l e R s m args below meth c H locs cells slots Q (F0 m (pc + 3) ls (v :: rest))) : W p l e R s m args below meth c H locs cells slots Q (F0 m pc ls (.ref (ad (1, i, 0)) :: rest)) :=
  r_get hx hb hts hown hC hH (1, i, 0) ⟨hi, rfl⟩ rfl rfl inX2 f hf hlink hv hdg kk
theorem g2N (hx : p.tables.exec = Jvm.exec) (hb : c.code = cc) (hts : ∀ x ∈ AW, x.before args s = true) (hown : s.vm.findClass ow = some m.cls) (hC : Cs D k b s) (hH : Wo D k b ad g M o H) (i : Nat) (hi : i < g.2.1 0 0) (f : Nat) (hf : f < 14) (hlink : Cond.fieldLinkNest ow index (TX2 f).1 (TX2 f).2.1 (TX2 f).2.2.1 host ∈ AW) {v : Value} (hv : (fM g ad i)[f]? = some v) (hdg : decode cc pc = .ok (.getfield index, 3))
    (kk : W p l e R s m args below meth c H locs cells slots Q (F0 m (pc + 3) ls (v :: rest))) : W p l e R s m args below meth c H locs cells slots Q (F0 m pc ls (.ref (ad (1, i, 0)) :: rest)) :=
  r_getN hx hb hts hown hC hH (1, i, 0) ⟨hi, rfl⟩ rfl rfl inX2 f hf hlink hv hdg kk
theorem g3 (hx : p.tables.exec = Jvm.exec) (hb : c.code = cc) (hts : ∀ x ∈ AW, x.before args s = true) (hown : s.vm.findClass ow = some m.cls) (hC : Cs D k b s) (hH : Wo D k b ad g M o H) (i : Nat) (hi : i < g.2.1 1 0) (f : Nat) (hf : f < 6) (hlink : Cond.fieldLink ow index (TX3 f).1 (TX3 f).2.1 (TX3 f).2.2.1 ∈ AW) {v : Value} (hv : (fP g ad i)[f]? = some v) (hdg : decode cc pc = .ok (.getfield index, 3))
    (kk : W p l e R s m args below meth c H locs cells slots Q (F0 m (pc + 3) ls (v :: rest))) : W p l e R s m args below meth c H locs cells slots Q (F0 m pc ls (.ref (ad (2, i, 0)) :: rest)) :=
  r_get hx hb hts hown hC hH (2, i, 0) ⟨hi, rfl⟩ rfl rfl inX3 f hf hlink hv hdg kk
theorem g3N (hx : p.tables.exec = Jvm.exec) (hb : c.code = cc) (hts : ∀ x ∈ AW, x.before args s = true) (hown : s.vm.findClass ow = some m.cls) (hC : Cs D k b s) (hH : Wo D k b ad g M o H) (i : Nat) (hi : i < g.2.1 1 0) (f : Nat) (hf : f < 6) (hlink : Cond.fieldLinkNest ow index (TX3 f).1 (TX3 f).2.1 (TX3 f).2.2.1 host ∈ AW) {v : Value} (hv : (fP g ad i)[f]? = some v) (hdg : decode cc pc = .ok (.getfield index, 3))
    (kk : W p l e R s m args below meth c H locs cells slots Q (F0 m (pc + 3) ls (v :: rest))) : W p l e R s m args below meth c H locs cells slots Q (F0 m pc ls (.ref (ad (2, i, 0)) :: rest)) :=
  r_getN hx hb hts hown hC hH (2, i, 0) ⟨hi, rfl⟩ rfl rfl inX3 f hf hlink hv hdg kk
theorem g4 (hx : p.tables.exec = Jvm.exec) (hb : c.code = cc) (hts : ∀ x ∈ AW, x.before args s = true) (hown : s.vm.findClass ow = some m.cls) (hC : Cs D k b s) (hH : Wo D k b ad g M o H)  (f : Nat) (hf : f < 5) (hlink : Cond.fieldLink ow index (TX4 f).1 (TX4 f).2.1 (TX4 f).2.2.1 ∈ AW) {v : Value} (hv : (fX g ad)[f]? = some v) (hdg : decode cc pc = .ok (.getfield index, 3))
    (kk : W p l e R s m args below meth c H locs cells slots Q (F0 m (pc + 3) ls (v :: rest))) : W p l e R s m args below meth c H locs cells slots Q (F0 m pc ls (.ref (ad (0, 0, 0)) :: rest)) :=
  r_get hx hb hts hown hC hH (0, 0, 0) ⟨by decide, rfl⟩ rfl rfl inX4 f hf hlink hv hdg kk
theorem g5 (hx : p.tables.exec = Jvm.exec) (hb : c.code = cc) (hts : ∀ x ∈ AW, x.before args s = true) (hown : s.vm.findClass ow = some m.cls) (hC : Cs D k b s) (hH : Wo D k b ad g M o H)  (f : Nat) (hf : f < 27) (hlink : Cond.fieldLink ow index (TX5 f).1 (TX5 f).2.1 (TX5 f).2.2.1 ∈ AW) {v : Value} (hv : (fR M ad)[f]? = some v) (hdg : decode cc pc = .ok (.getfield index, 3))
    (kk : W p l e R s m args below meth c H locs cells slots Q (F0 m (pc + 3) ls (v :: rest))) : W p l e R s m args below meth c H locs cells slots Q (F0 m pc ls (.ref (ad (7, 0, 0)) :: rest)) :=
  r_get hx hb hts hown hC hH (7, 0, 0) ⟨rfl, rfl⟩ rfl rfl inX5 f hf hlink hv hdg kk
theorem p2 (hx : p.tables.exec = Jvm.exec) (hb : c.code = cc) (hts : ∀ x ∈ AW, x.before args s = true) (hown : s.vm.findClass ow = some m.cls) (hC : Cs D k b s) (hH : Wo D k b ad g M o H) (hS : va_S (Fb b) H0 H locs) (i : Nat) (hi : i < g.2.1 0 0) (f : Nat) (hf : f < 14) (hff : f = 8 ∨ f = 9 ∨ f = 10 ∨ f = 11 ∨ f = 12) (hfin : (TX2 f).2.2.2 = false) (hlink : Cond.fieldLink ow index (TX2 f).1 (TX2 f).2.1 (TX2 f).2.2.1 ∈ AW) {v : Int32} (hn : narrow (tyX2 f) (.int v) = .int v) (hfit : fits (tyX2 f) (.int v) = true) (hdg : decode cc pc = .ok (.putfield index, 3))
    (kk : ∀ (H1 : Heap) (locs1 : List Loc), Wo D k b ad (sx g f i v) M o H1 → va_S (Fb b) H0 H1 locs1 → W p l e R s m args below meth c H1 locs1 cells slots Q (F0 m (pc + 3) ls rest)) : W p l e R s m args below meth c H locs cells slots Q (F0 m pc ls (.int v :: .ref (ad (1, i, 0)) :: rest)) :=
  r_put hx hb hts hown hC hH hS (1, i, 0) ⟨hi, rfl⟩ rfl rfl inX2 tyX2 tyX2_ok nmX2 f hf hfin hlink hn hfit (by simp [fM]; omega) hdg (fun H1 locs1 h1 h2 => kk H1 locs1 (Wo_M hff h1) h2)
theorem p3 (hx : p.tables.exec = Jvm.exec) (hb : c.code = cc) (hts : ∀ x ∈ AW, x.before args s = true) (hown : s.vm.findClass ow = some m.cls) (hC : Cs D k b s) (hH : Wo D k b ad g M o H) (hS : va_S (Fb b) H0 H locs) (i : Nat) (hi : i < g.2.1 1 0) (f : Nat) (hf : f < 6) (hff : f = 0 ∨ f = 2 ∨ f = 3 ∨ f = 4 ∨ f = 5) (hfin : (TX3 f).2.2.2 = false) (hlink : Cond.fieldLink ow index (TX3 f).1 (TX3 f).2.1 (TX3 f).2.2.1 ∈ AW) {v : Int32} (hn : narrow (tyX3 f) (.int v) = .int v) (hfit : fits (tyX3 f) (.int v) = true) (hdg : decode cc pc = .ok (.putfield index, 3))
    (kk : ∀ (H1 : Heap) (locs1 : List Loc), Wo D k b ad (sx g (30 + f) i v) M o H1 → va_S (Fb b) H0 H1 locs1 → W p l e R s m args below meth c H1 locs1 cells slots Q (F0 m (pc + 3) ls rest)) : W p l e R s m args below meth c H locs cells slots Q (F0 m pc ls (.int v :: .ref (ad (2, i, 0)) :: rest)) :=
  r_put hx hb hts hown hC hH hS (2, i, 0) ⟨hi, rfl⟩ rfl rfl inX3 tyX3 tyX3_ok nmX3 f hf hfin hlink hn hfit (by simp [fP]; omega) hdg (fun H1 locs1 h1 h2 => kk H1 locs1 (Wo_P hff h1) h2)
theorem p2N (hx : p.tables.exec = Jvm.exec) (hb : c.code = cc) (hts : ∀ x ∈ AW, x.before args s = true) (hown : s.vm.findClass ow = some m.cls) (hC : Cs D k b s) (hH : Wo D k b ad g M o H) (hS : va_S (Fb b) H0 H locs) (i : Nat) (hi : i < g.2.1 0 0) (f : Nat) (hf : f < 14) (hff : f = 8 ∨ f = 9 ∨ f = 10 ∨ f = 11 ∨ f = 12) (hfin : (TX2 f).2.2.2 = false) (hlink : Cond.fieldLinkNest ow index (TX2 f).1 (TX2 f).2.1 (TX2 f).2.2.1 host ∈ AW) {v : Int32} (hn : narrow (tyX2 f) (.int v) = .int v) (hfit : fits (tyX2 f) (.int v) = true) (hdg : decode cc pc = .ok (.putfield index, 3))
    (kk : ∀ (H1 : Heap) (locs1 : List Loc), Wo D k b ad (sx g f i v) M o H1 → va_S (Fb b) H0 H1 locs1 → W p l e R s m args below meth c H1 locs1 cells slots Q (F0 m (pc + 3) ls rest)) : W p l e R s m args below meth c H locs cells slots Q (F0 m pc ls (.int v :: .ref (ad (1, i, 0)) :: rest)) :=
  r_putN hx hb hts hown hC hH hS (1, i, 0) ⟨hi, rfl⟩ rfl rfl inX2 tyX2 tyX2_ok nmX2 f hf hfin hlink hn hfit (by simp [fM]; omega) hdg (fun H1 locs1 h1 h2 => kk H1 locs1 (Wo_M hff h1) h2)
theorem p3N (hx : p.tables.exec = Jvm.exec) (hb : c.code = cc) (hts : ∀ x ∈ AW, x.before args s = true) (hown : s.vm.findClass ow = some m.cls) (hC : Cs D k b s) (hH : Wo D k b ad g M o H) (hS : va_S (Fb b) H0 H locs) (i : Nat) (hi : i < g.2.1 1 0) (f : Nat) (hf : f < 6) (hff : f = 0 ∨ f = 2 ∨ f = 3 ∨ f = 4 ∨ f = 5) (hfin : (TX3 f).2.2.2 = false) (hlink : Cond.fieldLinkNest ow index (TX3 f).1 (TX3 f).2.1 (TX3 f).2.2.1 host ∈ AW) {v : Int32} (hn : narrow (tyX3 f) (.int v) = .int v) (hfit : fits (tyX3 f) (.int v) = true) (hdg : decode cc pc = .ok (.putfield index, 3))
    (kk : ∀ (H1 : Heap) (locs1 : List Loc), Wo D k b ad (sx g (30 + f) i v) M o H1 → va_S (Fb b) H0 H1 locs1 → W p l e R s m args below meth c H1 locs1 cells slots Q (F0 m (pc + 3) ls rest)) : W p l e R s m args below meth c H locs cells slots Q (F0 m pc ls (.int v :: .ref (ad (2, i, 0)) :: rest)) :=
  r_putN hx hb hts hown hC hH hS (2, i, 0) ⟨hi, rfl⟩ rfl rfl inX3 tyX3 tyX3_ok nmX3 f hf hfin hlink hn hfit (by simp [fP]; omega) hdg (fun H1 locs1 h1 h2 => kk H1 locs1 (Wo_P hff h1) h2)
theorem p4 (hx : p.tables.exec = Jvm.exec) (hb : c.code = cc) (hts : ∀ x ∈ AW, x.before args s = true) (hown : s.vm.findClass ow = some m.cls) (hC : Cs D k b s) (hH : Wo D k b ad g M o H) (hS : va_S (Fb b) H0 H locs)  (f : Nat) (hf : f < 5) (hff : f = 3 ∨ f = 4) (hfin : (TX4 f).2.2.2 = false) (hlink : Cond.fieldLink ow index (TX4 f).1 (TX4 f).2.1 (TX4 f).2.2.1 ∈ AW) {v : Int32} (hn : narrow (tyX4 f) (.int v) = .int v) (hfit : fits (tyX4 f) (.int v) = true) (hdg : decode cc pc = .ok (.putfield index, 3))
    (kk : ∀ (H1 : Heap) (locs1 : List Loc), Wo D k b ad (sx g (37 + f) 0 v) M o H1 → va_S (Fb b) H0 H1 locs1 → W p l e R s m args below meth c H1 locs1 cells slots Q (F0 m (pc + 3) ls rest)) : W p l e R s m args below meth c H locs cells slots Q (F0 m pc ls (.int v :: .ref (ad (0, 0, 0)) :: rest)) :=
  r_put hx hb hts hown hC hH hS (0, 0, 0) ⟨by decide, rfl⟩ rfl rfl inX4 tyX4 tyX4_ok nmX4 f hf hfin hlink hn hfit (by simp [fX]; omega) hdg (fun H1 locs1 h1 h2 => kk H1 locs1 (Wo_X hff h1) h2)
theorem p5 (hx : p.tables.exec = Jvm.exec) (hb : c.code = cc) (hts : ∀ x ∈ AW, x.before args s = true) (hown : s.vm.findClass ow = some m.cls) (hC : Cs D k b s) (hH : Wo D k b ad g M o H) (hS : va_S (Fb b) H0 H locs)  (f : Nat) (hf : f < 27) (hff : f = 0 ∨ f = 1 ∨ f = 2 ∨ f = 19 ∨ f = 26) (hfin : (TX5 f).2.2.2 = false) (hlink : Cond.fieldLink ow index (TX5 f).1 (TX5 f).2.1 (TX5 f).2.2.1 ∈ AW) {v : Int32} (hn : narrow (tyX5 f) (.int v) = .int v) (hfit : fits (tyX5 f) (.int v) = true) (hdg : decode cc pc = .ok (.putfield index, 3))
    (kk : ∀ (H1 : Heap) (locs1 : List Loc), Wo D k b ad g (up M f 0 v) o H1 → va_S (Fb b) H0 H1 locs1 → W p l e R s m args below meth c H1 locs1 cells slots Q (F0 m (pc + 3) ls rest)) : W p l e R s m args below meth c H locs cells slots Q (F0 m pc ls (.int v :: .ref (ad (7, 0, 0)) :: rest)) :=
  r_put hx hb hts hown hC hH hS (7, 0, 0) ⟨rfl, rfl⟩ rfl rfl inX5 tyX5 tyX5_ok nmX5 f hf hfin hlink hn hfit (by simp [fR]; omega) hdg (fun H1 locs1 h1 h2 => kk H1 locs1 (Wo_R hff h1) h2)
theorem p3C (hx : p.tables.exec = Jvm.exec) (hb : c.code = cc) (hts : ∀ x ∈ AW, x.before args s = true) (hown : s.vm.findClass ow = some m.cls) (hC : Cs D k b s) (hH : Wo D k b ad g M o H) (hS : va_S (Fb b) H0 H locs) (i : Nat) (hi : i < g.2.1 1 0) (hlink : Cond.fieldLink ow index (TX3 1).1 (TX3 1).2.1 (TX3 1).2.2.1 ∈ AW) (r : Nat) (hdg : decode cc pc = .ok (.putfield index, 3))
    (kk : ∀ (H1 : Heap) (locs1 : List Loc), Wo D k b ad (sn g 3 i r) M o H1 → va_S (Fb b) H0 H1 locs1 → W p l e R s m args below meth c H1 locs1 cells slots Q (F0 m (pc + 3) ls rest)) : W p l e R s m args below meth c H locs cells slots Q (F0 m pc ls (va_rf (mrO ad r) :: .ref (ad (2, i, 0)) :: rest)) :=
  r_put hx hb hts hown hC hH hS (2, i, 0) ⟨hi, rfl⟩ rfl rfl inX3 tyX3 tyX3_ok nmX3 1 (by decide) rfl hlink (by unfold mrO; split <;> rfl) (by unfold mrO; split <;> rfl) (by simp [fP]) hdg (fun H1 locs1 h1 h2 => kk H1 locs1 (Wo_C h1) h2)
theorem p2E (hx : p.tables.exec = Jvm.exec) (hb : c.code = cc) (hts : ∀ x ∈ AW, x.before args s = true) (hown : s.vm.findClass ow = some m.cls) (hC : Cs D k b s) (hH : Wo D k b ad g M o H) (hS : va_S (Fb b) H0 H locs) (i : Nat) (hi : i < g.2.1 0 0) (hlink : Cond.fieldLinkNest ow index (TX2 7).1 (TX2 7).2.1 (TX2 7).2.2.1 host ∈ AW) (hdg : decode cc pc = .ok (.putfield index, 3))
    (kk : ∀ (H1 : Heap) (locs1 : List Loc), Wo D k b ad (sn g 2 i 0) M o H1 → va_S (Fb b) H0 H1 locs1 → W p l e R s m args below meth c H1 locs1 cells slots Q (F0 m (pc + 3) ls rest)) : W p l e R s m args below meth c H locs cells slots Q (F0 m pc ls (.null :: .ref (ad (1, i, 0)) :: rest)) :=
  r_putN hx hb hts hown hC hH hS (1, i, 0) ⟨hi, rfl⟩ rfl rfl inX2 tyX2 tyX2_ok nmX2 7 (by decide) rfl hlink rfl rfl (by simp [fM]) hdg (fun H1 locs1 h1 h2 => kk H1 locs1 (Wo_E h1) h2)
/-- the class's arrays -/
theorem mLen (hx : p.tables.exec = Jvm.exec) (hb : c.code = cc) (hC : Cs D k b s) (hH : Wo D k b ad g M o H) (hdg : decode cc pc = .ok (.arraylength, 1)) (kk : W p l e R s m args below meth c H locs cells slots Q (F0 m (pc + 1) ls (.int (nI 8) :: rest))) : W p l e R s m args below meth c H locs cells slots Q (F0 m pc ls (.ref (ad (0, 1, 0)) :: rest)) :=
  r_alen hx hb hC hH (0, 1, 0) ⟨by decide, rfl⟩ rfl 4 rfl rfl hdg kk
theorem pLen (hx : p.tables.exec = Jvm.exec) (hb : c.code = cc) (hC : Cs D k b s) (hH : Wo D k b ad g M o H) (hdg : decode cc pc = .ok (.arraylength, 1)) (kk : W p l e R s m args below meth c H locs cells slots Q (F0 m (pc + 1) ls (.int (nI 12) :: rest))) : W p l e R s m args below meth c H locs cells slots Q (F0 m pc ls (.ref (ad (0, 2, 0)) :: rest)) :=
  r_alen hx hb hC hH (0, 2, 0) ⟨by decide, rfl⟩ rfl 5 rfl rfl hdg kk
theorem mLd (hx : p.tables.exec = Jvm.exec) (hb : c.code = cc) (hC : Cs D k b s) (hH : Wo D k b ad g M o H) {i : Nat} (hi : i < 8) (hdg : decode cc pc = .ok (.aaload, 1)) (kk : W p l e R s m args below meth c H locs cells slots Q (F0 m (pc + 1) ls (va_rf (maO g ad i) :: rest))) : W p l e R s m args below meth c H locs cells slots Q (F0 m pc ls (.int (nI i) :: .ref (ad (0, 1, 0)) :: rest)) := by
  refine r_aldM hx hb hC hH (0, 1, 0) ⟨by decide, rfl⟩ rfl (vp_in_nI hi (by decide)) hdg ?_
  rw [nI_clamp (by omega)]
  exact kk
theorem pLd (hx : p.tables.exec = Jvm.exec) (hb : c.code = cc) (hC : Cs D k b s) (hH : Wo D k b ad g M o H) {i : Nat} (hi : i < 12) (hdg : decode cc pc = .ok (.aaload, 1)) (kk : W p l e R s m args below meth c H locs cells slots Q (F0 m (pc + 1) ls (va_rf (phO g ad i) :: rest))) : W p l e R s m args below meth c H locs cells slots Q (F0 m pc ls (.int (nI i) :: .ref (ad (0, 2, 0)) :: rest)) := by
  refine r_aldP hx hb hC hH (0, 2, 0) ⟨by decide, rfl⟩ rfl (vp_in_nI hi (by decide)) hdg ?_
  rw [nI_clamp (by omega)]
  exact kk
theorem yLd (hx : p.tables.exec = Jvm.exec) (hb : c.code = cc) (hC : Cs D k b s) (hH : Wo D k b ad g M o H) {i : Int32} (hi : vp_in i 6) (hdg : decode cc pc = .ok (.iaload, 1)) (kk : W p l e R s m args below meth c H locs cells slots Q (F0 m (pc + 1) ls (.int (g.1 42 i.toNatClampNeg) :: rest))) : W p l e R s m args below meth c H locs cells slots Q (F0 m pc ls (.int i :: .ref (ad (0, 3, 0)) :: rest)) :=
  r_iald hx hb hC hH (0, 3, 0) ⟨by decide, rfl⟩ rfl hi hdg kk
theorem ySt (hx : p.tables.exec = Jvm.exec) (hb : c.code = cc) (hC : Cs D k b s) (hH : Wo D k b ad g M o H) (hS : va_S (Fb b) H0 H locs) {i v : Int32} (hi : vp_in i 6) (hdg : decode cc pc = .ok (.iastore, 1)) (kk : ∀ (H1 : Heap) (locs1 : List Loc), Wo D k b ad (sx g 42 i.toNatClampNeg v) M o H1 → va_S (Fb b) H0 H1 locs1 → W p l e R s m args below meth c H1 locs1 cells slots Q (F0 m (pc + 1) ls rest)) : W p l e R s m args below meth c H locs cells slots Q (F0 m pc ls (.int v :: .int i :: .ref (ad (0, 3, 0)) :: rest)) :=
  r_iast hx hb hC hH hS (0, 3, 0) ⟨by decide, rfl⟩ rfl hi hdg (fun H1 locs1 h1 h2 => kk H1 locs1 (Wo_Y h1) h2)
/-- the reference's rows -/
theorem rLd (hx : p.tables.exec = Jvm.exec) (hb : c.code = cc) (hC : Cs D k b s) (hH : Wo D k b ad g M o H) (f : Nat) (hf : 2 < f ∧ f < 26 ∧ f ≠ 19) (hz : ¬ (f = 8 ∨ f = 10)) {i : Int32} (hi : vp_in i (rl f)) (hdg : decode cc pc = .ok (.iaload, 1)) (kk : W p l e R s m args below meth c H locs cells slots Q (F0 m (pc + 1) ls (.int (M f i.toNatClampNeg) :: rest))) : W p l e R s m args below meth c H locs cells slots Q (F0 m pc ls (.int i :: .ref (ad (8, f, 0)) :: rest)) :=
  r_iald hx hb hC hH (8, f, 0) ⟨hf, rfl⟩ (by simp only [eW]; rw [if_neg hz]) hi hdg kk
theorem rLz (hx : p.tables.exec = Jvm.exec) (hb : c.code = cc) (hC : Cs D k b s) (hH : Wo D k b ad g M o H) (f : Nat) (hf : 2 < f ∧ f < 26 ∧ f ≠ 19) (hz : f = 8 ∨ f = 10) {i : Int32} (hi : vp_in i (rl f)) (hdg : decode cc pc = .ok (.baload, 1)) (kk : W p l e R s m args below meth c H locs cells slots Q (F0 m (pc + 1) ls (.int (M f i.toNatClampNeg) :: rest))) : W p l e R s m args below meth c H locs cells slots Q (F0 m pc ls (.int i :: .ref (ad (8, f, 0)) :: rest)) :=
  r_zald hx hb hC hH (8, f, 0) ⟨hf, rfl⟩ (by simp only [eW]; rw [if_pos hz]) hi hdg kk
theorem rSt (hx : p.tables.exec = Jvm.exec) (hb : c.code = cc) (hC : Cs D k b s) (hH : Wo D k b ad g M o H) (hS : va_S (Fb b) H0 H locs) (f : Nat) (hf : 2 < f ∧ f < 26 ∧ f ≠ 19) (hz : ¬ (f = 8 ∨ f = 10)) {i v : Int32} (hi : vp_in i (rl f)) (hdg : decode cc pc = .ok (.iastore, 1)) (kk : ∀ (H1 : Heap) (locs1 : List Loc), Wo D k b ad g (up M f i.toNatClampNeg v) o H1 → va_S (Fb b) H0 H1 locs1 → W p l e R s m args below meth c H1 locs1 cells slots Q (F0 m (pc + 1) ls rest)) : W p l e R s m args below meth c H locs cells slots Q (F0 m pc ls (.int v :: .int i :: .ref (ad (8, f, 0)) :: rest)) :=
  r_iast hx hb hC hH hS (8, f, 0) ⟨hf, rfl⟩ (by simp only [eW]; rw [if_neg hz]) hi hdg (fun H1 locs1 h1 h2 => kk H1 locs1 (Wo_A hf (by rw [if_neg hz]) h1) h2)
theorem rSz (hx : p.tables.exec = Jvm.exec) (hb : c.code = cc) (hC : Cs D k b s) (hH : Wo D k b ad g M o H) (hS : va_S (Fb b) H0 H locs) (f : Nat) (hf : 2 < f ∧ f < 26 ∧ f ≠ 19) (hz : f = 8 ∨ f = 10) {i v : Int32} (hi : vp_in i (rl f)) (hn : narrow .boolean (.int v) = .int v) (hdg : decode cc pc = .ok (.bastore, 1)) (kk : ∀ (H1 : Heap) (locs1 : List Loc), Wo D k b ad g (up M f i.toNatClampNeg v) o H1 → va_S (Fb b) H0 H1 locs1 → W p l e R s m args below meth c H1 locs1 cells slots Q (F0 m (pc + 1) ls rest)) : W p l e R s m args below meth c H locs cells slots Q (F0 m pc ls (.int v :: .int i :: .ref (ad (8, f, 0)) :: rest)) :=
  r_zast hx hb hC hH hS (8, f, 0) ⟨hf, rfl⟩ (by simp only [eW]; rw [if_pos hz]) hi hn hdg (fun H1 locs1 h1 h2 => kk H1 locs1 (Wo_A hf (by rw [if_pos hz]) h1) h2)
end LW2
end
section
/-! WHAT EACH METHOD DOES, as functions: the class (over XS) -/
def onB (g : XS) (i : Nat) : Bool := decide (¬ g.2.1 2 i = 0) && decide (g.1 8 i = 0)
def dsI (g : XS) (i : Nat) (p : Int32) : Int32 := if 0 ≤ p - g.1 1 i then p - g.1 1 i else 0 - (p - g.1 1 i)
def cvB (g : XS) (i : Nat) (p : Int32) : Bool := decide (dsI g i p ≤ g.1 2 i)
def ctB (g : XS) (i : Nat) (p : Int32) : Bool := onB g i && cvB g i p && decide (g.1 9 i < g.1 3 i)
def nf (g : XS) (p : Int32) : Nat → Nat
  | 0 => 0
  | j + 1 => if j < g.2.1 0 0 ∧ ctB g j p = true ∧ (nf g p j = 0 ∨ dsI g j p < dsI g (nf g p j - 1) p) then j + 1 else nf g p j
def cdI (r : Nat) : Int32 := if r = 0 then -1 else nI (r - 1)
/-- the number of the mast that a phone's call has, as the class keeps it in the mast -/
def cnI (g : XS) (q : Nat) : Int32 := if g.2.1 3 q = 0 then -1 else g.1 0 (g.2.1 3 q - 1)
def mI (g : XS) (m : Int32) : Nat := if inB m 0 7 = true ∧ m.toNatClampNeg < g.2.1 0 0 then m.toNatClampNeg + 1 else 0
def pI (g : XS) (q : Int32) : Nat := if inB q 0 11 = true ∧ q.toNatClampNeg < g.2.1 1 0 then q.toNatClampNeg + 1 else 0
def cvA (g : XS) (p : Int32) : Nat → Bool
  | 0 => false
  | j + 1 => cvA g p j || (decide (j < g.2.1 0 0) && onB g j && cvB g j p)
def hlI (g : XS) : Nat → Int32
  | 0 => 0
  | q + 1 => if cvA g (nI q) 8 = true then hlI g q else hlI g q + 1
/-- sums of int32 -/
def sumI (f : Nat → Int32) : Nat → Int32
  | 0 => 0
  | q + 1 => sumI f q + f q
def hlS (g : XS) (i : Nat) : Int32 := sumI (fun q => g.2.2 1 i q - g.2.2 0 i q) (g.2.1 4 i)
/-- the calls that go on with a mast: their hours -/
def pnS (g : XS) (i : Nat) : Nat → Int32 → Int32
  | 0, a => a
  | q + 1, a => if q < g.2.1 1 0 ∧ g.2.1 3 q = i + 1 then pnS g i q a + (g.1 40 0 - g.1 32 q) else pnS g i q a
def comG (g : XS) (q i : Nat) (h : Int32) : XS := sx (sx (sn g 3 q (i + 1)) 32 q h) 9 i (g.1 9 i + 1)
def logG (g : XS) (i : Nat) (a z : Int32) : XS := if z ≤ a then g else (g.1, up g.2.1 4 i (g.2.1 4 i + 1), ul (ul g.2.2 0 i (g.2.1 4 i) a) 1 i (g.2.1 4 i) z)
def goG (g : XS) (q : Nat) (h : Int32) : XS := sn (logG (sx g 9 (g.2.1 3 q - 1) (g.1 9 (g.2.1 3 q - 1) - 1)) (g.2.1 3 q - 1) (g.1 32 q) h) 3 q 0
def hndA (g : XS) (q r : Nat) : XS := if r = 0 then sx g 34 q (g.1 34 q + 1) else comG (sx g 35 q (g.1 35 q + 1)) q (r - 1) (g.1 40 0)
def hndG (g : XS) (q : Nat) : XS := hndA (goG g q (g.1 40 0)) q (nf (goG g q (g.1 40 0)) ((goG g q (g.1 40 0)).1 30 q) 8)
def ctrG (g : XS) : Nat → XS
  | 0 => g
  | i + 1 => if i < (ctrG g i).2.1 0 0 ∧ onB (ctrG g i) i = true then sx (ctrG g i) 12 i ((ctrG g i).1 12 i + (ctrG g i).1 9 i) else ctrG g i
def payG (g : XS) (f v : Int32) : XS := if inB f 0 5 = true then sx g 42 f.toNatClampNeg (g.1 42 f.toNatClampNeg + v) else g
def prnG (g : XS) (i : Nat) (cl : Int32) : XS := payG (payG g (g.1 20 i) ((g.1 24 i + g.1 25 i * cl) * g.1 22 i / 10)) (g.1 21 i) ((g.1 24 i + g.1 25 i * cl) - (g.1 24 i + g.1 25 i * cl) * g.1 22 i / 10)
def prsG (g : XS) : Nat → XS
  | 0 => g
  | i + 1 => if i < (prsG g i).2.1 0 0 ∧ ¬ (prsG g i).2.1 2 i = 0 then prnG (prsG g i) i ((prsG g i).1 9 i) else prsG g i
def mnI (x y : Int32) : Int32 := if y < x then y else x
def tkpG (g : XS) (i : Nat) (s : Int32) : XS :=
  if g.2.1 2 i = 0 then sx g 8 i 0
  else if 2 + g.1 9 i ≤ g.1 10 i + g.1 4 i * s then sx (sx g 8 i 0) 10 i (mnI (g.1 10 i + g.1 4 i * s - (2 + g.1 9 i)) (g.1 5 i))
  else if g.1 6 i = 0 then sx (sx (sx g 8 i 0) 8 i 1) 10 i (mnI (g.1 10 i + g.1 4 i * s) (g.1 5 i))
  else sx (sx (sx g 8 i 0) 11 i (g.1 11 i + (2 + g.1 9 i - (g.1 10 i + g.1 4 i * s)))) 10 i 0
def pwsG (g : XS) : Nat → XS
  | 0 => g
  | i + 1 => if i < (pwsG g i).2.1 0 0 then tkpG (pwsG g i) i ((pwsG g i).1 41 0) else pwsG g i
def elsG (g : XS) : Nat → XS
  | 0 => g
  | i + 1 => if i < (elsG g i).2.1 0 0 ∧ ¬ (elsG g i).2.1 2 i = 0 ∧ (elsG g i).1 23 i ≤ (elsG g i).1 40 0 then sn (elsG g i) 2 i 0 else elsG g i
def lvsG (g : XS) : Nat → XS
  | 0 => g
  | q + 1 => if q < (lvsG g q).2.1 1 0 ∧ ¬ (lvsG g q).2.1 3 q = 0 ∧ onB (lvsG g q) ((lvsG g q).2.1 3 q - 1) = false then hndG (lvsG g q) q else lvsG g q
def tkG (g : XS) : XS := sx g 40 0 (g.1 40 0 + 1)
def hrG (g : XS) : XS := lvsG (elsG (tkG (pwsG (prsG (ctrG g 8) 8) 8)) 8) 12
def hrsG (g : XS) : Nat → XS
  | 0 => g
  | j + 1 => hrG (hrsG g j)
/-- made anew: a mast, a phone, a lease -/
def nwM (g : XS) (a : Nat → Int32) : XS := (fun f j => if j = g.2.1 0 0 ∧ f < 13 then a f else g.1 f j, up g.2.1 0 0 (g.2.1 0 0 + 1), g.2.2)
def nwP (g : XS) (p : Int32) : XS := (fun f j => if j = g.2.1 1 0 ∧ 30 ≤ f ∧ f < 36 then (if f = 30 then p else 0) else g.1 f j, up (up g.2.1 3 (g.2.1 1 0) 0) 1 0 (g.2.1 1 0 + 1), g.2.2)
def nwL (g : XS) (i : Nat) (a : Nat → Int32) : XS := (fun f j => if j = i ∧ 20 ≤ f ∧ f < 26 then a (f - 20) else g.1 f j, up g.2.1 2 i 1, g.2.2)
def l6 (a0 a1 a2 a3 a4 a5 : Int32) : Nat → Int32
  | 0 => a0 | 1 => a1 | 2 => a2 | 3 => a3 | 4 => a4 | _ => a5
def l13 (a0 a1 a2 a3 a4 a5 a6 : Int32) : Nat → Int32
  | 0 => a0 | 1 => a1 | 2 => a2 | 3 => a3 | 4 => a4 | 5 => a5 | 6 => a6 | _ => 0
/-- the public methods: which exception (0: none; its place in the throws clause), what then -/
def mastC (g : XS) (a0 a1 a2 a3 a4 : Int32) : Nat := if (inB a0 0 99 && inB a1 1 40 && inB a2 1 10 && inB a3 0 10 && inB a4 0 100) = false then 1 else if g.2.1 0 0 < 8 then 0 else 2
def leaseC (g : XS) (a0 a1 a2 a3 a4 a5 a6 : Int32) : Nat :=
  if mI g a0 = 0 ∨ inB a1 0 5 = false ∨ (¬ a2 = -1 ∧ inB a2 0 5 = false) then 1
  else if a1 = a2 ∨ inB a3 (if a2 = -1 then 10 else 0) 10 = false ∨ inB a4 (g.1 40 0 + 1) 10000 = false ∨ inB a5 0 1000 = false ∨ inB a6 0 100 = false then 2
  else if ¬ g.2.1 2 (mI g a0 - 1) = 0 then 3 else 0
def clG (g : XS) (q : Nat) : XS := if nf g (g.1 30 q) 8 = 0 then sx g 33 q (g.1 33 q + 1) else comG g q (nf g (g.1 30 q) 8 - 1) (g.1 40 0)
def clV (g : XS) (q : Nat) : Int32 := if nf g (g.1 30 q) 8 = 0 then -1 else (clG g q).1 0 (nf g (g.1 30 q) 8 - 1)
def moveG (g : XS) (q : Nat) (p : Int32) : XS := if ¬ g.2.1 3 q = 0 ∧ cvB (sx g 30 q p) (g.2.1 3 q - 1) p = false then hndG (sx g 30 q p) q else sx g 30 q p
def ofMV (g : XS) (i : Nat) (z : Int32) : Int32 := if z = 0 then b2 (onB g i) else if z = 1 then g.1 9 i else if z = 2 then g.1 10 i else if z = 3 then g.1 11 i else if z = 4 then g.1 12 i else if g.2.1 2 i = 0 then -1 else g.1 23 i
def ofPV (g : XS) (q : Nat) (z : Int32) : Int32 := if z = 0 then g.1 30 q else if z = 1 then cnI g q else if z = 2 then g.1 33 q else if z = 3 then g.1 34 q else g.1 35 q
def stV (g : XS) (q : Nat) : UInt32 := if g.2.1 3 q = 0 ∨ g.1 2 (g.2.1 3 q - 1) < 1 then FP.fconst0 else FP.fsub FP.fconst1 (FP.fdiv (FP.i2f (dsI g (g.2.1 3 q - 1) (g.1 30 q))) (FP.i2f (g.1 2 (g.2.1 3 q - 1))))
/-- what holds of the class's numbers at all times (what its own code needs) -/
def XI (g : XS) : Prop := g.2.1 0 0 ≤ 8 ∧ g.2.1 1 0 ≤ 12 ∧ (∀ q, q < g.2.1 1 0 → g.2.1 3 q ≤ g.2.1 0 0) ∧ (∀ i q, g.2.1 4 i ≤ q → g.2.2 0 i q = 0 ∧ g.2.2 1 i q = 0) ∧ (∀ i, g.2.1 0 0 ≤ i → g.2.1 2 i = 0 ∧ g.2.1 4 i = 0)
/-! the reference (over MF) -/
def mN (M : MF) : Nat := (M 2 0).toNatClampNeg
def pN (M : MF) : Nat := (M 19 0).toNatClampNeg
def RI (M : MF) : Prop := mN M ≤ 8 ∧ M 2 0 = nI (mN M) ∧ pN M ≤ 12 ∧ M 19 0 = nI (pN M) ∧ (∀ q, q < pN M → ∃ r, r ≤ mN M ∧ M 21 q = cdI r) ∧ ∀ i, i < 8 → vp_in (M 12 i) 6 ∧ (M 13 i = -1 ∨ vp_in (M 13 i) 6)
def rlB (M : MF) (i : Nat) : Bool := decide (¬ M 11 i = -1)
def roB (M : MF) (i : Nat) : Bool := rlB M i && decide (M 10 i = 0)
def caI (M : MF) (v : Int32) : Nat → Int32
  | 0 => 0
  | q + 1 => caI M v q + (if M 21 q = v then 1 else 0)
def apI (M : MF) (i : Nat) (p : Int32) : Int32 := if M 3 i - p < 0 then -(M 3 i - p) else M 3 i - p
def rcB (M : MF) (i : Nat) (p : Int32) : Bool := decide (apI M i p ≤ M 4 i)
def fitB (M : MF) (i : Nat) (p : Int32) : Bool := roB M i && rcB M i p && decide (caI M (nI i) (pN M) < M 5 i)
def mf (M : MF) (p : Int32) : Nat → Nat
  | 0 => 0
  | j + 1 => if fitB M j p = true ∧ (mf M p j = 0 ∨ apI M j p < apI M (mf M p j - 1) p) then j + 1 else mf M p j
def cI (n : Nat) : Int32 := nI n
def rmC (M : MF) (a0 a1 a2 a3 a4 : Int32) : Nat := if (inB a0 0 99 && inB a1 1 40 && inB a2 1 10 && inB a3 0 10 && inB a4 0 100) = false then 1 else if M 2 0 = 8 then 2 else 0
def rmG (M : MF) (a0 a1 a2 a3 a4 a5 : Int32) : MF := up (up (up (up (up (up (up (up M 3 (mN M) a0) 4 (mN M) a1) 5 (mN M) a2) 6 (mN M) a3) 7 (mN M) a4) 8 (mN M) a5) 11 (mN M) (-1)) 2 0 (M 2 0 + 1)
def isMB (M : MF) (m : Int32) : Bool := inB m 0 (M 2 0 - 1)
def isPB (M : MF) (q : Int32) : Bool := inB q 0 (M 19 0 - 1)
def rlC (M : MF) (a0 a1 a2 a3 a4 a5 a6 : Int32) : Nat :=
  if (isMB M a0 && inB a1 0 5 && (decide (a2 = -1) || inB a2 0 5)) = false then 1
  else if (decide (¬ a1 = a2) && inB a3 (if a2 = -1 then 10 else 0) 10 && inB a4 (M 0 0 + 1) 10000 && inB a5 0 1000 && inB a6 0 100) = false then 2
  else if rlB M a0.toNatClampNeg = true then 3 else 0
def rlG (M : MF) (i : Nat) (a1 a2 a3 a4 a5 a6 : Int32) : MF := up (up (up (up (up (up M 11 i a4) 12 i a1) 13 i a2) 14 i a3) 15 i a5) 16 i a6
def rphC (M : MF) (a0 : Int32) : Nat := if inB a0 0 99 = false then 1 else if M 19 0 = 12 then 2 else 0
def rphG (M : MF) (a0 : Int32) : MF := up (up (up M 20 (pN M) a0) 21 (pN M) (-1)) 19 0 (M 19 0 + 1)
def rclG (M : MF) (q : Nat) : MF := up (up M 21 q (cdI (mf M (M 20 q) (mN M)))) 22 q (M 22 q + (if cdI (mf M (M 20 q) (mN M)) = -1 then 1 else 0))
def rhA (M : MF) (q : Nat) : MF := up (up M 21 q (-1)) 21 q (cdI (mf (up M 21 q (-1)) (M 20 q) (mN M)))
def rhG (M : MF) (q : Nat) : MF := if rhA M q 21 q = -1 then up (rhA M q) 23 q (M 23 q + 1) else up (rhA M q) 24 q (M 24 q + 1)
def rmvG (M : MF) (q : Nat) (p : Int32) : MF := if ¬ M 21 q = -1 ∧ rcB (up M 20 q p) (M 21 q).toNatClampNeg p = false then rhG (up M 20 q p) q else up M 20 q p
def rsm (M : MF) (i : Nat) : Int32 := M 15 i + M 16 i * (if roB M i = true then caI M (nI i) (pN M) else 0)
def rpA (M : MF) (i : Nat) : MF := up M 25 (M 12 i).toNatClampNeg (M 25 (M 12 i).toNatClampNeg + rsm M i * M 14 i / 10)
def rpG (M : MF) (i : Nat) : MF := if M 13 i = -1 then rpA M i else up (rpA M i) 25 (M 13 i).toNatClampNeg (rpA M i 25 (M 13 i).toNatClampNeg + (rsm M i - rsm M i * M 14 i / 10))
def rhas (M : MF) (i : Nat) : Int32 := M 6 i * M 1 0 + M 9 i
def rnds (M : MF) (i : Nat) : Int32 := 2 + caI M (nI i) (pN M)
def rwo (M : MF) (i : Nat) : Bool := decide (rhas M i < rnds M i) && decide (M 8 i = 0)
def rkp (M : MF) (i : Nat) : Int32 := if rwo M i = true then rhas M i else if rhas M i < rnds M i then 0 else rhas M i - rnds M i
def rwG (M : MF) (i : Nat) : MF := up (up (up M 10 i (b2 (rwo M i))) 17 i (M 17 i + (if rhas M i < rnds M i ∧ ¬ M 8 i = 0 then rnds M i - rhas M i else 0))) 9 i (if M 7 i < rkp M i then M 7 i else rkp M i)
def rctG (M : MF) : Nat → MF
  | 0 => M
  | i + 1 => up (rctG M i) 18 i (rctG M i 18 i + (if roB (rctG M i) i = true then caI (rctG M i) (nI i) (pN (rctG M i)) else 0))
def rprG (M : MF) : Nat → MF
  | 0 => M
  | i + 1 => if rlB (rprG M i) i = true then rpG (rprG M i) i else rprG M i
def rpwG (M : MF) : Nat → MF
  | 0 => M
  | i + 1 => if rlB (rpwG M i) i = true then rwG (rpwG M i) i else up (rpwG M i) 10 i 0
def relG (M : MF) : Nat → MF
  | 0 => M
  | i + 1 => up (relG M i) 11 i (if relG M i 11 i = relG M i 0 0 then -1 else relG M i 11 i)
def rlvG (M : MF) : Nat → MF
  | 0 => M
  | q + 1 => if ¬ rlvG M q 21 q = -1 ∧ roB (rlvG M q) (rlvG M q 21 q).toNatClampNeg = false then rhG (rlvG M q) q else rlvG M q
def rtkG (M : MF) : MF := up M 0 0 (M 0 0 + 1)
def rhrA (M : MF) : MF := rpwG (rprG (rctG M (mN M)) (mN M)) (mN M)
def rhrG (M : MF) : MF := rlvG (relG (rtkG (rhrA M)) (mN M)) (pN M)
def rhrsG (M : MF) : Nat → MF
  | 0 => M
  | j + 1 => rhrG (rhrsG M j)
def rcvA (M : MF) (p : Int32) : Nat → Bool
  | 0 => false
  | j + 1 => rcvA M p j || (roB M j && rcB M j p)
def rhlI (M : MF) : Nat → Int32
  | 0 => 0
  | q + 1 => rhlI M q + (if rcvA M (nI q) (mN M) = true then 0 else 1)
def rstV (M : MF) (q : Nat) : UInt32 := if M 21 q = -1 then FP.fconst0 else FP.fsub FP.fconst1 (FP.fdiv (FP.i2f (apI M (M 21 q).toNatClampNeg (M 20 q))) (FP.i2f (M 4 (M 21 q).toNatClampNeg)))
def rofMV (M : MF) (i : Nat) (z : Int32) : Int32 := if z = 0 then b2 (roB M i) else if z = 1 then caI M (nI i) (pN M) else if z = 2 then M 9 i else if z = 3 then M 17 i else if z = 4 then M 18 i else M 11 i
def rofPV (M : MF) (q : Nat) (z : Int32) : Int32 := if z = 0 then M 20 q else if z = 1 then M 21 q else if z = 2 then M 22 q else if z = 3 then M 23 q else M 24 q
end
section
/-! small facts: indexes that are natural numbers; masts and phones by an index -/
theorem inB_nI {a z : Int32} {n : Nat} (hz : z = nI n) (hn : n < 2 ^ 31) (h : inB a 0 z = true) : ∃ j : Nat, j ≤ n ∧ a = nI j := by
  subst hz
  simp only [inB, Bool.and_eq_true, decide_eq_true_eq] at h
  exact nI_of2 (nI_toInt hn) (Int32.not_lt.mpr h.1) h.2
theorem inB_of {j n : Nat} {z : Int32} (hz : z = nI n) (hn : n < 2 ^ 31) (h : j ≤ n) : inB (nI j) 0 z = true := by
  subst hz
  simp only [inB, Bool.and_eq_true, decide_eq_true_eq]
  exact ⟨nI_pos' (by omega), nI_le h hn⟩
theorem mI_1 {g : XS} {j : Nat} (h : j < g.2.1 0 0) (h8 : j < 8) : mI g (nI j) = j + 1 := by
  unfold mI
  rw [nI_clamp (by omega), if_pos ⟨inB_of (n := 7) rfl (by decide) (by omega), h⟩]
theorem mI_0 {g : XS} {a : Int32} (h : inB a 0 7 = false) : mI g a = 0 := by
  unfold mI
  rw [if_neg (fun q => by rw [h] at q; exact absurd q.1 (by decide))]
theorem mI_2 {g : XS} {j : Nat} (h : ¬ j < g.2.1 0 0) (h8 : j < 8) : mI g (nI j) = 0 := by
  unfold mI
  rw [nI_clamp (by omega), if_neg (fun q => h q.2)]
theorem mI_n {g : XS} {a : Int32} (h : ¬ mI g a = 0) : mI g a - 1 < g.2.1 0 0 ∧ mI g a - 1 < 8 ∧ a = nI (mI g a - 1) := by
  unfold mI at h ⊢
  split at h
  · next q =>
    rw [if_pos q]
    obtain ⟨j, hj, rfl⟩ := inB_nI (n := 7) rfl (by decide) q.1
    have h2 := q.2
    rw [nI_clamp (by omega)] at h2 ⊢
    exact ⟨by omega, by omega, by simp⟩
  · exact absurd rfl h
theorem pI_1 {g : XS} {j : Nat} (h : j < g.2.1 1 0) (h8 : j < 12) : pI g (nI j) = j + 1 := by
  unfold pI
  rw [nI_clamp (by omega), if_pos ⟨inB_of (n := 11) rfl (by decide) (by omega), h⟩]
theorem pI_0 {g : XS} {a : Int32} (h : inB a 0 11 = false) : pI g a = 0 := by
  unfold pI
  rw [if_neg (fun q => by rw [h] at q; exact absurd q.1 (by decide))]
theorem pI_2 {g : XS} {j : Nat} (h : ¬ j < g.2.1 1 0) (h8 : j < 12) : pI g (nI j) = 0 := by
  unfold pI
  rw [nI_clamp (by omega), if_neg (fun q => h q.2)]
theorem pI_n {g : XS} {a : Int32} (h : ¬ pI g a = 0) : pI g a - 1 < g.2.1 1 0 ∧ pI g a - 1 < 12 ∧ a = nI (pI g a - 1) := by
  unfold pI at h ⊢
  split at h
  · next q =>
    rw [if_pos q]
    obtain ⟨j, hj, rfl⟩ := inB_nI (n := 11) rfl (by decide) q.1
    have h2 := q.2
    rw [nI_clamp (by omega)] at h2 ⊢
    exact ⟨by omega, by omega, by simp⟩
  · exact absurd rfl h
theorem nf_le (g : XS) (p : Int32) : ∀ j, nf g p j ≤ j ∧ (¬ nf g p j = 0 → nf g p j ≤ g.2.1 0 0)
  | 0 => by simp [nf]
  | j + 1 => by
    obtain ⟨h1, h2⟩ := nf_le g p j
    unfold nf
    split
    · next q => exact ⟨Nat.le_refl _, fun _ => q.1⟩
    · exact ⟨by omega, h2⟩
section LY3
variable {p : Program} {l : Launch} {e : Env} {R : Room} {s : State} {m : MethodId} {args : Array Value} {below : List Frame} {meth : Method} {c : Code} {H : Heap} {locs : List Loc} {cells slots : Nat} {Q : State → Prop}
variable {cc : ByteArray} {pc : Nat} {ls : Array Slot} {rest : List Value} {D : va_G} {b : Nat} {ad : Tg → Nat} {H0 : Heap} {k : Nat → ClassId} {g : XS} {M : MF} {o : OF}
theorem vp_inN {i N : Nat} (h : i < N) (hN : N ≤ 12) : vp_in (nI i) N := vp_in_nI h (by omega)
theorem rl_le (f : Nat) : rl f ≤ 12 := by unfold rl; split <;> (try split) <;> omega
theorem rLdN (hx : p.tables.exec = Jvm.exec) (hb : c.code = cc) (hC : Cs D k b s) (hH : Wo D k b ad g M o H) (f : Nat) (hf : 2 < f ∧ f < 26 ∧ f ≠ 19) (hz : ¬ (f = 8 ∨ f = 10)) {i : Nat} (hi : i < rl f) (hdg : decode cc pc = .ok (.iaload, 1)) (kk : W p l e R s m args below meth c H locs cells slots Q (F0 m (pc + 1) ls (.int (M f i) :: rest))) : W p l e R s m args below meth c H locs cells slots Q (F0 m pc ls (.int (nI i) :: .ref (ad (8, f, 0)) :: rest)) := by
  refine rLd hx hb hC hH f hf hz (vp_inN hi (rl_le f)) hdg ?_
  rw [nI_clamp (by have := rl_le f; omega)]
  exact kk
theorem rLzN (hx : p.tables.exec = Jvm.exec) (hb : c.code = cc) (hC : Cs D k b s) (hH : Wo D k b ad g M o H) (f : Nat) (hf : 2 < f ∧ f < 26 ∧ f ≠ 19) (hz : f = 8 ∨ f = 10) {i : Nat} (hi : i < rl f) (hdg : decode cc pc = .ok (.baload, 1)) (kk : W p l e R s m args below meth c H locs cells slots Q (F0 m (pc + 1) ls (.int (M f i) :: rest))) : W p l e R s m args below meth c H locs cells slots Q (F0 m pc ls (.int (nI i) :: .ref (ad (8, f, 0)) :: rest)) := by
  refine rLz hx hb hC hH f hf hz (vp_inN hi (rl_le f)) hdg ?_
  rw [nI_clamp (by have := rl_le f; omega)]
  exact kk
theorem rStN (hx : p.tables.exec = Jvm.exec) (hb : c.code = cc) (hC : Cs D k b s) (hH : Wo D k b ad g M o H) (hS : va_S (Fb b) H0 H locs) (f : Nat) (hf : 2 < f ∧ f < 26 ∧ f ≠ 19) (hz : ¬ (f = 8 ∨ f = 10)) {i : Nat} {v : Int32} (hi : i < rl f) (hdg : decode cc pc = .ok (.iastore, 1)) (kk : ∀ (H1 : Heap) (locs1 : List Loc), Wo D k b ad g (up M f i v) o H1 → va_S (Fb b) H0 H1 locs1 → W p l e R s m args below meth c H1 locs1 cells slots Q (F0 m (pc + 1) ls rest)) : W p l e R s m args below meth c H locs cells slots Q (F0 m pc ls (.int v :: .int (nI i) :: .ref (ad (8, f, 0)) :: rest)) := by
  refine rSt hx hb hC hH hS f hf hz (vp_inN hi (rl_le f)) hdg (fun H1 locs1 h1 h2 => ?_)
  rw [nI_clamp (by have := rl_le f; omega)] at h1
  exact kk H1 locs1 h1 h2
theorem rSzN (hx : p.tables.exec = Jvm.exec) (hb : c.code = cc) (hC : Cs D k b s) (hH : Wo D k b ad g M o H) (hS : va_S (Fb b) H0 H locs) (f : Nat) (hf : 2 < f ∧ f < 26 ∧ f ≠ 19) (hz : f = 8 ∨ f = 10) {i : Nat} {v : Int32} (hi : i < rl f) (hn : narrow .boolean (.int v) = .int v) (hdg : decode cc pc = .ok (.bastore, 1)) (kk : ∀ (H1 : Heap) (locs1 : List Loc), Wo D k b ad g (up M f i v) o H1 → va_S (Fb b) H0 H1 locs1 → W p l e R s m args below meth c H1 locs1 cells slots Q (F0 m (pc + 1) ls rest)) : W p l e R s m args below meth c H locs cells slots Q (F0 m pc ls (.int v :: .int (nI i) :: .ref (ad (8, f, 0)) :: rest)) := by
  refine rSz hx hb hC hH hS f hf hz (vp_inN hi (rl_le f)) hn hdg (fun H1 locs1 h1 h2 => ?_)
  rw [nI_clamp (by have := rl_le f; omega)] at h1
  exact kk H1 locs1 h1 h2
/-- loops: one that only reads; one that writes -/
theorem loop_r (N : Nat) (I : Nat → Array Slot → Prop) (hstep : ∀ i, i < N → ∀ ls : Array Slot, I i ls → (∀ ls' : Array Slot, I (i + 1) ls' → W p l e R s m args below meth c H locs cells slots Q (F0 m pc ls' [])) → W p l e R s m args below meth c H locs cells slots Q (F0 m pc ls [])) (hend : ∀ ls : Array Slot, I N ls → W p l e R s m args below meth c H locs cells slots Q (F0 m pc ls [])) (h0 : I 0 ls) : W p l e R s m args below meth c H locs cells slots Q (F0 m pc ls []) := by
  suffices K : ∀ (z i : Nat), i + z = N → ∀ ls : Array Slot, I i ls → W p l e R s m args below meth c H locs cells slots Q (F0 m pc ls []) from K N 0 (Nat.zero_add N) ls h0
  intro z
  induction z with
  | zero => intro i hi ls h; rw [Nat.add_zero] at hi; subst hi; exact hend ls h
  | succ z ih => intro i hi ls h; exact hstep i (by omega) ls h (fun ls' h' => ih (i + 1) (by omega) ls' h')
theorem loop_w (N : Nat) (I : Nat → Heap → List Loc → Nat → Nat → Array Slot → Prop) (hstep : ∀ i, i < N → ∀ (H : Heap) (locs : List Loc) (cells slots : Nat) (ls : Array Slot), I i H locs cells slots ls → (∀ (H' : Heap) (locs' : List Loc) (cells' slots' : Nat) (ls' : Array Slot), I (i + 1) H' locs' cells' slots' ls' → W p l e R s m args below meth c H' locs' cells' slots' Q (F0 m pc ls' [])) → W p l e R s m args below meth c H locs cells slots Q (F0 m pc ls [])) (hend : ∀ (H : Heap) (locs : List Loc) (cells slots : Nat) (ls : Array Slot), I N H locs cells slots ls → W p l e R s m args below meth c H locs cells slots Q (F0 m pc ls [])) (h0 : I 0 H locs cells slots ls) : W p l e R s m args below meth c H locs cells slots Q (F0 m pc ls []) := by
  suffices K : ∀ (z i : Nat), i + z = N → ∀ (H : Heap) (locs : List Loc) (cells slots : Nat) (ls : Array Slot), I i H locs cells slots ls → W p l e R s m args below meth c H locs cells slots Q (F0 m pc ls []) from K N 0 (Nat.zero_add N) H locs cells slots ls h0
  intro z
  induction z with
  | zero => intro i hi H locs cells slots ls h; rw [Nat.add_zero] at hi; subst hi; exact hend H locs cells slots ls h
  | succ z ih => intro i hi H locs cells slots ls h; exact hstep i (by omega) H locs cells slots ls h (fun H' locs' cells' slots' ls' h' => ih (i + 1) (by omega) H' locs' cells' slots' ls' h')
end LY3
theorem mrO_s {ad : Tg → Nat} {i : Nat} : mrO ad (i + 1) = some (ad (1, i, 0)) := rfl
theorem prO_s {ad : Tg → Nat} {i : Nat} : prO ad (i + 1) = some (ad (2, i, 0)) := rfl
/-! logs: blocks of 64 entries, the newest first -/
def nbk (e : Nat) : Nat := (e + 63) / 64
theorem lgO_bf {ad : Tg → Nat} {i z : Nat} : lgO ad i z = bfO ad i (nbk z) := by
  unfold lgO bfO nbk
  by_cases h : z = 0
  · subst h; rfl
  · rw [if_neg h, if_neg (by omega), show (z + 63) / 64 - 1 = (z - 1) / 64 by omega]
theorem bfO_s {ad : Tg → Nat} {i z : Nat} : bfO ad i (z + 1) = some (ad (4, i, z)) := rfl
theorem bfO_z {ad : Tg → Nat} {i : Nat} : bfO ad i 0 = none := rfl
def bsI (g : XS) (i j : Nat) : Int32 := sumI (fun q => lcut (g.2.2 1 i) j q - lcut (g.2.2 0 i) j q) (min 64 (g.2.1 4 i - 64 * j))
/-- the blocks' hours, added from the newest on -/
def hbA (g : XS) (i n : Nat) : Nat → Int32
  | 0 => 0
  | t + 1 => hbA g i n t + bsI g i (n - (t + 1))
section LY4
variable {p : Program} {l : Launch} {e : Env} {R : Room} {s : State} {m : MethodId} {args : Array Value} {below : List Frame} {meth : Method} {c : Code} {H : Heap} {locs : List Loc} {cells slots : Nat} {Q : State → Prop}
variable {cc : ByteArray} {pc : Nat} {ls : Array Slot} {rest : List Value} {D : va_G} {b : Nat} {ad : Tg → Nat} {H0 : Heap} {k : Nat → ClassId} {g : XS} {M : MF} {o : OF}
theorem l5Ld (hx : p.tables.exec = Jvm.exec) (hb : c.code = cc) (hC : Cs D k b s) (hH : Wo D k b ad g M o H) (i j : Nat) (hi : i < g.2.1 0 0) (hj : 64 * j < g.2.1 4 i) {q : Nat} (hq : q < 64) (hdg : decode cc pc = .ok (.iaload, 1)) (kk : W p l e R s m args below meth c H locs cells slots Q (F0 m (pc + 1) ls (.int (lcut (g.2.2 0 i) j q) :: rest))) : W p l e R s m args below meth c H locs cells slots Q (F0 m pc ls (.int (nI q) :: .ref (ad (5, i, j)) :: rest)) := by
  refine r_iald hx hb hC hH (5, i, j) ⟨hi, hj⟩ rfl (vp_in_nI hq (by decide)) hdg ?_
  rw [nI_clamp (by omega)]
  exact kk
theorem l6Ld (hx : p.tables.exec = Jvm.exec) (hb : c.code = cc) (hC : Cs D k b s) (hH : Wo D k b ad g M o H) (i j : Nat) (hi : i < g.2.1 0 0) (hj : 64 * j < g.2.1 4 i) {q : Nat} (hq : q < 64) (hdg : decode cc pc = .ok (.iaload, 1)) (kk : W p l e R s m args below meth c H locs cells slots Q (F0 m (pc + 1) ls (.int (lcut (g.2.2 1 i) j q) :: rest))) : W p l e R s m args below meth c H locs cells slots Q (F0 m pc ls (.int (nI q) :: .ref (ad (6, i, j)) :: rest)) := by
  refine r_iald hx hb hC hH (6, i, j) ⟨hi, hj⟩ rfl (vp_in_nI hq (by decide)) hdg ?_
  rw [nI_clamp (by omega)]
  exact kk
end LY4
end
section
/-! what stays: counts, invariants, blocks -/
theorem inB_vp {a : Int32} (h : inB a 0 5 = true) : vp_in a 6 := by
  obtain ⟨j, hj, rfl⟩ := inB_nI (n := 5) rfl (by decide) h
  exact vp_in_nI (by omega) (by decide)
theorem payG_n {g : XS} {f v : Int32} : (payG g f v).2.1 = g.2.1 := by unfold payG; split <;> rfl
theorem payG_l {g : XS} {f v : Int32} : (payG g f v).2.2 = g.2.2 := by unfold payG; split <;> rfl
theorem payG_x {g : XS} {f v : Int32} {a j : Nat} (h : a ≠ 42) : (payG g f v).1 a j = g.1 a j := by
  unfold payG
  split
  · exact up_f h
  · rfl
theorem prnG_n {g : XS} {i : Nat} {v : Int32} : (prnG g i v).2.1 = g.2.1 := by unfold prnG; rw [payG_n, payG_n]
theorem prnG_l {g : XS} {i : Nat} {v : Int32} : (prnG g i v).2.2 = g.2.2 := by unfold prnG; rw [payG_l, payG_l]
theorem prnG_x {g : XS} {i : Nat} {v : Int32} {a j : Nat} (h : a ≠ 42) : (prnG g i v).1 a j = g.1 a j := by unfold prnG; rw [payG_x h, payG_x h]
theorem tkpG_n {g : XS} {i : Nat} {v : Int32} : (tkpG g i v).2.1 = g.2.1 := by unfold tkpG; split <;> (try split) <;> (try split) <;> rfl
theorem tkpG_l {g : XS} {i : Nat} {v : Int32} : (tkpG g i v).2.2 = g.2.2 := by unfold tkpG; split <;> (try split) <;> (try split) <;> rfl
theorem ctrG_n {g : XS} : ∀ i, (ctrG g i).2.1 = g.2.1
  | 0 => rfl
  | i + 1 => by unfold ctrG; split <;> exact ctrG_n i
theorem ctrG_l {g : XS} : ∀ i, (ctrG g i).2.2 = g.2.2
  | 0 => rfl
  | i + 1 => by unfold ctrG; split <;> exact ctrG_l i
theorem prsG_n {g : XS} : ∀ i, (prsG g i).2.1 = g.2.1
  | 0 => rfl
  | i + 1 => by unfold prsG; split; · rw [prnG_n]; exact prsG_n i
                · exact prsG_n i
theorem prsG_l {g : XS} : ∀ i, (prsG g i).2.2 = g.2.2
  | 0 => rfl
  | i + 1 => by unfold prsG; split; · rw [prnG_l]; exact prsG_l i
                · exact prsG_l i
theorem pwsG_n {g : XS} : ∀ i, (pwsG g i).2.1 = g.2.1
  | 0 => rfl
  | i + 1 => by unfold pwsG; split; · rw [tkpG_n]; exact pwsG_n i
                · exact pwsG_n i
theorem pwsG_l {g : XS} : ∀ i, (pwsG g i).2.2 = g.2.2
  | 0 => rfl
  | i + 1 => by unfold pwsG; split; · rw [tkpG_l]; exact pwsG_l i
                · exact pwsG_l i
theorem elsG_n {g : XS} {f j : Nat} (h : f ≠ 2) : ∀ i, (elsG g i).2.1 f j = g.2.1 f j
  | 0 => rfl
  | i + 1 => by
    unfold elsG
    split
    · rw [show (sn (elsG g i) 2 i 0).2.1 f j = (elsG g i).2.1 f j from up_f h]
      exact elsG_n h i
    · exact elsG_n h i
theorem elsG_l {g : XS} : ∀ i, (elsG g i).2.2 = g.2.2
  | 0 => rfl
  | i + 1 => by unfold elsG; split <;> exact elsG_l i
theorem elsG_x {g : XS} : ∀ i, (elsG g i).1 = g.1
  | 0 => rfl
  | i + 1 => by unfold elsG; split <;> exact elsG_x i
theorem logG_n {g : XS} {i f j : Nat} {a z : Int32} (h : f ≠ 4) : (logG g i a z).2.1 f j = g.2.1 f j := by
  unfold logG
  split
  · rfl
  · exact up_f h
theorem logG_x {g : XS} {i : Nat} {a z : Int32} : (logG g i a z).1 = g.1 := by unfold logG; split <;> rfl
theorem goG_n {g : XS} {q f j : Nat} {h : Int32} (h3 : f ≠ 3) (h4 : f ≠ 4) : (goG g q h).2.1 f j = g.2.1 f j := by
  unfold goG
  rw [show ∀ (y : XS), (sn y 3 q 0).2.1 f j = y.2.1 f j from fun y => up_f h3, logG_n h4]
theorem goG_x {g : XS} {q a j : Nat} {h : Int32} (h9 : a ≠ 9) : (goG g q h).1 a j = g.1 a j := by
  unfold goG
  show (logG _ _ _ _).1 a j = _
  rw [logG_x]
  exact up_f h9
theorem comG_n {g : XS} {q i f j : Nat} {h : Int32} (h3 : f ≠ 3) : (comG g q i h).2.1 f j = g.2.1 f j := up_f h3
theorem hndA_n {g : XS} {q r f j : Nat} (h3 : f ≠ 3) : (hndA g q r).2.1 f j = g.2.1 f j := by
  unfold hndA
  split
  · rfl
  · exact comG_n h3
theorem hndG_n {g : XS} {q f j : Nat} (h3 : f ≠ 3) (h4 : f ≠ 4) : (hndG g q).2.1 f j = g.2.1 f j := by
  unfold hndG
  rw [hndA_n h3, goG_n h3 h4]
theorem lvsG_n {g : XS} {f j : Nat} (h3 : f ≠ 3) (h4 : f ≠ 4) : ∀ q, (lvsG g q).2.1 f j = g.2.1 f j
  | 0 => rfl
  | q + 1 => by
    unfold lvsG
    split
    · rw [hndG_n h3 h4]; exact lvsG_n h3 h4 q
    · exact lvsG_n h3 h4 q
theorem tkG_n {g : XS} : (tkG g).2.1 = g.2.1 := rfl
/-- the class's invariant -/
theorem XI.of {g g' : XS} (h : XI g) (h1 : g'.2.1 = g.2.1) (h2 : g'.2.2 = g.2.2) : XI g' := by
  unfold XI
  rw [h1, h2]
  exact h
theorem XI.sn3 {g : XS} {q r : Nat} (h : XI g) (hr : r ≤ g.2.1 0 0) : XI (sn g 3 q r) := by
  obtain ⟨h1, h2, h3, h4, h5⟩ := h
  refine ⟨h1, h2, fun j hj => ?_, h4, h5⟩
  show up g.2.1 3 q r 3 j ≤ g.2.1 0 0
  by_cases e : j = q
  · subst e; rw [up_s]; exact hr
  · rw [up_i e]; exact h3 j hj
theorem XI.sn2 {g : XS} {i : Nat} (h : XI g) : XI (sn g 2 i 0) := by
  obtain ⟨h1, h2, h3, h4, h5⟩ := h
  refine ⟨h1, h2, h3, h4, fun j hj => ⟨?_, (h5 j hj).2⟩⟩
  show up g.2.1 2 i 0 2 j = 0
  by_cases e : j = i
  · subst e; rw [up_s]
  · rw [up_i e]; exact (h5 j hj).1
theorem XI.log {g : XS} {i : Nat} {a z : Int32} (h : XI g) (hi : i < g.2.1 0 0) : XI (logG g i a z) := by
  unfold logG
  split
  · exact h
  · obtain ⟨h1, h2, h3, h4, h5⟩ := h
    refine ⟨h1, h2, h3, fun j q hq => ?_, fun j hj => ⟨(h5 j hj).1, ?_⟩⟩
    · by_cases e : j = i
      · subst e
        have hq2 : g.2.1 4 j + 1 ≤ q := by
          have : up g.2.1 4 j (g.2.1 4 j + 1) 4 j ≤ q := hq
          rwa [up_s] at this
        have := h4 j q (by omega)
        simp [ul, show ¬ q = g.2.1 4 j by omega, this]
      · have hq2 : g.2.1 4 j ≤ q := by
          have : up g.2.1 4 i (g.2.1 4 i + 1) 4 j ≤ q := hq
          rwa [up_i e] at this
        simp [ul, e, h4 j q hq2]
    · show up g.2.1 4 i (g.2.1 4 i + 1) 4 j = 0
      have hj2 : g.2.1 0 0 ≤ j := hj
      rw [up_i (by omega)]
      exact (h5 j hj).2
theorem XI.go {g : XS} {q : Nat} {h : Int32} (hI : XI g) (hq : q < g.2.1 1 0) (h0 : ¬ g.2.1 3 q = 0) : XI (goG g q h) := by
  unfold goG
  refine XI.sn3 (XI.log (hI.of rfl rfl) ?_) (Nat.zero_le _)
  show g.2.1 3 q - 1 < g.2.1 0 0
  have := hI.2.2.1 q hq
  omega
theorem XI.com {g : XS} {q i : Nat} {h : Int32} (hI : XI g) (hi : i < g.2.1 0 0) : XI (comG g q i h) := (hI.sn3 (q := q) (r := i + 1) hi).of rfl rfl
theorem XI.hndA {g : XS} {q r : Nat} (hI : XI g) (hr : r ≤ g.2.1 0 0) : XI (hndA g q r) := by
  unfold _root_.Jvm.Pilot.CMastlineLaw_law_r3753_001296.hndA
  split
  · exact hI.of rfl rfl
  · next h => exact XI.com (g := sx g 35 q (g.1 35 q + 1)) (hI.of rfl rfl) (show r - 1 < g.2.1 0 0 by omega)
theorem XI.hnd {g : XS} {q : Nat} (hI : XI g) (hq : q < g.2.1 1 0) (h0 : ¬ g.2.1 3 q = 0) : XI (hndG g q) := by
  unfold hndG
  refine XI.hndA (hI.go hq h0) ?_
  have := (nf_le (goG g q (g.1 40 0)) ((goG g q (g.1 40 0)).1 30 q) 8).2
  omega
theorem XI.els {g : XS} (hI : XI g) : ∀ i, XI (elsG g i)
  | 0 => hI
  | i + 1 => by unfold elsG; split; · exact (hI.els i).sn2
                · exact hI.els i
theorem XI.lvs {g : XS} (hI : XI g) : ∀ q, XI (lvsG g q)
  | 0 => hI
  | q + 1 => by unfold lvsG; split; · next h => exact (hI.lvs q).hnd h.1 h.2.1
                · exact hI.lvs q
theorem XI.ctr {g : XS} (hI : XI g) (i : Nat) : XI (ctrG g i) := hI.of (ctrG_n i) (ctrG_l i)
theorem XI.prs {g : XS} (hI : XI g) (i : Nat) : XI (prsG g i) := hI.of (prsG_n i) (prsG_l i)
theorem XI.pws {g : XS} (hI : XI g) (i : Nat) : XI (pwsG g i) := hI.of (pwsG_n i) (pwsG_l i)
theorem XI.tk {g : XS} (hI : XI g) : XI (tkG g) := hI.of rfl rfl
theorem XI.hr {g : XS} (hI : XI g) : XI (hrG g) := by
  unfold hrG
  exact XI.lvs (XI.els (XI.tk (XI.pws (XI.prs (XI.ctr hI 8) 8) 8)) 8) 12
theorem XI.hrs {g : XS} (hI : XI g) : ∀ j, XI (hrsG g j)
  | 0 => hI
  | j + 1 => (hI.hrs j).hr
/-- blocks in all logs -/
def tbA (f : Nat → Nat) : Nat → Nat
  | 0 => 0
  | i + 1 => tbA f i + nbk (f i)
def tb (g : XS) : Nat := tbA (g.2.1 4) 8
theorem tbA_cg {f f' : Nat → Nat} : ∀ N, (∀ i, i < N → f' i = f i) → tbA f' N = tbA f N
  | 0, _ => rfl
  | N + 1, h => by unfold tbA; rw [tbA_cg N (fun i hi => h i (by omega)), h N (by omega)]
theorem tbA_up {n : NF} {i v : Nat} : ∀ N, i < N → tbA (up n 4 i v 4) N + nbk (n 4 i) = tbA (n 4) N + nbk v
  | 0, h => absurd h (by omega)
  | N + 1, h => by
    unfold tbA
    by_cases e : i = N
    · subst e
      rw [up_s, tbA_cg (f := n 4) i (fun j hj => up_i (by omega))]
      omega
    · have := tbA_up (n := n) (v := v) N (by omega : i < N)
      rw [up_i (show N ≠ i by omega)]
      omega
theorem tb_log {g : XS} {i : Nat} {a z : Int32} (hi : i < 8) (hz : ¬ z ≤ a) : tb (logG g i a z) = tb g + if g.2.1 4 i % 64 = 0 then 1 else 0 := by
  unfold tb logG
  rw [if_neg hz]
  have := tbA_up (n := g.2.1) (v := g.2.1 4 i + 1) 8 hi
  unfold nbk at this
  show tbA (up g.2.1 4 i (g.2.1 4 i + 1) 4) 8 = _
  split <;> omega
theorem tb_log0 {g : XS} {i : Nat} {a z : Int32} (hz : z ≤ a) : tb (logG g i a z) = tb g := by
  unfold logG
  rw [if_pos hz]
theorem tb_of {g g' : XS} (h : ∀ j, g'.2.1 4 j = g.2.1 4 j) : tb g' = tb g := tbA_cg 8 (fun i _ => h i)
theorem tb_sn {g : XS} {f i v : Nat} (h : f ≠ 4) : tb (sn g f i v) = tb g := tb_of (fun j => up_f (by omega))
theorem tb_logle {g : XS} {i : Nat} {a z : Int32} (hi : i < 8) : tb g ≤ tb (logG g i a z) := by
  by_cases h : z ≤ a
  · rw [tb_log0 h]; exact Nat.le_refl _
  · rw [tb_log hi h]; omega
theorem tb_go {g : XS} {q : Nat} {h : Int32} : tb (goG g q h) = tb (logG (sx g 9 (g.2.1 3 q - 1) (g.1 9 (g.2.1 3 q - 1) - 1)) (g.2.1 3 q - 1) (g.1 32 q) h) := tb_sn (by decide)
theorem tb_gole {g : XS} {q : Nat} {h : Int32} (hI : XI g) (hq : q < g.2.1 1 0) (h0 : ¬ g.2.1 3 q = 0) : tb g ≤ tb (goG g q h) := by
  rw [tb_go]
  refine Nat.le_trans (Nat.le_of_eq (tb_of (fun j => rfl))) (tb_logle (g := sx g 9 (g.2.1 3 q - 1) (g.1 9 (g.2.1 3 q - 1) - 1)) ?_)
  have := hI.2.2.1 q hq
  have := hI.1
  omega
theorem tb_hnd {g : XS} {q : Nat} : tb (hndG g q) = tb (goG g q (g.1 40 0)) := tb_of (fun j => hndA_n (by decide))
theorem tb_hndle {g : XS} {q : Nat} (hI : XI g) (hq : q < g.2.1 1 0) (h0 : ¬ g.2.1 3 q = 0) : tb g ≤ tb (hndG g q) := by
  rw [tb_hnd]
  exact tb_gole hI hq h0
theorem tb_lvs1 {g : XS} (hI : XI g) (q : Nat) : tb (lvsG g q) ≤ tb (lvsG g (q + 1)) := by
  show tb (lvsG g q) ≤ tb (if q < (lvsG g q).2.1 1 0 ∧ ¬ (lvsG g q).2.1 3 q = 0 ∧ onB (lvsG g q) ((lvsG g q).2.1 3 q - 1) = false then hndG (lvsG g q) q else lvsG g q)
  split
  · next h => exact tb_hndle (hI.lvs q) h.1 h.2.1
  · exact Nat.le_refl _
theorem tb_lvs {g : XS} (hI : XI g) (q : Nat) : ∀ z, tb (lvsG g q) ≤ tb (lvsG g (q + z))
  | 0 => Nat.le_refl _
  | z + 1 => Nat.le_trans (tb_lvs hI q z) (tb_lvs1 hI (q + z))
theorem tb_hr {g : XS} : tb (hrG g) = tb (lvsG (elsG (tkG (pwsG (prsG (ctrG g 8) 8) 8)) 8) 12) := by rw [hrG]
theorem tb_hr0 {g : XS} : tb (elsG (tkG (pwsG (prsG (ctrG g 8) 8) 8)) 8) = tb g := tb_of (fun j => by rw [elsG_n (by decide), tkG_n, pwsG_n, prsG_n, ctrG_n])
theorem tb_hrle {g : XS} (hI : XI g) : tb g ≤ tb (hrG g) := by
  rw [tb_hr]
  have h := tb_lvs (XI.els (XI.tk (XI.pws (XI.prs (XI.ctr hI 8) 8) 8)) 8) 0 12
  rw [Nat.zero_add] at h
  refine Nat.le_trans (Nat.le_of_eq tb_hr0.symm) (Nat.le_trans (Nat.le_of_eq ?_) h)
  rw [lvsG]
theorem tb_hrs {g : XS} (hI : XI g) (q : Nat) : ∀ z, tb (hrsG g q) ≤ tb (hrsG g (q + z))
  | 0 => Nat.le_refl _
  | z + 1 => Nat.le_trans (tb_hrs hI q z) (tb_hrle (hI.hrs (q + z)))
end
section
/-! THE CLASS: methods that only read -/
theorem cvA_up {g : XS} {p : Int32} {i : Nat} (hi : i < 8) (h : cvA g p (i + 1) = true) : cvA g p 8 = true := by
  have key : ∀ z, i + 1 + z ≤ 8 → cvA g p (i + 1 + z) = true := by
    intro z
    induction z with
    | zero => intro _; exact h
    | succ z ih => intro hz; show (cvA g p (i + 1 + z) || _) = true; rw [ih (by omega)]; rfl
  have := key (7 - i) (by omega)
  rwa [show i + 1 + (7 - i) = 8 by omega] at this
theorem sd_L_call : Sd yL_call 3 := by decide +kernel
theorem sd_L_end : Sd yL_end 3 := by decide +kernel
theorem sd_L_lease : Sd yL_lease 8 := by decide +kernel
theorem sd_L_mast : Sd yL_mast 8 := by decide +kernel
theorem sd_L_move : Sd yL_move 4 := by decide +kernel
theorem sd_L_ofMast : Sd yL_ofMast 4 := by decide +kernel
theorem sd_L_ofPhone : Sd yL_ofPhone 4 := by decide +kernel
theorem sd_L_paid : Sd yL_paid 3 := by decide +kernel
theorem sd_L_pass : Sd yL_pass 3 := by decide +kernel
theorem sd_L_phone : Sd yL_phone 3 := by decide +kernel
theorem sd_L_strength : Sd yL_strength 3 := by decide +kernel
theorem sd_L_sun : Sd yL_sun 3 := by decide +kernel
theorem sd_L_trafficAnew : Sd yL_trafficAnew 3 := by decide +kernel
theorem sd_X0_init : Sd yX0_init 6 := by decide +kernel
theorem sd_X1_add : Sd yX1_add 2 := by decide +kernel
theorem sd_X1_hours : Sd yX1_hours 0 := by decide +kernel
theorem sd_X1_init : Sd yX1_init 1 := by decide +kernel
theorem sd_X1_isFull : Sd yX1_isFull 0 := by decide +kernel
theorem sd_X2_canTake : Sd yX2_canTake 1 := by decide +kernel
theorem sd_X2_covers : Sd yX2_covers 1 := by decide +kernel
theorem sd_X2_distanceTo : Sd yX2_distanceTo 1 := by decide +kernel
theorem sd_X2_hoursOfLog : Sd yX2_hoursOfLog 0 := by decide +kernel
theorem sd_X2_init : Sd yX2_init 7 := by decide +kernel
theorem sd_X2_isOn : Sd yX2_isOn 0 := by decide +kernel
theorem sd_X2_logStay : Sd yX2_logStay 2 := by decide +kernel
theorem sd_X2_takePower : Sd yX2_takePower 1 := by decide +kernel
theorem sd_X3_carrierNumber : Sd yX3_carrierNumber 0 := by decide +kernel
theorem sd_X3_comeTo : Sd yX3_comeTo 2 := by decide +kernel
theorem sd_X3_goAway : Sd yX3_goAway 1 := by decide +kernel
theorem sd_X3_init : Sd yX3_init 1 := by decide +kernel
theorem sd_X4_call : Sd yX4_call 1 := by decide +kernel
theorem sd_X4_countTraffic : Sd yX4_countTraffic 0 := by decide +kernel
theorem sd_X4_end : Sd yX4_end 1 := by decide +kernel
theorem sd_X4_endLeases : Sd yX4_endLeases 0 := by decide +kernel
theorem sd_X4_handOverOrDrop : Sd yX4_handOverOrDrop 1 := by decide +kernel
theorem sd_X4_holes : Sd yX4_holes 0 := by decide +kernel
theorem sd_X4_init : Sd yX4_init 0 := by decide +kernel
theorem sd_X4_isCovered : Sd yX4_isCovered 1 := by decide +kernel
theorem sd_X4_isFarmer : Sd yX4_isFarmer 1 := by decide +kernel
theorem sd_X4_isPlace : Sd yX4_isPlace 1 := by decide +kernel
theorem sd_X4_isWithin : Sd yX4_isWithin 3 := by decide +kernel
theorem sd_X4_lease : Sd yX4_lease 7 := by decide +kernel
theorem sd_X4_leaveMastsThatAreNotOn : Sd yX4_leaveMastsThatAreNotOn 0 := by decide +kernel
theorem sd_X4_letAnHourGoBy : Sd yX4_letAnHourGoBy 0 := by decide +kernel
theorem sd_X4_mast : Sd yX4_mast 6 := by decide +kernel
theorem sd_X4_mastAt : Sd yX4_mastAt 1 := by decide +kernel
theorem sd_X4_move : Sd yX4_move 2 := by decide +kernel
theorem sd_X4_nearestFree : Sd yX4_nearestFree 1 := by decide +kernel
theorem sd_X4_ofMast : Sd yX4_ofMast 2 := by decide +kernel
theorem sd_X4_ofPhone : Sd yX4_ofPhone 2 := by decide +kernel
theorem sd_X4_paid : Sd yX4_paid 1 := by decide +kernel
theorem sd_X4_pass : Sd yX4_pass 1 := by decide +kernel
theorem sd_X4_pay : Sd yX4_pay 2 := by decide +kernel
theorem sd_X4_payRent : Sd yX4_payRent 2 := by decide +kernel
theorem sd_X4_payRents : Sd yX4_payRents 0 := by decide +kernel
theorem sd_X4_phone : Sd yX4_phone 1 := by decide +kernel
theorem sd_X4_phoneAt : Sd yX4_phoneAt 1 := by decide +kernel
theorem sd_X4_powerMasts : Sd yX4_powerMasts 0 := by decide +kernel
theorem sd_X4_strength : Sd yX4_strength 1 := by decide +kernel
theorem sd_X4_sun : Sd yX4_sun 1 := by decide +kernel
theorem sd_X4_trafficAnew : Sd yX4_trafficAnew 1 := by decide +kernel
theorem sd_X5_apart : Sd yX5_apart 2 := by decide +kernel
theorem sd_X5_call : Sd yX5_call 1 := by decide +kernel
theorem sd_X5_carries : Sd yX5_carries 1 := by decide +kernel
theorem sd_X5_covers : Sd yX5_covers 2 := by decide +kernel
theorem sd_X5_end : Sd yX5_end 1 := by decide +kernel
theorem sd_X5_handOver : Sd yX5_handOver 1 := by decide +kernel
theorem sd_X5_holes : Sd yX5_holes 0 := by decide +kernel
theorem sd_X5_hourGoesBy : Sd yX5_hourGoesBy 0 := by decide +kernel
theorem sd_X5_in : Sd yX5_in 3 := by decide +kernel
theorem sd_X5_init : Sd yX5_init 0 := by decide +kernel
theorem sd_X5_isFarmer : Sd yX5_isFarmer 1 := by decide +kernel
theorem sd_X5_isLeased : Sd yX5_isLeased 1 := by decide +kernel
theorem sd_X5_isMast : Sd yX5_isMast 1 := by decide +kernel
theorem sd_X5_isOn : Sd yX5_isOn 1 := by decide +kernel
theorem sd_X5_isPhone : Sd yX5_isPhone 1 := by decide +kernel
theorem sd_X5_lease : Sd yX5_lease 7 := by decide +kernel
theorem sd_X5_mast : Sd yX5_mast 6 := by decide +kernel
theorem sd_X5_mastFor : Sd yX5_mastFor 1 := by decide +kernel
theorem sd_X5_move : Sd yX5_move 2 := by decide +kernel
theorem sd_X5_ofMast : Sd yX5_ofMast 2 := by decide +kernel
theorem sd_X5_ofPhone : Sd yX5_ofPhone 2 := by decide +kernel
theorem sd_X5_paid : Sd yX5_paid 1 := by decide +kernel
theorem sd_X5_pass : Sd yX5_pass 1 := by decide +kernel
theorem sd_X5_payRent : Sd yX5_payRent 1 := by decide +kernel
theorem sd_X5_phone : Sd yX5_phone 1 := by decide +kernel
theorem sd_X5_power : Sd yX5_power 1 := by decide +kernel
theorem sd_X5_strength : Sd yX5_strength 1 := by decide +kernel
theorem sd_X5_sun : Sd yX5_sun 1 := by decide +kernel
theorem sd_X5_thrown : Sd yX5_thrown 0 := by decide +kernel
theorem sd_X5_trafficAnew : Sd yX5_trafficAnew 1 := by decide +kernel
set_option maxHeartbeats 4000000 in
set_option maxRecDepth 100000 in
theorem mX4_isWithin (l : Launch) {D : va_G} {k : Nat → ClassId} {b : Nat} {B : Heap → Prop} (a0 a1 a2 : Int32) : Met l yX4_isWithin (WS yX4_isWithin cX4_isWithin 3 (some .boolean)) ({ frames := 0, cells := 0, slots := 0, locals := 0 }) (P0 D k b (B) [.int a0, .int a1, .int a2]) (Qr (some (.int (b2 (inB a0 a1 a2))))) 0 0 (fun _ => False) := by
  refine Met0 (by decide +kernel) (Nat.le_of_ble_eq_true rfl) (fun p e s m below meth c ls hx hb hr hts hown hml hlocks hnm hC hH hl => ?_)
  have hS : va_S (Fb b) s.heap s.heap [] := va_S.rf
  have hl : lv_has ls 3 [(0, .int a0), (1, .int a1), (2, .int a2)] := hl
  refine lv_iload_n hx hb dX4_isWithin_0 rfl (lv_at hl 1 rfl) ?_
  refine lv_iload_n hx hb dX4_isWithin_1 rfl (lv_at hl 0 rfl) ?_
  refine lv_icmp_gt (tgt := 14) hx hb dX4_isWithin_2 (by decide) (fun c2 => ?_) (fun c2 => ?_)
  · skip
    have c2x := Int32.not_le.mpr c2
    refine lv_iconst (v := 0) hx hb dX4_isWithin_14 (by decide) ?_
    exact e_z hx hb hr hlocks (by simp [inB, b2, c2, c2x]) rfl dX4_isWithin_15
  · skip
    have c2x := Int32.not_lt.mp c2
    refine lv_iload_n hx hb dX4_isWithin_5 rfl (lv_at hl 0 rfl) ?_
    refine lv_iload_n hx hb dX4_isWithin_6 rfl (lv_at hl 2 rfl) ?_
    refine lv_icmp_gt (tgt := 14) hx hb dX4_isWithin_7 (by decide) (fun c7 => ?_) (fun c7 => ?_)
    · skip
      have c7x := Int32.not_le.mpr c7
      refine lv_iconst (v := 0) hx hb dX4_isWithin_14 (by decide) ?_
      exact e_z hx hb hr hlocks (by simp [inB, b2, c2, c2x, c7, c7x]) rfl dX4_isWithin_15
    · skip
      have c7x := Int32.not_lt.mp c7
      refine lv_iconst (v := 1) hx hb dX4_isWithin_10 (by decide) ?_
      refine lv_goto (tgt := 15) hx hb dX4_isWithin_11 (by decide) ?_
      exact e_z hx hb hr hlocks (by simp [inB, b2, c2, c2x, c7, c7x]) rfl dX4_isWithin_15

set_option maxHeartbeats 4000000 in
set_option maxRecDepth 100000 in
theorem mX4_isPlace (l : Launch) {D : va_G} {k : Nat → ClassId} {b : Nat} {ad : Tg → Nat} {g : XS} {M : MF} {o : OF} (a0 : Int32) : Met l yX4_isPlace (WS yX4_isPlace cX4_isPlace 1 (some .boolean)) ({ frames := 1, cells := 0, slots := 0, locals := 22 }) (P0 D k b (Wo D k b ad g M o) [.int a0]) (Qr (some (.int (b2 (inB a0 0 99))))) 0 0 (fun _ => False) := by
  refine Met0 (by decide +kernel) (Nat.le_of_ble_eq_true rfl) (fun p e s m below meth c ls hx hb hr hts hown hml hlocks hnm hC hH hl => ?_)
  have hS : va_S (Fb b) s.heap s.heap [] := va_S.rf
  have hl : lv_has ls 1 [(0, .int a0)] := hl
  refine lv_iload_n hx hb dX4_isPlace_0 rfl (lv_at hl 0 rfl) ?_
  refine lv_iconst (v := 0) hx hb dX4_isPlace_1 (by decide) ?_
  refine lv_bipush (v := 99) hx hb dX4_isPlace_2 (by decide) ?_
  refine k_r (va_runS (As := [.int a0, .int 0, .int 99]) (rest := []) ⟨hx, hb, hml, hown, hts⟩ (mX4_isWithin l a0 0 99) ⟨cb_of hts wk_X4_isWithin wi_X4 wm_X4_29 sd_X4_isWithin rfl rfl ⟨Nat.le_of_ble_eq_true rfl, Nat.le_of_ble_eq_true rfl⟩, hts _ wz_X4_isWithin⟩ (P0.pre hC hS hH) rfl rfl hl.1 rfl (lv_room (Nat.le_of_ble_eq_true rfl)) dX4_isPlace_4 ⟨Nat.le_of_ble_eq_true rfl, Nat.le_of_ble_eq_true rfl⟩) ?_
  refine W.eq (g2 := F0 m 7 ls [.int (b2 (inB a0 0 99))]) rfl ?_
  exact e_z hx hb hr hlocks rfl b2_z dX4_isPlace_7

set_option maxHeartbeats 4000000 in
set_option maxRecDepth 100000 in
theorem mX4_isFarmer (l : Launch) {D : va_G} {k : Nat → ClassId} {b : Nat} {ad : Tg → Nat} {g : XS} {M : MF} {o : OF} (a0 : Int32) : Met l yX4_isFarmer (WS yX4_isFarmer cX4_isFarmer 1 (some .boolean)) ({ frames := 1, cells := 0, slots := 0, locals := 22 }) (P0 D k b (Wo D k b ad g M o) [.int a0]) (Qr (some (.int (b2 (inB a0 0 5))))) 0 0 (fun _ => False) := by
  refine Met0 (by decide +kernel) (Nat.le_of_ble_eq_true rfl) (fun p e s m below meth c ls hx hb hr hts hown hml hlocks hnm hC hH hl => ?_)
  have hS : va_S (Fb b) s.heap s.heap [] := va_S.rf
  have hl : lv_has ls 1 [(0, .int a0)] := hl
  refine lv_iload_n hx hb dX4_isFarmer_0 rfl (lv_at hl 0 rfl) ?_
  refine lv_iconst (v := 0) hx hb dX4_isFarmer_1 (by decide) ?_
  refine lv_iconst (v := 5) hx hb dX4_isFarmer_2 (by decide) ?_
  refine k_r (va_runS (As := [.int a0, .int 0, .int 5]) (rest := []) ⟨hx, hb, hml, hown, hts⟩ (mX4_isWithin l a0 0 5) ⟨cb_of hts wk_X4_isWithin wi_X4 wm_X4_29 sd_X4_isWithin rfl rfl ⟨Nat.le_of_ble_eq_true rfl, Nat.le_of_ble_eq_true rfl⟩, hts _ wz_X4_isWithin⟩ (P0.pre hC hS hH) rfl rfl hl.1 rfl (lv_room (Nat.le_of_ble_eq_true rfl)) dX4_isFarmer_3 ⟨Nat.le_of_ble_eq_true rfl, Nat.le_of_ble_eq_true rfl⟩) ?_
  refine W.eq (g2 := F0 m 6 ls [.int (b2 (inB a0 0 5))]) rfl ?_
  exact e_z hx hb hr hlocks rfl b2_z dX4_isFarmer_6

set_option maxHeartbeats 4000000 in
set_option maxRecDepth 100000 in
theorem mX2_isOn (l : Launch) {D : va_G} {k : Nat → ClassId} {b : Nat} {ad : Tg → Nat} {g : XS} {M : MF} {o : OF} (i : Nat) (hi : i < g.2.1 0 0) : Met l yX2_isOn (WS yX2_isOn cX2_isOn 1 (some .boolean)) ({ frames := 0, cells := 0, slots := 0, locals := 0 }) (P0 D k b (Wo D k b ad g M o) [.ref (ad (1, i, 0))]) (Qr (some (.int (b2 (onB g i))))) 0 0 (fun _ => False) := by
  refine Met0 (by decide +kernel) (Nat.le_of_ble_eq_true rfl) (fun p e s m below meth c ls hx hb hr hts hown hml hlocks hnm hC hH hl => ?_)
  have hS : va_S (Fb b) s.heap s.heap [] := va_S.rf
  have hl : lv_has ls 1 [(0, .ref (ad (1, i, 0)))] := hl
  refine lv_aload_n hx hb dX2_isOn_0 rfl (lv_at hl 0 rfl) ?_
  refine g2 hx hb hts hown hC hH i hi 7 (by decide) wf_X2_34 (v := va_rf (lsO ad i (g.2.1 2 i))) rfl dX2_isOn_1 ?_
  by_cases c1 : g.2.1 2 i = 0
  · skip
    refine W.eq (g2 := F0 m 4 ls [.null]) (by simp [lsO, va_rf, c1]) ?_
    refine lv_ifnullN (tgt := 18) hx hb dX2_isOn_4 (by decide) ?_
    refine lv_iconst (v := 0) hx hb dX2_isOn_18 (by decide) ?_
    exact e_z hx hb hr hlocks (by simp [onB, b2, c1]) rfl dX2_isOn_19
  · skip
    refine W.eq (g2 := F0 m 4 ls [.ref (ad (3, i, 0))]) (by simp [lsO, va_rf, c1]) ?_
    refine lv_ifnull hx hb dX2_isOn_4 ?_
    refine lv_aload_n hx hb dX2_isOn_7 rfl (lv_at hl 0 rfl) ?_
    refine g2 hx hb hts hown hC hH i hi 8 (by decide) wf_X2_38 (v := .int (g.1 8 i)) rfl dX2_isOn_8 ?_
    refine lv_if_ne (tgt := 18) hx hb dX2_isOn_11 (by decide) (fun c11 => ?_) (fun c11 => ?_)
    · skip
      refine lv_iconst (v := 0) hx hb dX2_isOn_18 (by decide) ?_
      exact e_z hx hb hr hlocks (by simp [onB, b2, c1, c11]) rfl dX2_isOn_19
    · skip
      refine lv_iconst (v := 1) hx hb dX2_isOn_14 (by decide) ?_
      refine lv_goto (tgt := 19) hx hb dX2_isOn_15 (by decide) ?_
      exact e_z hx hb hr hlocks (by simp [onB, b2, c1, c11]) rfl dX2_isOn_19

set_option maxHeartbeats 4000000 in
set_option maxRecDepth 100000 in
theorem mX2_distanceTo (l : Launch) {D : va_G} {k : Nat → ClassId} {b : Nat} {ad : Tg → Nat} {g : XS} {M : MF} {o : OF} (i : Nat) (hi : i < g.2.1 0 0) (a0 : Int32) : Met l yX2_distanceTo (WS yX2_distanceTo cX2_distanceTo 2 (some .int)) ({ frames := 1, cells := 0, slots := 0, locals := 13 }) (P0 D k b (Wo D k b ad g M o) [.ref (ad (1, i, 0)), .int a0]) (Qr (some (.int (dsI g i a0)))) 0 0 (fun _ => False) := by
  refine Met0 (by decide +kernel) (Nat.le_of_ble_eq_true rfl) (fun p e s m below meth c ls hx hb hr hts hown hml hlocks hnm hC hH hl => ?_)
  have hS : va_S (Fb b) s.heap s.heap [] := va_S.rf
  have hl : lv_has ls 2 [(0, .ref (ad (1, i, 0))), (1, .int a0)] := hl
  refine lv_iload_n hx hb dX2_distanceTo_0 rfl (lv_at hl 1 rfl) ?_
  refine lv_aload_n hx hb dX2_distanceTo_1 rfl (lv_at hl 0 rfl) ?_
  refine g2 hx hb hts hown hC hH i hi 1 (by decide) wf_X2_15 (v := .int (g.1 1 i)) rfl dX2_distanceTo_2 ?_
  refine lv_isub hx hb dX2_distanceTo_5 ?_
  refine va_mabs hx hb (by rw [hml]; exact hl.1.symm) hown (hts _ wm_X2_41) (hts _ wz_abs) (hts _ wi_J9) (hts _ wk_abs) (Nat.le_of_ble_eq_true rfl) (Nat.le_of_ble_eq_true rfl) (Nat.zero_le _) (Nat.zero_le _) dX2_distanceTo_6 ?_
  exact e_i hx hb hr hlocks rfl dX2_distanceTo_9

set_option maxHeartbeats 4000000 in
set_option maxRecDepth 100000 in
theorem mX2_covers (l : Launch) {D : va_G} {k : Nat → ClassId} {b : Nat} {ad : Tg → Nat} {g : XS} {M : MF} {o : OF} (i : Nat) (hi : i < g.2.1 0 0) (a0 : Int32) : Met l yX2_covers (WS yX2_covers cX2_covers 2 (some .boolean)) ({ frames := 2, cells := 0, slots := 0, locals := 34 }) (P0 D k b (Wo D k b ad g M o) [.ref (ad (1, i, 0)), .int a0]) (Qr (some (.int (b2 (cvB g i a0))))) 0 0 (fun _ => False) := by
  refine Met0 (by decide +kernel) (Nat.le_of_ble_eq_true rfl) (fun p e s m below meth c ls hx hb hr hts hown hml hlocks hnm hC hH hl => ?_)
  have hS : va_S (Fb b) s.heap s.heap [] := va_S.rf
  have hl : lv_has ls 2 [(0, .ref (ad (1, i, 0))), (1, .int a0)] := hl
  refine lv_aload_n hx hb dX2_covers_0 rfl (lv_at hl 0 rfl) ?_
  refine lv_iload_n hx hb dX2_covers_1 rfl (lv_at hl 1 rfl) ?_
  refine k_r (va_runV (As := [.int a0]) (rest := []) ⟨hx, hb, hml, hown, hts⟩ (mX2_distanceTo l i hi a0) ⟨cb_of hts wk_X2_distanceTo wi_X2 wm_X2_47 sd_X2_distanceTo rfl rfl ⟨Nat.le_of_ble_eq_true rfl, Nat.le_of_ble_eq_true rfl⟩, hts _ wv_X2_distanceTo, hts _ wl_X2_distanceTo⟩ (P0.preV hC hS hH (Hp.recv hC.1 hH (1, i, 0) ⟨hi, rfl⟩ rfl rfl)) rfl rfl hl.1 rfl (lv_room (Nat.le_of_ble_eq_true rfl)) dX2_covers_2 ⟨Nat.le_of_ble_eq_true rfl, Nat.le_of_ble_eq_true rfl⟩) ?_
  refine W.eq (g2 := F0 m 5 ls [.int (dsI g i a0)]) rfl ?_
  refine lv_aload_n hx hb dX2_covers_5 rfl (lv_at hl 0 rfl) ?_
  refine g2 hx hb hts hown hC hH i hi 2 (by decide) wf_X2_18 (v := .int (g.1 2 i)) rfl dX2_covers_6 ?_
  refine lv_icmp_gt (tgt := 16) hx hb dX2_covers_9 (by decide) (fun c9 => ?_) (fun c9 => ?_)
  · skip
    have c9x := Int32.not_le.mpr c9
    refine lv_iconst (v := 0) hx hb dX2_covers_16 (by decide) ?_
    exact e_z hx hb hr hlocks (by simp [cvB, b2, c9, c9x]) rfl dX2_covers_17
  · skip
    have c9x := Int32.not_lt.mp c9
    refine lv_iconst (v := 1) hx hb dX2_covers_12 (by decide) ?_
    refine lv_goto (tgt := 17) hx hb dX2_covers_13 (by decide) ?_
    exact e_z hx hb hr hlocks (by simp [cvB, b2, c9, c9x]) rfl dX2_covers_17

set_option maxHeartbeats 4000000 in
set_option maxRecDepth 100000 in
theorem mX2_canTake (l : Launch) {D : va_G} {k : Nat → ClassId} {b : Nat} {ad : Tg → Nat} {g : XS} {M : MF} {o : OF} (i : Nat) (hi : i < g.2.1 0 0) (a0 : Int32) : Met l yX2_canTake (WS yX2_canTake cX2_canTake 2 (some .boolean)) ({ frames := 3, cells := 0, slots := 0, locals := 55 }) (P0 D k b (Wo D k b ad g M o) [.ref (ad (1, i, 0)), .int a0]) (Qr (some (.int (b2 (ctB g i a0))))) 0 0 (fun _ => False) := by
  refine Met0 (by decide +kernel) (Nat.le_of_ble_eq_true rfl) (fun p e s m below meth c ls hx hb hr hts hown hml hlocks hnm hC hH hl => ?_)
  have hS : va_S (Fb b) s.heap s.heap [] := va_S.rf
  have hl : lv_has ls 2 [(0, .ref (ad (1, i, 0))), (1, .int a0)] := hl
  refine lv_aload_n hx hb dX2_canTake_0 rfl (lv_at hl 0 rfl) ?_
  refine k_r (va_runV (As := []) (rest := []) ⟨hx, hb, hml, hown, hts⟩ (mX2_isOn l i hi) ⟨cb_of hts wk_X2_isOn wi_X2 wm_X2_50 sd_X2_isOn rfl rfl ⟨Nat.le_of_ble_eq_true rfl, Nat.le_of_ble_eq_true rfl⟩, hts _ wv_X2_isOn, hts _ wl_X2_isOn⟩ (P0.preV hC hS hH (Hp.recv hC.1 hH (1, i, 0) ⟨hi, rfl⟩ rfl rfl)) rfl rfl hl.1 rfl (lv_room (Nat.le_of_ble_eq_true rfl)) dX2_canTake_1 ⟨Nat.le_of_ble_eq_true rfl, Nat.le_of_ble_eq_true rfl⟩) ?_
  refine W.eq (g2 := F0 m 4 ls [.int (b2 (onB g i))]) rfl ?_
  refine lv_if_eq (tgt := 30) hx hb dX2_canTake_4 (by decide) (fun c4 => ?_) (fun c4 => ?_)
  · skip
    have c4 := b2_0.mp c4
    refine lv_iconst (v := 0) hx hb dX2_canTake_30 (by decide) ?_
    exact e_z hx hb hr hlocks (by simp [ctB, b2, c4]) rfl dX2_canTake_31
  · skip
    have c4 := b2_n0.mp c4
    refine lv_aload_n hx hb dX2_canTake_7 rfl (lv_at hl 0 rfl) ?_
    refine lv_iload_n hx hb dX2_canTake_8 rfl (lv_at hl 1 rfl) ?_
    refine k_r (va_runV (As := [.int a0]) (rest := []) ⟨hx, hb, hml, hown, hts⟩ (mX2_covers l i hi a0) ⟨cb_of hts wk_X2_covers wi_X2 wm_X2_54 sd_X2_covers rfl rfl ⟨Nat.le_of_ble_eq_true rfl, Nat.le_of_ble_eq_true rfl⟩, hts _ wv_X2_covers, hts _ wl_X2_covers⟩ (P0.preV hC hS hH (Hp.recv hC.1 hH (1, i, 0) ⟨hi, rfl⟩ rfl rfl)) rfl rfl hl.1 rfl (lv_room (Nat.le_of_ble_eq_true rfl)) dX2_canTake_9 ⟨Nat.le_of_ble_eq_true rfl, Nat.le_of_ble_eq_true rfl⟩) ?_
    refine W.eq (g2 := F0 m 12 ls [.int (b2 (cvB g i a0))]) rfl ?_
    refine lv_if_eq (tgt := 30) hx hb dX2_canTake_12 (by decide) (fun c12 => ?_) (fun c12 => ?_)
    · skip
      have c12 := b2_0.mp c12
      refine lv_iconst (v := 0) hx hb dX2_canTake_30 (by decide) ?_
      exact e_z hx hb hr hlocks (by simp [ctB, b2, c4, c12]) rfl dX2_canTake_31
    · skip
      have c12 := b2_n0.mp c12
      refine lv_aload_n hx hb dX2_canTake_15 rfl (lv_at hl 0 rfl) ?_
      refine g2 hx hb hts hown hC hH i hi 9 (by decide) wf_X2_58 (v := .int (g.1 9 i)) rfl dX2_canTake_16 ?_
      refine lv_aload_n hx hb dX2_canTake_19 rfl (lv_at hl 0 rfl) ?_
      refine g2 hx hb hts hown hC hH i hi 3 (by decide) wf_X2_21 (v := .int (g.1 3 i)) rfl dX2_canTake_20 ?_
      refine lv_icmp_ge (tgt := 30) hx hb dX2_canTake_23 (by decide) (fun c23 => ?_) (fun c23 => ?_)
      · skip
        have c23x := Int32.not_lt.mpr c23
        refine lv_iconst (v := 0) hx hb dX2_canTake_30 (by decide) ?_
        exact e_z hx hb hr hlocks (by simp [ctB, b2, c4, c12, c23, c23x]) rfl dX2_canTake_31
      · skip
        have c23x := Int32.not_le.mp c23
        refine lv_iconst (v := 1) hx hb dX2_canTake_26 (by decide) ?_
        refine lv_goto (tgt := 31) hx hb dX2_canTake_27 (by decide) ?_
        exact e_z hx hb hr hlocks (by simp [ctB, b2, c4, c12, c23, c23x]) rfl dX2_canTake_31

set_option maxHeartbeats 4000000 in
set_option maxRecDepth 100000 in
theorem mX3_carrierNumber (l : Launch) {D : va_G} {k : Nat → ClassId} {b : Nat} {ad : Tg → Nat} {g : XS} {M : MF} {o : OF} (q : Nat) (hq : q < g.2.1 1 0) (hI : XI g) : Met l yX3_carrierNumber (WS yX3_carrierNumber cX3_carrierNumber 1 (some .int)) ({ frames := 0, cells := 0, slots := 0, locals := 0 }) (P0 D k b (Wo D k b ad g M o) [.ref (ad (2, q, 0))]) (Qr (some (.int (cnI g q)))) 0 0 (fun _ => False) := by
  refine Met0 (by decide +kernel) (Nat.le_of_ble_eq_true rfl) (fun p e s m below meth c ls hx hb hr hts hown hml hlocks hnm hC hH hl => ?_)
  have hS : va_S (Fb b) s.heap s.heap [] := va_S.rf
  have hl : lv_has ls 1 [(0, .ref (ad (2, q, 0)))] := hl
  refine lv_aload_n hx hb dX3_carrierNumber_0 rfl (lv_at hl 0 rfl) ?_
  refine g3 hx hb hts hown hC hH q hq 1 (by decide) wf_X3_15 (v := va_rf (mrO ad (g.2.1 3 q))) rfl dX3_carrierNumber_1 ?_
  by_cases c1 : g.2.1 3 q = 0
  · skip
    refine W.eq (g2 := F0 m 4 ls [.null]) (by simp [mrO, va_rf, c1]) ?_
    refine lv_ifnonnullN hx hb dX3_carrierNumber_4 ?_
    refine lv_iconst (v := (-1)) hx hb dX3_carrierNumber_7 (by decide) ?_
    refine lv_goto (tgt := 18) hx hb dX3_carrierNumber_8 (by decide) ?_
    exact e_i hx hb hr hlocks (by simp [cnI, c1]) dX3_carrierNumber_18
  · skip
    refine W.eq (g2 := F0 m 4 ls [.ref (ad (1, (g.2.1 3 q) - 1, 0))]) (by simp [mrO, va_rf, c1]) ?_
    refine lv_ifnonnull (tgt := 11) hx hb dX3_carrierNumber_4 (by decide) ?_
    refine lv_aload_n hx hb dX3_carrierNumber_11 rfl (lv_at hl 0 rfl) ?_
    refine g3 hx hb hts hown hC hH q hq 1 (by decide) wf_X3_15 (v := va_rf (mrO ad (g.2.1 3 q))) rfl dX3_carrierNumber_12 ?_
    refine W.eq (g2 := F0 m 15 ls [.ref (ad (1, (g.2.1 3 q) - 1, 0))]) (by simp [mrO, va_rf, c1]) ?_
    refine g2N hx hb hts hown hC hH ((g.2.1 3 q) - 1) (by have := hI.2.2.1 q hq; omega) 0 (by decide) wf_X3_19 (v := .int (g.1 0 ((g.2.1 3 q) - 1))) rfl dX3_carrierNumber_15 ?_
    exact e_i hx hb hr hlocks (by simp [cnI, c1]) dX3_carrierNumber_18

set_option maxHeartbeats 4000000 in
set_option maxRecDepth 100000 in
theorem mX1_isFull (l : Launch) {D : va_G} {k : Nat → ClassId} {b : Nat} {ad : Tg → Nat} {g : XS} {M : MF} {o : OF} (i : Nat) (hi : i < g.2.1 0 0) (j : Nat) (hj : 64 * j < g.2.1 4 i) : Met l yX1_isFull (WS yX1_isFull cX1_isFull 1 (some .boolean)) ({ frames := 0, cells := 0, slots := 0, locals := 0 }) (P0 D k b (Wo D k b ad g M o) [.ref (ad (4, i, j))]) (Qr (some (.int (b2 (decide (nI 64 ≤ nI (min 64 (g.2.1 4 i - 64 * j)))))))) 0 0 (fun _ => False) := by
  refine Met0 (by decide +kernel) (Nat.le_of_ble_eq_true rfl) (fun p e s m below meth c ls hx hb hr hts hown hml hlocks hnm hC hH hl => ?_)
  have hS : va_S (Fb b) s.heap s.heap [] := va_S.rf
  have hl : lv_has ls 1 [(0, .ref (ad (4, i, j)))] := hl
  refine lv_aload_n hx hb dX1_isFull_0 rfl (lv_at hl 0 rfl) ?_
  refine g1 hx hb hts hown hC hH i j hi hj 3 (by decide) wf_X1_22 (v := .int (nI (min 64 (g.2.1 4 i - 64 * j)))) rfl dX1_isFull_1 ?_
  refine lv_bipush (v := 64) hx hb dX1_isFull_4 (by decide) ?_
  refine lv_icmp_lt (tgt := 13) hx hb dX1_isFull_6 (by decide) (fun c6 => ?_) (fun c6 => ?_)
  · skip
    have c6x := Int32.not_le.mpr c6
    refine lv_iconst (v := 0) hx hb dX1_isFull_13 (by decide) ?_
    exact e_z hx hb hr hlocks (by simp [b2, show nI 64 = 64 from rfl, c6, c6x]) rfl dX1_isFull_14
  · skip
    have c6x := Int32.not_lt.mp c6
    refine lv_iconst (v := 1) hx hb dX1_isFull_9 (by decide) ?_
    refine lv_goto (tgt := 14) hx hb dX1_isFull_10 (by decide) ?_
    exact e_z hx hb hr hlocks (by simp [b2, show nI 64 = 64 from rfl, c6, c6x]) rfl dX1_isFull_14

set_option maxHeartbeats 4000000 in
set_option maxRecDepth 100000 in
theorem mX4_mastAt (l : Launch) {D : va_G} {k : Nat → ClassId} {b : Nat} {ad : Tg → Nat} {g : XS} {M : MF} {o : OF} (a0 : Int32) : Met l yX4_mastAt (WS yX4_mastAt cX4_mastAt 2 (some (.object "Mastline$Mast"))) ({ frames := 1, cells := 0, slots := 0, locals := 22 }) (P0 D k b (Wo D k b ad g M o) [.ref (ad (0, 0, 0)), .int a0]) (Qr (some (va_rf (mrO ad (mI g a0))))) 0 0 (fun _ => False) := by
  refine Met0 (by decide +kernel) (Nat.le_of_ble_eq_true rfl) (fun p e s m below meth c ls hx hb hr hts hown hml hlocks hnm hC hH hl => ?_)
  have hS : va_S (Fb b) s.heap s.heap [] := va_S.rf
  have hl : lv_has ls 2 [(0, .ref (ad (0, 0, 0))), (1, .int a0)] := hl
  refine lv_iload_n hx hb dX4_mastAt_0 rfl (lv_at hl 1 rfl) ?_
  refine lv_iconst (v := 0) hx hb dX4_mastAt_1 (by decide) ?_
  refine lv_aload_n hx hb dX4_mastAt_2 rfl (lv_at hl 0 rfl) ?_
  refine g4 hx hb hts hown hC hH 0 (by decide) wf_X4_11 (v := .ref (ad (0, 1, 0))) rfl dX4_mastAt_3 ?_
  refine mLen hx hb hC hH dX4_mastAt_6 ?_
  refine lv_iconst (v := 1) hx hb dX4_mastAt_7 (by decide) ?_
  refine lv_isub hx hb dX4_mastAt_8 ?_
  refine k_r (va_runS (As := [.int a0, .int 0, .int ((nI 8) - 1)]) (rest := []) ⟨hx, hb, hml, hown, hts⟩ (mX4_isWithin l a0 0 ((nI 8) - 1)) ⟨cb_of hts wk_X4_isWithin wi_X4 wm_X4_29 sd_X4_isWithin rfl rfl ⟨Nat.le_of_ble_eq_true rfl, Nat.le_of_ble_eq_true rfl⟩, hts _ wz_X4_isWithin⟩ (P0.pre hC hS hH) rfl rfl hl.1 rfl (lv_room (Nat.le_of_ble_eq_true rfl)) dX4_mastAt_9 ⟨Nat.le_of_ble_eq_true rfl, Nat.le_of_ble_eq_true rfl⟩) ?_
  refine W.eq (g2 := F0 m 12 ls [.int (b2 (inB a0 0 ((nI 8) - 1)))]) rfl ?_
  refine lv_if_eq (tgt := 24) hx hb dX4_mastAt_12 (by decide) (fun c12 => ?_) (fun c12 => ?_)
  · skip
    have c12 := b2_0.mp c12
    refine lv_null hx hb dX4_mastAt_24 ?_
    exact e_a hx hb hr hlocks (by rw [mI_0 (show inB a0 0 7 = false from c12)]; rfl) (Or.inl rfl) dX4_mastAt_25
  · skip
    have c12 := b2_n0.mp c12
    have h7 : inB a0 0 7 = true := c12
    obtain ⟨j, hj, rfl⟩ := inB_nI (n := 7) rfl (by decide) h7
    refine lv_aload_n hx hb dX4_mastAt_15 rfl (lv_at hl 0 rfl) ?_
    refine g4 hx hb hts hown hC hH 0 (by decide) wf_X4_11 (v := .ref (ad (0, 1, 0))) rfl dX4_mastAt_16 ?_
    refine lv_iload_n hx hb dX4_mastAt_19 rfl (lv_at hl 1 rfl) ?_
    refine mLd hx hb hC hH (i := j) (by omega) dX4_mastAt_20 ?_
    by_cases c20 : j < g.2.1 0 0
    · skip
      refine W.eq (g2 := F0 m 21 ls [.ref (ad (1, j, 0))]) (by simp [maO, c20, va_rf]) ?_
      refine lv_goto (tgt := 25) hx hb dX4_mastAt_21 (by decide) ?_
      exact e_a hx hb hr hlocks (by rw [mI_1 c20 (by omega)]; rfl) (Or.inr ⟨_, rfl⟩) dX4_mastAt_25
    · skip
      refine W.eq (g2 := F0 m 21 ls [.null]) (by simp [maO, c20, va_rf]) ?_
      refine lv_goto (tgt := 25) hx hb dX4_mastAt_21 (by decide) ?_
      exact e_a hx hb hr hlocks (by rw [mI_2 c20 (by omega)]; rfl) (Or.inl rfl) dX4_mastAt_25

set_option maxHeartbeats 4000000 in
set_option maxRecDepth 100000 in
theorem mX4_phoneAt (l : Launch) {D : va_G} {k : Nat → ClassId} {b : Nat} {ad : Tg → Nat} {g : XS} {M : MF} {o : OF} (a0 : Int32) : Met l yX4_phoneAt (WS yX4_phoneAt cX4_phoneAt 2 (some (.object "Mastline$Phone"))) ({ frames := 1, cells := 0, slots := 0, locals := 22 }) (P0 D k b (Wo D k b ad g M o) [.ref (ad (0, 0, 0)), .int a0]) (Qr (some (va_rf (prO ad (pI g a0))))) 0 0 (fun _ => False) := by
  refine Met0 (by decide +kernel) (Nat.le_of_ble_eq_true rfl) (fun p e s m below meth c ls hx hb hr hts hown hml hlocks hnm hC hH hl => ?_)
  have hS : va_S (Fb b) s.heap s.heap [] := va_S.rf
  have hl : lv_has ls 2 [(0, .ref (ad (0, 0, 0))), (1, .int a0)] := hl
  refine lv_iload_n hx hb dX4_phoneAt_0 rfl (lv_at hl 1 rfl) ?_
  refine lv_iconst (v := 0) hx hb dX4_phoneAt_1 (by decide) ?_
  refine lv_aload_n hx hb dX4_phoneAt_2 rfl (lv_at hl 0 rfl) ?_
  refine g4 hx hb hts hown hC hH 1 (by decide) wf_X4_17 (v := .ref (ad (0, 2, 0))) rfl dX4_phoneAt_3 ?_
  refine pLen hx hb hC hH dX4_phoneAt_6 ?_
  refine lv_iconst (v := 1) hx hb dX4_phoneAt_7 (by decide) ?_
  refine lv_isub hx hb dX4_phoneAt_8 ?_
  refine k_r (va_runS (As := [.int a0, .int 0, .int ((nI 12) - 1)]) (rest := []) ⟨hx, hb, hml, hown, hts⟩ (mX4_isWithin l a0 0 ((nI 12) - 1)) ⟨cb_of hts wk_X4_isWithin wi_X4 wm_X4_29 sd_X4_isWithin rfl rfl ⟨Nat.le_of_ble_eq_true rfl, Nat.le_of_ble_eq_true rfl⟩, hts _ wz_X4_isWithin⟩ (P0.pre hC hS hH) rfl rfl hl.1 rfl (lv_room (Nat.le_of_ble_eq_true rfl)) dX4_phoneAt_9 ⟨Nat.le_of_ble_eq_true rfl, Nat.le_of_ble_eq_true rfl⟩) ?_
  refine W.eq (g2 := F0 m 12 ls [.int (b2 (inB a0 0 ((nI 12) - 1)))]) rfl ?_
  refine lv_if_eq (tgt := 24) hx hb dX4_phoneAt_12 (by decide) (fun c12 => ?_) (fun c12 => ?_)
  · skip
    have c12 := b2_0.mp c12
    refine lv_null hx hb dX4_phoneAt_24 ?_
    exact e_a hx hb hr hlocks (by rw [pI_0 (show inB a0 0 11 = false from c12)]; rfl) (Or.inl rfl) dX4_phoneAt_25
  · skip
    have c12 := b2_n0.mp c12
    have h7 : inB a0 0 11 = true := c12
    obtain ⟨j, hj, rfl⟩ := inB_nI (n := 11) rfl (by decide) h7
    refine lv_aload_n hx hb dX4_phoneAt_15 rfl (lv_at hl 0 rfl) ?_
    refine g4 hx hb hts hown hC hH 1 (by decide) wf_X4_17 (v := .ref (ad (0, 2, 0))) rfl dX4_phoneAt_16 ?_
    refine lv_iload_n hx hb dX4_phoneAt_19 rfl (lv_at hl 1 rfl) ?_
    refine pLd hx hb hC hH (i := j) (by omega) dX4_phoneAt_20 ?_
    by_cases c20 : j < g.2.1 1 0
    · skip
      refine W.eq (g2 := F0 m 21 ls [.ref (ad (2, j, 0))]) (by simp [phO, c20, va_rf]) ?_
      refine lv_goto (tgt := 25) hx hb dX4_phoneAt_21 (by decide) ?_
      exact e_a hx hb hr hlocks (by rw [pI_1 c20 (by omega)]; rfl) (Or.inr ⟨_, rfl⟩) dX4_phoneAt_25
    · skip
      refine W.eq (g2 := F0 m 21 ls [.null]) (by simp [phO, c20, va_rf]) ?_
      refine lv_goto (tgt := 25) hx hb dX4_phoneAt_21 (by decide) ?_
      exact e_a hx hb hr hlocks (by rw [pI_2 c20 (by omega)]; rfl) (Or.inl rfl) dX4_phoneAt_25

set_option maxHeartbeats 4000000 in
set_option maxRecDepth 100000 in
theorem mX4_nearestFree (l : Launch) {D : va_G} {k : Nat → ClassId} {b : Nat} {ad : Tg → Nat} {g : XS} {M : MF} {o : OF} (a0 : Int32) : Met l yX4_nearestFree (WS yX4_nearestFree cX4_nearestFree 7 (some (.object "Mastline$Mast"))) ({ frames := 4, cells := 0, slots := 0, locals := 76 }) (P0 D k b (Wo D k b ad g M o) [.ref (ad (0, 0, 0)), .int a0]) (Qr (some (va_rf (mrO ad (nf g a0 8))))) 0 0 (fun _ => False) := by
  refine Met0 (by decide +kernel) (Nat.le_of_ble_eq_true rfl) (fun p e s m below meth c ls hx hb hr hts hown hml hlocks hnm hC hH hl => ?_)
  have hS : va_S (Fb b) s.heap s.heap [] := va_S.rf
  have hl : lv_has ls 7 [(0, .ref (ad (0, 0, 0))), (1, .int a0)] := hl
  refine lv_null hx hb dX4_nearestFree_0 ?_
  refine lv_astore_nN (lv' := [(2, .null), (0, .ref (ad (0, 0, 0))), (1, .int a0)]) hx hb dX4_nearestFree_1 rfl hl (by decide) rfl (fun ls hl => ?_)
  refine lv_aload_n hx hb dX4_nearestFree_2 rfl (lv_at hl 1 rfl) ?_
  refine g4 hx hb hts hown hC hH 0 (by decide) wf_X4_11 (v := .ref (ad (0, 1, 0))) rfl dX4_nearestFree_3 ?_
  refine lv_astore_n (lv' := [(3, .ref (ad (0, 1, 0))), (2, .null), (0, .ref (ad (0, 0, 0))), (1, .int a0)]) hx hb dX4_nearestFree_6 rfl hl (by decide) rfl (fun ls hl => ?_)
  refine lv_aload_n hx hb dX4_nearestFree_7 rfl (lv_at hl 0 rfl) ?_
  refine mLen hx hb hC hH dX4_nearestFree_8 ?_
  refine lv_istore (lv' := [(4, .int (nI 8)), (3, .ref (ad (0, 1, 0))), (2, .null), (0, .ref (ad (0, 0, 0))), (1, .int a0)]) hx hb dX4_nearestFree_9 hl (by decide) rfl (fun ls hl => ?_)
  refine lv_iconst (v := nI 0) hx hb dX4_nearestFree_11 (by decide) ?_
  refine lv_istore (lv' := [(5, .int (nI 0)), (4, .int (nI 8)), (3, .ref (ad (0, 1, 0))), (2, .null), (0, .ref (ad (0, 0, 0))), (1, .int a0)]) hx hb dX4_nearestFree_12 hl (by decide) rfl (fun ls hl => ?_)
  refine loop_r 8 (fun i ls => lv_has ls 7 [(0, .ref (ad (0, 0, 0))), (1, .int a0), (2, va_rf (mrO ad (nf g a0 i))), (3, .ref (ad (0, 1, 0))), (4, .int (nI 8)), (5, .int (nI i))]) (fun i hi ls hJ0 ih => ?_) (fun ls hJ0 => ?_) (lv_sub hl [4, 5, 3, 2, 1, 0] rfl)
  · skip
    have hl := hJ0
    refine lv_iload hx hb dX4_nearestFree_14 (lv_at hl 5 rfl) ?_
    refine lv_iload hx hb dX4_nearestFree_16 (lv_at hl 4 rfl) ?_
    refine lv_icmp_ge (tgt := 68) hx hb dX4_nearestFree_18 (by decide) (fun c18 => absurd c18 (nI_ge hi (by decide))) (fun c18 => ?_)
    refine lv_aload_n hx hb dX4_nearestFree_21 rfl (lv_at hl 3 rfl) ?_
    refine lv_iload hx hb dX4_nearestFree_22 (lv_at hl 5 rfl) ?_
    refine mLd hx hb hC hH (i := i) hi dX4_nearestFree_24 ?_
    by_cases c24 : i < g.2.1 0 0
    · skip
      refine W.eq (g2 := F0 m 25 ls [.ref (ad (1, i, 0))]) (by simp [maO, c24, va_rf]) ?_
      refine lv_astore (lv' := [(6, .ref (ad (1, i, 0))), (0, .ref (ad (0, 0, 0))), (1, .int a0), (2, va_rf (mrO ad (nf g a0 i))), (3, .ref (ad (0, 1, 0))), (4, .int (nI 8)), (5, .int (nI i))]) hx hb dX4_nearestFree_25 hl (by decide) rfl (fun ls hl => ?_)
      refine lv_aload hx hb dX4_nearestFree_27 (lv_at hl 0 rfl) ?_
      refine lv_ifnull hx hb dX4_nearestFree_29 ?_
      refine lv_aload hx hb dX4_nearestFree_32 (lv_at hl 0 rfl) ?_
      refine lv_iload_n hx hb dX4_nearestFree_34 rfl (lv_at hl 2 rfl) ?_
      refine k_r (va_runVN (As := [.int a0]) (rest := []) ⟨hx, hb, hml, hown, hts⟩ (mX2_canTake l i c24 a0) ⟨cn_of hts wk_X2_canTake wi_X2 wm_X4_153 sd_X2_canTake rfl rfl ⟨Nat.le_of_ble_eq_true rfl, Nat.le_of_ble_eq_true rfl⟩, hts _ wv_X2_canTake, hts _ wl_X2_canTake⟩ (P0.preV hC hS hH (Hp.recv hC.1 hH (1, i, 0) ⟨c24, rfl⟩ rfl rfl)) rfl rfl hl.1 rfl (lv_room (Nat.le_of_ble_eq_true rfl)) dX4_nearestFree_35 ⟨Nat.le_of_ble_eq_true rfl, Nat.le_of_ble_eq_true rfl⟩) ?_
      refine W.eq (g2 := F0 m 38 ls [.int (b2 (ctB g i a0))]) rfl ?_
      refine lv_if_eq (tgt := 62) hx hb dX4_nearestFree_38 (by decide) (fun c38 => ?_) (fun c38 => ?_)
      · skip
        have c38 := b2_0.mp c38
        refine lv_iinc (v := nI (i + 1)) (lv' := [(5, .int (nI (i + 1))), (6, .ref (ad (1, i, 0))), (0, .ref (ad (0, 0, 0))), (1, .int a0), (2, va_rf (mrO ad (nf g a0 i))), (3, .ref (ad (0, 1, 0))), (4, .int (nI 8))]) hx hb dX4_nearestFree_62 hl (k := 6) rfl (by rw [← nI_add]; rfl) (by decide) rfl (fun ls hl => ?_)
        refine lv_goto (tgt := 14) hx hb dX4_nearestFree_65 (by decide) ?_
        have h9 : nf g a0 (i + 1) = nf g a0 i := by simp [nf, c24, c38]
        refine ih ls ?_
        rw [h9]
        exact lv_sub hl [2, 3, 4, 5, 6, 0] rfl
      · skip
        have c38 := b2_n0.mp c38
        refine lv_aload_nO hx hb dX4_nearestFree_41 rfl (lv_at hl 3 rfl) ?_
        refine lv_ifnullO (tgt := 59) hx hb dX4_nearestFree_42 (by decide) (fun c42 => ?_) (fun c42a c42 => ?_)
        · skip
          have c42 := mrO_0.mp c42
          have hl : lv_has ls 7 [(6, .ref (ad (1, i, 0))), (0, .ref (ad (0, 0, 0))), (1, .int a0), (2, .null), (3, .ref (ad (0, 1, 0))), (4, .int (nI 8)), (5, .int (nI i))] := by simpa [mrO, va_rf, c42] using hl
          refine lv_aload hx hb dX4_nearestFree_59 (lv_at hl 0 rfl) ?_
          refine lv_astore_n (lv' := [(2, .ref (ad (1, i, 0))), (6, .ref (ad (1, i, 0))), (0, .ref (ad (0, 0, 0))), (1, .int a0), (3, .ref (ad (0, 1, 0))), (4, .int (nI 8)), (5, .int (nI i))]) hx hb dX4_nearestFree_61 rfl hl (by decide) rfl (fun ls hl => ?_)
          refine lv_iinc (v := nI (i + 1)) (lv' := [(5, .int (nI (i + 1))), (2, .ref (ad (1, i, 0))), (6, .ref (ad (1, i, 0))), (0, .ref (ad (0, 0, 0))), (1, .int a0), (3, .ref (ad (0, 1, 0))), (4, .int (nI 8))]) hx hb dX4_nearestFree_62 hl (k := 6) rfl (by rw [← nI_add]; rfl) (by decide) rfl (fun ls hl => ?_)
          refine lv_goto (tgt := 14) hx hb dX4_nearestFree_65 (by decide) ?_
          have h9 : nf g a0 (i + 1) = i + 1 := by simp [nf, c24, c38, c42]
          refine ih ls ?_
          rw [h9, mrO_s]
          exact lv_sub hl [3, 4, 1, 5, 6, 0] rfl
        · skip
          have c42 := mt mrO_0.mpr (by rw [c42]; exact Option.some_ne_none _)
          have hl : lv_has ls 7 [(6, .ref (ad (1, i, 0))), (0, .ref (ad (0, 0, 0))), (1, .int a0), (2, .ref (ad (1, nf g a0 i - 1, 0))), (3, .ref (ad (0, 1, 0))), (4, .int (nI 8)), (5, .int (nI i))] := by simpa [mrO, va_rf, c42] using hl
          refine lv_aload hx hb dX4_nearestFree_45 (lv_at hl 0 rfl) ?_
          refine lv_iload_n hx hb dX4_nearestFree_47 rfl (lv_at hl 2 rfl) ?_
          refine k_r (va_runVN (As := [.int a0]) (rest := []) ⟨hx, hb, hml, hown, hts⟩ (mX2_distanceTo l i c24 a0) ⟨cn_of hts wk_X2_distanceTo wi_X2 wm_X4_146 sd_X2_distanceTo rfl rfl ⟨Nat.le_of_ble_eq_true rfl, Nat.le_of_ble_eq_true rfl⟩, hts _ wv_X2_distanceTo, hts _ wl_X2_distanceTo⟩ (P0.preV hC hS hH (Hp.recv hC.1 hH (1, i, 0) ⟨c24, rfl⟩ rfl rfl)) rfl rfl hl.1 rfl (lv_room (Nat.le_of_ble_eq_true rfl)) dX4_nearestFree_48 ⟨Nat.le_of_ble_eq_true rfl, Nat.le_of_ble_eq_true rfl⟩) ?_
          refine W.eq (g2 := F0 m 51 ls [.int (dsI g i a0)]) rfl ?_
          refine lv_aload_n hx hb dX4_nearestFree_51 rfl (lv_at hl 3 rfl) ?_
          refine lv_iload_n hx hb dX4_nearestFree_52 rfl (lv_at hl 2 rfl) ?_
          refine k_r (va_runVN (As := [.int a0]) (rest := [.int (dsI g i a0)]) ⟨hx, hb, hml, hown, hts⟩ (mX2_distanceTo l (nf g a0 i - 1) (by have := (nf_le g a0 i).2 c42; omega) a0) ⟨cn_of hts wk_X2_distanceTo wi_X2 wm_X4_146 sd_X2_distanceTo rfl rfl ⟨Nat.le_of_ble_eq_true rfl, Nat.le_of_ble_eq_true rfl⟩, hts _ wv_X2_distanceTo, hts _ wl_X2_distanceTo⟩ (P0.preV hC hS hH (Hp.recv hC.1 hH (1, nf g a0 i - 1, 0) ⟨(by have := (nf_le g a0 i).2 c42; omega), rfl⟩ rfl rfl)) rfl rfl hl.1 rfl (lv_room (Nat.le_of_ble_eq_true rfl)) dX4_nearestFree_53 ⟨Nat.le_of_ble_eq_true rfl, Nat.le_of_ble_eq_true rfl⟩) ?_
          refine W.eq (g2 := F0 m 56 ls [.int (dsI g (nf g a0 i - 1) a0), .int (dsI g i a0)]) rfl ?_
          refine lv_icmp_ge (tgt := 62) hx hb dX4_nearestFree_56 (by decide) (fun c56 => ?_) (fun c56 => ?_)
          · skip
            have c56x := Int32.not_lt.mpr c56
            refine lv_iinc (v := nI (i + 1)) (lv' := [(5, .int (nI (i + 1))), (6, .ref (ad (1, i, 0))), (0, .ref (ad (0, 0, 0))), (1, .int a0), (2, .ref (ad (1, nf g a0 i - 1, 0))), (3, .ref (ad (0, 1, 0))), (4, .int (nI 8))]) hx hb dX4_nearestFree_62 hl (k := 6) rfl (by rw [← nI_add]; rfl) (by decide) rfl (fun ls hl => ?_)
            refine lv_goto (tgt := 14) hx hb dX4_nearestFree_65 (by decide) ?_
            have h9 : nf g a0 (i + 1) = nf g a0 i := by simp [nf, c24, c38, c42, c56, c56x]
            refine ih ls ?_
            rw [h9, mrO_1 c42]
            exact lv_sub hl [2, 3, 4, 5, 6, 0] rfl
          · skip
            have c56x := Int32.not_le.mp c56
            refine lv_aload hx hb dX4_nearestFree_59 (lv_at hl 0 rfl) ?_
            refine lv_astore_n (lv' := [(2, .ref (ad (1, i, 0))), (6, .ref (ad (1, i, 0))), (0, .ref (ad (0, 0, 0))), (1, .int a0), (3, .ref (ad (0, 1, 0))), (4, .int (nI 8)), (5, .int (nI i))]) hx hb dX4_nearestFree_61 rfl hl (by decide) rfl (fun ls hl => ?_)
            refine lv_iinc (v := nI (i + 1)) (lv' := [(5, .int (nI (i + 1))), (2, .ref (ad (1, i, 0))), (6, .ref (ad (1, i, 0))), (0, .ref (ad (0, 0, 0))), (1, .int a0), (3, .ref (ad (0, 1, 0))), (4, .int (nI 8))]) hx hb dX4_nearestFree_62 hl (k := 6) rfl (by rw [← nI_add]; rfl) (by decide) rfl (fun ls hl => ?_)
            refine lv_goto (tgt := 14) hx hb dX4_nearestFree_65 (by decide) ?_
            have h9 : nf g a0 (i + 1) = i + 1 := by simp [nf, c24, c38, c42, c56, c56x]
            refine ih ls ?_
            rw [h9, mrO_s]
            exact lv_sub hl [3, 4, 1, 5, 6, 0] rfl
    · skip
      refine W.eq (g2 := F0 m 25 ls [.null]) (by simp [maO, c24, va_rf]) ?_
      refine lv_astoreN (lv' := [(6, .null), (0, .ref (ad (0, 0, 0))), (1, .int a0), (2, va_rf (mrO ad (nf g a0 i))), (3, .ref (ad (0, 1, 0))), (4, .int (nI 8)), (5, .int (nI i))]) hx hb dX4_nearestFree_25 hl (by decide) rfl (fun ls hl => ?_)
      refine lv_aloadN hx hb dX4_nearestFree_27 (lv_at hl 0 rfl) ?_
      refine lv_ifnullN (tgt := 62) hx hb dX4_nearestFree_29 (by decide) ?_
      refine lv_iinc (v := nI (i + 1)) (lv' := [(5, .int (nI (i + 1))), (6, .null), (0, .ref (ad (0, 0, 0))), (1, .int a0), (2, va_rf (mrO ad (nf g a0 i))), (3, .ref (ad (0, 1, 0))), (4, .int (nI 8))]) hx hb dX4_nearestFree_62 hl (k := 6) rfl (by rw [← nI_add]; rfl) (by decide) rfl (fun ls hl => ?_)
      refine lv_goto (tgt := 14) hx hb dX4_nearestFree_65 (by decide) ?_
      have h9 : nf g a0 (i + 1) = nf g a0 i := by simp [nf, c24]
      refine ih ls ?_
      rw [h9]
      exact lv_sub hl [2, 3, 4, 5, 6, 0] rfl
  · skip
    have hl := hJ0
    refine lv_iload hx hb dX4_nearestFree_14 (lv_at hl 5 rfl) ?_
    refine lv_iload hx hb dX4_nearestFree_16 (lv_at hl 4 rfl) ?_
    refine lv_icmp_ge (tgt := 68) hx hb dX4_nearestFree_18 (by decide) (fun c18 => ?_) (fun c18 => absurd (nI_le (Nat.le_refl _) (by decide)) c18)
    refine lv_aload_nO hx hb dX4_nearestFree_68 rfl (lv_at hl 2 rfl) ?_
    exact e_a hx hb hr hlocks rfl (va_rf_or _) dX4_nearestFree_69

set_option maxHeartbeats 4000000 in
set_option maxRecDepth 100000 in
theorem mX4_isCovered (l : Launch) {D : va_G} {k : Nat → ClassId} {b : Nat} {ad : Tg → Nat} {g : XS} {M : MF} {o : OF} (a0 : Int32) : Met l yX4_isCovered (WS yX4_isCovered cX4_isCovered 6 (some .boolean)) ({ frames := 3, cells := 0, slots := 0, locals := 55 }) (P0 D k b (Wo D k b ad g M o) [.ref (ad (0, 0, 0)), .int a0]) (Qr (some (.int (b2 (cvA g a0 8))))) 0 0 (fun _ => False) := by
  refine Met0 (by decide +kernel) (Nat.le_of_ble_eq_true rfl) (fun p e s m below meth c ls hx hb hr hts hown hml hlocks hnm hC hH hl => ?_)
  have hS : va_S (Fb b) s.heap s.heap [] := va_S.rf
  have hl : lv_has ls 6 [(0, .ref (ad (0, 0, 0))), (1, .int a0)] := hl
  refine lv_aload_n hx hb dX4_isCovered_0 rfl (lv_at hl 0 rfl) ?_
  refine g4 hx hb hts hown hC hH 0 (by decide) wf_X4_11 (v := .ref (ad (0, 1, 0))) rfl dX4_isCovered_1 ?_
  refine lv_astore_n (lv' := [(2, .ref (ad (0, 1, 0))), (0, .ref (ad (0, 0, 0))), (1, .int a0)]) hx hb dX4_isCovered_4 rfl hl (by decide) rfl (fun ls hl => ?_)
  refine lv_aload_n hx hb dX4_isCovered_5 rfl (lv_at hl 0 rfl) ?_
  refine mLen hx hb hC hH dX4_isCovered_6 ?_
  refine lv_istore_n (lv' := [(3, .int (nI 8)), (2, .ref (ad (0, 1, 0))), (0, .ref (ad (0, 0, 0))), (1, .int a0)]) hx hb dX4_isCovered_7 rfl hl (by decide) rfl (fun ls hl => ?_)
  refine lv_iconst (v := nI 0) hx hb dX4_isCovered_8 (by decide) ?_
  refine lv_istore (lv' := [(4, .int (nI 0)), (3, .int (nI 8)), (2, .ref (ad (0, 1, 0))), (0, .ref (ad (0, 0, 0))), (1, .int a0)]) hx hb dX4_isCovered_9 hl (by decide) rfl (fun ls hl => ?_)
  refine loop_r 8 (fun i ls => lv_has ls 6 [(0, .ref (ad (0, 0, 0))), (1, .int a0), (2, .ref (ad (0, 1, 0))), (3, .int (nI 8)), (4, .int (nI i))] ∧ cvA g a0 i = false) (fun i hi ls hJ0 ih => ?_) (fun ls hJ0 => ?_) ⟨lv_sub hl [3, 4, 2, 1, 0] rfl, rfl⟩
  · skip
    obtain ⟨hl, hJ⟩ := hJ0
    refine lv_iload hx hb dX4_isCovered_11 (lv_at hl 4 rfl) ?_
    refine lv_iload_n hx hb dX4_isCovered_13 rfl (lv_at hl 3 rfl) ?_
    refine lv_icmp_ge (tgt := 53) hx hb dX4_isCovered_14 (by decide) (fun c14 => absurd c14 (nI_ge hi (by decide))) (fun c14 => ?_)
    refine lv_aload_n hx hb dX4_isCovered_17 rfl (lv_at hl 2 rfl) ?_
    refine lv_iload hx hb dX4_isCovered_18 (lv_at hl 4 rfl) ?_
    refine mLd hx hb hC hH (i := i) hi dX4_isCovered_20 ?_
    by_cases c20 : i < g.2.1 0 0
    · skip
      refine W.eq (g2 := F0 m 21 ls [.ref (ad (1, i, 0))]) (by simp [maO, c20, va_rf]) ?_
      refine lv_astore (lv' := [(5, .ref (ad (1, i, 0))), (0, .ref (ad (0, 0, 0))), (1, .int a0), (2, .ref (ad (0, 1, 0))), (3, .int (nI 8)), (4, .int (nI i))]) hx hb dX4_isCovered_21 hl (by decide) rfl (fun ls hl => ?_)
      refine lv_aload hx hb dX4_isCovered_23 (lv_at hl 0 rfl) ?_
      refine lv_ifnull hx hb dX4_isCovered_25 ?_
      refine lv_aload hx hb dX4_isCovered_28 (lv_at hl 0 rfl) ?_
      refine k_r (va_runVN (As := []) (rest := []) ⟨hx, hb, hml, hown, hts⟩ (mX2_isOn l i c20) ⟨cn_of hts wk_X2_isOn wi_X2 wm_X4_112 sd_X2_isOn rfl rfl ⟨Nat.le_of_ble_eq_true rfl, Nat.le_of_ble_eq_true rfl⟩, hts _ wv_X2_isOn, hts _ wl_X2_isOn⟩ (P0.preV hC hS hH (Hp.recv hC.1 hH (1, i, 0) ⟨c20, rfl⟩ rfl rfl)) rfl rfl hl.1 rfl (lv_room (Nat.le_of_ble_eq_true rfl)) dX4_isCovered_30 ⟨Nat.le_of_ble_eq_true rfl, Nat.le_of_ble_eq_true rfl⟩) ?_
      refine W.eq (g2 := F0 m 33 ls [.int (b2 (onB g i))]) rfl ?_
      refine lv_if_eq (tgt := 47) hx hb dX4_isCovered_33 (by decide) (fun c33 => ?_) (fun c33 => ?_)
      · skip
        have c33 := b2_0.mp c33
        refine lv_iinc (v := nI (i + 1)) (lv' := [(4, .int (nI (i + 1))), (5, .ref (ad (1, i, 0))), (0, .ref (ad (0, 0, 0))), (1, .int a0), (2, .ref (ad (0, 1, 0))), (3, .int (nI 8))]) hx hb dX4_isCovered_47 hl (k := 5) rfl (by rw [← nI_add]; rfl) (by decide) rfl (fun ls hl => ?_)
        refine lv_goto (tgt := 11) hx hb dX4_isCovered_50 (by decide) ?_
        exact ih ls ⟨lv_sub hl [2, 3, 4, 5, 0] rfl, by simp [cvA, hJ, c20, c33]⟩
      · skip
        have c33 := b2_n0.mp c33
        refine lv_aload hx hb dX4_isCovered_36 (lv_at hl 0 rfl) ?_
        refine lv_iload_n hx hb dX4_isCovered_38 rfl (lv_at hl 2 rfl) ?_
        refine k_r (va_runVN (As := [.int a0]) (rest := []) ⟨hx, hb, hml, hown, hts⟩ (mX2_covers l i c20 a0) ⟨cn_of hts wk_X2_covers wi_X2 wm_X4_102 sd_X2_covers rfl rfl ⟨Nat.le_of_ble_eq_true rfl, Nat.le_of_ble_eq_true rfl⟩, hts _ wv_X2_covers, hts _ wl_X2_covers⟩ (P0.preV hC hS hH (Hp.recv hC.1 hH (1, i, 0) ⟨c20, rfl⟩ rfl rfl)) rfl rfl hl.1 rfl (lv_room (Nat.le_of_ble_eq_true rfl)) dX4_isCovered_39 ⟨Nat.le_of_ble_eq_true rfl, Nat.le_of_ble_eq_true rfl⟩) ?_
        refine W.eq (g2 := F0 m 42 ls [.int (b2 (cvB g i a0))]) rfl ?_
        refine lv_if_eq (tgt := 47) hx hb dX4_isCovered_42 (by decide) (fun c42 => ?_) (fun c42 => ?_)
        · skip
          have c42 := b2_0.mp c42
          refine lv_iinc (v := nI (i + 1)) (lv' := [(4, .int (nI (i + 1))), (5, .ref (ad (1, i, 0))), (0, .ref (ad (0, 0, 0))), (1, .int a0), (2, .ref (ad (0, 1, 0))), (3, .int (nI 8))]) hx hb dX4_isCovered_47 hl (k := 5) rfl (by rw [← nI_add]; rfl) (by decide) rfl (fun ls hl => ?_)
          refine lv_goto (tgt := 11) hx hb dX4_isCovered_50 (by decide) ?_
          exact ih ls ⟨lv_sub hl [2, 3, 4, 5, 0] rfl, by simp [cvA, hJ, c20, c33, c42]⟩
        · skip
          have c42 := b2_n0.mp c42
          refine lv_iconst (v := 1) hx hb dX4_isCovered_45 (by decide) ?_
          have h9 : cvA g a0 (i + 1) = true := by simp [cvA, c20, c33, c42]
          exact e_z hx hb hr hlocks (by rw [cvA_up hi h9]; rfl) rfl dX4_isCovered_46
    · skip
      refine W.eq (g2 := F0 m 21 ls [.null]) (by simp [maO, c20, va_rf]) ?_
      refine lv_astoreN (lv' := [(5, .null), (0, .ref (ad (0, 0, 0))), (1, .int a0), (2, .ref (ad (0, 1, 0))), (3, .int (nI 8)), (4, .int (nI i))]) hx hb dX4_isCovered_21 hl (by decide) rfl (fun ls hl => ?_)
      refine lv_aloadN hx hb dX4_isCovered_23 (lv_at hl 0 rfl) ?_
      refine lv_ifnullN (tgt := 47) hx hb dX4_isCovered_25 (by decide) ?_
      refine lv_iinc (v := nI (i + 1)) (lv' := [(4, .int (nI (i + 1))), (5, .null), (0, .ref (ad (0, 0, 0))), (1, .int a0), (2, .ref (ad (0, 1, 0))), (3, .int (nI 8))]) hx hb dX4_isCovered_47 hl (k := 5) rfl (by rw [← nI_add]; rfl) (by decide) rfl (fun ls hl => ?_)
      refine lv_goto (tgt := 11) hx hb dX4_isCovered_50 (by decide) ?_
      exact ih ls ⟨lv_sub hl [2, 3, 4, 5, 0] rfl, by simp [cvA, hJ, c20]⟩
  · skip
    obtain ⟨hl, hJ⟩ := hJ0
    refine lv_iload hx hb dX4_isCovered_11 (lv_at hl 4 rfl) ?_
    refine lv_iload_n hx hb dX4_isCovered_13 rfl (lv_at hl 3 rfl) ?_
    refine lv_icmp_ge (tgt := 53) hx hb dX4_isCovered_14 (by decide) (fun c14 => ?_) (fun c14 => absurd (nI_le (Nat.le_refl _) (by decide)) c14)
    refine lv_iconst (v := 0) hx hb dX4_isCovered_53 (by decide) ?_
    exact e_z hx hb hr hlocks (by rw [hJ]; rfl) rfl dX4_isCovered_54

set_option maxHeartbeats 4000000 in
set_option maxRecDepth 100000 in
theorem mX4_holes (l : Launch) {D : va_G} {k : Nat → ClassId} {b : Nat} {ad : Tg → Nat} {g : XS} {M : MF} {o : OF}  : Met l yX4_holes (WS yX4_holes cX4_holes 3 (some .int)) ({ frames := 4, cells := 0, slots := 0, locals := 80 }) (P0 D k b (Wo D k b ad g M o) [.ref (ad (0, 0, 0))]) (Qr (some (.int (hlI g 100)))) 0 0 (fun _ => False) := by
  refine Met0 (by decide +kernel) (Nat.le_of_ble_eq_true rfl) (fun p e s m below meth c ls hx hb hr hts hown hml hlocks hnm hC hH hl => ?_)
  have hS : va_S (Fb b) s.heap s.heap [] := va_S.rf
  have hl : lv_has ls 3 [(0, .ref (ad (0, 0, 0)))] := hl
  refine lv_iconst (v := 0) hx hb dX4_holes_0 (by decide) ?_
  refine lv_istore_n (lv' := [(1, .int 0), (0, .ref (ad (0, 0, 0)))]) hx hb dX4_holes_1 rfl hl (by decide) rfl (fun ls hl => ?_)
  refine lv_iconst (v := nI 0) hx hb dX4_holes_2 (by decide) ?_
  refine lv_istore_n (lv' := [(2, .int (nI 0)), (1, .int 0), (0, .ref (ad (0, 0, 0)))]) hx hb dX4_holes_3 rfl hl (by decide) rfl (fun ls hl => ?_)
  refine loop_r 100 (fun i ls => lv_has ls 3 [(0, .ref (ad (0, 0, 0))), (1, .int (hlI g i)), (2, .int (nI i))]) (fun i hi ls hJ0 ih => ?_) (fun ls hJ0 => ?_) (lv_sub hl [2, 1, 0] rfl)
  · skip
    have hl := hJ0
    refine lv_iload_n hx hb dX4_holes_4 rfl (lv_at hl 2 rfl) ?_
    refine lv_bipush (v := nI 100) hx hb dX4_holes_5 (by decide) ?_
    refine lv_icmp_ge (tgt := 27) hx hb dX4_holes_7 (by decide) (fun c7 => absurd c7 (nI_ge hi (by decide))) (fun c7 => ?_)
    refine lv_aload_n hx hb dX4_holes_10 rfl (lv_at hl 0 rfl) ?_
    refine lv_iload_n hx hb dX4_holes_11 rfl (lv_at hl 2 rfl) ?_
    refine k_r (va_runV (As := [.int (nI i)]) (rest := []) ⟨hx, hb, hml, hown, hts⟩ (mX4_isCovered l (nI i)) ⟨cb_of hts wk_X4_isCovered wi_X4 wm_X4_150 sd_X4_isCovered rfl rfl ⟨Nat.le_of_ble_eq_true rfl, Nat.le_of_ble_eq_true rfl⟩, hts _ wv_X4_isCovered, hts _ wl_X4_isCovered⟩ (P0.preV hC hS hH (Hp.recv hC.1 hH (0, 0, 0) ⟨by decide, rfl⟩ rfl rfl)) rfl rfl hl.1 rfl (lv_room (Nat.le_of_ble_eq_true rfl)) dX4_holes_12 ⟨Nat.le_of_ble_eq_true rfl, Nat.le_of_ble_eq_true rfl⟩) ?_
    refine W.eq (g2 := F0 m 15 ls [.int (b2 (cvA g (nI i) 8))]) rfl ?_
    refine lv_if_ne (tgt := 21) hx hb dX4_holes_15 (by decide) (fun c15 => ?_) (fun c15 => ?_)
    · skip
      have c15 := b2_n0.mp c15
      refine lv_iinc (v := nI (i + 1)) (lv' := [(2, .int (nI (i + 1))), (0, .ref (ad (0, 0, 0))), (1, .int (hlI g i))]) hx hb dX4_holes_21 hl (k := 2) rfl (by rw [← nI_add]; rfl) (by decide) rfl (fun ls hl => ?_)
      refine lv_goto (tgt := 4) hx hb dX4_holes_24 (by decide) ?_
      refine ih ls ?_
      have h9 : hlI g (i + 1) = hlI g i := by simp [hlI, c15]
      rw [h9]
      exact lv_sub hl [1, 2, 0] rfl
    · skip
      have c15 := b2_0.mp c15
      refine lv_iinc (v := (hlI g i) + 1) (lv' := [(1, .int ((hlI g i) + 1)), (0, .ref (ad (0, 0, 0))), (2, .int (nI i))]) hx hb dX4_holes_18 hl (k := 1) rfl rfl (by decide) rfl (fun ls hl => ?_)
      refine lv_iinc (v := nI (i + 1)) (lv' := [(2, .int (nI (i + 1))), (1, .int ((hlI g i) + 1)), (0, .ref (ad (0, 0, 0)))]) hx hb dX4_holes_21 hl (k := 2) rfl (by rw [← nI_add]; rfl) (by decide) rfl (fun ls hl => ?_)
      refine lv_goto (tgt := 4) hx hb dX4_holes_24 (by decide) ?_
      refine ih ls ?_
      have h9 : hlI g (i + 1) = (hlI g i) + 1 := by simp [hlI, c15]
      rw [h9]
      exact lv_sub hl [2, 1, 0] rfl
  · skip
    have hl := hJ0
    refine lv_iload_n hx hb dX4_holes_4 rfl (lv_at hl 2 rfl) ?_
    refine lv_bipush (v := nI 100) hx hb dX4_holes_5 (by decide) ?_
    refine lv_icmp_ge (tgt := 27) hx hb dX4_holes_7 (by decide) (fun c7 => ?_) (fun c7 => absurd (nI_le (Nat.le_refl _) (by decide)) c7)
    refine lv_iload_n hx hb dX4_holes_27 rfl (lv_at hl 1 rfl) ?_
    exact e_i hx hb hr hlocks rfl dX4_holes_28
end
section
/-! THE CLASS: hours of the log -/
set_option maxHeartbeats 4000000 in
set_option maxRecDepth 100000 in
theorem mX1_hours (l : Launch) {D : va_G} {k : Nat → ClassId} {b : Nat} {ad : Tg → Nat} {g : XS} {M : MF} {o : OF} (i : Nat) (hi : i < g.2.1 0 0) (j : Nat) (hj : 64 * j < g.2.1 4 i) : Met l yX1_hours (WS yX1_hours cX1_hours 3 (some .int)) ({ frames := 0, cells := 0, slots := 0, locals := 0 }) (P0 D k b (Wo D k b ad g M o) [.ref (ad (4, i, j))]) (Qr (some (.int (bsI g i j)))) 0 0 (fun _ => False) := by
  refine Met0 (by decide +kernel) (Nat.le_of_ble_eq_true rfl) (fun p e s m below meth c ls hx hb hr hts hown hml hlocks hnm hC hH hl => ?_)
  have hS : va_S (Fb b) s.heap s.heap [] := va_S.rf
  have hl : lv_has ls 3 [(0, .ref (ad (4, i, j)))] := hl
  refine lv_iconst (v := 0) hx hb dX1_hours_0 (by decide) ?_
  refine lv_istore_n (lv' := [(1, .int 0), (0, .ref (ad (4, i, j)))]) hx hb dX1_hours_1 rfl hl (by decide) rfl (fun ls hl => ?_)
  refine lv_iconst (v := nI 0) hx hb dX1_hours_2 (by decide) ?_
  refine lv_istore_n (lv' := [(2, .int (nI 0)), (1, .int 0), (0, .ref (ad (4, i, j)))]) hx hb dX1_hours_3 rfl hl (by decide) rfl (fun ls hl => ?_)
  refine loop_r (min 64 (g.2.1 4 i - 64 * j)) (fun q ls => lv_has ls 3 [(0, .ref (ad (4, i, j))), (1, .int (sumI (fun q => lcut (g.2.2 1 i) j q - lcut (g.2.2 0 i) j q) q)), (2, .int (nI q))]) (fun q hq ls hJ0 ih => ?_) (fun ls hJ0 => ?_) (lv_sub hl [2, 1, 0] rfl)
  · skip
    have hl := hJ0
    refine lv_iload_n hx hb dX1_hours_4 rfl (lv_at hl 2 rfl) ?_
    refine lv_aload_n hx hb dX1_hours_5 rfl (lv_at hl 0 rfl) ?_
    refine g1 hx hb hts hown hC hH i j hi hj 3 (by decide) wf_X1_22 (v := .int (nI (min 64 (g.2.1 4 i - 64 * j)))) rfl dX1_hours_6 ?_
    refine lv_icmp_ge (tgt := 40) hx hb dX1_hours_9 (by decide) (fun c9 => absurd c9 (nI_ge hq (by omega))) (fun c9 => ?_)
    refine lv_iload_n hx hb dX1_hours_12 rfl (lv_at hl 2 rfl) ?_
    refine lv_bipush (v := nI 64) hx hb dX1_hours_13 (by decide) ?_
    refine lv_icmp_ge (tgt := 40) hx hb dX1_hours_15 (by decide) (fun c15 => absurd c15 (nI_ge (show q < 64 by omega) (by decide))) (fun c15 => ?_)
    refine lv_iload_n hx hb dX1_hours_18 rfl (lv_at hl 1 rfl) ?_
    refine lv_aload_n hx hb dX1_hours_19 rfl (lv_at hl 0 rfl) ?_
    refine g1 hx hb hts hown hC hH i j hi hj 1 (by decide) wf_X1_15 (v := .ref (ad (6, i, j))) rfl dX1_hours_20 ?_
    refine lv_iload_n hx hb dX1_hours_23 rfl (lv_at hl 2 rfl) ?_
    refine l6Ld hx hb hC hH i j hi hj (q := q) (by omega) dX1_hours_24 ?_
    refine lv_aload_n hx hb dX1_hours_25 rfl (lv_at hl 0 rfl) ?_
    refine g1 hx hb hts hown hC hH i j hi hj 0 (by decide) wf_X1_9 (v := .ref (ad (5, i, j))) rfl dX1_hours_26 ?_
    refine lv_iload_n hx hb dX1_hours_29 rfl (lv_at hl 2 rfl) ?_
    refine l5Ld hx hb hC hH i j hi hj (q := q) (by omega) dX1_hours_30 ?_
    refine lv_isub hx hb dX1_hours_31 ?_
    refine lv_iadd hx hb dX1_hours_32 ?_
    refine lv_istore_n (lv' := [(1, .int ((sumI (fun q => lcut (g.2.2 1 i) j q - lcut (g.2.2 0 i) j q) q) + ((lcut (g.2.2 1 i) j q) - (lcut (g.2.2 0 i) j q)))), (0, .ref (ad (4, i, j))), (2, .int (nI q))]) hx hb dX1_hours_33 rfl hl (by decide) rfl (fun ls hl => ?_)
    refine lv_iinc (v := nI (q + 1)) (lv' := [(2, .int (nI (q + 1))), (1, .int ((sumI (fun q => lcut (g.2.2 1 i) j q - lcut (g.2.2 0 i) j q) q) + ((lcut (g.2.2 1 i) j q) - (lcut (g.2.2 0 i) j q)))), (0, .ref (ad (4, i, j)))]) hx hb dX1_hours_34 hl (k := 2) rfl (by rw [← nI_add]; rfl) (by decide) rfl (fun ls hl => ?_)
    refine lv_goto (tgt := 4) hx hb dX1_hours_37 (by decide) ?_
    exact ih ls (lv_sub hl [2, 1, 0] rfl)
  · skip
    have hl := hJ0
    refine lv_iload_n hx hb dX1_hours_4 rfl (lv_at hl 2 rfl) ?_
    refine lv_aload_n hx hb dX1_hours_5 rfl (lv_at hl 0 rfl) ?_
    refine g1 hx hb hts hown hC hH i j hi hj 3 (by decide) wf_X1_22 (v := .int (nI (min 64 (g.2.1 4 i - 64 * j)))) rfl dX1_hours_6 ?_
    refine lv_icmp_ge (tgt := 40) hx hb dX1_hours_9 (by decide) (fun c9 => ?_) (fun c9 => absurd (nI_le (Nat.le_refl _) (by omega)) c9)
    refine lv_iload_n hx hb dX1_hours_40 rfl (lv_at hl 1 rfl) ?_
    exact e_i hx hb hr hlocks rfl dX1_hours_41

set_option maxHeartbeats 4000000 in
set_option maxRecDepth 100000 in
theorem mX2_hoursOfLog (l : Launch) {D : va_G} {k : Nat → ClassId} {b : Nat} {ad : Tg → Nat} {g : XS} {M : MF} {o : OF} (i : Nat) (hi : i < g.2.1 0 0) : Met l yX2_hoursOfLog (WS yX2_hoursOfLog cX2_hoursOfLog 3 (some .int)) ({ frames := 1, cells := 0, slots := 0, locals := 22 }) (P0 D k b (Wo D k b ad g M o) [.ref (ad (1, i, 0))]) (Qr (some (.int (hbA g i (nbk (g.2.1 4 i)) (nbk (g.2.1 4 i)))))) 0 0 (fun _ => False) := by
  refine Met0 (by decide +kernel) (Nat.le_of_ble_eq_true rfl) (fun p e s m below meth c ls hx hb hr hts hown hml hlocks hnm hC hH hl => ?_)
  have hS : va_S (Fb b) s.heap s.heap [] := va_S.rf
  have hl : lv_has ls 3 [(0, .ref (ad (1, i, 0)))] := hl
  refine lv_iconst (v := 0) hx hb dX2_hoursOfLog_0 (by decide) ?_
  refine lv_istore_n (lv' := [(1, .int 0), (0, .ref (ad (1, i, 0)))]) hx hb dX2_hoursOfLog_1 rfl hl (by decide) rfl (fun ls hl => ?_)
  refine lv_aload_n hx hb dX2_hoursOfLog_2 rfl (lv_at hl 1 rfl) ?_
  refine g2 hx hb hts hown hC hH i hi 13 (by decide) wf_X2_71 (v := va_rf (lgO ad i (g.2.1 4 i))) rfl dX2_hoursOfLog_3 ?_
  refine W.eq (g2 := F0 m 6 ls [va_rf (bfO ad i (nbk (g.2.1 4 i) - 0))]) (by rw [lgO_bf]; rfl) ?_
  refine lv_astore_nO (lv' := [(2, va_rf (bfO ad i (nbk (g.2.1 4 i) - 0))), (1, .int 0), (0, .ref (ad (1, i, 0)))]) hx hb dX2_hoursOfLog_6 rfl hl (by decide) rfl (fun ls hl => ?_)
  refine loop_r (nbk (g.2.1 4 i)) (fun t ls => lv_has ls 3 [(0, .ref (ad (1, i, 0))), (1, .int (hbA g i (nbk (g.2.1 4 i)) t)), (2, va_rf (bfO ad i (nbk (g.2.1 4 i) - t)))]) (fun t ht ls hJ0 ih => ?_) (fun ls hJ0 => ?_) (lv_sub hl [2, 1, 0] rfl)
  · skip
    have hl := hJ0
    obtain ⟨z, hz⟩ : ∃ z, nbk (g.2.1 4 i) - t = z + 1 := ⟨nbk (g.2.1 4 i) - t - 1, by omega⟩
    have hz2 : 64 * z < g.2.1 4 i := by unfold nbk at hz; omega
    rw [hz, bfO_s] at hl
    have hl : lv_has ls 3 [(0, .ref (ad (1, i, 0))), (1, .int (hbA g i (nbk (g.2.1 4 i)) t)), (2, .ref (ad (4, i, z)))] := hl
    refine lv_aload_n hx hb dX2_hoursOfLog_7 rfl (lv_at hl 2 rfl) ?_
    refine lv_ifnull hx hb dX2_hoursOfLog_8 ?_
    refine lv_iload_n hx hb dX2_hoursOfLog_11 rfl (lv_at hl 1 rfl) ?_
    refine lv_aload_n hx hb dX2_hoursOfLog_12 rfl (lv_at hl 2 rfl) ?_
    refine k_r (va_runVN (As := []) (rest := [.int (hbA g i (nbk (g.2.1 4 i)) t)]) ⟨hx, hb, hml, hown, hts⟩ (mX1_hours l i hi z hz2) ⟨cn_of hts wk_X1_hours wi_X1 wm_X2_87 sd_X1_hours rfl rfl ⟨Nat.le_of_ble_eq_true rfl, Nat.le_of_ble_eq_true rfl⟩, hts _ wv_X1_hours, hts _ wl_X1_hours⟩ (P0.preV hC hS hH (Hp.recv hC.1 hH (4, i, z) ⟨hi, hz2⟩ rfl rfl)) rfl rfl hl.1 rfl (lv_room (Nat.le_of_ble_eq_true rfl)) dX2_hoursOfLog_13 ⟨Nat.le_of_ble_eq_true rfl, Nat.le_of_ble_eq_true rfl⟩) ?_
    refine W.eq (g2 := F0 m 16 ls [.int (bsI g i z), .int (hbA g i (nbk (g.2.1 4 i)) t)]) rfl ?_
    refine lv_iadd hx hb dX2_hoursOfLog_16 ?_
    refine lv_istore_n (lv' := [(1, .int ((hbA g i (nbk (g.2.1 4 i)) t) + (bsI g i z))), (0, .ref (ad (1, i, 0))), (2, .ref (ad (4, i, z)))]) hx hb dX2_hoursOfLog_17 rfl hl (by decide) rfl (fun ls hl => ?_)
    refine lv_aload_n hx hb dX2_hoursOfLog_18 rfl (lv_at hl 2 rfl) ?_
    refine g1N hx hb hts hown hC hH i z hi hz2 2 (by decide) wf_X2_91 (v := va_rf (bfO ad i z)) rfl dX2_hoursOfLog_19 ?_
    refine lv_astore_nO (lv' := [(2, va_rf (bfO ad i z)), (1, .int ((hbA g i (nbk (g.2.1 4 i)) t) + (bsI g i z))), (0, .ref (ad (1, i, 0)))]) hx hb dX2_hoursOfLog_22 rfl hl (by decide) rfl (fun ls hl => ?_)
    refine lv_goto (tgt := 7) hx hb dX2_hoursOfLog_23 (by decide) ?_
    refine ih ls ?_
    have h9 : nbk (g.2.1 4 i) - (t + 1) = z := by omega
    have h8 : hbA g i (nbk (g.2.1 4 i)) (t + 1) = hbA g i (nbk (g.2.1 4 i)) t + bsI g i z := by rw [← h9]; rfl
    rw [h8, h9]
    exact lv_sub hl [2, 1, 0] rfl
  · skip
    have hl := hJ0
    rw [Nat.sub_self, bfO_z] at hl
    have hl : lv_has ls 3 [(0, .ref (ad (1, i, 0))), (1, .int (hbA g i (nbk (g.2.1 4 i)) (nbk (g.2.1 4 i)))), (2, .null)] := hl
    refine lv_aload_nN hx hb dX2_hoursOfLog_7 rfl (lv_at hl 2 rfl) ?_
    refine lv_ifnullN (tgt := 26) hx hb dX2_hoursOfLog_8 (by decide) ?_
    refine lv_iload_n hx hb dX2_hoursOfLog_26 rfl (lv_at hl 1 rfl) ?_
    exact e_i hx hb hr hlocks rfl dX2_hoursOfLog_27
end
section
/-! THE CLASS: methods that write and make nothing -/
set_option maxHeartbeats 4000000 in
set_option maxRecDepth 100000 in
theorem mX3_comeTo (l : Launch) {D : va_G} {k : Nat → ClassId} {b : Nat} {ad : Tg → Nat} {g : XS} {M : MF} {o : OF} (q i : Nat) (hq : q < g.2.1 1 0) (hi : i < g.2.1 0 0) (a0 : Int32) : Met l yX3_comeTo (WS yX3_comeTo cX3_comeTo 3 none) ({ frames := 0, cells := 0, slots := 0, locals := 0 }) (P0 D k b (Wo D k b ad g M o) [.ref (ad (2, q, 0)), .ref (ad (1, i, 0)), .int a0]) (Qw b none (Wo D k b ad (comG g q i a0) M o)) 0 0 (Fb b) := by
  refine Met0 (by decide +kernel) (Nat.le_of_ble_eq_true rfl) (fun p e s m below meth c ls hx hb hr hts hown hml hlocks hnm hC hH hl => ?_)
  have hS : va_S (Fb b) s.heap s.heap [] := va_S.rf
  have hl : lv_has ls 3 [(0, .ref (ad (2, q, 0))), (1, .ref (ad (1, i, 0))), (2, .int a0)] := hl
  refine lv_aload_n hx hb dX3_comeTo_0 rfl (lv_at hl 1 rfl) ?_
  refine lv_ifnonnull (tgt := 5) hx hb dX3_comeTo_1 (by decide) ?_
  refine lv_aload_n hx hb dX3_comeTo_5 rfl (lv_at hl 0 rfl) ?_
  refine lv_aload_n hx hb dX3_comeTo_6 rfl (lv_at hl 1 rfl) ?_
  refine W.eq (g2 := F0 m 7 ls (va_rf (mrO ad (i + 1)) :: .ref (ad (2, q, 0)) :: [])) (by simp [mrO, va_rf]) ?_
  refine p3C hx hb hts hown hC hH hS q hq wf_X3_15 (i + 1) dX3_comeTo_7 (fun H locs (hH : Wo D k b ad (sn g 3 q (i + 1)) M o H) hS => ?_)
  refine lv_aload_n hx hb dX3_comeTo_10 rfl (lv_at hl 0 rfl) ?_
  refine lv_iload_n hx hb dX3_comeTo_11 rfl (lv_at hl 2 rfl) ?_
  refine p3 hx hb hts hown hC hH hS q hq 2 (by decide) (by decide) rfl wf_X3_24 rfl rfl dX3_comeTo_12 (fun H locs (hH : Wo D k b ad (sx (sn g 3 q (i + 1)) 32 q a0) M o H) hS => ?_)
  refine lv_aload_n hx hb dX3_comeTo_15 rfl (lv_at hl 1 rfl) ?_
  refine lv_dup hx hb dX3_comeTo_16 rfl ?_
  refine g2N hx hb hts hown hC hH i hi 9 (by decide) wf_X3_27 (v := .int (g.1 9 i)) rfl dX3_comeTo_17 ?_
  refine lv_iconst (v := 1) hx hb dX3_comeTo_20 (by decide) ?_
  refine lv_iadd hx hb dX3_comeTo_21 ?_
  refine p2N hx hb hts hown hC hH hS i hi 9 (by decide) (by decide) rfl wf_X3_27 rfl rfl dX3_comeTo_22 (fun H locs (hH : Wo D k b ad (sx (sx (sn g 3 q (i + 1)) 32 q a0) 9 i ((g.1 9 i) + 1)) M o H) hS => ?_)
  exact e_wv hx hb hr hlocks hS (by exact hH) (Nat.le_refl _) (Nat.le_refl _) dX3_comeTo_25

set_option maxHeartbeats 4000000 in
set_option maxRecDepth 100000 in
theorem mX2_takePower (l : Launch) {D : va_G} {k : Nat → ClassId} {b : Nat} {ad : Tg → Nat} {g : XS} {M : MF} {o : OF} (i : Nat) (hi : i < g.2.1 0 0) (a0 : Int32) : Met l yX2_takePower (WS yX2_takePower cX2_takePower 4 none) ({ frames := 1, cells := 0, slots := 0, locals := 14 }) (P0 D k b (Wo D k b ad g M o) [.ref (ad (1, i, 0)), .int a0]) (Qw b none (Wo D k b ad (tkpG g i a0) M o)) 0 0 (Fb b) := by
  refine Met0 (by decide +kernel) (Nat.le_of_ble_eq_true rfl) (fun p e s m below meth c ls hx hb hr hts hown hml hlocks hnm hC hH hl => ?_)
  have hS : va_S (Fb b) s.heap s.heap [] := va_S.rf
  have hl : lv_has ls 4 [(0, .ref (ad (1, i, 0))), (1, .int a0)] := hl
  refine lv_aload_n hx hb dX2_takePower_0 rfl (lv_at hl 0 rfl) ?_
  refine lv_iconst (v := 0) hx hb dX2_takePower_1 (by decide) ?_
  refine p2 hx hb hts hown hC hH hS i hi 8 (by decide) (by decide) rfl wf_X2_38 rfl rfl dX2_takePower_2 (fun H locs (hH : Wo D k b ad (sx g 8 i 0) M o H) hS => ?_)
  refine lv_aload_n hx hb dX2_takePower_5 rfl (lv_at hl 0 rfl) ?_
  refine g2 hx hb hts hown hC hH i hi 7 (by decide) wf_X2_34 (v := va_rf (lsO ad i (g.2.1 2 i))) rfl dX2_takePower_6 ?_
  by_cases c6 : g.2.1 2 i = 0
  · skip
    refine W.eq (g2 := F0 m 9 ls [.null]) (by simp [lsO, va_rf, c6]) ?_
    refine lv_ifnonnullN hx hb dX2_takePower_9 ?_
    have h9 : tkpG g i a0 = sx g 8 i 0 := by simp [tkpG, c6]
    exact e_wv hx hb hr hlocks hS (by rw [h9]; exact hH) (Nat.le_refl _) (Nat.le_refl _) dX2_takePower_12
  · skip
    refine W.eq (g2 := F0 m 9 ls [.ref (ad (3, i, 0))]) (by simp [lsO, va_rf, c6]) ?_
    refine lv_ifnonnull (tgt := 13) hx hb dX2_takePower_9 (by decide) ?_
    refine lv_aload_n hx hb dX2_takePower_13 rfl (lv_at hl 0 rfl) ?_
    refine g2 hx hb hts hown hC hH i hi 10 (by decide) wf_X2_61 (v := .int (g.1 10 i)) rfl dX2_takePower_14 ?_
    refine lv_aload_n hx hb dX2_takePower_17 rfl (lv_at hl 0 rfl) ?_
    refine g2 hx hb hts hown hC hH i hi 4 (by decide) wf_X2_24 (v := .int (g.1 4 i)) rfl dX2_takePower_18 ?_
    refine lv_iload_n hx hb dX2_takePower_21 rfl (lv_at hl 1 rfl) ?_
    refine lv_imul hx hb dX2_takePower_22 ?_
    refine lv_iadd hx hb dX2_takePower_23 ?_
    refine lv_istore_n (lv' := [(2, .int ((g.1 10 i) + ((g.1 4 i) * a0))), (0, .ref (ad (1, i, 0))), (1, .int a0)]) hx hb dX2_takePower_24 rfl hl (by decide) rfl (fun ls hl => ?_)
    refine lv_iconst (v := 2) hx hb dX2_takePower_25 (by decide) ?_
    refine lv_aload_n hx hb dX2_takePower_26 rfl (lv_at hl 1 rfl) ?_
    refine g2 hx hb hts hown hC hH i hi 9 (by decide) wf_X2_58 (v := .int (g.1 9 i)) rfl dX2_takePower_27 ?_
    refine lv_iadd hx hb dX2_takePower_30 ?_
    refine lv_istore_n (lv' := [(3, .int (2 + (g.1 9 i))), (2, .int ((g.1 10 i) + ((g.1 4 i) * a0))), (0, .ref (ad (1, i, 0))), (1, .int a0)]) hx hb dX2_takePower_31 rfl hl (by decide) rfl (fun ls hl => ?_)
    refine lv_iload_n hx hb dX2_takePower_32 rfl (lv_at hl 1 rfl) ?_
    refine lv_iload_n hx hb dX2_takePower_33 rfl (lv_at hl 0 rfl) ?_
    refine lv_icmp_lt (tgt := 54) hx hb dX2_takePower_34 (by decide) (fun c34 => ?_) (fun c34 => ?_)
    · skip
      have c34x := Int32.not_le.mpr c34
      refine lv_aload_n hx hb dX2_takePower_54 rfl (lv_at hl 2 rfl) ?_
      refine g2 hx hb hts hown hC hH i hi 6 (by decide) wf_X2_30 (v := .int (g.1 6 i)) rfl dX2_takePower_55 ?_
      refine lv_if_eq (tgt := 81) hx hb dX2_takePower_58 (by decide) (fun c58 => ?_) (fun c58 => ?_)
      · skip
        refine lv_aload_n hx hb dX2_takePower_81 rfl (lv_at hl 2 rfl) ?_
        refine lv_iconst (v := 1) hx hb dX2_takePower_82 (by decide) ?_
        refine p2 hx hb hts hown hC hH hS i hi 8 (by decide) (by decide) rfl wf_X2_38 rfl rfl dX2_takePower_83 (fun H locs (hH : Wo D k b ad (sx (sx g 8 i 0) 8 i 1) M o H) hS => ?_)
        refine lv_aload_n hx hb dX2_takePower_86 rfl (lv_at hl 2 rfl) ?_
        refine lv_iload_n hx hb dX2_takePower_87 rfl (lv_at hl 1 rfl) ?_
        refine lv_aload_n hx hb dX2_takePower_88 rfl (lv_at hl 2 rfl) ?_
        refine g2 hx hb hts hown hC hH i hi 5 (by decide) wf_X2_27 (v := .int (g.1 5 i)) rfl dX2_takePower_89 ?_
        refine va_mmin hx hb (by rw [hml]; exact hl.1.symm) hown (hts _ wm_X2_64) (hts _ wz_min) (hts _ wi_J9) (hts _ wk_min) (Nat.le_of_ble_eq_true rfl) (Nat.le_of_ble_eq_true rfl) (Nat.zero_le _) (Nat.zero_le _) dX2_takePower_92 ?_
        refine W.eq (g2 := F0 m 95 ls [.int (mnI ((g.1 10 i) + ((g.1 4 i) * a0)) (g.1 5 i)), .ref (ad (1, i, 0))]) rfl ?_
        refine p2 hx hb hts hown hC hH hS i hi 10 (by decide) (by decide) rfl wf_X2_61 rfl rfl dX2_takePower_95 (fun H locs (hH : Wo D k b ad (sx (sx (sx g 8 i 0) 8 i 1) 10 i (mnI ((g.1 10 i) + ((g.1 4 i) * a0)) (g.1 5 i))) M o H) hS => ?_)
        have h9 : tkpG g i a0 = sx (sx (sx g 8 i 0) 8 i 1) 10 i (mnI ((g.1 10 i) + ((g.1 4 i) * a0)) (g.1 5 i)) := by simp [tkpG, c6, c34, c34x, c58]
        exact e_wv hx hb hr hlocks hS (by rw [h9]; exact hH) (Nat.le_refl _) (Nat.le_refl _) dX2_takePower_98
      · skip
        refine lv_aload_n hx hb dX2_takePower_61 rfl (lv_at hl 2 rfl) ?_
        refine lv_dup hx hb dX2_takePower_62 rfl ?_
        refine g2 hx hb hts hown hC hH i hi 11 (by decide) wf_X2_68 (v := .int (g.1 11 i)) rfl dX2_takePower_63 ?_
        refine lv_iload_n hx hb dX2_takePower_66 rfl (lv_at hl 0 rfl) ?_
        refine lv_iload_n hx hb dX2_takePower_67 rfl (lv_at hl 1 rfl) ?_
        refine lv_isub hx hb dX2_takePower_68 ?_
        refine lv_iadd hx hb dX2_takePower_69 ?_
        refine p2 hx hb hts hown hC hH hS i hi 11 (by decide) (by decide) rfl wf_X2_68 rfl rfl dX2_takePower_70 (fun H locs (hH : Wo D k b ad (sx (sx g 8 i 0) 11 i ((g.1 11 i) + ((2 + (g.1 9 i)) - ((g.1 10 i) + ((g.1 4 i) * a0))))) M o H) hS => ?_)
        refine lv_aload_n hx hb dX2_takePower_73 rfl (lv_at hl 2 rfl) ?_
        refine lv_iconst (v := 0) hx hb dX2_takePower_74 (by decide) ?_
        refine p2 hx hb hts hown hC hH hS i hi 10 (by decide) (by decide) rfl wf_X2_61 rfl rfl dX2_takePower_75 (fun H locs (hH : Wo D k b ad (sx (sx (sx g 8 i 0) 11 i ((g.1 11 i) + ((2 + (g.1 9 i)) - ((g.1 10 i) + ((g.1 4 i) * a0))))) 10 i 0) M o H) hS => ?_)
        refine lv_goto (tgt := 98) hx hb dX2_takePower_78 (by decide) ?_
        have h9 : tkpG g i a0 = sx (sx (sx g 8 i 0) 11 i ((g.1 11 i) + ((2 + (g.1 9 i)) - ((g.1 10 i) + ((g.1 4 i) * a0))))) 10 i 0 := by simp [tkpG, c6, c34, c34x, c58]
        exact e_wv hx hb hr hlocks hS (by rw [h9]; exact hH) (Nat.le_refl _) (Nat.le_refl _) dX2_takePower_98
    · skip
      have c34x := Int32.not_lt.mp c34
      refine lv_aload_n hx hb dX2_takePower_37 rfl (lv_at hl 2 rfl) ?_
      refine lv_iload_n hx hb dX2_takePower_38 rfl (lv_at hl 1 rfl) ?_
      refine lv_iload_n hx hb dX2_takePower_39 rfl (lv_at hl 0 rfl) ?_
      refine lv_isub hx hb dX2_takePower_40 ?_
      refine lv_aload_n hx hb dX2_takePower_41 rfl (lv_at hl 2 rfl) ?_
      refine g2 hx hb hts hown hC hH i hi 5 (by decide) wf_X2_27 (v := .int (g.1 5 i)) rfl dX2_takePower_42 ?_
      refine va_mmin hx hb (by rw [hml]; exact hl.1.symm) hown (hts _ wm_X2_64) (hts _ wz_min) (hts _ wi_J9) (hts _ wk_min) (Nat.le_of_ble_eq_true rfl) (Nat.le_of_ble_eq_true rfl) (Nat.zero_le _) (Nat.zero_le _) dX2_takePower_45 ?_
      refine W.eq (g2 := F0 m 48 ls [.int (mnI (((g.1 10 i) + ((g.1 4 i) * a0)) - (2 + (g.1 9 i))) (g.1 5 i)), .ref (ad (1, i, 0))]) rfl ?_
      refine p2 hx hb hts hown hC hH hS i hi 10 (by decide) (by decide) rfl wf_X2_61 rfl rfl dX2_takePower_48 (fun H locs (hH : Wo D k b ad (sx (sx g 8 i 0) 10 i (mnI (((g.1 10 i) + ((g.1 4 i) * a0)) - (2 + (g.1 9 i))) (g.1 5 i))) M o H) hS => ?_)
      refine lv_goto (tgt := 98) hx hb dX2_takePower_51 (by decide) ?_
      have h9 : tkpG g i a0 = sx (sx g 8 i 0) 10 i (mnI (((g.1 10 i) + ((g.1 4 i) * a0)) - (2 + (g.1 9 i))) (g.1 5 i)) := by simp [tkpG, c6, c34, c34x]
      exact e_wv hx hb hr hlocks hS (by rw [h9]; exact hH) (Nat.le_refl _) (Nat.le_refl _) dX2_takePower_98

set_option maxHeartbeats 4000000 in
set_option maxRecDepth 100000 in
theorem mX4_pay (l : Launch) {D : va_G} {k : Nat → ClassId} {b : Nat} {ad : Tg → Nat} {g : XS} {M : MF} {o : OF} (a0 a1 : Int32) : Met l yX4_pay (WS yX4_pay cX4_pay 3 none) ({ frames := 2, cells := 0, slots := 0, locals := 42 }) (P0 D k b (Wo D k b ad g M o) [.ref (ad (0, 0, 0)), .int a0, .int a1]) (Qw b none (Wo D k b ad (payG g a0 a1) M o)) 0 0 (Fb b) := by
  refine Met0 (by decide +kernel) (Nat.le_of_ble_eq_true rfl) (fun p e s m below meth c ls hx hb hr hts hown hml hlocks hnm hC hH hl => ?_)
  have hS : va_S (Fb b) s.heap s.heap [] := va_S.rf
  have hl : lv_has ls 3 [(0, .ref (ad (0, 0, 0))), (1, .int a0), (2, .int a1)] := hl
  refine lv_iload_n hx hb dX4_pay_0 rfl (lv_at hl 1 rfl) ?_
  refine k_r (va_runS (As := [.int a0]) (rest := []) ⟨hx, hb, hml, hown, hts⟩ (mX4_isFarmer l a0) ⟨cb_of hts wk_X4_isFarmer wi_X4 wm_X4_46 sd_X4_isFarmer rfl rfl ⟨Nat.le_of_ble_eq_true rfl, Nat.le_of_ble_eq_true rfl⟩, hts _ wz_X4_isFarmer⟩ (P0.pre hC hS hH) rfl rfl hl.1 rfl (lv_room (Nat.le_of_ble_eq_true rfl)) dX4_pay_1 ⟨Nat.le_of_ble_eq_true rfl, Nat.le_of_ble_eq_true rfl⟩) ?_
  refine W.eq (g2 := F0 m 4 ls [.int (b2 (inB a0 0 5))]) rfl ?_
  refine lv_if_eq (tgt := 17) hx hb dX4_pay_4 (by decide) (fun c4 => ?_) (fun c4 => ?_)
  · skip
    have c4 := b2_0.mp c4
    have h9 : payG g a0 a1 = g := by simp [payG, c4]
    exact e_wv hx hb hr hlocks hS (by rw [h9]; exact hH) (Nat.le_refl _) (Nat.le_refl _) dX4_pay_17
  · skip
    have c4 := b2_n0.mp c4
    refine lv_aload_n hx hb dX4_pay_7 rfl (lv_at hl 0 rfl) ?_
    refine g4 hx hb hts hown hC hH 2 (by decide) wf_X4_21 (v := .ref (ad (0, 3, 0))) rfl dX4_pay_8 ?_
    refine lv_iload_n hx hb dX4_pay_11 rfl (lv_at hl 1 rfl) ?_
    refine lv_dup2_11 hx hb dX4_pay_12 rfl rfl ?_
    refine yLd hx hb hC hH (inB_vp c4) dX4_pay_13 ?_
    refine lv_iload_n hx hb dX4_pay_14 rfl (lv_at hl 2 rfl) ?_
    refine lv_iadd hx hb dX4_pay_15 ?_
    refine ySt hx hb hC hH hS (inB_vp c4) dX4_pay_16 (fun H locs (hH : Wo D k b ad (sx g 42 a0.toNatClampNeg ((g.1 42 a0.toNatClampNeg) + a1)) M o H) hS => ?_)
    have h9 : payG g a0 a1 = sx g 42 a0.toNatClampNeg ((g.1 42 a0.toNatClampNeg) + a1) := by simp [payG, c4]
    exact e_wv hx hb hr hlocks hS (by rw [h9]; exact hH) (Nat.le_refl _) (Nat.le_refl _) dX4_pay_17

set_option maxHeartbeats 4000000 in
set_option maxRecDepth 100000 in
theorem mX4_payRent (l : Launch) {D : va_G} {k : Nat → ClassId} {b : Nat} {ad : Tg → Nat} {g : XS} {M : MF} {o : OF} (i : Nat) (hi : i < g.2.1 0 0) (hz : ¬ g.2.1 2 i = 0) (a0 : Int32) : Met l yX4_payRent (WS yX4_payRent cX4_payRent 5 none) ({ frames := 3, cells := 0, slots := 0, locals := 64 }) (P0 D k b (Wo D k b ad g M o) [.ref (ad (0, 0, 0)), .ref (ad (3, i, 0)), .int a0]) (Qw b none (Wo D k b ad (prnG g i a0) M o)) 0 0 (Fb b) := by
  refine Met0 (by decide +kernel) (Nat.le_of_ble_eq_true rfl) (fun p e s m below meth c ls hx hb hr hts hown hml hlocks hnm hC hH hl => ?_)
  have hS : va_S (Fb b) s.heap s.heap [] := va_S.rf
  have hl : lv_has ls 5 [(0, .ref (ad (0, 0, 0))), (1, .ref (ad (3, i, 0))), (2, .int a0)] := hl
  refine lv_aload_n hx hb dX4_payRent_0 rfl (lv_at hl 1 rfl) ?_
  refine g0N hx hb hts hown hC hH i hi hz 4 (by decide) wf_X4_175 (v := .int (g.1 24 i)) rfl dX4_payRent_1 ?_
  refine lv_aload_n hx hb dX4_payRent_4 rfl (lv_at hl 1 rfl) ?_
  refine g0N hx hb hts hown hC hH i hi hz 5 (by decide) wf_X4_178 (v := .int (g.1 25 i)) rfl dX4_payRent_5 ?_
  refine lv_iload_n hx hb dX4_payRent_8 rfl (lv_at hl 2 rfl) ?_
  refine lv_imul hx hb dX4_payRent_9 ?_
  refine lv_iadd hx hb dX4_payRent_10 ?_
  refine lv_istore_n (lv' := [(3, .int ((g.1 24 i) + ((g.1 25 i) * a0))), (0, .ref (ad (0, 0, 0))), (1, .ref (ad (3, i, 0))), (2, .int a0)]) hx hb dX4_payRent_11 rfl hl (by decide) rfl (fun ls hl => ?_)
  refine lv_iload_n hx hb dX4_payRent_12 rfl (lv_at hl 0 rfl) ?_
  refine lv_aload_n hx hb dX4_payRent_13 rfl (lv_at hl 2 rfl) ?_
  refine g0N hx hb hts hown hC hH i hi hz 2 (by decide) wf_X4_181 (v := .int (g.1 22 i)) rfl dX4_payRent_14 ?_
  refine lv_imul hx hb dX4_payRent_17 ?_
  refine lv_bipush (v := 10) hx hb dX4_payRent_18 (by decide) ?_
  refine lv_idiv hx hb dX4_payRent_20 (by decide) ?_
  refine lv_istore (lv' := [(4, .int ((((g.1 24 i) + ((g.1 25 i) * a0)) * (g.1 22 i)) / 10)), (3, .int ((g.1 24 i) + ((g.1 25 i) * a0))), (0, .ref (ad (0, 0, 0))), (1, .ref (ad (3, i, 0))), (2, .int a0)]) hx hb dX4_payRent_21 hl (by decide) rfl (fun ls hl => ?_)
  refine lv_aload_n hx hb dX4_payRent_23 rfl (lv_at hl 2 rfl) ?_
  refine lv_aload_n hx hb dX4_payRent_24 rfl (lv_at hl 3 rfl) ?_
  refine g0N hx hb hts hown hC hH i hi hz 0 (by decide) wf_X4_184 (v := .int (g.1 20 i)) rfl dX4_payRent_25 ?_
  refine lv_iload hx hb dX4_payRent_28 (lv_at hl 0 rfl) ?_
  refine k_w (va_runV (As := [.int (g.1 20 i), .int ((((g.1 24 i) + ((g.1 25 i) * a0)) * (g.1 22 i)) / 10)]) (rest := []) ⟨hx, hb, hml, hown, hts⟩ (mX4_pay l (g.1 20 i) ((((g.1 24 i) + ((g.1 25 i) * a0)) * (g.1 22 i)) / 10)) ⟨cb_of hts wk_X4_pay wi_X4 wm_X4_187 sd_X4_pay rfl rfl ⟨Nat.le_of_ble_eq_true rfl, Nat.le_of_ble_eq_true rfl⟩, hts _ wv_X4_pay, hts _ wl_X4_pay⟩ (P0.preV hC hS hH (Hp.recv hC.1 hH (0, 0, 0) ⟨by decide, rfl⟩ rfl rfl)) rfl rfl hl.1 rfl (lv_room (Nat.le_of_ble_eq_true rfl)) dX4_payRent_30 ⟨Nat.le_of_ble_eq_true rfl, Nat.le_of_ble_eq_true rfl⟩) hS (fun H locs hH hS => ?_)
  refine W.eq (g2 := F0 m 33 ls []) rfl ?_
  refine lv_aload_n hx hb dX4_payRent_33 rfl (lv_at hl 2 rfl) ?_
  refine lv_aload_n hx hb dX4_payRent_34 rfl (lv_at hl 3 rfl) ?_
  refine g0N hx hb hts hown hC hH i (by rw [payG_n]; exact hi) (by rw [payG_n]; exact hz) 1 (by decide) wf_X4_191 (v := .int ((payG g (g.1 20 i) ((((g.1 24 i) + ((g.1 25 i) * a0)) * (g.1 22 i)) / 10)).1 21 i)) rfl dX4_payRent_35 ?_
  refine W.eq (g2 := F0 m 38 ls [.int (g.1 21 i), .ref (ad (0, 0, 0))]) (by rw [payG_x (by decide)]) ?_
  refine lv_iload_n hx hb dX4_payRent_38 rfl (lv_at hl 1 rfl) ?_
  refine lv_iload hx hb dX4_payRent_39 (lv_at hl 0 rfl) ?_
  refine lv_isub hx hb dX4_payRent_41 ?_
  refine k_w (va_runV (As := [.int (g.1 21 i), .int (((g.1 24 i) + ((g.1 25 i) * a0)) - ((((g.1 24 i) + ((g.1 25 i) * a0)) * (g.1 22 i)) / 10))]) (rest := []) ⟨hx, hb, hml, hown, hts⟩ (mX4_pay l (g.1 21 i) (((g.1 24 i) + ((g.1 25 i) * a0)) - ((((g.1 24 i) + ((g.1 25 i) * a0)) * (g.1 22 i)) / 10))) ⟨cb_of hts wk_X4_pay wi_X4 wm_X4_187 sd_X4_pay rfl rfl ⟨Nat.le_of_ble_eq_true rfl, Nat.le_of_ble_eq_true rfl⟩, hts _ wv_X4_pay, hts _ wl_X4_pay⟩ (P0.preV hC hS hH (Hp.recv hC.1 hH (0, 0, 0) ⟨by decide, rfl⟩ rfl rfl)) rfl rfl hl.1 rfl (lv_room (Nat.le_of_ble_eq_true rfl)) dX4_payRent_42 ⟨Nat.le_of_ble_eq_true rfl, Nat.le_of_ble_eq_true rfl⟩) hS (fun H locs hH hS => ?_)
  refine W.eq (g2 := F0 m 45 ls []) rfl ?_
  exact e_wv hx hb hr hlocks hS (by exact hH) (Nat.le_refl _) (Nat.le_refl _) dX4_payRent_45

set_option maxHeartbeats 4000000 in
set_option maxRecDepth 100000 in
theorem mX4_countTraffic (l : Launch) {D : va_G} {k : Nat → ClassId} {b : Nat} {ad : Tg → Nat} {g : XS} {M : MF} {o : OF}  : Met l yX4_countTraffic (WS yX4_countTraffic cX4_countTraffic 5 none) ({ frames := 1, cells := 0, slots := 0, locals := 20 }) (P0 D k b (Wo D k b ad g M o) [.ref (ad (0, 0, 0))]) (Qw b none (Wo D k b ad (ctrG g 8) M o)) 0 0 (Fb b) := by
  refine Met0 (by decide +kernel) (Nat.le_of_ble_eq_true rfl) (fun p e s m below meth c ls hx hb hr hts hown hml hlocks hnm hC hH hl => ?_)
  have hS : va_S (Fb b) s.heap s.heap [] := va_S.rf
  have hl : lv_has ls 5 [(0, .ref (ad (0, 0, 0)))] := hl
  refine lv_aload_n hx hb dX4_countTraffic_0 rfl (lv_at hl 0 rfl) ?_
  refine g4 hx hb hts hown hC hH 0 (by decide) wf_X4_11 (v := .ref (ad (0, 1, 0))) rfl dX4_countTraffic_1 ?_
  refine lv_astore_n (lv' := [(1, .ref (ad (0, 1, 0))), (0, .ref (ad (0, 0, 0)))]) hx hb dX4_countTraffic_4 rfl hl (by decide) rfl (fun ls hl => ?_)
  refine lv_aload_n hx hb dX4_countTraffic_5 rfl (lv_at hl 0 rfl) ?_
  refine mLen hx hb hC hH dX4_countTraffic_6 ?_
  refine lv_istore_n (lv' := [(2, .int (nI 8)), (1, .ref (ad (0, 1, 0))), (0, .ref (ad (0, 0, 0)))]) hx hb dX4_countTraffic_7 rfl hl (by decide) rfl (fun ls hl => ?_)
  refine lv_iconst (v := nI 0) hx hb dX4_countTraffic_8 (by decide) ?_
  refine lv_istore_n (lv' := [(3, .int (nI 0)), (2, .int (nI 8)), (1, .ref (ad (0, 1, 0))), (0, .ref (ad (0, 0, 0)))]) hx hb dX4_countTraffic_9 rfl hl (by decide) rfl (fun ls hl => ?_)
  refine loop_w 8 (fun i H locs cells slots ls => cells = 0 ∧ slots = 0 ∧ Wo D k b ad (ctrG g i) M o H ∧ va_S (Fb b) s.heap H locs ∧ lv_has ls 5 [(0, .ref (ad (0, 0, 0))), (1, .ref (ad (0, 1, 0))), (2, .int (nI 8)), (3, .int (nI i))]) (fun i hi H locs cells slots ls hJ0 ih => ?_) (fun H locs cells slots ls hJ0 => ?_) ⟨rfl, rfl, hH, hS, lv_sub hl [3, 2, 1, 0] rfl⟩
  · skip
    obtain ⟨rfl, rfl, hH, hS, hl⟩ := hJ0
    refine lv_iload_n hx hb dX4_countTraffic_10 rfl (lv_at hl 3 rfl) ?_
    refine lv_iload_n hx hb dX4_countTraffic_11 rfl (lv_at hl 2 rfl) ?_
    refine lv_icmp_ge (tgt := 54) hx hb dX4_countTraffic_12 (by decide) (fun c12 => absurd c12 (nI_ge hi (by decide))) (fun c12 => ?_)
    refine lv_aload_n hx hb dX4_countTraffic_15 rfl (lv_at hl 1 rfl) ?_
    refine lv_iload_n hx hb dX4_countTraffic_16 rfl (lv_at hl 3 rfl) ?_
    refine mLd hx hb hC hH (i := i) hi dX4_countTraffic_17 ?_
    by_cases c17 : i < (ctrG g i).2.1 0 0
    · skip
      refine W.eq (g2 := F0 m 18 ls [.ref (ad (1, i, 0))]) (by simp [maO, c17, va_rf]) ?_
      refine lv_astore (lv' := [(4, .ref (ad (1, i, 0))), (0, .ref (ad (0, 0, 0))), (1, .ref (ad (0, 1, 0))), (2, .int (nI 8)), (3, .int (nI i))]) hx hb dX4_countTraffic_18 hl (by decide) rfl (fun ls hl => ?_)
      refine lv_aload hx hb dX4_countTraffic_20 (lv_at hl 0 rfl) ?_
      refine lv_ifnull hx hb dX4_countTraffic_22 ?_
      refine lv_aload hx hb dX4_countTraffic_25 (lv_at hl 0 rfl) ?_
      refine k_r (va_runVN (As := []) (rest := []) ⟨hx, hb, hml, hown, hts⟩ (mX2_isOn l i c17) ⟨cn_of hts wk_X2_isOn wi_X2 wm_X4_112 sd_X2_isOn rfl rfl ⟨Nat.le_of_ble_eq_true rfl, Nat.le_of_ble_eq_true rfl⟩, hts _ wv_X2_isOn, hts _ wl_X2_isOn⟩ (P0.preV hC hS hH (Hp.recv hC.1 hH (1, i, 0) ⟨c17, rfl⟩ rfl rfl)) rfl rfl hl.1 rfl (lv_room (Nat.le_of_ble_eq_true rfl)) dX4_countTraffic_27 ⟨Nat.le_of_ble_eq_true rfl, Nat.le_of_ble_eq_true rfl⟩) ?_
      refine W.eq (g2 := F0 m 30 ls [.int (b2 (onB (ctrG g i) i))]) rfl ?_
      refine lv_if_eq (tgt := 48) hx hb dX4_countTraffic_30 (by decide) (fun c30 => ?_) (fun c30 => ?_)
      · skip
        have c30 := b2_0.mp c30
        refine lv_iinc (v := nI (i + 1)) (lv' := [(3, .int (nI (i + 1))), (4, .ref (ad (1, i, 0))), (0, .ref (ad (0, 0, 0))), (1, .ref (ad (0, 1, 0))), (2, .int (nI 8))]) hx hb dX4_countTraffic_48 hl (k := 4) rfl (by rw [← nI_add]; rfl) (by decide) rfl (fun ls hl => ?_)
        refine lv_goto (tgt := 10) hx hb dX4_countTraffic_51 (by decide) ?_
        have h9 : ctrG g (i + 1) = (ctrG g i) := by simp [ctrG, c17, c30]
        exact ih H locs _ _ ls ⟨rfl, rfl, by rw [h9]; exact hH, hS, lv_sub hl [2, 3, 4, 0] rfl⟩
      · skip
        have c30 := b2_n0.mp c30
        refine lv_aload hx hb dX4_countTraffic_33 (lv_at hl 0 rfl) ?_
        refine lv_dup hx hb dX4_countTraffic_35 rfl ?_
        refine g2N hx hb hts hown hC hH i c17 12 (by decide) wf_X4_125 (v := .int ((ctrG g i).1 12 i)) rfl dX4_countTraffic_36 ?_
        refine lv_aload hx hb dX4_countTraffic_39 (lv_at hl 0 rfl) ?_
        refine g2N hx hb hts hown hC hH i c17 9 (by decide) wf_X4_116 (v := .int ((ctrG g i).1 9 i)) rfl dX4_countTraffic_41 ?_
        refine lv_iadd hx hb dX4_countTraffic_44 ?_
        refine p2N hx hb hts hown hC hH hS i c17 12 (by decide) (by decide) rfl wf_X4_125 rfl rfl dX4_countTraffic_45 (fun H locs (hH : Wo D k b ad (sx (ctrG g i) 12 i (((ctrG g i).1 12 i) + ((ctrG g i).1 9 i))) M o H) hS => ?_)
        refine lv_iinc (v := nI (i + 1)) (lv' := [(3, .int (nI (i + 1))), (4, .ref (ad (1, i, 0))), (0, .ref (ad (0, 0, 0))), (1, .ref (ad (0, 1, 0))), (2, .int (nI 8))]) hx hb dX4_countTraffic_48 hl (k := 4) rfl (by rw [← nI_add]; rfl) (by decide) rfl (fun ls hl => ?_)
        refine lv_goto (tgt := 10) hx hb dX4_countTraffic_51 (by decide) ?_
        have h9 : ctrG g (i + 1) = sx (ctrG g i) 12 i (((ctrG g i).1 12 i) + ((ctrG g i).1 9 i)) := by simp [ctrG, c17, c30]
        exact ih H locs _ _ ls ⟨rfl, rfl, by rw [h9]; exact hH, hS, lv_sub hl [2, 3, 4, 0] rfl⟩
    · skip
      refine W.eq (g2 := F0 m 18 ls [.null]) (by simp [maO, c17, va_rf]) ?_
      refine lv_astoreN (lv' := [(4, .null), (0, .ref (ad (0, 0, 0))), (1, .ref (ad (0, 1, 0))), (2, .int (nI 8)), (3, .int (nI i))]) hx hb dX4_countTraffic_18 hl (by decide) rfl (fun ls hl => ?_)
      refine lv_aloadN hx hb dX4_countTraffic_20 (lv_at hl 0 rfl) ?_
      refine lv_ifnullN (tgt := 48) hx hb dX4_countTraffic_22 (by decide) ?_
      refine lv_iinc (v := nI (i + 1)) (lv' := [(3, .int (nI (i + 1))), (4, .null), (0, .ref (ad (0, 0, 0))), (1, .ref (ad (0, 1, 0))), (2, .int (nI 8))]) hx hb dX4_countTraffic_48 hl (k := 4) rfl (by rw [← nI_add]; rfl) (by decide) rfl (fun ls hl => ?_)
      refine lv_goto (tgt := 10) hx hb dX4_countTraffic_51 (by decide) ?_
      have h9 : ctrG g (i + 1) = (ctrG g i) := by simp [ctrG, c17]
      exact ih H locs _ _ ls ⟨rfl, rfl, by rw [h9]; exact hH, hS, lv_sub hl [2, 3, 4, 0] rfl⟩
  · skip
    obtain ⟨rfl, rfl, hH, hS, hl⟩ := hJ0
    refine lv_iload_n hx hb dX4_countTraffic_10 rfl (lv_at hl 3 rfl) ?_
    refine lv_iload_n hx hb dX4_countTraffic_11 rfl (lv_at hl 2 rfl) ?_
    refine lv_icmp_ge (tgt := 54) hx hb dX4_countTraffic_12 (by decide) (fun c12 => ?_) (fun c12 => absurd (nI_le (Nat.le_refl _) (by decide)) c12)
    exact e_wv hx hb hr hlocks hS (by exact hH) (Nat.le_refl _) (Nat.le_refl _) dX4_countTraffic_54

set_option maxHeartbeats 4000000 in
set_option maxRecDepth 100000 in
theorem mX4_payRents (l : Launch) {D : va_G} {k : Nat → ClassId} {b : Nat} {ad : Tg → Nat} {g : XS} {M : MF} {o : OF}  : Met l yX4_payRents (WS yX4_payRents cX4_payRents 5 none) ({ frames := 4, cells := 0, slots := 0, locals := 88 }) (P0 D k b (Wo D k b ad g M o) [.ref (ad (0, 0, 0))]) (Qw b none (Wo D k b ad (prsG g 8) M o)) 0 0 (Fb b) := by
  refine Met0 (by decide +kernel) (Nat.le_of_ble_eq_true rfl) (fun p e s m below meth c ls hx hb hr hts hown hml hlocks hnm hC hH hl => ?_)
  have hS : va_S (Fb b) s.heap s.heap [] := va_S.rf
  have hl : lv_has ls 5 [(0, .ref (ad (0, 0, 0)))] := hl
  refine lv_aload_n hx hb dX4_payRents_0 rfl (lv_at hl 0 rfl) ?_
  refine g4 hx hb hts hown hC hH 0 (by decide) wf_X4_11 (v := .ref (ad (0, 1, 0))) rfl dX4_payRents_1 ?_
  refine lv_astore_n (lv' := [(1, .ref (ad (0, 1, 0))), (0, .ref (ad (0, 0, 0)))]) hx hb dX4_payRents_4 rfl hl (by decide) rfl (fun ls hl => ?_)
  refine lv_aload_n hx hb dX4_payRents_5 rfl (lv_at hl 0 rfl) ?_
  refine mLen hx hb hC hH dX4_payRents_6 ?_
  refine lv_istore_n (lv' := [(2, .int (nI 8)), (1, .ref (ad (0, 1, 0))), (0, .ref (ad (0, 0, 0)))]) hx hb dX4_payRents_7 rfl hl (by decide) rfl (fun ls hl => ?_)
  refine lv_iconst (v := nI 0) hx hb dX4_payRents_8 (by decide) ?_
  refine lv_istore_n (lv' := [(3, .int (nI 0)), (2, .int (nI 8)), (1, .ref (ad (0, 1, 0))), (0, .ref (ad (0, 0, 0)))]) hx hb dX4_payRents_9 rfl hl (by decide) rfl (fun ls hl => ?_)
  refine loop_w 8 (fun i H locs cells slots ls => cells = 0 ∧ slots = 0 ∧ Wo D k b ad (prsG g i) M o H ∧ va_S (Fb b) s.heap H locs ∧ lv_has ls 5 [(0, .ref (ad (0, 0, 0))), (1, .ref (ad (0, 1, 0))), (2, .int (nI 8)), (3, .int (nI i))]) (fun i hi H locs cells slots ls hJ0 ih => ?_) (fun H locs cells slots ls hJ0 => ?_) ⟨rfl, rfl, hH, hS, lv_sub hl [3, 2, 1, 0] rfl⟩
  · skip
    obtain ⟨rfl, rfl, hH, hS, hl⟩ := hJ0
    refine lv_iload_n hx hb dX4_payRents_10 rfl (lv_at hl 3 rfl) ?_
    refine lv_iload_n hx hb dX4_payRents_11 rfl (lv_at hl 2 rfl) ?_
    refine lv_icmp_ge (tgt := 53) hx hb dX4_payRents_12 (by decide) (fun c12 => absurd c12 (nI_ge hi (by decide))) (fun c12 => ?_)
    refine lv_aload_n hx hb dX4_payRents_15 rfl (lv_at hl 1 rfl) ?_
    refine lv_iload_n hx hb dX4_payRents_16 rfl (lv_at hl 3 rfl) ?_
    refine mLd hx hb hC hH (i := i) hi dX4_payRents_17 ?_
    by_cases c17 : i < (prsG g i).2.1 0 0
    · skip
      refine W.eq (g2 := F0 m 18 ls [.ref (ad (1, i, 0))]) (by simp [maO, c17, va_rf]) ?_
      refine lv_astore (lv' := [(4, .ref (ad (1, i, 0))), (0, .ref (ad (0, 0, 0))), (1, .ref (ad (0, 1, 0))), (2, .int (nI 8)), (3, .int (nI i))]) hx hb dX4_payRents_18 hl (by decide) rfl (fun ls hl => ?_)
      refine lv_aload hx hb dX4_payRents_20 (lv_at hl 0 rfl) ?_
      refine lv_ifnull hx hb dX4_payRents_22 ?_
      refine lv_aload hx hb dX4_payRents_25 (lv_at hl 0 rfl) ?_
      refine g2N hx hb hts hown hC hH i c17 7 (by decide) wf_X4_56 (v := va_rf (lsO ad i ((prsG g i).2.1 2 i))) rfl dX4_payRents_27 ?_
      by_cases c27 : (prsG g i).2.1 2 i = 0
      · skip
        refine W.eq (g2 := F0 m 30 ls [.null]) (by simp [lsO, va_rf, c27]) ?_
        refine lv_ifnullN (tgt := 47) hx hb dX4_payRents_30 (by decide) ?_
        refine lv_iinc (v := nI (i + 1)) (lv' := [(3, .int (nI (i + 1))), (4, .ref (ad (1, i, 0))), (0, .ref (ad (0, 0, 0))), (1, .ref (ad (0, 1, 0))), (2, .int (nI 8))]) hx hb dX4_payRents_47 hl (k := 4) rfl (by rw [← nI_add]; rfl) (by decide) rfl (fun ls hl => ?_)
        refine lv_goto (tgt := 10) hx hb dX4_payRents_50 (by decide) ?_
        have h9 : prsG g (i + 1) = (prsG g i) := by simp [prsG, c17, c27]
        exact ih H locs _ _ ls ⟨rfl, rfl, by rw [h9]; exact hH, hS, lv_sub hl [2, 3, 4, 0] rfl⟩
      · skip
        refine W.eq (g2 := F0 m 30 ls [.ref (ad (3, i, 0))]) (by simp [lsO, va_rf, c27]) ?_
        refine lv_ifnull hx hb dX4_payRents_30 ?_
        refine lv_aload_n hx hb dX4_payRents_33 rfl (lv_at hl 1 rfl) ?_
        refine lv_aload hx hb dX4_payRents_34 (lv_at hl 0 rfl) ?_
        refine g2N hx hb hts hown hC hH i c17 7 (by decide) wf_X4_56 (v := va_rf (lsO ad i ((prsG g i).2.1 2 i))) rfl dX4_payRents_36 ?_
        refine W.eq (g2 := F0 m 39 ls [.ref (ad (3, i, 0)), .ref (ad (0, 0, 0))]) (by simp [lsO, va_rf, c27]) ?_
        refine lv_aload hx hb dX4_payRents_39 (lv_at hl 0 rfl) ?_
        refine g2N hx hb hts hown hC hH i c17 9 (by decide) wf_X4_116 (v := .int ((prsG g i).1 9 i)) rfl dX4_payRents_41 ?_
        refine k_w (va_runV (As := [.ref (ad (3, i, 0)), .int ((prsG g i).1 9 i)]) (rest := []) ⟨hx, hb, hml, hown, hts⟩ (mX4_payRent l i c17 c27 ((prsG g i).1 9 i)) ⟨cb_of hts wk_X4_payRent wi_X4 wm_X4_171 sd_X4_payRent rfl rfl ⟨Nat.le_of_ble_eq_true rfl, Nat.le_of_ble_eq_true rfl⟩, hts _ wv_X4_payRent, hts _ wl_X4_payRent⟩ (P0.preV hC hS hH (Hp.recv hC.1 hH (0, 0, 0) ⟨by decide, rfl⟩ rfl rfl)) rfl rfl hl.1 rfl (lv_room (Nat.le_of_ble_eq_true rfl)) dX4_payRents_44 ⟨Nat.le_of_ble_eq_true rfl, Nat.le_of_ble_eq_true rfl⟩) hS (fun H locs hH hS => ?_)
        refine W.eq (g2 := F0 m 47 ls []) rfl ?_
        refine lv_iinc (v := nI (i + 1)) (lv' := [(3, .int (nI (i + 1))), (4, .ref (ad (1, i, 0))), (0, .ref (ad (0, 0, 0))), (1, .ref (ad (0, 1, 0))), (2, .int (nI 8))]) hx hb dX4_payRents_47 hl (k := 4) rfl (by rw [← nI_add]; rfl) (by decide) rfl (fun ls hl => ?_)
        refine lv_goto (tgt := 10) hx hb dX4_payRents_50 (by decide) ?_
        have h9 : prsG g (i + 1) = prnG (prsG g i) i ((prsG g i).1 9 i) := by simp [prsG, c17, c27]
        exact ih H locs _ _ ls ⟨rfl, rfl, by rw [h9]; exact hH, hS, lv_sub hl [2, 3, 4, 0] rfl⟩
    · skip
      refine W.eq (g2 := F0 m 18 ls [.null]) (by simp [maO, c17, va_rf]) ?_
      refine lv_astoreN (lv' := [(4, .null), (0, .ref (ad (0, 0, 0))), (1, .ref (ad (0, 1, 0))), (2, .int (nI 8)), (3, .int (nI i))]) hx hb dX4_payRents_18 hl (by decide) rfl (fun ls hl => ?_)
      refine lv_aloadN hx hb dX4_payRents_20 (lv_at hl 0 rfl) ?_
      refine lv_ifnullN (tgt := 47) hx hb dX4_payRents_22 (by decide) ?_
      refine lv_iinc (v := nI (i + 1)) (lv' := [(3, .int (nI (i + 1))), (4, .null), (0, .ref (ad (0, 0, 0))), (1, .ref (ad (0, 1, 0))), (2, .int (nI 8))]) hx hb dX4_payRents_47 hl (k := 4) rfl (by rw [← nI_add]; rfl) (by decide) rfl (fun ls hl => ?_)
      refine lv_goto (tgt := 10) hx hb dX4_payRents_50 (by decide) ?_
      have h9 : prsG g (i + 1) = (prsG g i) := by simp [prsG, c17]
      exact ih H locs _ _ ls ⟨rfl, rfl, by rw [h9]; exact hH, hS, lv_sub hl [2, 3, 4, 0] rfl⟩
  · skip
    obtain ⟨rfl, rfl, hH, hS, hl⟩ := hJ0
    refine lv_iload_n hx hb dX4_payRents_10 rfl (lv_at hl 3 rfl) ?_
    refine lv_iload_n hx hb dX4_payRents_11 rfl (lv_at hl 2 rfl) ?_
    refine lv_icmp_ge (tgt := 53) hx hb dX4_payRents_12 (by decide) (fun c12 => ?_) (fun c12 => absurd (nI_le (Nat.le_refl _) (by decide)) c12)
    exact e_wv hx hb hr hlocks hS (by exact hH) (Nat.le_refl _) (Nat.le_refl _) dX4_payRents_53

set_option maxHeartbeats 4000000 in
set_option maxRecDepth 100000 in
theorem mX4_powerMasts (l : Launch) {D : va_G} {k : Nat → ClassId} {b : Nat} {ad : Tg → Nat} {g : XS} {M : MF} {o : OF}  : Met l yX4_powerMasts (WS yX4_powerMasts cX4_powerMasts 5 none) ({ frames := 2, cells := 0, slots := 0, locals := 37 }) (P0 D k b (Wo D k b ad g M o) [.ref (ad (0, 0, 0))]) (Qw b none (Wo D k b ad (pwsG g 8) M o)) 0 0 (Fb b) := by
  refine Met0 (by decide +kernel) (Nat.le_of_ble_eq_true rfl) (fun p e s m below meth c ls hx hb hr hts hown hml hlocks hnm hC hH hl => ?_)
  have hS : va_S (Fb b) s.heap s.heap [] := va_S.rf
  have hl : lv_has ls 5 [(0, .ref (ad (0, 0, 0)))] := hl
  refine lv_aload_n hx hb dX4_powerMasts_0 rfl (lv_at hl 0 rfl) ?_
  refine g4 hx hb hts hown hC hH 0 (by decide) wf_X4_11 (v := .ref (ad (0, 1, 0))) rfl dX4_powerMasts_1 ?_
  refine lv_astore_n (lv' := [(1, .ref (ad (0, 1, 0))), (0, .ref (ad (0, 0, 0)))]) hx hb dX4_powerMasts_4 rfl hl (by decide) rfl (fun ls hl => ?_)
  refine lv_aload_n hx hb dX4_powerMasts_5 rfl (lv_at hl 0 rfl) ?_
  refine mLen hx hb hC hH dX4_powerMasts_6 ?_
  refine lv_istore_n (lv' := [(2, .int (nI 8)), (1, .ref (ad (0, 1, 0))), (0, .ref (ad (0, 0, 0)))]) hx hb dX4_powerMasts_7 rfl hl (by decide) rfl (fun ls hl => ?_)
  refine lv_iconst (v := nI 0) hx hb dX4_powerMasts_8 (by decide) ?_
  refine lv_istore_n (lv' := [(3, .int (nI 0)), (2, .int (nI 8)), (1, .ref (ad (0, 1, 0))), (0, .ref (ad (0, 0, 0)))]) hx hb dX4_powerMasts_9 rfl hl (by decide) rfl (fun ls hl => ?_)
  refine loop_w 8 (fun i H locs cells slots ls => cells = 0 ∧ slots = 0 ∧ Wo D k b ad (pwsG g i) M o H ∧ va_S (Fb b) s.heap H locs ∧ lv_has ls 5 [(0, .ref (ad (0, 0, 0))), (1, .ref (ad (0, 1, 0))), (2, .int (nI 8)), (3, .int (nI i))]) (fun i hi H locs cells slots ls hJ0 ih => ?_) (fun H locs cells slots ls hJ0 => ?_) ⟨rfl, rfl, hH, hS, lv_sub hl [3, 2, 1, 0] rfl⟩
  · skip
    obtain ⟨rfl, rfl, hH, hS, hl⟩ := hJ0
    refine lv_iload_n hx hb dX4_powerMasts_10 rfl (lv_at hl 3 rfl) ?_
    refine lv_iload_n hx hb dX4_powerMasts_11 rfl (lv_at hl 2 rfl) ?_
    refine lv_icmp_ge (tgt := 40) hx hb dX4_powerMasts_12 (by decide) (fun c12 => absurd c12 (nI_ge hi (by decide))) (fun c12 => ?_)
    refine lv_aload_n hx hb dX4_powerMasts_15 rfl (lv_at hl 1 rfl) ?_
    refine lv_iload_n hx hb dX4_powerMasts_16 rfl (lv_at hl 3 rfl) ?_
    refine mLd hx hb hC hH (i := i) hi dX4_powerMasts_17 ?_
    by_cases c17 : i < (pwsG g i).2.1 0 0
    · skip
      refine W.eq (g2 := F0 m 18 ls [.ref (ad (1, i, 0))]) (by simp [maO, c17, va_rf]) ?_
      refine lv_astore (lv' := [(4, .ref (ad (1, i, 0))), (0, .ref (ad (0, 0, 0))), (1, .ref (ad (0, 1, 0))), (2, .int (nI 8)), (3, .int (nI i))]) hx hb dX4_powerMasts_18 hl (by decide) rfl (fun ls hl => ?_)
      refine lv_aload hx hb dX4_powerMasts_20 (lv_at hl 0 rfl) ?_
      refine lv_ifnull hx hb dX4_powerMasts_22 ?_
      refine lv_aload hx hb dX4_powerMasts_25 (lv_at hl 0 rfl) ?_
      refine lv_aload_n hx hb dX4_powerMasts_27 rfl (lv_at hl 1 rfl) ?_
      refine g4 hx hb hts hown hC hH 4 (by decide) wf_X4_65 (v := .int ((pwsG g i).1 41 0)) rfl dX4_powerMasts_28 ?_
      refine k_w (va_runVN (As := [.int ((pwsG g i).1 41 0)]) (rest := []) ⟨hx, hb, hml, hown, hts⟩ (mX2_takePower l i c17 ((pwsG g i).1 41 0)) ⟨cn_of hts wk_X2_takePower wi_X2 wm_X4_194 sd_X2_takePower rfl rfl ⟨Nat.le_of_ble_eq_true rfl, Nat.le_of_ble_eq_true rfl⟩, hts _ wv_X2_takePower, hts _ wl_X2_takePower⟩ (P0.preV hC hS hH (Hp.recv hC.1 hH (1, i, 0) ⟨c17, rfl⟩ rfl rfl)) rfl rfl hl.1 rfl (lv_room (Nat.le_of_ble_eq_true rfl)) dX4_powerMasts_31 ⟨Nat.le_of_ble_eq_true rfl, Nat.le_of_ble_eq_true rfl⟩) hS (fun H locs hH hS => ?_)
      refine W.eq (g2 := F0 m 34 ls []) rfl ?_
      refine lv_iinc (v := nI (i + 1)) (lv' := [(3, .int (nI (i + 1))), (4, .ref (ad (1, i, 0))), (0, .ref (ad (0, 0, 0))), (1, .ref (ad (0, 1, 0))), (2, .int (nI 8))]) hx hb dX4_powerMasts_34 hl (k := 4) rfl (by rw [← nI_add]; rfl) (by decide) rfl (fun ls hl => ?_)
      refine lv_goto (tgt := 10) hx hb dX4_powerMasts_37 (by decide) ?_
      have h9 : pwsG g (i + 1) = tkpG (pwsG g i) i ((pwsG g i).1 41 0) := by simp [pwsG, c17]
      exact ih H locs _ _ ls ⟨rfl, rfl, by rw [h9]; exact hH, hS, lv_sub hl [2, 3, 4, 0] rfl⟩
    · skip
      refine W.eq (g2 := F0 m 18 ls [.null]) (by simp [maO, c17, va_rf]) ?_
      refine lv_astoreN (lv' := [(4, .null), (0, .ref (ad (0, 0, 0))), (1, .ref (ad (0, 1, 0))), (2, .int (nI 8)), (3, .int (nI i))]) hx hb dX4_powerMasts_18 hl (by decide) rfl (fun ls hl => ?_)
      refine lv_aloadN hx hb dX4_powerMasts_20 (lv_at hl 0 rfl) ?_
      refine lv_ifnullN (tgt := 34) hx hb dX4_powerMasts_22 (by decide) ?_
      refine lv_iinc (v := nI (i + 1)) (lv' := [(3, .int (nI (i + 1))), (4, .null), (0, .ref (ad (0, 0, 0))), (1, .ref (ad (0, 1, 0))), (2, .int (nI 8))]) hx hb dX4_powerMasts_34 hl (k := 4) rfl (by rw [← nI_add]; rfl) (by decide) rfl (fun ls hl => ?_)
      refine lv_goto (tgt := 10) hx hb dX4_powerMasts_37 (by decide) ?_
      have h9 : pwsG g (i + 1) = (pwsG g i) := by simp [pwsG, c17]
      exact ih H locs _ _ ls ⟨rfl, rfl, by rw [h9]; exact hH, hS, lv_sub hl [2, 3, 4, 0] rfl⟩
  · skip
    obtain ⟨rfl, rfl, hH, hS, hl⟩ := hJ0
    refine lv_iload_n hx hb dX4_powerMasts_10 rfl (lv_at hl 3 rfl) ?_
    refine lv_iload_n hx hb dX4_powerMasts_11 rfl (lv_at hl 2 rfl) ?_
    refine lv_icmp_ge (tgt := 40) hx hb dX4_powerMasts_12 (by decide) (fun c12 => ?_) (fun c12 => absurd (nI_le (Nat.le_refl _) (by decide)) c12)
    exact e_wv hx hb hr hlocks hS (by exact hH) (Nat.le_refl _) (Nat.le_refl _) dX4_powerMasts_40

set_option maxHeartbeats 4000000 in
set_option maxRecDepth 100000 in
theorem mX4_endLeases (l : Launch) {D : va_G} {k : Nat → ClassId} {b : Nat} {ad : Tg → Nat} {g : XS} {M : MF} {o : OF}  : Met l yX4_endLeases (WS yX4_endLeases cX4_endLeases 5 none) ({ frames := 0, cells := 0, slots := 0, locals := 0 }) (P0 D k b (Wo D k b ad g M o) [.ref (ad (0, 0, 0))]) (Qw b none (Wo D k b ad (elsG g 8) M o)) 0 0 (Fb b) := by
  refine Met0 (by decide +kernel) (Nat.le_of_ble_eq_true rfl) (fun p e s m below meth c ls hx hb hr hts hown hml hlocks hnm hC hH hl => ?_)
  have hS : va_S (Fb b) s.heap s.heap [] := va_S.rf
  have hl : lv_has ls 5 [(0, .ref (ad (0, 0, 0)))] := hl
  refine lv_aload_n hx hb dX4_endLeases_0 rfl (lv_at hl 0 rfl) ?_
  refine g4 hx hb hts hown hC hH 0 (by decide) wf_X4_11 (v := .ref (ad (0, 1, 0))) rfl dX4_endLeases_1 ?_
  refine lv_astore_n (lv' := [(1, .ref (ad (0, 1, 0))), (0, .ref (ad (0, 0, 0)))]) hx hb dX4_endLeases_4 rfl hl (by decide) rfl (fun ls hl => ?_)
  refine lv_aload_n hx hb dX4_endLeases_5 rfl (lv_at hl 0 rfl) ?_
  refine mLen hx hb hC hH dX4_endLeases_6 ?_
  refine lv_istore_n (lv' := [(2, .int (nI 8)), (1, .ref (ad (0, 1, 0))), (0, .ref (ad (0, 0, 0)))]) hx hb dX4_endLeases_7 rfl hl (by decide) rfl (fun ls hl => ?_)
  refine lv_iconst (v := nI 0) hx hb dX4_endLeases_8 (by decide) ?_
  refine lv_istore_n (lv' := [(3, .int (nI 0)), (2, .int (nI 8)), (1, .ref (ad (0, 1, 0))), (0, .ref (ad (0, 0, 0)))]) hx hb dX4_endLeases_9 rfl hl (by decide) rfl (fun ls hl => ?_)
  refine loop_w 8 (fun i H locs cells slots ls => cells = 0 ∧ slots = 0 ∧ Wo D k b ad (elsG g i) M o H ∧ va_S (Fb b) s.heap H locs ∧ lv_has ls 5 [(0, .ref (ad (0, 0, 0))), (1, .ref (ad (0, 1, 0))), (2, .int (nI 8)), (3, .int (nI i))]) (fun i hi H locs cells slots ls hJ0 ih => ?_) (fun H locs cells slots ls hJ0 => ?_) ⟨rfl, rfl, hH, hS, lv_sub hl [3, 2, 1, 0] rfl⟩
  · skip
    obtain ⟨rfl, rfl, hH, hS, hl⟩ := hJ0
    refine lv_iload_n hx hb dX4_endLeases_10 rfl (lv_at hl 3 rfl) ?_
    refine lv_iload_n hx hb dX4_endLeases_11 rfl (lv_at hl 2 rfl) ?_
    refine lv_icmp_ge (tgt := 60) hx hb dX4_endLeases_12 (by decide) (fun c12 => absurd c12 (nI_ge hi (by decide))) (fun c12 => ?_)
    refine lv_aload_n hx hb dX4_endLeases_15 rfl (lv_at hl 1 rfl) ?_
    refine lv_iload_n hx hb dX4_endLeases_16 rfl (lv_at hl 3 rfl) ?_
    refine mLd hx hb hC hH (i := i) hi dX4_endLeases_17 ?_
    by_cases c17 : i < (elsG g i).2.1 0 0
    · skip
      refine W.eq (g2 := F0 m 18 ls [.ref (ad (1, i, 0))]) (by simp [maO, c17, va_rf]) ?_
      refine lv_astore (lv' := [(4, .ref (ad (1, i, 0))), (0, .ref (ad (0, 0, 0))), (1, .ref (ad (0, 1, 0))), (2, .int (nI 8)), (3, .int (nI i))]) hx hb dX4_endLeases_18 hl (by decide) rfl (fun ls hl => ?_)
      refine lv_aload hx hb dX4_endLeases_20 (lv_at hl 0 rfl) ?_
      refine lv_ifnull hx hb dX4_endLeases_22 ?_
      refine lv_aload hx hb dX4_endLeases_25 (lv_at hl 0 rfl) ?_
      refine g2N hx hb hts hown hC hH i c17 7 (by decide) wf_X4_56 (v := va_rf (lsO ad i ((elsG g i).2.1 2 i))) rfl dX4_endLeases_27 ?_
      by_cases c27 : (elsG g i).2.1 2 i = 0
      · skip
        refine W.eq (g2 := F0 m 30 ls [.null]) (by simp [lsO, va_rf, c27]) ?_
        refine lv_ifnullN (tgt := 54) hx hb dX4_endLeases_30 (by decide) ?_
        refine lv_iinc (v := nI (i + 1)) (lv' := [(3, .int (nI (i + 1))), (4, .ref (ad (1, i, 0))), (0, .ref (ad (0, 0, 0))), (1, .ref (ad (0, 1, 0))), (2, .int (nI 8))]) hx hb dX4_endLeases_54 hl (k := 4) rfl (by rw [← nI_add]; rfl) (by decide) rfl (fun ls hl => ?_)
        refine lv_goto (tgt := 10) hx hb dX4_endLeases_57 (by decide) ?_
        have h9 : elsG g (i + 1) = (elsG g i) := by simp [elsG, c17, c27]
        exact ih H locs _ _ ls ⟨rfl, rfl, by rw [h9]; exact hH, hS, lv_sub hl [2, 3, 4, 0] rfl⟩
      · skip
        refine W.eq (g2 := F0 m 30 ls [.ref (ad (3, i, 0))]) (by simp [lsO, va_rf, c27]) ?_
        refine lv_ifnull hx hb dX4_endLeases_30 ?_
        refine lv_aload hx hb dX4_endLeases_33 (lv_at hl 0 rfl) ?_
        refine g2N hx hb hts hown hC hH i c17 7 (by decide) wf_X4_56 (v := va_rf (lsO ad i ((elsG g i).2.1 2 i))) rfl dX4_endLeases_35 ?_
        refine W.eq (g2 := F0 m 38 ls [.ref (ad (3, i, 0))]) (by simp [lsO, va_rf, c27]) ?_
        refine g0N hx hb hts hown hC hH i c17 c27 3 (by decide) wf_X4_128 (v := .int ((elsG g i).1 23 i)) rfl dX4_endLeases_38 ?_
        refine lv_aload_n hx hb dX4_endLeases_41 rfl (lv_at hl 1 rfl) ?_
        refine g4 hx hb hts hown hC hH 3 (by decide) wf_X4_52 (v := .int ((elsG g i).1 40 0)) rfl dX4_endLeases_42 ?_
        refine lv_icmp_gt (tgt := 54) hx hb dX4_endLeases_45 (by decide) (fun c45 => ?_) (fun c45 => ?_)
        · skip
          have c45x := Int32.not_le.mpr c45
          refine lv_iinc (v := nI (i + 1)) (lv' := [(3, .int (nI (i + 1))), (4, .ref (ad (1, i, 0))), (0, .ref (ad (0, 0, 0))), (1, .ref (ad (0, 1, 0))), (2, .int (nI 8))]) hx hb dX4_endLeases_54 hl (k := 4) rfl (by rw [← nI_add]; rfl) (by decide) rfl (fun ls hl => ?_)
          refine lv_goto (tgt := 10) hx hb dX4_endLeases_57 (by decide) ?_
          have h9 : elsG g (i + 1) = (elsG g i) := by simp [elsG, c17, c27, c45, c45x]
          exact ih H locs _ _ ls ⟨rfl, rfl, by rw [h9]; exact hH, hS, lv_sub hl [2, 3, 4, 0] rfl⟩
        · skip
          have c45x := Int32.not_lt.mp c45
          refine lv_aload hx hb dX4_endLeases_48 (lv_at hl 0 rfl) ?_
          refine lv_null hx hb dX4_endLeases_50 ?_
          refine p2E hx hb hts hown hC hH hS i c17 wf_X4_56 dX4_endLeases_51 (fun H locs (hH : Wo D k b ad (sn (elsG g i) 2 i 0) M o H) hS => ?_)
          refine lv_iinc (v := nI (i + 1)) (lv' := [(3, .int (nI (i + 1))), (4, .ref (ad (1, i, 0))), (0, .ref (ad (0, 0, 0))), (1, .ref (ad (0, 1, 0))), (2, .int (nI 8))]) hx hb dX4_endLeases_54 hl (k := 4) rfl (by rw [← nI_add]; rfl) (by decide) rfl (fun ls hl => ?_)
          refine lv_goto (tgt := 10) hx hb dX4_endLeases_57 (by decide) ?_
          have h9 : elsG g (i + 1) = sn (elsG g i) 2 i 0 := by simp [elsG, c17, c27, c45, c45x]
          exact ih H locs _ _ ls ⟨rfl, rfl, by rw [h9]; exact hH, hS, lv_sub hl [2, 3, 4, 0] rfl⟩
    · skip
      refine W.eq (g2 := F0 m 18 ls [.null]) (by simp [maO, c17, va_rf]) ?_
      refine lv_astoreN (lv' := [(4, .null), (0, .ref (ad (0, 0, 0))), (1, .ref (ad (0, 1, 0))), (2, .int (nI 8)), (3, .int (nI i))]) hx hb dX4_endLeases_18 hl (by decide) rfl (fun ls hl => ?_)
      refine lv_aloadN hx hb dX4_endLeases_20 (lv_at hl 0 rfl) ?_
      refine lv_ifnullN (tgt := 54) hx hb dX4_endLeases_22 (by decide) ?_
      refine lv_iinc (v := nI (i + 1)) (lv' := [(3, .int (nI (i + 1))), (4, .null), (0, .ref (ad (0, 0, 0))), (1, .ref (ad (0, 1, 0))), (2, .int (nI 8))]) hx hb dX4_endLeases_54 hl (k := 4) rfl (by rw [← nI_add]; rfl) (by decide) rfl (fun ls hl => ?_)
      refine lv_goto (tgt := 10) hx hb dX4_endLeases_57 (by decide) ?_
      have h9 : elsG g (i + 1) = (elsG g i) := by simp [elsG, c17]
      exact ih H locs _ _ ls ⟨rfl, rfl, by rw [h9]; exact hH, hS, lv_sub hl [2, 3, 4, 0] rfl⟩
  · skip
    obtain ⟨rfl, rfl, hH, hS, hl⟩ := hJ0
    refine lv_iload_n hx hb dX4_endLeases_10 rfl (lv_at hl 3 rfl) ?_
    refine lv_iload_n hx hb dX4_endLeases_11 rfl (lv_at hl 2 rfl) ?_
    refine lv_icmp_ge (tgt := 60) hx hb dX4_endLeases_12 (by decide) (fun c12 => ?_) (fun c12 => absurd (nI_le (Nat.le_refl _) (by decide)) c12)
    exact e_wv hx hb hr hlocks hS (by exact hH) (Nat.le_refl _) (Nat.le_refl _) dX4_endLeases_60
end
section
/-! THE CLASS: the log grows; calls come and go; an hour goes by -/
/-- the addresses of what was there stay -/
def Ex (g : XS) (ad ad2 : Tg → Nat) : Prop := ∀ t : Tg, t.1 ≠ 3 → LW g.2.1 t → ad2 t = ad t
theorem Ex.rf {g : XS} {ad : Tg → Nat} : Ex g ad ad := fun _ _ _ => rfl
/-- nothing goes (but leases) -/
def Gr (g g' : XS) : Prop := g'.2.1 0 0 = g.2.1 0 0 ∧ g'.2.1 1 0 = g.2.1 1 0 ∧ ∀ i, g.2.1 4 i ≤ g'.2.1 4 i
theorem Gr.rf {g : XS} : Gr g g := ⟨rfl, rfl, fun _ => Nat.le_refl _⟩
theorem Gr.tr {g g' g2 : XS} (h : Gr g g') (h2 : Gr g' g2) : Gr g g2 := ⟨h2.1.trans h.1, h2.2.1.trans h.2.1, fun i => Nat.le_trans (h.2.2 i) (h2.2.2 i)⟩
theorem Gr.of {g g' : XS} (h : g'.2.1 = g.2.1) : Gr g g' := ⟨by rw [h], by rw [h], fun i => by rw [h]; exact Nat.le_refl _⟩
theorem Gr.lw {g g' : XS} (h : Gr g g') : ∀ t : Tg, t.1 ≠ 3 → LW g.2.1 t → LW g'.2.1 t := by
  obtain ⟨h0, h1, h4⟩ := h
  refine tg_all (fun a j _ h => h) (fun a j _ h => ⟨by rw [h0]; exact h.1, h.2⟩) (fun a j _ h => ⟨by rw [h1]; exact h.1, h.2⟩) (fun a j h _ => absurd rfl h) (fun a j _ h => ⟨by rw [h0]; exact h.1, Nat.lt_of_lt_of_le h.2 (h4 a)⟩) (fun a j _ h => ⟨by rw [h0]; exact h.1, Nat.lt_of_lt_of_le h.2 (h4 a)⟩) (fun a j _ h => ⟨by rw [h0]; exact h.1, Nat.lt_of_lt_of_le h.2 (h4 a)⟩) (fun a j _ h => h) (fun a j _ h => h) (fun a j _ h => h) (fun a i j _ h => h.elim)
theorem Ex.tr {g g' : XS} {ad ad1 ad2 : Tg → Nat} (h : Ex g ad ad1) (hg : Gr g g') (h2 : Ex g' ad1 ad2) : Ex g ad ad2 := fun t h3 ht => (h2 t h3 (hg.lw t h3 ht)).trans (h t h3 ht)
theorem Gr.log {g : XS} {i : Nat} {a z : Int32} : Gr g (logG g i a z) := by
  refine ⟨logG_n (by decide), logG_n (by decide), fun j => ?_⟩
  unfold logG
  split
  · exact Nat.le_refl _
  · show g.2.1 4 j ≤ up g.2.1 4 i (g.2.1 4 i + 1) 4 j
    by_cases e : j = i
    · subst e; rw [up_s]; omega
    · rw [up_i e]; exact Nat.le_refl _
theorem Gr.go {g : XS} {q : Nat} {h : Int32} : Gr g (goG g q h) := by
  refine ⟨goG_n (by decide) (by decide), goG_n (by decide) (by decide), fun j => ?_⟩
  exact (Gr.log (g := sx g 9 (g.2.1 3 q - 1) (g.1 9 (g.2.1 3 q - 1) - 1)) (i := g.2.1 3 q - 1) (a := g.1 32 q) (z := h)).2.2 j
theorem Gr.hnd {g : XS} {q : Nat} : Gr g (hndG g q) := by
  refine ⟨hndG_n (by decide) (by decide), hndG_n (by decide) (by decide), fun j => ?_⟩
  unfold hndG
  rw [hndA_n (by decide)]
  exact (Gr.go (g := g) (q := q) (h := g.1 40 0)).2.2 j
theorem Gr.lvs {g : XS} : ∀ q, Gr g (lvsG g q)
  | 0 => Gr.rf
  | q + 1 => by unfold lvsG; split; · exact (Gr.lvs q).tr Gr.hnd
                · exact Gr.lvs q
theorem Gr.els {g : XS} (i : Nat) : Gr g (elsG g i) := ⟨elsG_n (by decide) i, elsG_n (by decide) i, fun j => by rw [elsG_n (by decide) i]; exact Nat.le_refl _⟩
theorem Gr.hr {g : XS} : Gr g (hrG g) := by
  unfold hrG
  exact Gr.tr (Gr.of (g' := tkG (pwsG (prsG (ctrG g 8) 8) 8)) (by rw [tkG_n, pwsG_n, prsG_n, ctrG_n])) (Gr.tr (Gr.els 8) (Gr.lvs 12))
theorem Gr.hrs {g : XS} : ∀ j, Gr g (hrsG g j)
  | 0 => Gr.rf
  | j + 1 => (Gr.hrs j).tr Gr.hr
theorem bfO_cg {ad ad2 : Tg → Nat} {i z : Nat} (h : ∀ y, y < z → ad2 (4, i, y) = ad (4, i, y)) : bfO ad2 i z = bfO ad i z := by
  unfold bfO
  by_cases e : z = 0
  · rw [if_pos e, if_pos e]
  · rw [if_neg e, if_neg e, h _ (by omega)]
theorem eW_log {k : Nat → ClassId} {ad ad2 : Tg → Nat} {g : XS} {M : MF} {o : OF} {i j : Nat} {a0 a1 : Int32} (hj : j = g.2.1 4 i / 64) (hz : ¬ a1 ≤ a0) (hA : ∀ u : Tg, u ≠ (4, i, j) → u ≠ (5, i, j) → u ≠ (6, i, j) → ad2 u = ad u) : ∀ t, LW (logG g i a0 a1).2.1 t → t ≠ (4, i, j) → t ≠ (5, i, j) → t ≠ (6, i, j) → t ≠ (1, i, 0) → LW g.2.1 t ∧ ad2 t = ad t ∧ eW k ad2 (logG g i a0 a1) M o t = eW k ad g M o t := by
  rw [show logG g i a0 a1 = (g.1, up g.2.1 4 i (g.2.1 4 i + 1), ul (ul g.2.2 0 i (g.2.1 4 i) a0) 1 i (g.2.1 4 i) a1) from if_neg hz]
  have hB : ∀ a x y : Nat, a ≠ 4 → a ≠ 5 → a ≠ 6 → ad2 (a, x, y) = ad (a, x, y) := fun a x y h4 h5 h6 => hA _ (by simp [h4]) (by simp [h5]) (by simp [h6])
  have hls : ∀ x z, lsO ad2 x z = lsO ad x z := fun x z => by unfold lsO; rw [hB 3 _ _ (by decide) (by decide) (by decide)]
  have hmr : ∀ z, mrO ad2 z = mrO ad z := fun z => by unfold mrO; rw [hB 1 _ _ (by decide) (by decide) (by decide)]
  refine tg_all (fun a y h n4 n5 n6 n1 => ?_) (fun a y h n4 n5 n6 n1 => ?_) (fun a y h n4 n5 n6 n1 => ?_) (fun a y h n4 n5 n6 n1 => ?_) (fun a y h n4 n5 n6 n1 => ?_) (fun a y h n4 n5 n6 n1 => ?_) (fun a y h n4 n5 n6 n1 => ?_) (fun a y h n4 n5 n6 n1 => ?_) (fun a y h n4 n5 n6 n1 => ?_) (fun a y h n4 n5 n6 n1 => ?_) (fun a x y h => h.elim)
  · refine ⟨h, hA _ n4 n5 n6, ?_⟩
    match a with
    | 0 => simp only [eW, fX]; rw [hB 0 1 0 (by decide) (by decide) (by decide), hB 0 2 0 (by decide) (by decide) (by decide), hB 0 3 0 (by decide) (by decide) (by decide)]
    | 1 =>
      simp only [eW]
      rw [show maO (g.1, up g.2.1 4 i (g.2.1 4 i + 1), ul (ul g.2.2 0 i (g.2.1 4 i) a0) 1 i (g.2.1 4 i) a1) ad2 = maO g ad from funext fun x => by show (if x < g.2.1 0 0 then some (ad2 (1, x, 0)) else none) = _; rw [hB 1 _ _ (by decide) (by decide) (by decide)]; rfl]
    | 2 =>
      simp only [eW]
      rw [show phO (g.1, up g.2.1 4 i (g.2.1 4 i + 1), ul (ul g.2.2 0 i (g.2.1 4 i) a0) 1 i (g.2.1 4 i) a1) ad2 = phO g ad from funext fun x => by show (if x < g.2.1 1 0 then some (ad2 (2, x, 0)) else none) = _; rw [hB 2 _ _ (by decide) (by decide) (by decide)]; rfl]
    | a + 3 => rfl
  · refine ⟨h, hA _ n4 n5 n6, ?_⟩
    obtain ⟨-, rfl⟩ := h
    have e : a ≠ i := fun e => n1 (by rw [e])
    simp only [eW, fM]
    simp only [hls, up_i e]
    rw [show lgO ad2 a (g.2.1 4 a) = lgO ad a (g.2.1 4 a) from by unfold lgO; rw [hA _ (by simp [e]) (by simp) (by simp)]]
  · refine ⟨h, hA _ n4 n5 n6, ?_⟩
    simp only [eW, fP]
    rw [hmr]
    rfl
  · exact ⟨h, hA _ n4 n5 n6, rfl⟩
  · obtain ⟨h1, h2⟩ := h
    by_cases e : a = i
    · subst e
      have h3 : 64 * y < g.2.1 4 a + 1 := by
        have : 64 * y < up g.2.1 4 a (g.2.1 4 a + 1) 4 a := h2
        rwa [up_s] at this
      have hy : y ≠ j := fun q => n4 (by rw [q])
      refine ⟨⟨h1, by omega⟩, hA _ n4 n5 n6, ?_⟩
      simp only [eW, fG]
      rw [hA _ (by simp) (by simp [hy]) (by simp), hA _ (by simp) (by simp) (by simp [hy]), bfO_cg (ad := ad) (fun x hx => hA _ (by simp; omega) (by simp) (by simp)), up_s, show min 64 (g.2.1 4 a + 1 - 64 * y) = min 64 (g.2.1 4 a - 64 * y) by omega]
    · have h3 : 64 * y < g.2.1 4 a := by
        have : 64 * y < up g.2.1 4 i (g.2.1 4 i + 1) 4 a := h2
        rwa [up_i e] at this
      refine ⟨⟨h1, h3⟩, hA _ n4 n5 n6, ?_⟩
      simp only [eW, fG]
      rw [hA _ (by simp) (by simp [e]) (by simp), hA _ (by simp) (by simp) (by simp [e]), bfO_cg (ad := ad) (fun x hx => hA _ (by simp [e]) (by simp) (by simp)), up_i e]
  · obtain ⟨h1, h2⟩ := h
    have h3 : 64 * y < up g.2.1 4 i (g.2.1 4 i + 1) 4 a := h2
    by_cases e : a = i
    · subst e
      rw [up_s] at h3
      have hy : y ≠ j := fun q => n5 (by rw [q])
      refine ⟨⟨h1, by omega⟩, hA _ n4 n5 n6, ?_⟩
      simp only [eW]
      refine congrArg (fun f => Sum.inl (k 0, 64, Sum.inl f)) (funext fun q => ?_)
      unfold lcut
      by_cases hq : q < 64
      · rw [if_pos hq, if_pos hq]
        simp [ul, show ¬ 64 * y + q = g.2.1 4 a by omega]
      · rw [if_neg hq, if_neg hq]
    · rw [up_i e] at h3
      refine ⟨⟨h1, h3⟩, hA _ n4 n5 n6, ?_⟩
      simp only [eW]
      refine congrArg (fun f => Sum.inl (k 0, 64, Sum.inl f)) (funext fun q => ?_)
      unfold lcut
      simp [ul, e]
  · obtain ⟨h1, h2⟩ := h
    have h3 : 64 * y < up g.2.1 4 i (g.2.1 4 i + 1) 4 a := h2
    by_cases e : a = i
    · subst e
      rw [up_s] at h3
      have hy : y ≠ j := fun q => n6 (by rw [q])
      refine ⟨⟨h1, by omega⟩, hA _ n4 n5 n6, ?_⟩
      simp only [eW]
      refine congrArg (fun f => Sum.inl (k 0, 64, Sum.inl f)) (funext fun q => ?_)
      unfold lcut
      by_cases hq : q < 64
      · rw [if_pos hq, if_pos hq]
        simp [ul, show ¬ 64 * y + q = g.2.1 4 a by omega]
      · rw [if_neg hq, if_neg hq]
    · rw [up_i e] at h3
      refine ⟨⟨h1, h3⟩, hA _ n4 n5 n6, ?_⟩
      simp only [eW]
      refine congrArg (fun f => Sum.inl (k 0, 64, Sum.inl f)) (funext fun q => ?_)
      unfold lcut
      simp [ul, e]
  · refine ⟨h, hA _ n4 n5 n6, ?_⟩
    simp only [eW, fR]
    simp only [hB 8 _ _ (show (8 : Nat) ≠ 4 by decide) (by decide) (by decide)]
  · exact ⟨h, hA _ n4 n5 n6, rfl⟩
  · refine ⟨h, hA _ n4 n5 n6, ?_⟩
    match a with
    | 0 => rfl
    | a + 1 => rfl
/-- the block that grows, as it is then -/
theorem lcut_up {lg : LF} {i j e : Nat} {a0 a1 : Int32} (hj : j = e / 64) : lcut (ul (ul lg 0 i e a0) 1 i e a1 0 i) j = upd (lcut (lg 0 i) j) (e % 64) a0 ∧ lcut (ul (ul lg 0 i e a0) 1 i e a1 1 i) j = upd (lcut (lg 1 i) j) (e % 64) a1 := by
  constructor
  · funext q
    unfold lcut upd
    dsimp only
    by_cases hq : q < 64
    · rw [if_pos hq]
      by_cases h : q = e % 64
      · rw [if_pos h]
        simp [ul, show 64 * j + q = e by omega]
      · rw [if_neg h, if_pos hq]
        simp [ul, show ¬ 64 * j + q = e by omega]
    · rw [if_neg hq, if_neg (show ¬ q = e % 64 by omega), if_neg hq]
  · funext q
    unfold lcut upd
    dsimp only
    by_cases hq : q < 64
    · rw [if_pos hq]
      by_cases h : q = e % 64
      · rw [if_pos h]
        simp [ul, show 64 * j + q = e by omega]
      · rw [if_neg h, if_pos hq]
        simp [ul, show ¬ 64 * j + q = e by omega]
    · rw [if_neg hq, if_neg (show ¬ q = e % 64 by omega), if_neg hq]
theorem eW_log5 {k : Nat → ClassId} {ad : Tg → Nat} {g : XS} {M : MF} {o : OF} {i j : Nat} {a0 a1 : Int32} (hj : j = g.2.1 4 i / 64) (hz : ¬ a1 ≤ a0) : eW k ad (logG g i a0 a1) M o (5, i, j) = .inl (k 0, 64, .inl (upd (lcut (g.2.2 0 i) j) (g.2.1 4 i % 64) a0)) ∧ eW k ad (logG g i a0 a1) M o (6, i, j) = .inl (k 0, 64, .inl (upd (lcut (g.2.2 1 i) j) (g.2.1 4 i % 64) a1)) ∧ eW k ad (logG g i a0 a1) M o (4, i, j) = .inr (1, [.ref (ad (5, i, j)), .ref (ad (6, i, j)), va_rf (bfO ad i j), .int (nI (g.2.1 4 i % 64 + 1))]) ∧ eW k ad (logG g i a0 a1) M o (1, i, 0) = .inr (2, (fM g ad i).set 13 (.ref (ad (4, i, j)))) := by
  rw [show logG g i a0 a1 = (g.1, up g.2.1 4 i (g.2.1 4 i + 1), ul (ul g.2.2 0 i (g.2.1 4 i) a0) 1 i (g.2.1 4 i) a1) from if_neg hz]
  refine ⟨?_, ?_, ?_, ?_⟩
  · simp only [eW]
    rw [(lcut_up hj).1]
  · simp only [eW]
    rw [(lcut_up hj).2]
  · simp only [eW, fG]
    rw [up_s, show min 64 (g.2.1 4 i + 1 - 64 * j) = g.2.1 4 i % 64 + 1 by omega]
  · simp only [eW, fM, up_s, up_f (show (2 : Nat) ≠ 4 by decide)]
    have : lgO ad i (g.2.1 4 i + 1) = some (ad (4, i, j)) := by rw [lgO_1 (by omega), hj, Nat.add_sub_cancel]
    simp [this, va_rf]
set_option maxHeartbeats 4000000 in
set_option maxRecDepth 100000 in
theorem mX1_add (l : Launch) {D : va_G} {k : Nat → ClassId} {b : Nat} {L : Tg → Prop} {ad : Tg → Nat} {w : Tg → va_E} (t0 t1 t2 : Tg) (h0 : L t0) (h1 : L t1) (h2 : L t2) (n1 : t1 ≠ t0) (n2 : t2 ≠ t0) (n3 : t1 ≠ t2) (v2 : Value) (z : Nat) (hz : z < 64) (f1 f2 : Nat → Int32) (e0 : w t0 = .inr (1, [.ref (ad t1), .ref (ad t2), v2, .int (nI z)])) (e1 : w t1 = .inl (k 0, 64, .inl f1)) (e2 : w t2 = .inl (k 0, 64, .inl f2)) (a0 a1 : Int32) : Met l yX1_add (WS yX1_add cX1_add 3 none) ({ frames := 1, cells := 0, slots := 0, locals := 22 }) (P0 D k b (Hp D b L ad w) [.ref (ad t0), .int a0, .int a1]) (Qw b none (Hp D b L ad (uE (uE (uE w t1 (.inl (k 0, 64, .inl (upd f1 z a0)))) t2 (.inl (k 0, 64, .inl (upd f2 z a1)))) t0 (.inr (1, [.ref (ad t1), .ref (ad t2), v2, .int (nI (z + 1))]))))) 0 0 (Fb b) := by
  refine Met0 (by decide +kernel) (Nat.le_of_ble_eq_true rfl) (fun p e s m below meth c ls hx hb hr hts hown hml hlocks hnm hC hH hl => ?_)
  have hS : va_S (Fb b) s.heap s.heap [] := va_S.rf
  have hl : lv_has ls 3 [(0, .ref (ad t0)), (1, .int a0), (2, .int a1)] := hl
  refine lv_aload_n hx hb dX1_add_0 rfl (lv_at hl 0 rfl) ?_
  refine r_get hx hb hts hown hC hH t0 h0 (fs := [.ref (ad t1), .ref (ad t2), v2, .int (nI z)]) (by exact e0) rfl inX1 3 (by decide) wf_X1_22 (v := .int (nI z)) rfl dX1_add_1 ?_
  refine lv_iconst (v := 0) hx hb dX1_add_4 (by decide) ?_
  refine lv_bipush (v := 63) hx hb dX1_add_5 (by decide) ?_
  refine k_r (va_runSN (As := [.int (nI z), .int 0, .int 63]) (rest := []) ⟨hx, hb, hml, hown, hts⟩ (mX4_isWithin l (nI z) 0 63) ⟨cn_of hts wk_X4_isWithin wi_X4 wm_X1_26 sd_X4_isWithin rfl rfl ⟨Nat.le_of_ble_eq_true rfl, Nat.le_of_ble_eq_true rfl⟩, hts _ wz_X4_isWithin, trivial⟩ (P0.pre hC hS hH) rfl rfl hl.1 rfl (lv_room (Nat.le_of_ble_eq_true rfl)) dX1_add_7 ⟨Nat.le_of_ble_eq_true rfl, Nat.le_of_ble_eq_true rfl⟩) ?_
  refine W.eq (g2 := F0 m 10 ls [.int (b2 (inB (nI z) 0 63))]) rfl ?_
  refine lv_if_eq (tgt := 43) hx hb dX1_add_10 (by decide) (fun c10 => by have q := b2_0.mp c10; rw [inB_of (z := 63) (n := 63) rfl (by decide) (show z ≤ 63 by omega)] at q; exact absurd q (by decide)) (fun c10 => ?_)
  refine lv_aload_n hx hb dX1_add_13 rfl (lv_at hl 0 rfl) ?_
  refine r_get hx hb hts hown hC hH t0 h0 (fs := [.ref (ad t1), .ref (ad t2), v2, .int (nI z)]) (by exact e0) rfl inX1 0 (by decide) wf_X1_9 (v := .ref (ad t1)) rfl dX1_add_14 ?_
  refine lv_aload_n hx hb dX1_add_17 rfl (lv_at hl 0 rfl) ?_
  refine r_get hx hb hts hown hC hH t0 h0 (fs := [.ref (ad t1), .ref (ad t2), v2, .int (nI z)]) (by exact e0) rfl inX1 3 (by decide) wf_X1_22 (v := .int (nI z)) rfl dX1_add_18 ?_
  refine lv_iload_n hx hb dX1_add_21 rfl (lv_at hl 1 rfl) ?_
  refine r_iast hx hb hC hH hS t1 h1 (f := f1) (by exact e1) (vp_in_nI hz (by decide)) dX1_add_22 (fun H locs hH hS => ?_)
  rw [nI_clamp (by omega)] at hH
  refine lv_aload_n hx hb dX1_add_23 rfl (lv_at hl 0 rfl) ?_
  refine r_get hx hb hts hown hC hH t0 h0 (fs := [.ref (ad t1), .ref (ad t2), v2, .int (nI z)]) (by rw [uE_n n1.symm]; exact e0) rfl inX1 1 (by decide) wf_X1_15 (v := .ref (ad t2)) rfl dX1_add_24 ?_
  refine lv_aload_n hx hb dX1_add_27 rfl (lv_at hl 0 rfl) ?_
  refine r_get hx hb hts hown hC hH t0 h0 (fs := [.ref (ad t1), .ref (ad t2), v2, .int (nI z)]) (by rw [uE_n n1.symm]; exact e0) rfl inX1 3 (by decide) wf_X1_22 (v := .int (nI z)) rfl dX1_add_28 ?_
  refine lv_iload_n hx hb dX1_add_31 rfl (lv_at hl 2 rfl) ?_
  refine r_iast hx hb hC hH hS t2 h2 (f := f2) (by rw [uE_n n3.symm]; exact e2) (vp_in_nI hz (by decide)) dX1_add_32 (fun H locs hH hS => ?_)
  rw [nI_clamp (by omega)] at hH
  refine lv_aload_n hx hb dX1_add_33 rfl (lv_at hl 0 rfl) ?_
  refine lv_dup hx hb dX1_add_34 rfl ?_
  refine r_get hx hb hts hown hC hH t0 h0 (fs := [.ref (ad t1), .ref (ad t2), v2, .int (nI z)]) (by rw [uE_n n2.symm]; rw [uE_n n1.symm]; exact e0) rfl inX1 3 (by decide) wf_X1_22 (v := .int (nI z)) rfl dX1_add_35 ?_
  refine lv_iconst (v := 1) hx hb dX1_add_38 (by decide) ?_
  refine lv_iadd hx hb dX1_add_39 ?_
  refine r_put hx hb hts hown hC hH hS t0 h0 (fs := [.ref (ad t1), .ref (ad t2), v2, .int (nI z)]) (by rw [uE_n n2.symm]; rw [uE_n n1.symm]; exact e0) rfl inX1 tyX1 tyX1_ok nmX1 3 (by decide) rfl wf_X1_22 rfl rfl (by simp) dX1_add_40 (fun H locs hH hS => ?_)
  rw [nI_1] at hH
  exact e_wv hx hb hr hlocks hS (by exact hH) (Nat.le_refl _) (Nat.le_refl _) dX1_add_43

set_option maxHeartbeats 4000000 in
set_option maxRecDepth 100000 in
theorem mX1_init (l : Launch) {D : va_G} {k : Nat → ClassId} {b : Nat} {L : Tg → Prop} {ad : Tg → Nat} {w : Tg → va_E} (t0 t1 t2 : Tg) (h0 : L t0) (n1 : t1 ≠ t0) (n2 : t2 ≠ t0) (n3 : t1 ≠ t2) (e0 : w t0 = .inr (1, [.null, .null, .null, .int 0])) (r : Option Nat) : Met l yX1_init (WS yX1_init cX1_init 2 none) ({ frames := 1, cells := 2, slots := 128, locals := 13 }) (P0 D k b (Hp D b L ad w) [.ref (ad t0), va_rf r]) (Qw b none (fun H => ∃ ad2 : Tg → Nat, (∀ u, u ≠ t1 → u ≠ t2 → ad2 u = ad u) ∧ Hp D b (fun u => (L u ∨ u = t1) ∨ u = t2) ad2 (fun u => if u = t0 then .inr (1, [.ref (ad2 t1), .ref (ad2 t2), va_rf r, .int 0]) else if u = t1 ∨ u = t2 then .inl (k 0, 64, .inl (fun _ => 0)) else w u) H)) 2 128 (Fb b) := by
  refine Met0 (by decide +kernel) (by cases r <;> exact Nat.le_of_ble_eq_true rfl) (fun p e s m below meth c ls hx hb hr hts hown hml hlocks hnm hC hH hl => ?_)
  have hS : va_S (Fb b) s.heap s.heap [] := va_S.rf
  have hl : lv_has ls 2 [(0, .ref (ad t0)), (1, va_rf r)] := hl
  refine lv_aload_n hx hb dX1_init_0 rfl (lv_at hl 0 rfl) ?_
  refine W.objInit hx hb hown (hts _ wm_X1_3) (hts _ wv_Obj) (hts _ wk_Obj) rfl (by rw [hml]; exact hl.1) rfl dX1_init_1 (Nat.le_of_ble_eq_true rfl) (Nat.le_of_ble_eq_true rfl) ?_
  refine W.eq (g2 := F0 m 4 ls []) rfl ?_
  refine lv_aload_n hx hb dX1_init_4 rfl (lv_at hl 0 rfl) ?_
  refine lv_bipush (v := 64) hx hb dX1_init_5 (by decide) ?_
  refine r_newa hx hb hts hC hH hS t1 (atype := .int) 0 rfl wa_int (fun _ _ h => h) (64, .inl (fun _ => 0)) (fun _ => rfl) (by decide) (by decide) (by decide) (Nat.le_of_ble_eq_true rfl) (Nat.le_of_ble_eq_true rfl) dX1_init_7 (fun H hH hS => ?_)
  obtain ⟨ad1, had⟩ : ∃ z, z = uA ad t1 s.heap.size := ⟨_, rfl⟩
  have ea0 : ad1 t0 = ad t0 := by rw [had]; exact uA_n n1.symm
  have ea1 : ad1 t1 = s.heap.size := by rw [had]; exact uA_s
  rw [← had] at hH
  refine W.eq (g2 := F0 m 9 ls [.ref (ad1 t1), .ref (ad1 t0)]) (by rw [ea1, ea0]) ?_
  refine r_putF hx hb hts hown hnm hC hH hS t0 (Or.inl h0) (fs := [.null, .null, .null, .int 0]) (by rw [uE_n n1.symm]; exact e0) rfl inX1 tyX1 tyX1_ok nmX1 0 (by decide) rfl rfl wf_X1_9 rfl rfl (by simp) dX1_init_9 (fun H locs hH hS => ?_)
  refine W.eq (g2 := F0 m 12 ls []) rfl ?_
  refine lv_aload_n hx hb dX1_init_12 rfl (lv_at hl 0 rfl) ?_
  refine lv_bipush (v := 64) hx hb dX1_init_13 (by decide) ?_
  refine r_newa hx hb hts hC hH hS t2 (atype := .int) 0 rfl wa_int (fun _ _ h => h) (64, .inl (fun _ => 0)) (fun _ => rfl) (by decide) (by decide) (by decide) (Nat.le_of_ble_eq_true rfl) (Nat.le_of_ble_eq_true rfl) dX1_init_15 (fun H2 hH hS => ?_)
  obtain ⟨ad2, had2⟩ : ∃ z, z = uA ad1 t2 H.size := ⟨_, rfl⟩
  have eb0 : ad2 t0 = ad t0 := by rw [had2, uA_n n2.symm, ea0]
  have eb1 : ad2 t1 = ad1 t1 := by rw [had2]; exact uA_n n3
  have eb2 : ad2 t2 = H.size := by rw [had2]; exact uA_s
  rw [← had2] at hH
  refine W.eq (g2 := F0 m 17 ls [.ref (ad2 t2), .ref (ad2 t0)]) (by rw [eb2, eb0]) ?_
  refine r_putF hx hb hts hown hnm hC hH hS t0 (Or.inl (Or.inl h0)) (fs := [.ref (ad1 t1), .null, .null, .int 0]) (by rw [uE_n n2.symm]; exact uE_s) rfl inX1 tyX1 tyX1_ok nmX1 1 (by decide) rfl rfl wf_X1_15 rfl rfl (by simp) dX1_init_17 (fun H locs hH hS => ?_)
  refine W.eq (g2 := F0 m 20 ls []) rfl ?_
  refine lv_aload_n hx hb dX1_init_20 rfl (lv_at hl 0 rfl) ?_
  refine lv_aload_nO hx hb dX1_init_21 rfl (lv_at hl 1 rfl) ?_
  refine W.eq (g2 := F0 m 22 ls [va_rf r, .ref (ad2 t0)]) (by rw [eb0]) ?_
  refine r_putF hx hb hts hown hnm hC hH hS t0 (Or.inl (Or.inl h0)) (fs := [.ref (ad1 t1), .ref (ad2 t2), .null, .int 0]) uE_s rfl inX1 tyX1 tyX1_ok nmX1 2 (by decide) rfl rfl wf_X1_18 (by cases r <;> rfl) (by cases r <;> rfl) (by simp) dX1_init_22 (fun H locs hH hS => ?_)
  refine e_wv hx hb hr hlocks hS ⟨ad2, fun u g1 g2 => by rw [had2, uA_n g2, had, uA_n g1], hH.mono fun u hu => ?_⟩ (Nat.le_refl _) (Nat.le_refl _) dX1_init_25
  refine ⟨hu, rfl, ?_⟩
  by_cases c0 : u = t0
  · subst c0
    rw [if_pos rfl, uE_s, eb1]
    rfl
  · rw [if_neg c0, uE_n c0, uE_n c0]
    by_cases c2 : u = t2
    · rw [if_pos (Or.inr c2), c2, uE_s]
    · rw [uE_n c2, uE_n c0]
      by_cases c1 : u = t1
      · rw [if_pos (Or.inl c1), c1, uE_s]
      · rw [if_neg (fun q => q.elim c1 c2), uE_n c1]
end
section
/-! THE CLASS: a stay is logged -/
theorem Wo_log {D : va_G} {k : Nat → ClassId} {b : Nat} {ad ad2 : Tg → Nat} {g : XS} {M : MF} {o : OF} {H : Heap} {L2 : Tg → Prop} {w2 : Tg → va_E} {i j : Nat} {a0 a1 : Int32} (hj : j = g.2.1 4 i / 64) (hz : ¬ a1 ≤ a0) (hA : ∀ u : Tg, u ≠ (4, i, j) → u ≠ (5, i, j) → u ≠ (6, i, j) → ad2 u = ad u) (hh : Hp D b L2 ad2 w2 H)
    (h4 : L2 (4, i, j) ∧ w2 (4, i, j) = .inr (1, [.ref (ad2 (5, i, j)), .ref (ad2 (6, i, j)), va_rf (bfO ad2 i j), .int (nI (g.2.1 4 i % 64 + 1))]))
    (h5 : L2 (5, i, j) ∧ w2 (5, i, j) = .inl (k 0, 64, .inl (upd (lcut (g.2.2 0 i) j) (g.2.1 4 i % 64) a0))) (h6 : L2 (6, i, j) ∧ w2 (6, i, j) = .inl (k 0, 64, .inl (upd (lcut (g.2.2 1 i) j) (g.2.1 4 i % 64) a1)))
    (h1 : L2 (1, i, 0) ∧ w2 (1, i, 0) = .inr (2, (fM g ad2 i).set 13 (.ref (ad2 (4, i, j))))) (ho : ∀ t : Tg, LW g.2.1 t → t ≠ (4, i, j) → t ≠ (5, i, j) → t ≠ (6, i, j) → t ≠ (1, i, 0) → L2 t ∧ w2 t = eW k ad g M o t) : Wo D k b ad2 (logG g i a0 a1) M o H := by
  obtain ⟨g5, g6, g4, g1⟩ := eW_log5 (k := k) (ad := ad2) (g := g) (M := M) (o := o) (i := i) (a0 := a0) (a1 := a1) hj hz
  refine hh.mono fun t ht => ?_
  by_cases e4 : t = (4, i, j)
  · subst e4; exact ⟨h4.1, rfl, by rw [g4, h4.2]⟩
  · by_cases e5 : t = (5, i, j)
    · subst e5; exact ⟨h5.1, rfl, by rw [g5, h5.2]⟩
    · by_cases e6 : t = (6, i, j)
      · subst e6; exact ⟨h6.1, rfl, by rw [g6, h6.2]⟩
      · by_cases e1 : t = (1, i, 0)
        · subst e1; exact ⟨h1.1, rfl, by rw [g1, h1.2]⟩
        · obtain ⟨q1, q2, q3⟩ := eW_log (k := k) (g := g) (M := M) (o := o) (a0 := a0) (a1 := a1) hj hz hA t ht e4 e5 e6 e1
          obtain ⟨r1, r2⟩ := ho t q1 e4 e5 e6 e1
          exact ⟨r1, rfl, by rw [q3, r2]⟩
set_option maxHeartbeats 4000000 in
set_option maxRecDepth 100000 in
theorem mX2_logStay (l : Launch) {D : va_G} {k : Nat → ClassId} {b : Nat} {ad : Tg → Nat} {g : XS} {M : MF} {o : OF} (i : Nat) (hi : i < g.2.1 0 0) (hI : XI g) (a0 a1 : Int32) (B : Nat) (hB : tb (logG g i a0 a1) ≤ tb g + B) : Met l yX2_logStay (WS yX2_logStay cX2_logStay 3 none) ({ frames := 3, cells := 3 * B, slots := 132 * B, locals := 58 }) (P0 D k b (Wo D k b ad g M o) [.ref (ad (1, i, 0)), .int a0, .int a1]) (Qw b none (fun H => ∃ ad2 : Tg → Nat, Ex g ad ad2 ∧ Wo D k b ad2 (logG g i a0 a1) M o H)) (3 * B) (132 * B) (Fb b) := by
  refine Met0 (by decide +kernel) (Nat.le_of_ble_eq_true rfl) (fun p e s m below meth c ls hx hb hr hts hown hml hlocks hnm hC hH hl => ?_)
  have hS : va_S (Fb b) s.heap s.heap [] := va_S.rf
  have hl : lv_has ls 3 [(0, .ref (ad (1, i, 0))), (1, .int a0), (2, .int a1)] := hl
  have hb0 : b ≤ s.heap.size := (show Hp D b (LW g.2.1) ad (eW k ad g M o) s.heap from hH).2.2.2
  refine lv_iload_n hx hb dX2_logStay_0 rfl (lv_at hl 2 rfl) ?_
  refine lv_iload_n hx hb dX2_logStay_1 rfl (lv_at hl 1 rfl) ?_
  refine lv_icmp_gt (tgt := 6) hx hb dX2_logStay_2 (by decide) (fun c2 => ?_) (fun c2 => ?_)
  case _ =>
    have hz : ¬ a1 ≤ a0 := Int32.not_le.mpr c2
    obtain ⟨j, hj⟩ : ∃ j, j = g.2.1 4 i / 64 := ⟨_, rfl⟩
    have hn4 : ∀ u : Tg, u = (4, i, j) → u ≠ (1, i, 0) := fun u h => by rw [h]; simp
    -- a new block, where the others are full
    have J23 : g.2.1 4 i % 64 = 0 → W p l e ({ frames := 3, cells := 3 * B, slots := 132 * B, locals := 58 }) s m [Value.ref (ad (1, i, 0)), .int a0, .int a1].toArray below meth c s.heap [] 0 0 (MQ below (Qw b none (fun H => ∃ ad2 : Tg → Nat, Ex g ad ad2 ∧ Wo D k b ad2 (logG g i a0 a1) M o H)) [Value.ref (ad (1, i, 0)), .int a0, .int a1].toArray s (3 * B) (132 * B) (Fb b)) (F0 m 23 ls []) := by
      intro hm
      have hB1 : 1 ≤ B := by
        have h9 := tb_log (a := a0) (z := a1) (i := i) (g := g) (by have := hI.1; omega) hz
        rw [if_pos hm] at h9
        omega
      refine lv_aload_n hx hb dX2_logStay_23 rfl (lv_at hl 0 rfl) ?_
      refine r_new hx hb hts hown hC hH hS hb0 (4, i, j) (ci := 1) rfl inX1 tyX1 tyX1_ok wc_X2_76 wn_X1 wi_X1 [.null, .null, .null, .int 0] (fun j hj => by rcases (show j = 0 ∨ j = 1 ∨ j = 2 ∨ j = 3 by omega) with rfl | rfl | rfl | rfl <;> rfl) (show 0 + 1 ≤ 3 * B by omega) (show 0 + 4 ≤ 132 * B by omega) dX2_logStay_24 (fun H hH hS => ?_)
      obtain ⟨ad1, had⟩ : ∃ z, z = uA ad (4, i, j) s.heap.size := ⟨_, rfl⟩
      have ea : ∀ u : Tg, u ≠ (4, i, j) → ad1 u = ad u := fun u h => by rw [had]; exact uA_n h
      have ea1 : ad1 (4, i, j) = s.heap.size := by rw [had]; exact uA_s
      rw [← had] at hH
      refine W.eq (g2 := F0 m 27 ls [.ref (ad1 (4, i, j)), .ref (ad1 (1, i, 0))]) (by rw [ea1, ea (1, i, 0) (by simp)]) ?_
      refine lv_dup hx hb dX2_logStay_27 rfl ?_
      refine lv_aload_n hx hb dX2_logStay_28 rfl (lv_at hl 0 rfl) ?_
      refine W.eq (g2 := F0 m 29 ls [.ref (ad1 (1, i, 0)), .ref (ad1 (4, i, j)), .ref (ad1 (4, i, j)), .ref (ad1 (1, i, 0))]) (by rw [ea (1, i, 0) (by simp)]) ?_
      refine r_get hx hb hts hown hC hH (1, i, 0) (Or.inl ⟨hi, rfl⟩) (fs := fM g ad i) (by rw [uE_n (by simp)]; rfl) rfl inX2 13 (by decide) wf_X2_71 (v := va_rf (lgO ad i (g.2.1 4 i))) rfl dX2_logStay_29 ?_
      refine W.eq (g2 := F0 m 32 ls [va_rf (bfO ad i j), .ref (ad1 (4, i, j)), .ref (ad1 (4, i, j)), .ref (ad1 (1, i, 0))]) (by rw [lgO_bf, hj, show nbk (g.2.1 4 i) = g.2.1 4 i / 64 by unfold nbk; omega]) ?_
      refine k_w (va_runIN (As := [va_rf (bfO ad i j)]) (rest := [.ref (ad1 (4, i, j)), .ref (ad1 (1, i, 0))]) ⟨hx, hb, hml, hown, hts⟩ (mX1_init l (4, i, j) (5, i, j) (6, i, j) (Or.inr rfl) (by simp) (by simp) (by simp) uE_s (bfO ad i j)) ⟨cn_of hts wk_X1_init wi_X1 wm_X2_80 sd_X1_init rfl rfl ⟨Nat.le_of_ble_eq_true rfl, Nat.le_of_ble_eq_true rfl⟩, rfl, hts _ wv_X1_init⟩ (P0.pre hC hS hH) rfl rfl hl.1 rfl (lv_room (Nat.le_of_ble_eq_true rfl)) dX2_logStay_32 ⟨show 0 + 1 + 2 ≤ 3 * B by omega, show 0 + 4 + 128 ≤ 132 * B by omega⟩) hS (fun H locs hH hS => ?_)
      obtain ⟨ad2, hA2, hH⟩ := hH
      have eb : ∀ u : Tg, u ≠ (4, i, j) → u ≠ (5, i, j) → u ≠ (6, i, j) → ad2 u = ad u := fun u h4 h5 h6 => by rw [hA2 u h5 h6, ea u h4]
      refine W.eq (g2 := F0 m 35 ls [.ref (ad2 (4, i, j)), .ref (ad2 (1, i, 0))]) (by rw [hA2 (4, i, j) (by simp) (by simp), hA2 (1, i, 0) (by simp) (by simp)]; rfl) ?_
      refine r_put hx hb hts hown hC hH hS (1, i, 0) (Or.inl (Or.inl (Or.inl ⟨hi, rfl⟩))) (fs := fM g ad i) (by rw [if_neg (by simp), if_neg (by simp), uE_n (by simp)]; rfl) rfl inX2 tyX2 tyX2_ok nmX2 13 (by decide) rfl wf_X2_71 rfl rfl (by simp [fM]) dX2_logStay_35 (fun H locs hH hS => ?_)
      refine W.eq (g2 := F0 m 38 ls []) rfl ?_
      refine lv_aload_n hx hb dX2_logStay_38 rfl (lv_at hl 0 rfl) ?_
      refine W.eq (g2 := F0 m 39 ls [.ref (ad2 (1, i, 0))]) (by rw [eb (1, i, 0) (by simp) (by simp) (by simp)]) ?_
      refine r_get hx hb hts hown hC hH (1, i, 0) (Or.inl (Or.inl (Or.inl ⟨hi, rfl⟩))) uE_s rfl inX2 13 (by decide) wf_X2_71 (v := .ref (ad2 (4, i, j))) rfl dX2_logStay_39 ?_
      refine lv_iload_n hx hb dX2_logStay_42 rfl (lv_at hl 1 rfl) ?_
      refine lv_iload_n hx hb dX2_logStay_43 rfl (lv_at hl 2 rfl) ?_
      refine k_w (va_runVN (As := [.int a0, .int a1]) (rest := []) ⟨hx, hb, hml, hown, hts⟩ (mX1_add l (4, i, j) (5, i, j) (6, i, j) (Or.inl (Or.inl (Or.inr rfl))) (Or.inl (Or.inr rfl)) (Or.inr rfl) (by simp) (by simp) (by simp) (va_rf (bfO ad i j)) 0 (by decide) (fun _ => 0) (fun _ => 0) (by rw [uE_n (by simp), if_pos rfl]; rfl) (by rw [uE_n (by simp), if_neg (by simp), if_pos (Or.inl rfl)]) (by rw [uE_n (by simp), if_neg (by simp), if_pos (Or.inr rfl)]) a0 a1) ⟨cn_of hts wk_X1_add wi_X1 wm_X2_83 sd_X1_add rfl rfl ⟨Nat.le_of_ble_eq_true rfl, Nat.le_of_ble_eq_true rfl⟩, hts _ wv_X1_add, hts _ wl_X1_add⟩ (P0.preV hC hS hH (Hp.recv hC.1 hH (4, i, j) (Or.inl (Or.inl (Or.inr rfl))) (by rw [uE_n (by simp), if_pos rfl]) rfl)) rfl rfl hl.1 rfl (lv_room (Nat.le_of_ble_eq_true rfl)) dX2_logStay_44 ⟨show 0 + 1 + 2 + 0 ≤ 3 * B by omega, show 0 + 4 + 128 + 0 ≤ 132 * B by omega⟩) hS (fun H locs hH hS => ?_)
      refine W.eq (g2 := F0 m 47 ls []) rfl ?_
      refine e_wv hx hb hr hlocks hS ⟨ad2, fun t _ ht => ?_, ?_⟩ (show 0 + 1 + 2 + 0 ≤ 3 * B by omega) (show 0 + 4 + 128 + 0 ≤ 132 * B by omega) dX2_logStay_47
      · refine eb t (fun q => ?_) (fun q => ?_) (fun q => ?_) <;> (subst q; have h2 := ht.2; omega)
      · have hcut : ∀ z, z = 0 ∨ z = 1 → lcut (g.2.2 z i) j = fun _ => 0 := fun z hz9 => funext fun q => by
          unfold lcut
          have h9 := hI.2.2.2.1 i (64 * j + q) (by omega)
          rcases hz9 with rfl | rfl
          · rw [h9.1]; split <;> rfl
          · rw [h9.2]; split <;> rfl
        refine Wo_log hj hz eb hH ⟨Or.inl (Or.inl (Or.inr rfl)), ?_⟩ ⟨Or.inl (Or.inr rfl), ?_⟩ ⟨Or.inr rfl, ?_⟩ ⟨Or.inl (Or.inl (Or.inl ⟨hi, rfl⟩)), ?_⟩ (fun t ht n4 n5 n6 n1 => ⟨Or.inl (Or.inl (Or.inl ht)), ?_⟩)
        · rw [uE_s, hm, bfO_cg (ad := ad) (fun y hy => eb _ (by simp; omega) (by simp) (by simp))]
        · rw [uE_n (by simp), uE_n (by simp), uE_s, hcut 0 (Or.inl rfl), hm]
        · rw [uE_n (by simp), uE_s, hcut 1 (Or.inr rfl), hm]
        · rw [uE_n (by simp), uE_n (by simp), uE_n (by simp), uE_s]
          simp only [fM, lsO, eb (3, i, 0) (by simp) (by simp) (by simp)]
          rfl
        · rw [uE_n n4, uE_n n6, uE_n n5, uE_n n1, if_neg n4, if_neg (fun q => q.elim n5 n6), uE_n n4]
    -- the newest block has room
    have J38 : ¬ g.2.1 4 i % 64 = 0 → W p l e ({ frames := 3, cells := 3 * B, slots := 132 * B, locals := 58 }) s m [Value.ref (ad (1, i, 0)), .int a0, .int a1].toArray below meth c s.heap [] 0 0 (MQ below (Qw b none (fun H => ∃ ad2 : Tg → Nat, Ex g ad ad2 ∧ Wo D k b ad2 (logG g i a0 a1) M o H)) [Value.ref (ad (1, i, 0)), .int a0, .int a1].toArray s (3 * B) (132 * B) (Fb b)) (F0 m 38 ls []) := by
      intro hm
      have h64 : 64 * j < g.2.1 4 i := by omega
      have hlg : lgO ad i (g.2.1 4 i) = some (ad (4, i, j)) := by rw [lgO_1 (by omega), show (g.2.1 4 i - 1) / 64 = j by omega]
      have he : eW k ad g M o (4, i, j) = .inr (1, [.ref (ad (5, i, j)), .ref (ad (6, i, j)), va_rf (bfO ad i j), .int (nI (g.2.1 4 i % 64))]) := by
        simp only [eW, fG]
        rw [show min 64 (g.2.1 4 i - 64 * j) = g.2.1 4 i % 64 by omega]
      refine lv_aload_n hx hb dX2_logStay_38 rfl (lv_at hl 0 rfl) ?_
      refine g2 hx hb hts hown hC hH i hi 13 (by decide) wf_X2_71 (v := va_rf (lgO ad i (g.2.1 4 i))) rfl dX2_logStay_39 ?_
      refine W.eq (g2 := F0 m 42 ls [.ref (ad (4, i, j))]) (by rw [hlg]; rfl) ?_
      refine lv_iload_n hx hb dX2_logStay_42 rfl (lv_at hl 1 rfl) ?_
      refine lv_iload_n hx hb dX2_logStay_43 rfl (lv_at hl 2 rfl) ?_
      refine k_w (va_runVN (As := [.int a0, .int a1]) (rest := []) ⟨hx, hb, hml, hown, hts⟩ (mX1_add l (4, i, j) (5, i, j) (6, i, j) (L := LW g.2.1) ⟨hi, h64⟩ ⟨hi, h64⟩ ⟨hi, h64⟩ (by simp) (by simp) (by simp) (va_rf (bfO ad i j)) (g.2.1 4 i % 64) (by omega) (lcut (g.2.2 0 i) j) (lcut (g.2.2 1 i) j) he rfl rfl a0 a1) ⟨cn_of hts wk_X1_add wi_X1 wm_X2_83 sd_X1_add rfl rfl ⟨Nat.le_of_ble_eq_true rfl, Nat.le_of_ble_eq_true rfl⟩, hts _ wv_X1_add, hts _ wl_X1_add⟩ (P0.preV hC hS hH (Hp.recv hC.1 hH (4, i, j) ⟨hi, h64⟩ he rfl)) rfl rfl hl.1 rfl (lv_room (Nat.le_of_ble_eq_true rfl)) dX2_logStay_44 ⟨Nat.zero_le _, Nat.zero_le _⟩) hS (fun H locs hH hS => ?_)
      refine W.eq (g2 := F0 m 47 ls []) rfl ?_
      refine e_wv hx hb hr hlocks hS ⟨ad, Ex.rf, ?_⟩ (Nat.zero_le _) (Nat.zero_le _) dX2_logStay_47
      refine Wo_log hj hz (fun _ _ _ _ => rfl) hH ⟨⟨hi, h64⟩, ?_⟩ ⟨⟨hi, h64⟩, ?_⟩ ⟨⟨hi, h64⟩, ?_⟩ ⟨⟨hi, rfl⟩, ?_⟩ (fun t ht n4 n5 n6 n1 => ⟨ht, ?_⟩)
      · rw [uE_s]
      · rw [uE_n (by simp), uE_n (by simp), uE_s]
      · rw [uE_n (by simp), uE_s]
      · rw [uE_n (by simp), uE_n (by simp), uE_n (by simp)]
        simp only [eW, fM, hlg]
        rfl
      · rw [uE_n n4, uE_n n6, uE_n n5]
    refine lv_aload_n hx hb dX2_logStay_6 rfl (lv_at hl 0 rfl) ?_
    refine g2 hx hb hts hown hC hH i hi 13 (by decide) wf_X2_71 (v := va_rf (lgO ad i (g.2.1 4 i))) rfl dX2_logStay_7 ?_
    by_cases c7 : g.2.1 4 i = 0
    · refine W.eq (g2 := F0 m 10 ls [.null]) (by simp [lgO, va_rf, c7]) ?_
      refine lv_ifnullN (tgt := 23) hx hb dX2_logStay_10 (by decide) ?_
      exact J23 (by omega)
    · obtain ⟨z, hz9⟩ : ∃ z, z = (g.2.1 4 i - 1) / 64 := ⟨_, rfl⟩
      have h64 : 64 * z < g.2.1 4 i := by omega
      refine W.eq (g2 := F0 m 10 ls [.ref (ad (4, i, z))]) (by rw [lgO_1 c7, hz9]; rfl) ?_
      refine lv_ifnull hx hb dX2_logStay_10 ?_
      refine lv_aload_n hx hb dX2_logStay_13 rfl (lv_at hl 0 rfl) ?_
      refine g2 hx hb hts hown hC hH i hi 13 (by decide) wf_X2_71 (v := va_rf (lgO ad i (g.2.1 4 i))) rfl dX2_logStay_14 ?_
      refine W.eq (g2 := F0 m 17 ls [.ref (ad (4, i, z))]) (by rw [lgO_1 c7, hz9]; rfl) ?_
      refine k_r (va_runVN (As := []) (rest := []) ⟨hx, hb, hml, hown, hts⟩ (mX1_isFull l i hi z h64) ⟨cn_of hts wk_X1_isFull wi_X1 wm_X2_75 sd_X1_isFull rfl rfl ⟨Nat.le_of_ble_eq_true rfl, Nat.le_of_ble_eq_true rfl⟩, hts _ wv_X1_isFull, hts _ wl_X1_isFull⟩ (P0.preV hC hS hH (Hp.recv hC.1 hH (4, i, z) ⟨hi, h64⟩ rfl rfl)) rfl rfl hl.1 rfl (lv_room (Nat.le_of_ble_eq_true rfl)) dX2_logStay_17 ⟨Nat.zero_le _, Nat.zero_le _⟩) ?_
      refine W.eq (g2 := F0 m 20 ls [.int (b2 (decide (nI 64 ≤ nI (min 64 (g.2.1 4 i - 64 * z)))))]) rfl ?_
      refine lv_if_eq (tgt := 38) hx hb dX2_logStay_20 (by decide) (fun c20 => ?_) (fun c20 => ?_)
      · have c20 := b2_0.mp c20
        rw [decide_eq_false_iff_not, nI_leI (by decide) (by omega)] at c20
        exact J38 (by omega)
      · have c20 := b2_n0.mp c20
        rw [decide_eq_true_eq, nI_leI (by decide) (by omega)] at c20
        exact J23 (by omega)
  case _ =>
    have hz : a1 ≤ a0 := Int32.not_lt.mp c2
    exact e_wv hx hb hr hlocks hS ⟨ad, Ex.rf, by rw [show logG g i a0 a1 = g from if_pos hz]; exact hH⟩ (Nat.zero_le _) (Nat.zero_le _) dX2_logStay_5
end
section
/-! THE CLASS: calls go, are handed over; an hour goes by -/
set_option maxHeartbeats 4000000 in
set_option maxRecDepth 100000 in
theorem mX3_goAway (l : Launch) {D : va_G} {k : Nat → ClassId} {b : Nat} {ad0 : Tg → Nat} {g : XS} {M : MF} {o : OF} (q : Nat) (hq : q < g.2.1 1 0) (hI : XI g) (hc0 : ¬ g.2.1 3 q = 0) (a0 : Int32) (B : Nat) (hB : tb (goG g q a0) ≤ tb g + B) : Met l yX3_goAway (WS yX3_goAway cX3_goAway 2 none) ({ frames := 4, cells := 3 * B, slots := 132 * B, locals := 80 }) (P0 D k b (Wo D k b ad0 g M o) [.ref (ad0 (2, q, 0)), .int a0]) (Qw b none (fun H => ∃ ad : Tg → Nat, Ex g ad0 ad ∧ Wo D k b ad (goG g q a0) M o H)) (3 * B) (132 * B) (Fb b) := by
  refine Met0 (by decide +kernel) (Nat.le_of_ble_eq_true rfl) (fun p e s m below meth c ls hx hb hr hts hown hml hlocks hnm hC hH hl => ?_)
  have hS : va_S (Fb b) s.heap s.heap [] := va_S.rf
  obtain ⟨ad, hE, hH, hl⟩ : ∃ ad : Tg → Nat, Ex g ad0 ad ∧ Wo D k b ad g M o s.heap ∧ lv_has ls 2 [(0, .ref (ad (2, q, 0))), (1, .int a0)] := ⟨ad0, Ex.rf, hH, hl⟩
  have hi : g.2.1 3 q - 1 < g.2.1 0 0 := by have := hI.2.2.1 q hq; omega
  refine lv_aload_n hx hb dX3_goAway_0 rfl (lv_at hl 0 rfl) ?_
  refine g3 hx hb hts hown hC hH q hq 1 (by decide) wf_X3_15 (v := va_rf (mrO ad (g.2.1 3 q))) rfl dX3_goAway_1 ?_
  refine W.eq (g2 := F0 m 4 ls [.ref (ad (1, (g.2.1 3 q) - 1, 0))]) (by simp [mrO, va_rf, hc0]) ?_
  refine lv_ifnonnull (tgt := 8) hx hb dX3_goAway_4 (by decide) ?_
  refine lv_aload_n hx hb dX3_goAway_8 rfl (lv_at hl 0 rfl) ?_
  refine g3 hx hb hts hown hC hH q hq 1 (by decide) wf_X3_15 (v := va_rf (mrO ad (g.2.1 3 q))) rfl dX3_goAway_9 ?_
  refine W.eq (g2 := F0 m 12 ls [.ref (ad (1, (g.2.1 3 q) - 1, 0))]) (by simp [mrO, va_rf, hc0]) ?_
  refine lv_dup hx hb dX3_goAway_12 rfl ?_
  refine g2N hx hb hts hown hC hH ((g.2.1 3 q) - 1) hi 9 (by decide) wf_X3_27 (v := .int (g.1 9 ((g.2.1 3 q) - 1))) rfl dX3_goAway_13 ?_
  refine lv_iconst (v := 1) hx hb dX3_goAway_16 (by decide) ?_
  refine lv_isub hx hb dX3_goAway_17 ?_
  refine p2N hx hb hts hown hC hH hS ((g.2.1 3 q) - 1) hi 9 (by decide) (by decide) rfl wf_X3_27 rfl rfl dX3_goAway_18 (fun H locs (hH : Wo D k b ad (sx g 9 ((g.2.1 3 q) - 1) ((g.1 9 ((g.2.1 3 q) - 1)) - 1)) M o H) hS => ?_)
  refine lv_aload_n hx hb dX3_goAway_21 rfl (lv_at hl 0 rfl) ?_
  refine g3 hx hb hts hown hC hH q hq 1 (by decide) wf_X3_15 (v := va_rf (mrO ad (g.2.1 3 q))) rfl dX3_goAway_22 ?_
  refine W.eq (g2 := F0 m 25 ls [.ref (ad (1, (g.2.1 3 q) - 1, 0))]) (by simp [mrO, va_rf, hc0]) ?_
  refine lv_aload_n hx hb dX3_goAway_25 rfl (lv_at hl 0 rfl) ?_
  refine g3 hx hb hts hown hC hH q hq 2 (by decide) wf_X3_24 (v := .int (g.1 32 q)) rfl dX3_goAway_26 ?_
  refine lv_iload_n hx hb dX3_goAway_29 rfl (lv_at hl 1 rfl) ?_
  refine k_w (va_runVN (As := [.int (g.1 32 q), .int a0]) (rest := []) ⟨hx, hb, hml, hown, hts⟩ (mX2_logStay l (g := (sx g 9 ((g.2.1 3 q) - 1) ((g.1 9 ((g.2.1 3 q) - 1)) - 1))) ((g.2.1 3 q) - 1) hi (hI.of rfl rfl) (g.1 32 q) a0 B (by rw [tb_go] at hB; exact hB)) ⟨cn_of hts wk_X2_logStay wi_X2 wm_X3_30 sd_X2_logStay rfl rfl ⟨Nat.le_of_ble_eq_true rfl, Nat.le_of_ble_eq_true rfl⟩, hts _ wv_X2_logStay, hts _ wl_X2_logStay⟩ (P0.preV hC hS hH (Hp.recv hC.1 hH (1, (g.2.1 3 q) - 1, 0) ⟨hi, rfl⟩ rfl rfl)) rfl rfl hl.1 rfl (lv_room (Nat.le_of_ble_eq_true rfl)) dX3_goAway_30 ⟨show 0 + 3 * B ≤ 3 * B by omega, show 0 + 132 * B ≤ 132 * B by omega⟩) hS (fun H locs hH hS => ?_)
  obtain ⟨ad, hF, hH⟩ := hH
  have hl : lv_has ls 2 [(0, .ref (ad (2, q, 0))), (1, .int a0)] := by rw [hF (2, q, 0) (by simp) ⟨hq, rfl⟩]; exact hl
  refine W.eq (g2 := F0 m 33 ls []) rfl ?_
  have hE := hE.tr (Gr.of rfl) hF
  refine lv_aload_n hx hb dX3_goAway_33 rfl (lv_at hl 0 rfl) ?_
  refine lv_null hx hb dX3_goAway_34 ?_
  refine p3C hx hb hts hown hC hH hS q (by rw [logG_n (by decide)]; exact hq) wf_X3_15 0 dX3_goAway_35 (fun H locs (hH : Wo D k b ad (sn (logG (sx g 9 ((g.2.1 3 q) - 1) ((g.1 9 ((g.2.1 3 q) - 1)) - 1)) ((g.2.1 3 q) - 1) (g.1 32 q) a0) 3 q 0) M o H) hS => ?_)
  exact e_wv hx hb hr hlocks hS ⟨ad, hE, by exact hH⟩ (show 0 + 3 * B ≤ 3 * B by omega) (show 0 + 132 * B ≤ 132 * B by omega) dX3_goAway_38

set_option maxHeartbeats 4000000 in
set_option maxRecDepth 100000 in
theorem mX4_handOverOrDrop (l : Launch) {D : va_G} {k : Nat → ClassId} {b : Nat} {ad0 : Tg → Nat} {g : XS} {M : MF} {o : OF} (q : Nat) (hq : q < g.2.1 1 0) (hI : XI g) (hc0 : ¬ g.2.1 3 q = 0) (B : Nat) (hB : tb (hndG g q) ≤ tb g + B) : Met l yX4_handOverOrDrop (WS yX4_handOverOrDrop cX4_handOverOrDrop 3 none) ({ frames := 5, cells := 3 * B, slots := 132 * B, locals := 102 }) (P0 D k b (Wo D k b ad0 g M o) [.ref (ad0 (0, 0, 0)), .ref (ad0 (2, q, 0))]) (Qw b none (fun H => ∃ ad : Tg → Nat, Ex g ad0 ad ∧ Wo D k b ad (hndG g q) M o H)) (3 * B) (132 * B) (Fb b) := by
  refine Met0 (by decide +kernel) (Nat.le_of_ble_eq_true rfl) (fun p e s m below meth c ls hx hb hr hts hown hml hlocks hnm hC hH hl => ?_)
  have hS : va_S (Fb b) s.heap s.heap [] := va_S.rf
  obtain ⟨ad, hE, hH, hl⟩ : ∃ ad : Tg → Nat, Ex g ad0 ad ∧ Wo D k b ad g M o s.heap ∧ lv_has ls 3 [(0, .ref (ad (0, 0, 0))), (1, .ref (ad (2, q, 0)))] := ⟨ad0, Ex.rf, hH, hl⟩
  refine lv_aload_n hx hb dX4_handOverOrDrop_0 rfl (lv_at hl 1 rfl) ?_
  refine lv_aload_n hx hb dX4_handOverOrDrop_1 rfl (lv_at hl 0 rfl) ?_
  refine g4 hx hb hts hown hC hH 3 (by decide) wf_X4_52 (v := .int (g.1 40 0)) rfl dX4_handOverOrDrop_2 ?_
  refine k_w (va_runVN (As := [.int (g.1 40 0)]) (rest := []) ⟨hx, hb, hml, hown, hts⟩ (mX3_goAway l q hq hI hc0 (g.1 40 0) B (by rw [tb_hnd] at hB; exact hB)) ⟨cn_of hts wk_X3_goAway wi_X3 wm_X4_99 sd_X3_goAway rfl rfl ⟨Nat.le_of_ble_eq_true rfl, Nat.le_of_ble_eq_true rfl⟩, hts _ wv_X3_goAway, hts _ wl_X3_goAway⟩ (P0.preV hC hS hH (Hp.recv hC.1 hH (2, q, 0) ⟨hq, rfl⟩ rfl rfl)) rfl rfl hl.1 rfl (lv_room (Nat.le_of_ble_eq_true rfl)) dX4_handOverOrDrop_5 ⟨show 0 + 3 * B ≤ 3 * B by omega, show 0 + 132 * B ≤ 132 * B by omega⟩) hS (fun H locs hH hS => ?_)
  obtain ⟨ad, hF, hH⟩ := hH
  have hl : lv_has ls 3 [(0, .ref (ad (0, 0, 0))), (1, .ref (ad (2, q, 0)))] := by rw [hF (0, 0, 0) (by simp) ⟨by decide, rfl⟩, hF (2, q, 0) (by simp) ⟨hq, rfl⟩]; exact hl
  refine W.eq (g2 := F0 m 8 ls []) rfl ?_
  have hE := hE.tr Gr.rf hF
  refine lv_aload_n hx hb dX4_handOverOrDrop_8 rfl (lv_at hl 0 rfl) ?_
  refine lv_aload_n hx hb dX4_handOverOrDrop_9 rfl (lv_at hl 1 rfl) ?_
  refine g3N hx hb hts hown hC hH q (by rw [goG_n (by decide) (by decide)]; exact hq) 0 (by decide) wf_X4_79 (v := .int ((goG g q (g.1 40 0)).1 30 q)) rfl dX4_handOverOrDrop_10 ?_
  refine k_r (va_runV (As := [.int ((goG g q (g.1 40 0)).1 30 q)]) (rest := []) ⟨hx, hb, hml, hown, hts⟩ (mX4_nearestFree l ((goG g q (g.1 40 0)).1 30 q)) ⟨cb_of hts wk_X4_nearestFree wi_X4 wm_X4_82 sd_X4_nearestFree rfl rfl ⟨Nat.le_of_ble_eq_true rfl, Nat.le_of_ble_eq_true rfl⟩, hts _ wv_X4_nearestFree, hts _ wl_X4_nearestFree⟩ (P0.preV hC hS hH (Hp.recv hC.1 hH (0, 0, 0) ⟨by decide, rfl⟩ rfl rfl)) rfl rfl hl.1 rfl (lv_room (Nat.le_of_ble_eq_true rfl)) dX4_handOverOrDrop_13 ⟨show 0 + 3 * B + 0 ≤ 3 * B by omega, show 0 + 132 * B + 0 ≤ 132 * B by omega⟩) ?_
  refine W.eq (g2 := F0 m 16 ls [va_rf (mrO ad (nf (goG g q (g.1 40 0)) ((goG g q (g.1 40 0)).1 30 q) 8))]) rfl ?_
  refine lv_astore_nO (lv' := [(2, va_rf (mrO ad (nf (goG g q (g.1 40 0)) ((goG g q (g.1 40 0)).1 30 q) 8))), (0, .ref (ad (0, 0, 0))), (1, .ref (ad (2, q, 0)))]) hx hb dX4_handOverOrDrop_16 rfl hl (by decide) rfl (fun ls hl => ?_)
  refine lv_aload_nO hx hb dX4_handOverOrDrop_17 rfl (lv_at hl 0 rfl) ?_
  refine lv_ifnonnullO (tgt := 34) hx hb dX4_handOverOrDrop_18 (by decide) (fun c18a c18 => ?_) (fun c18 => ?_)
  · skip
    have c18 := mt mrO_0.mpr (by rw [c18]; exact Option.some_ne_none _)
    have hl : lv_has ls 3 [(2, .ref (ad (1, nf (goG g q (g.1 40 0)) ((goG g q (g.1 40 0)).1 30 q) 8 - 1, 0))), (0, .ref (ad (0, 0, 0))), (1, .ref (ad (2, q, 0)))] := by simpa [mrO, va_rf, c18] using hl
    refine lv_aload_n hx hb dX4_handOverOrDrop_34 rfl (lv_at hl 2 rfl) ?_
    refine lv_dup hx hb dX4_handOverOrDrop_35 rfl ?_
    refine g3N hx hb hts hown hC hH q (by rw [goG_n (by decide) (by decide)]; exact hq) 5 (by decide) wf_X4_140 (v := .int ((goG g q (g.1 40 0)).1 35 q)) rfl dX4_handOverOrDrop_36 ?_
    refine lv_iconst (v := 1) hx hb dX4_handOverOrDrop_39 (by decide) ?_
    refine lv_iadd hx hb dX4_handOverOrDrop_40 ?_
    refine p3N hx hb hts hown hC hH hS q (by rw [goG_n (by decide) (by decide)]; exact hq) 5 (by decide) (by decide) rfl wf_X4_140 rfl rfl dX4_handOverOrDrop_41 (fun H locs (hH : Wo D k b ad (sx (goG g q (g.1 40 0)) 35 q (((goG g q (g.1 40 0)).1 35 q) + 1)) M o H) hS => ?_)
    refine lv_aload_n hx hb dX4_handOverOrDrop_44 rfl (lv_at hl 2 rfl) ?_
    refine lv_aload_n hx hb dX4_handOverOrDrop_45 rfl (lv_at hl 0 rfl) ?_
    refine lv_aload_n hx hb dX4_handOverOrDrop_46 rfl (lv_at hl 1 rfl) ?_
    refine g4 hx hb hts hown hC hH 3 (by decide) wf_X4_52 (v := .int ((goG g q (g.1 40 0)).1 40 0)) rfl dX4_handOverOrDrop_47 ?_
    refine k_w (va_runVN (As := [.ref (ad (1, nf (goG g q (g.1 40 0)) ((goG g q (g.1 40 0)).1 30 q) 8 - 1, 0)), .int ((goG g q (g.1 40 0)).1 40 0)]) (rest := []) ⟨hx, hb, hml, hown, hts⟩ (mX3_comeTo l (g := (sx (goG g q (g.1 40 0)) 35 q (((goG g q (g.1 40 0)).1 35 q) + 1))) q (nf (goG g q (g.1 40 0)) ((goG g q (g.1 40 0)).1 30 q) 8 - 1) (by rw [goG_n (by decide) (by decide)]; exact hq) (show nf (goG g q (g.1 40 0)) ((goG g q (g.1 40 0)).1 30 q) 8 - 1 < (goG g q (g.1 40 0)).2.1 0 0 by have := (nf_le (goG g q (g.1 40 0)) ((goG g q (g.1 40 0)).1 30 q) 8).2 c18; omega) ((goG g q (g.1 40 0)).1 40 0)) ⟨cn_of hts wk_X3_comeTo wi_X3 wm_X4_88 sd_X3_comeTo rfl rfl ⟨Nat.le_of_ble_eq_true rfl, Nat.le_of_ble_eq_true rfl⟩, hts _ wv_X3_comeTo, hts _ wl_X3_comeTo⟩ (P0.preV hC hS hH (Hp.recv hC.1 hH (2, q, 0) ⟨(by rw [goG_n (by decide) (by decide)]; exact hq), rfl⟩ rfl rfl)) rfl rfl hl.1 rfl (lv_room (Nat.le_of_ble_eq_true rfl)) dX4_handOverOrDrop_50 ⟨show 0 + 3 * B + 0 ≤ 3 * B by omega, show 0 + 132 * B + 0 ≤ 132 * B by omega⟩) hS (fun H locs hH hS => ?_)
    refine W.eq (g2 := F0 m 53 ls []) rfl ?_
    have h9 : hndG g q = (comG (sx (goG g q (g.1 40 0)) 35 q (((goG g q (g.1 40 0)).1 35 q) + 1)) q (nf (goG g q (g.1 40 0)) ((goG g q (g.1 40 0)).1 30 q) 8 - 1) ((goG g q (g.1 40 0)).1 40 0)) := by simp only [hndG, hndA]; rw [if_neg c18]
    exact e_wv hx hb hr hlocks hS ⟨ad, hE, by rw [h9]; exact hH⟩ (show 0 + 3 * B + 0 ≤ 3 * B by omega) (show 0 + 132 * B + 0 ≤ 132 * B by omega) dX4_handOverOrDrop_53
  · skip
    have c18 := mrO_0.mp c18
    have hl : lv_has ls 3 [(2, .null), (0, .ref (ad (0, 0, 0))), (1, .ref (ad (2, q, 0)))] := by simpa [mrO, va_rf, c18] using hl
    refine lv_aload_n hx hb dX4_handOverOrDrop_21 rfl (lv_at hl 2 rfl) ?_
    refine lv_dup hx hb dX4_handOverOrDrop_22 rfl ?_
    refine g3N hx hb hts hown hC hH q (by rw [goG_n (by decide) (by decide)]; exact hq) 4 (by decide) wf_X4_137 (v := .int ((goG g q (g.1 40 0)).1 34 q)) rfl dX4_handOverOrDrop_23 ?_
    refine lv_iconst (v := 1) hx hb dX4_handOverOrDrop_26 (by decide) ?_
    refine lv_iadd hx hb dX4_handOverOrDrop_27 ?_
    refine p3N hx hb hts hown hC hH hS q (by rw [goG_n (by decide) (by decide)]; exact hq) 4 (by decide) (by decide) rfl wf_X4_137 rfl rfl dX4_handOverOrDrop_28 (fun H locs (hH : Wo D k b ad (sx (goG g q (g.1 40 0)) 34 q (((goG g q (g.1 40 0)).1 34 q) + 1)) M o H) hS => ?_)
    refine lv_goto (tgt := 53) hx hb dX4_handOverOrDrop_31 (by decide) ?_
    have h9 : hndG g q = sx (goG g q (g.1 40 0)) 34 q (((goG g q (g.1 40 0)).1 34 q) + 1) := by simp only [hndG, hndA]; rw [if_pos c18]
    exact e_wv hx hb hr hlocks hS ⟨ad, hE, by rw [h9]; exact hH⟩ (show 0 + 3 * B ≤ 3 * B by omega) (show 0 + 132 * B ≤ 132 * B by omega) dX4_handOverOrDrop_53

set_option maxHeartbeats 4000000 in
set_option maxRecDepth 100000 in
theorem mX4_leaveMastsThatAreNotOn (l : Launch) {D : va_G} {k : Nat → ClassId} {b : Nat} {ad0 : Tg → Nat} {g : XS} {M : MF} {o : OF} (hI : XI g) (B : Nat) (hB : tb (lvsG g 12) ≤ tb g + B) : Met l yX4_leaveMastsThatAreNotOn (WS yX4_leaveMastsThatAreNotOn cX4_leaveMastsThatAreNotOn 5 none) ({ frames := 6, cells := 3 * B, slots := 132 * B, locals := 124 }) (P0 D k b (Wo D k b ad0 g M o) [.ref (ad0 (0, 0, 0))]) (Qw b none (fun H => ∃ ad : Tg → Nat, Ex g ad0 ad ∧ Wo D k b ad (lvsG g 12) M o H)) (3 * B) (132 * B) (Fb b) := by
  refine Met0 (by decide +kernel) (Nat.le_of_ble_eq_true rfl) (fun p e s m below meth c ls hx hb hr hts hown hml hlocks hnm hC hH hl => ?_)
  have hS : va_S (Fb b) s.heap s.heap [] := va_S.rf
  obtain ⟨ad, hE, hH, hl⟩ : ∃ ad : Tg → Nat, Ex g ad0 ad ∧ Wo D k b ad g M o s.heap ∧ lv_has ls 5 [(0, .ref (ad (0, 0, 0)))] := ⟨ad0, Ex.rf, hH, hl⟩
  refine lv_aload_n hx hb dX4_leaveMastsThatAreNotOn_0 rfl (lv_at hl 0 rfl) ?_
  refine g4 hx hb hts hown hC hH 1 (by decide) wf_X4_17 (v := .ref (ad (0, 2, 0))) rfl dX4_leaveMastsThatAreNotOn_1 ?_
  refine lv_astore_n (lv' := [(1, .ref (ad (0, 2, 0))), (0, .ref (ad (0, 0, 0)))]) hx hb dX4_leaveMastsThatAreNotOn_4 rfl hl (by decide) rfl (fun ls hl => ?_)
  refine lv_aload_n hx hb dX4_leaveMastsThatAreNotOn_5 rfl (lv_at hl 0 rfl) ?_
  refine pLen hx hb hC hH dX4_leaveMastsThatAreNotOn_6 ?_
  refine lv_istore_n (lv' := [(2, .int (nI 12)), (1, .ref (ad (0, 2, 0))), (0, .ref (ad (0, 0, 0)))]) hx hb dX4_leaveMastsThatAreNotOn_7 rfl hl (by decide) rfl (fun ls hl => ?_)
  refine lv_iconst (v := nI 0) hx hb dX4_leaveMastsThatAreNotOn_8 (by decide) ?_
  refine lv_istore_n (lv' := [(3, .int (nI 0)), (2, .int (nI 12)), (1, .ref (ad (0, 2, 0))), (0, .ref (ad (0, 0, 0)))]) hx hb dX4_leaveMastsThatAreNotOn_9 rfl hl (by decide) rfl (fun ls hl => ?_)
  refine loop_w 12 (fun i H locs cells slots ls => cells = 3 * (tb (lvsG g i) - tb g) ∧ slots = 132 * (tb (lvsG g i) - tb g) ∧ ∃ ad : Tg → Nat, Ex g ad0 ad ∧ Wo D k b ad (lvsG g i) M o H ∧ va_S (Fb b) s.heap H locs ∧ lv_has ls 5 [(0, .ref (ad (0, 0, 0))), (1, .ref (ad (0, 2, 0))), (2, .int (nI 12)), (3, .int (nI i))]) (fun i hi H locs cells slots ls hJ0 ih => ?_) (fun H locs cells slots ls hJ0 => ?_) ⟨by rw [lvsG]; omega, by rw [lvsG]; omega, ad, hE, hH, hS, lv_sub hl [3, 2, 1, 0] rfl⟩
  · skip
    obtain ⟨rfl, rfl, ad, hE, hH, hS, hl⟩ := hJ0
    have t0 := tb_lvs hI 0 i
    rw [Nat.zero_add, lvsG] at t0
    have t1 := tb_lvs1 hI i
    have t2 := tb_lvs hI (i + 1) (12 - (i + 1))
    rw [show i + 1 + (12 - (i + 1)) = 12 by omega] at t2
    refine lv_iload_n hx hb dX4_leaveMastsThatAreNotOn_10 rfl (lv_at hl 3 rfl) ?_
    refine lv_iload_n hx hb dX4_leaveMastsThatAreNotOn_11 rfl (lv_at hl 2 rfl) ?_
    refine lv_icmp_ge (tgt := 56) hx hb dX4_leaveMastsThatAreNotOn_12 (by decide) (fun c12 => absurd c12 (nI_ge hi (by decide))) (fun c12 => ?_)
    refine lv_aload_n hx hb dX4_leaveMastsThatAreNotOn_15 rfl (lv_at hl 1 rfl) ?_
    refine lv_iload_n hx hb dX4_leaveMastsThatAreNotOn_16 rfl (lv_at hl 3 rfl) ?_
    refine pLd hx hb hC hH (i := i) hi dX4_leaveMastsThatAreNotOn_17 ?_
    by_cases c17 : i < (lvsG g i).2.1 1 0
    · skip
      refine W.eq (g2 := F0 m 18 ls [.ref (ad (2, i, 0))]) (by simp [phO, c17, va_rf]) ?_
      refine lv_astore (lv' := [(4, .ref (ad (2, i, 0))), (0, .ref (ad (0, 0, 0))), (1, .ref (ad (0, 2, 0))), (2, .int (nI 12)), (3, .int (nI i))]) hx hb dX4_leaveMastsThatAreNotOn_18 hl (by decide) rfl (fun ls hl => ?_)
      refine lv_aload hx hb dX4_leaveMastsThatAreNotOn_20 (lv_at hl 0 rfl) ?_
      refine lv_ifnull hx hb dX4_leaveMastsThatAreNotOn_22 ?_
      refine lv_aload hx hb dX4_leaveMastsThatAreNotOn_25 (lv_at hl 0 rfl) ?_
      refine g3N hx hb hts hown hC hH i c17 1 (by decide) wf_X4_75 (v := va_rf (mrO ad ((lvsG g i).2.1 3 i))) rfl dX4_leaveMastsThatAreNotOn_27 ?_
      by_cases c27 : (lvsG g i).2.1 3 i = 0
      · skip
        refine W.eq (g2 := F0 m 30 ls [.null]) (by simp [mrO, va_rf, c27]) ?_
        refine lv_ifnullN (tgt := 50) hx hb dX4_leaveMastsThatAreNotOn_30 (by decide) ?_
        refine lv_iinc (v := nI (i + 1)) (lv' := [(3, .int (nI (i + 1))), (4, .ref (ad (2, i, 0))), (0, .ref (ad (0, 0, 0))), (1, .ref (ad (0, 2, 0))), (2, .int (nI 12))]) hx hb dX4_leaveMastsThatAreNotOn_50 hl (k := 4) rfl (by rw [← nI_add]; rfl) (by decide) rfl (fun ls hl => ?_)
        refine lv_goto (tgt := 10) hx hb dX4_leaveMastsThatAreNotOn_53 (by decide) ?_
        have h9 : lvsG g (i + 1) = lvsG g i := by simp [lvsG, c17, c27]
        exact ih H locs _ _ ls ⟨by rw [h9], by rw [h9], ad, hE, by rw [h9]; exact hH, hS, lv_sub hl [2, 3, 4, 0] rfl⟩
      · skip
        refine W.eq (g2 := F0 m 30 ls [.ref (ad (1, ((lvsG g i).2.1 3 i) - 1, 0))]) (by simp [mrO, va_rf, c27]) ?_
        refine lv_ifnull hx hb dX4_leaveMastsThatAreNotOn_30 ?_
        refine lv_aload hx hb dX4_leaveMastsThatAreNotOn_33 (lv_at hl 0 rfl) ?_
        refine g3N hx hb hts hown hC hH i c17 1 (by decide) wf_X4_75 (v := va_rf (mrO ad ((lvsG g i).2.1 3 i))) rfl dX4_leaveMastsThatAreNotOn_35 ?_
        refine W.eq (g2 := F0 m 38 ls [.ref (ad (1, ((lvsG g i).2.1 3 i) - 1, 0))]) (by simp [mrO, va_rf, c27]) ?_
        refine k_r (va_runVN (As := []) (rest := []) ⟨hx, hb, hml, hown, hts⟩ (mX2_isOn l (((lvsG g i).2.1 3 i) - 1) (by have := (hI.lvs i).2.2.1 i c17; omega)) ⟨cn_of hts wk_X2_isOn wi_X2 wm_X4_112 sd_X2_isOn rfl rfl ⟨Nat.le_of_ble_eq_true rfl, Nat.le_of_ble_eq_true rfl⟩, hts _ wv_X2_isOn, hts _ wl_X2_isOn⟩ (P0.preV hC hS hH (Hp.recv hC.1 hH (1, ((lvsG g i).2.1 3 i) - 1, 0) ⟨(by have := (hI.lvs i).2.2.1 i c17; omega), rfl⟩ rfl rfl)) rfl rfl hl.1 rfl (lv_room (Nat.le_of_ble_eq_true rfl)) dX4_leaveMastsThatAreNotOn_38 ⟨show 3 * (tb (lvsG g i) - tb g) + 0 ≤ 3 * B by omega, show 132 * (tb (lvsG g i) - tb g) + 0 ≤ 132 * B by omega⟩) ?_
        refine W.eq (g2 := F0 m 41 ls [.int (b2 (onB (lvsG g i) (((lvsG g i).2.1 3 i) - 1)))]) rfl ?_
        refine lv_if_ne (tgt := 50) hx hb dX4_leaveMastsThatAreNotOn_41 (by decide) (fun c41 => ?_) (fun c41 => ?_)
        · skip
          have c41 := b2_n0.mp c41
          refine lv_iinc (v := nI (i + 1)) (lv' := [(3, .int (nI (i + 1))), (4, .ref (ad (2, i, 0))), (0, .ref (ad (0, 0, 0))), (1, .ref (ad (0, 2, 0))), (2, .int (nI 12))]) hx hb dX4_leaveMastsThatAreNotOn_50 hl (k := 4) rfl (by rw [← nI_add]; rfl) (by decide) rfl (fun ls hl => ?_)
          refine lv_goto (tgt := 10) hx hb dX4_leaveMastsThatAreNotOn_53 (by decide) ?_
          have h9 : lvsG g (i + 1) = lvsG g i := by simp [lvsG, c17, c27, c41]
          exact ih H locs _ _ ls ⟨by rw [h9], by rw [h9], ad, hE, by rw [h9]; exact hH, hS, lv_sub hl [2, 3, 4, 0] rfl⟩
        · skip
          have c41 := b2_0.mp c41
          refine lv_aload_n hx hb dX4_leaveMastsThatAreNotOn_44 rfl (lv_at hl 1 rfl) ?_
          refine lv_aload hx hb dX4_leaveMastsThatAreNotOn_45 (lv_at hl 0 rfl) ?_
          have h9 : lvsG g (i + 1) = hndG (lvsG g i) i := by simp [lvsG, c17, c27, c41]
          obtain ⟨B1, hB1⟩ : ∃ z, z = tb (lvsG g (i + 1)) - tb (lvsG g i) := ⟨_, rfl⟩
          refine k_w (va_runV (As := [.ref (ad (2, i, 0))]) (rest := []) ⟨hx, hb, hml, hown, hts⟩ (mX4_handOverOrDrop l i c17 (hI.lvs i) c27 B1 (by rw [← h9]; omega)) ⟨cb_of hts wk_X4_handOverOrDrop wi_X4 wm_X4_105 sd_X4_handOverOrDrop rfl rfl ⟨Nat.le_of_ble_eq_true rfl, Nat.le_of_ble_eq_true rfl⟩, hts _ wv_X4_handOverOrDrop, hts _ wl_X4_handOverOrDrop⟩ (P0.preV hC hS hH (Hp.recv hC.1 hH (0, 0, 0) ⟨by decide, rfl⟩ rfl rfl)) rfl rfl hl.1 rfl (lv_room (Nat.le_of_ble_eq_true rfl)) dX4_leaveMastsThatAreNotOn_47 ⟨show 3 * (tb (lvsG g i) - tb g) + 3 * B1 ≤ 3 * B by omega, show 132 * (tb (lvsG g i) - tb g) + 132 * B1 ≤ 132 * B by omega⟩) hS (fun H locs hH hS => ?_)
          obtain ⟨ad, hF, hH⟩ := hH
          have hl : lv_has ls 5 [(4, .ref (ad (2, i, 0))), (0, .ref (ad (0, 0, 0))), (1, .ref (ad (0, 2, 0))), (2, .int (nI 12)), (3, .int (nI i))] := by rw [hF (2, i, 0) (by simp) ⟨c17, rfl⟩, hF (0, 0, 0) (by simp) ⟨by decide, rfl⟩, hF (0, 2, 0) (by simp) ⟨by decide, rfl⟩]; exact hl
          refine W.eq (g2 := F0 m 50 ls []) rfl ?_
          have hE := hE.tr (Gr.lvs i) hF
          refine lv_iinc (v := nI (i + 1)) (lv' := [(3, .int (nI (i + 1))), (4, .ref (ad (2, i, 0))), (0, .ref (ad (0, 0, 0))), (1, .ref (ad (0, 2, 0))), (2, .int (nI 12))]) hx hb dX4_leaveMastsThatAreNotOn_50 hl (k := 4) rfl (by rw [← nI_add]; rfl) (by decide) rfl (fun ls hl => ?_)
          refine lv_goto (tgt := 10) hx hb dX4_leaveMastsThatAreNotOn_53 (by decide) ?_
          exact ih H locs _ _ ls ⟨by omega, by omega, ad, hE, by rw [h9]; exact hH, hS, lv_sub hl [2, 3, 4, 0] rfl⟩
    · skip
      refine W.eq (g2 := F0 m 18 ls [.null]) (by simp [phO, c17, va_rf]) ?_
      refine lv_astoreN (lv' := [(4, .null), (0, .ref (ad (0, 0, 0))), (1, .ref (ad (0, 2, 0))), (2, .int (nI 12)), (3, .int (nI i))]) hx hb dX4_leaveMastsThatAreNotOn_18 hl (by decide) rfl (fun ls hl => ?_)
      refine lv_aloadN hx hb dX4_leaveMastsThatAreNotOn_20 (lv_at hl 0 rfl) ?_
      refine lv_ifnullN (tgt := 50) hx hb dX4_leaveMastsThatAreNotOn_22 (by decide) ?_
      refine lv_iinc (v := nI (i + 1)) (lv' := [(3, .int (nI (i + 1))), (4, .null), (0, .ref (ad (0, 0, 0))), (1, .ref (ad (0, 2, 0))), (2, .int (nI 12))]) hx hb dX4_leaveMastsThatAreNotOn_50 hl (k := 4) rfl (by rw [← nI_add]; rfl) (by decide) rfl (fun ls hl => ?_)
      refine lv_goto (tgt := 10) hx hb dX4_leaveMastsThatAreNotOn_53 (by decide) ?_
      have h9 : lvsG g (i + 1) = lvsG g i := by simp [lvsG, c17]
      exact ih H locs _ _ ls ⟨by rw [h9], by rw [h9], ad, hE, by rw [h9]; exact hH, hS, lv_sub hl [2, 3, 4, 0] rfl⟩
  · skip
    obtain ⟨rfl, rfl, ad, hE, hH, hS, hl⟩ := hJ0
    have t0 := tb_lvs hI 0 12
    rw [Nat.zero_add, show lvsG g 0 = g from rfl] at t0
    refine lv_iload_n hx hb dX4_leaveMastsThatAreNotOn_10 rfl (lv_at hl 3 rfl) ?_
    refine lv_iload_n hx hb dX4_leaveMastsThatAreNotOn_11 rfl (lv_at hl 2 rfl) ?_
    refine lv_icmp_ge (tgt := 56) hx hb dX4_leaveMastsThatAreNotOn_12 (by decide) (fun c12 => ?_) (fun c12 => absurd (nI_le (Nat.le_refl _) (by decide)) c12)
    exact e_wv hx hb hr hlocks hS ⟨ad, hE, by exact hH⟩ (show 3 * (tb (lvsG g 12) - tb g) ≤ 3 * B by omega) (show 132 * (tb (lvsG g 12) - tb g) ≤ 132 * B by omega) dX4_leaveMastsThatAreNotOn_56
end
section
/-! THE CLASS: what it throws; what it makes -/
theorem Hp.grow {D : va_G} {b : Nat} {L : Tg → Prop} {ad : Tg → Nat} {w : Tg → va_E} {H H1 : Heap} (h : Hp D b L ad w H) (hz : H.size ≤ H1.size) (ho : ∀ q : Nat, q < H.size → H1[q]? = H[q]?) : Hp D b L ad w H1 :=
  ⟨fun t ht => (h.1 t ht).kept (ho _ (h.lt ht)), h.2.1, h.2.2.1, Nat.le_trans h.2.2.2 hz⟩
theorem uE_uE {w : Tg → va_E} {t : Tg} {x y : va_E} : uE (uE w t x) t y = uE w t y := by
  funext u
  by_cases e : u = t
  · subst e; rw [uE_s, uE_s]
  · rw [uE_n e, uE_n e, uE_n e]
abbrev nIA : String := "java/lang/IllegalArgumentException"
abbrev nIS : String := "java/lang/IllegalStateException"
abbrev nIO : String := "java/lang/IndexOutOfBoundsException"
abbrev nRE : List String := ["java/lang/RuntimeException", "java/lang/Exception"]
/-- the exception of a code: its place in the throws clause -/
def xN (names : List String) (c : Nat) (E : String) : Prop := c ≠ 0 ∧ names[c - 1]? = some E
section TH
variable {p : Program} {l : Launch} {e : Env} {R : Room} {s : State} {m : MethodId} {args : Array Value} {below : List Frame} {meth : Method} {c : Code} {H : Heap} {locs : List Loc} {cells slots : Nat}
variable {cc : ByteArray} {pc : Nat} {ls : Array Slot} {D : va_G} {b : Nat} {k : Nat → ClassId} {mc ms : Nat} {PE : String → Prop} {BX : Heap → Prop} {Qc : Array Value → State → Outcome → State → Prop}
theorem e_th (hlf : l.stackTraces = false) {E : String} {ik ic : Nat} (hcls : Bundle.fit E = true) (hk : Cond.classLink RX4 ik E ∈ AW) (hini : Cond.initialized E ∈ AW) (hat : ∀ w ∈ vx_at0 RX4 ic E nRE, w ∈ AW) (hgood : ∀ w ∈ Cond.classLink RX4 ik E :: Cond.initialized E :: vx_at0 RX4 ic E nRE, vx_ot w = true)
    (hx : p.tables.exec = Jvm.exec) (hb : c.code = cc) (hts : ∀ x ∈ AW, x.before args s = true) (hown : s.vm.findClass RX4 = some m.cls) (hC : Cs D k b s) (hlocks : meth.locks = false) (ht : ∀ x ∈ c.exceptionTable.toList, False) (hsz : ls.size = c.maxLocals) (hS : va_S (Fb b) s.heap H locs)
    (d0 : decode cc pc = .ok (.new ik, 3)) (d3 : decode cc (pc + 3) = .ok (.dup, 1)) (d4 : decode cc (pc + 4) = .ok (.invokespecial ic, 3)) (d7 : decode cc (pc + 7) = .ok (.athrow, 1))
    (hB : ∀ H1 : Heap, H.size ≤ H1.size → (∀ q : Nat, q < H.size → H1[q]? = H[q]?) → BX H1) (hRf : 6 ≤ R.frames) (hRl : 81 ≤ R.locals) (hRc : cells + 1 ≤ R.cells) (hRs : slots + 6 ≤ R.slots) (hc : cells + 1 ≤ mc) (hs : slots + 6 ≤ ms) (hP : PE E) :
    W p l e R s m args below meth c H locs cells slots (vx_MQ below Qc (Xx b PE BX) args s mc ms (Fb b)) (F0 m pc ls []) := by
  refine vx_throw0 hx hb hlf (names := nRE) (A := Fb b) hown hcls (by decide +kernel) (hts _ hk) (hts _ hini) (fun w hw => hts w (hat w hw)) hgood hC.2.1 hC.2.2.1 hS hsz d0 d3 d4 d7 (fun x hx => (ht x hx).elim) (by show 2 + 3 < R.frames; omega) (by show 0 + (13 * (2 + 1) + 42) ≤ R.locals; omega) hRc hRs hlocks (fun t _ z o => ?_) hS.2.2 hc hs
  exact ⟨⟨hP, hB t.heap z o⟩, Nat.le_trans hS.1 z, fun q h1 h2 => (o q (Nat.lt_of_lt_of_le h1 hS.1)).trans (hS.2.1 q h1 h2)⟩
end TH
theorem gd_IA : ∀ w ∈ Cond.classLink RX4 33 nIA :: Cond.initialized nIA :: vx_at0 RX4 35 nIA nRE, vx_ot w = true := by decide +kernel
theorem gd_IS : ∀ w ∈ Cond.classLink RX4 39 nIS :: Cond.initialized nIS :: vx_at0 RX4 41 nIS nRE, vx_ot w = true := by decide +kernel
theorem gd_IO : ∀ w ∈ Cond.classLink RX4 49 nIO :: Cond.initialized nIO :: vx_at0 RX4 51 nIO nRE, vx_ot w = true := by decide +kernel
/-- codes -/
def sunC (a0 : Int32) : Nat := if inB a0 0 10 = false then 1 else 0
def phC (g : XS) (a0 : Int32) : Nat := if inB a0 0 99 = false then 1 else if g.2.1 1 0 < 12 then 0 else 2
def clC (g : XS) (a0 : Int32) : Nat := if pI g a0 = 0 then 1 else if g.2.1 3 (pI g a0 - 1) = 0 then 0 else 2
def enC (g : XS) (a0 : Int32) : Nat := if pI g a0 = 0 then 1 else if g.2.1 3 (pI g a0 - 1) = 0 then 2 else 0
def mvC (g : XS) (a0 a1 : Int32) : Nat := if pI g a0 = 0 then 1 else if inB a1 0 99 = false then 2 else 0
def paC (g : XS) (a0 : Int32) : Nat := if inB a0 1 100 = false then 1 else if g.1 40 0 + a0 ≤ 10000 then 0 else 2
def omC (g : XS) (a0 a1 : Int32) : Nat := if mI g a0 = 0 then 1 else if inB a1 0 5 = false then 2 else 0
def taC (g : XS) (a0 : Int32) : Nat := if mI g a0 = 0 then 1 else 0
def opC (g : XS) (a0 a1 : Int32) : Nat := if pI g a0 = 0 then 1 else if inB a1 0 4 = false then 2 else 0
def stC (g : XS) (a0 : Int32) : Nat := if pI g a0 = 0 then 1 else 0
def pdC (a0 : Int32) : Nat := if inB a0 0 5 = false then 1 else 0
/-- a new mast, a new phone, a new lease: what the cells hold then -/
theorem eW_nM {k : Nat → ClassId} {ad ad2 : Tg → Nat} {g : XS} {M : MF} {o : OF} {n : Nat} {a : Nat → Int32} (hI : XI g) (hn : n = g.2.1 0 0) (hA : ∀ u : Tg, u ≠ (1, n, 0) → ad2 u = ad u) : ∀ t, LW (nwM g a).2.1 t → t ≠ (1, n, 0) → t ≠ (0, 1, 0) → LW g.2.1 t ∧ eW k ad2 (nwM g a) M o t = eW k ad g M o t := by
  have hB : ∀ c x y : Nat, c ≠ 1 → ad2 (c, x, y) = ad (c, x, y) := fun c x y h => hA _ (by simp [h])
  have hls : ∀ x z, lsO ad2 x z = lsO ad x z := fun x z => by unfold lsO; rw [hB 3 _ _ (by decide)]
  have hlg : ∀ x z, lgO ad2 x z = lgO ad x z := fun x z => by unfold lgO; rw [hB 4 _ _ (by decide)]
  have hbf : ∀ x z, bfO ad2 x z = bfO ad x z := fun x z => by unfold bfO; rw [hB 4 _ _ (by decide)]
  have h0 : (nwM g a).2.1 0 0 = n + 1 := by show up g.2.1 0 0 (g.2.1 0 0 + 1) 0 0 = n + 1; rw [up_s, hn]
  have hN : ∀ f i, f ≠ 0 → (nwM g a).2.1 f i = g.2.1 f i := fun f i h => up_f h
  have hF : ∀ f i, i ≠ n ∨ 13 ≤ f → (nwM g a).1 f i = g.1 f i := fun f i h => by
    show (if i = g.2.1 0 0 ∧ f < 13 then a f else g.1 f i) = g.1 f i
    rw [if_neg (by omega)]
  have hF4 : ∀ f, 13 ≤ f → (nwM g a).1 f = g.1 f := fun f h => funext fun i => hF f i (Or.inr h)
  have hnew : g.2.1 2 n = 0 ∧ g.2.1 4 n = 0 := hI.2.2.2.2 n (by omega)
  refine tg_all (fun x y h n1 n0 => ?_) (fun x y h n1 n0 => ?_) (fun x y h n1 n0 => ?_) (fun x y h n1 n0 => ?_) (fun x y h n1 n0 => ?_) (fun x y h n1 n0 => ?_) (fun x y h n1 n0 => ?_) (fun x y h n1 n0 => ?_) (fun x y h n1 n0 => ?_) (fun x y h n1 n0 => ?_) (fun x i y h => h.elim)
  · refine ⟨h, ?_⟩
    obtain ⟨h1, rfl⟩ := h
    match x with
    | 0 => simp only [eW, fX]; rw [hB 0 1 0 (by decide), hB 0 2 0 (by decide), hB 0 3 0 (by decide), hF4 40 (by decide), hF4 41 (by decide)]
    | 1 => exact absurd rfl n0
    | 2 =>
      simp only [eW]
      rw [show phO (nwM g a) ad2 = phO g ad from funext fun x => by unfold phO; rw [hN 1 0 (by decide), hB 2 _ _ (by decide)]]
    | x + 3 => simp only [eW]; rw [hF4 42 (by decide)]
  · obtain ⟨h1, rfl⟩ := h
    have e : x ≠ n := fun e => n1 (by rw [e])
    refine ⟨⟨by omega, rfl⟩, ?_⟩
    simp only [eW, fM, hls, hlg]
    rw [hF 0 x (Or.inl e), hF 1 x (Or.inl e), hF 2 x (Or.inl e), hF 3 x (Or.inl e), hF 4 x (Or.inl e), hF 5 x (Or.inl e), hF 6 x (Or.inl e), hF 8 x (Or.inl e), hF 9 x (Or.inl e), hF 10 x (Or.inl e), hF 11 x (Or.inl e), hF 12 x (Or.inl e), hN 2 x (by decide), hN 4 x (by decide)]
  · obtain ⟨h1, rfl⟩ := h
    rw [hN 1 0 (by decide)] at h1
    refine ⟨⟨h1, rfl⟩, ?_⟩
    simp only [eW, fP]
    rw [hF4 30 (by decide), hF4 32 (by decide), hF4 33 (by decide), hF4 34 (by decide), hF4 35 (by decide), hN 3 x (by decide), show mrO ad2 (g.2.1 3 x) = mrO ad (g.2.1 3 x) from ?_]
    unfold mrO
    by_cases e : g.2.1 3 x = 0
    · rw [if_pos e, if_pos e]
    · have := hI.2.2.1 x h1
      rw [if_neg e, if_neg e, hA _ (by simp; omega)]
  · obtain ⟨⟨h1, h2⟩, rfl⟩ := h
    rw [hN 2 x (by decide)] at h2
    have : x ≠ n := fun e => h2 (by rw [e]; exact hnew.1)
    refine ⟨⟨⟨by omega, h2⟩, rfl⟩, ?_⟩
    simp only [eW, fL]
    rw [hF4 20 (by decide), hF4 21 (by decide), hF4 22 (by decide), hF4 23 (by decide), hF4 24 (by decide), hF4 25 (by decide)]
  · obtain ⟨h1, h2⟩ := h
    rw [hN 4 x (by decide)] at h2
    have : x ≠ n := fun e => by rw [e, hnew.2] at h2; omega
    refine ⟨⟨by omega, h2⟩, ?_⟩
    simp only [eW, fG, hbf]
    rw [hB 5 _ _ (by decide), hB 6 _ _ (by decide), hN 4 x (by decide)]
  · obtain ⟨h1, h2⟩ := h
    rw [hN 4 x (by decide)] at h2
    have : x ≠ n := fun e => by rw [e, hnew.2] at h2; omega
    exact ⟨⟨by omega, h2⟩, rfl⟩
  · obtain ⟨h1, h2⟩ := h
    rw [hN 4 x (by decide)] at h2
    have : x ≠ n := fun e => by rw [e, hnew.2] at h2; omega
    exact ⟨⟨by omega, h2⟩, rfl⟩
  · refine ⟨h, ?_⟩
    simp only [eW, fR]
    simp only [hB 8 _ _ (show (8 : Nat) ≠ 1 by decide)]
  · exact ⟨h, rfl⟩
  · refine ⟨h, ?_⟩
    match x with
    | 0 => rfl
    | x + 1 => rfl
theorem Wo_nM {D : va_G} {k : Nat → ClassId} {b : Nat} {ad ad2 : Tg → Nat} {g : XS} {M : MF} {o : OF} {H : Heap} {L2 : Tg → Prop} {w2 : Tg → va_E} {n : Nat} {a0 a1 a2 a3 a4 a5 a6 : Int32} (hI : XI g) (hn : n = g.2.1 0 0) (hA : ∀ u : Tg, u ≠ (1, n, 0) → ad2 u = ad u) (hh : Hp D b L2 ad2 w2 H)
    (h1 : L2 (1, n, 0) ∧ w2 (1, n, 0) = .inr (2, [.int a0, .int a1, .int a2, .int a3, .int a4, .int a5, .int a6, .null, .int 0, .int 0, .int 0, .int 0, .int 0, .null]))
    (h2 : L2 (0, 1, 0) ∧ w2 (0, 1, 0) = .inl (k 4, 8, .inr (.inr (.inr (.inr (va_up (maO g ad) n (some (ad2 (1, n, 0)))))))))
    (ho : ∀ t : Tg, LW g.2.1 t → t ≠ (1, n, 0) → t ≠ (0, 1, 0) → L2 t ∧ w2 t = eW k ad g M o t) : Wo D k b ad2 (nwM g (l13 a0 a1 a2 a3 a4 a5 a6)) M o H := by
  refine hh.mono fun t ht => ?_
  by_cases e1 : t = (1, n, 0)
  · subst e1
    refine ⟨h1.1, rfl, ?_⟩
    rw [h1.2]
    have hF : ∀ f, f < 13 → (nwM g (l13 a0 a1 a2 a3 a4 a5 a6)).1 f n = l13 a0 a1 a2 a3 a4 a5 a6 f := fun f h => by
      show (if n = g.2.1 0 0 ∧ f < 13 then _ else _) = _
      rw [if_pos ⟨hn, h⟩]
    have hN : ∀ f i, f ≠ 0 → (nwM g (l13 a0 a1 a2 a3 a4 a5 a6)).2.1 f i = g.2.1 f i := fun f i h => up_f h
    have hnew : g.2.1 2 n = 0 ∧ g.2.1 4 n = 0 := hI.2.2.2.2 n (by omega)
    simp only [eW, fM]
    rw [hF 0 (by decide), hF 1 (by decide), hF 2 (by decide), hF 3 (by decide), hF 4 (by decide), hF 5 (by decide), hF 6 (by decide), hF 8 (by decide), hF 9 (by decide), hF 10 (by decide), hF 11 (by decide), hF 12 (by decide), hN 2 n (by decide), hN 4 n (by decide), hnew.1, hnew.2]
    rfl
  · by_cases e0 : t = (0, 1, 0)
    · subst e0
      refine ⟨h2.1, rfl, ?_⟩
      rw [h2.2]
      simp only [eW]
      rw [show maO (nwM g (l13 a0 a1 a2 a3 a4 a5 a6)) ad2 = va_up (maO g ad) n (some (ad2 (1, n, 0))) from funext fun x => ?_]
      show (if x < up g.2.1 0 0 (g.2.1 0 0 + 1) 0 0 then some (ad2 (1, x, 0)) else none) = (if x = n then some (ad2 (1, n, 0)) else maO g ad x)
      rw [up_s]
      by_cases e : x = n
      · subst e; rw [if_pos (by omega), if_pos rfl]
      · rw [if_neg e]
        unfold maO
        by_cases h : x < g.2.1 0 0
        · rw [if_pos (by omega), if_pos h, hA _ (by simp [e])]
        · rw [if_neg (by omega), if_neg h]
    · obtain ⟨q1, q2⟩ := eW_nM (k := k) (M := M) (o := o) hI hn hA t ht e1 e0
      obtain ⟨r1, r2⟩ := ho t q1 e1 e0
      exact ⟨r1, rfl, by rw [q2, r2]⟩
theorem eW_nP {k : Nat → ClassId} {ad ad2 : Tg → Nat} {g : XS} {M : MF} {o : OF} {n : Nat} {a : Int32} (hn : n = g.2.1 1 0) (hA : ∀ u : Tg, u ≠ (2, n, 0) → ad2 u = ad u) : ∀ t, LW (nwP g a).2.1 t → t ≠ (2, n, 0) → t ≠ (0, 2, 0) → LW g.2.1 t ∧ eW k ad2 (nwP g a) M o t = eW k ad g M o t := by
  have hB : ∀ c x y : Nat, c ≠ 2 → ad2 (c, x, y) = ad (c, x, y) := fun c x y h => hA _ (by simp [h])
  have hls : ∀ x z, lsO ad2 x z = lsO ad x z := fun x z => by unfold lsO; rw [hB 3 _ _ (by decide)]
  have hlg : ∀ x z, lgO ad2 x z = lgO ad x z := fun x z => by unfold lgO; rw [hB 4 _ _ (by decide)]
  have hbf : ∀ x z, bfO ad2 x z = bfO ad x z := fun x z => by unfold bfO; rw [hB 4 _ _ (by decide)]
  have hmr : ∀ z, mrO ad2 z = mrO ad z := fun z => by unfold mrO; rw [hB 1 _ _ (by decide)]
  have h0 : (nwP g a).2.1 1 0 = n + 1 := by show up (up g.2.1 3 (g.2.1 1 0) 0) 1 0 (g.2.1 1 0 + 1) 1 0 = n + 1; rw [up_s, hn]
  have hN : ∀ f i, f ≠ 1 → (f ≠ 3 ∨ i ≠ n) → (nwP g a).2.1 f i = g.2.1 f i := fun f i h h2 => by
    show up (up g.2.1 3 (g.2.1 1 0) 0) 1 0 (g.2.1 1 0 + 1) f i = _
    rw [up_f h]
    rcases h2 with h2 | h2
    · rw [up_f h2]
    · rw [up_i (by omega)]
  have hF : ∀ f i, i ≠ n ∨ f < 30 ∨ 36 ≤ f → (nwP g a).1 f i = g.1 f i := fun f i h => by
    show (if i = g.2.1 1 0 ∧ 30 ≤ f ∧ f < 36 then (if f = 30 then a else 0) else g.1 f i) = g.1 f i
    rw [if_neg (by omega)]
  have hF4 : ∀ f, f < 30 ∨ 36 ≤ f → (nwP g a).1 f = g.1 f := fun f h => funext fun i => hF f i (Or.inr h)
  refine tg_all (fun x y h n1 n0 => ?_) (fun x y h n1 n0 => ?_) (fun x y h n1 n0 => ?_) (fun x y h n1 n0 => ?_) (fun x y h n1 n0 => ?_) (fun x y h n1 n0 => ?_) (fun x y h n1 n0 => ?_) (fun x y h n1 n0 => ?_) (fun x y h n1 n0 => ?_) (fun x y h n1 n0 => ?_) (fun x i y h => h.elim)
  · refine ⟨h, ?_⟩
    obtain ⟨h1, rfl⟩ := h
    match x with
    | 0 => simp only [eW, fX]; rw [hB 0 1 0 (by decide), hB 0 2 0 (by decide), hB 0 3 0 (by decide), hF4 40 (by decide), hF4 41 (by decide)]
    | 1 =>
      simp only [eW]
      rw [show maO (nwP g a) ad2 = maO g ad from funext fun x => by unfold maO; rw [hN 0 0 (by decide) (Or.inl (by decide)), hB 1 _ _ (by decide)]]
    | 2 => exact absurd rfl n0
    | x + 3 => simp only [eW]; rw [hF4 42 (by decide)]
  · obtain ⟨h1, rfl⟩ := h
    rw [hN 0 0 (by decide) (Or.inl (by decide))] at h1
    refine ⟨⟨h1, rfl⟩, ?_⟩
    simp only [eW, fM, hls, hlg]
    rw [hF4 0 (by decide), hF4 1 (by decide), hF4 2 (by decide), hF4 3 (by decide), hF4 4 (by decide), hF4 5 (by decide), hF4 6 (by decide), hF4 8 (by decide), hF4 9 (by decide), hF4 10 (by decide), hF4 11 (by decide), hF4 12 (by decide), hN 2 x (by decide) (Or.inl (by decide)), hN 4 x (by decide) (Or.inl (by decide))]
  · obtain ⟨h1, rfl⟩ := h
    have e : x ≠ n := fun e => n1 (by rw [e])
    refine ⟨⟨by omega, rfl⟩, ?_⟩
    simp only [eW, fP, hmr]
    rw [hF 30 x (Or.inl e), hF 32 x (Or.inl e), hF 33 x (Or.inl e), hF 34 x (Or.inl e), hF 35 x (Or.inl e), hN 3 x (by decide) (Or.inr e)]
  · obtain ⟨⟨h1, h2⟩, rfl⟩ := h
    rw [hN 0 0 (by decide) (Or.inl (by decide))] at h1
    rw [hN 2 x (by decide) (Or.inl (by decide))] at h2
    refine ⟨⟨⟨h1, h2⟩, rfl⟩, ?_⟩
    simp only [eW, fL]
    rw [hF4 20 (by decide), hF4 21 (by decide), hF4 22 (by decide), hF4 23 (by decide), hF4 24 (by decide), hF4 25 (by decide)]
  · obtain ⟨h1, h2⟩ := h
    rw [hN 0 0 (by decide) (Or.inl (by decide))] at h1
    rw [hN 4 x (by decide) (Or.inl (by decide))] at h2
    refine ⟨⟨h1, h2⟩, ?_⟩
    simp only [eW, fG, hbf]
    rw [hB 5 _ _ (by decide), hB 6 _ _ (by decide), hN 4 x (by decide) (Or.inl (by decide))]
  · obtain ⟨h1, h2⟩ := h
    rw [hN 0 0 (by decide) (Or.inl (by decide))] at h1
    rw [hN 4 x (by decide) (Or.inl (by decide))] at h2
    exact ⟨⟨h1, h2⟩, rfl⟩
  · obtain ⟨h1, h2⟩ := h
    rw [hN 0 0 (by decide) (Or.inl (by decide))] at h1
    rw [hN 4 x (by decide) (Or.inl (by decide))] at h2
    exact ⟨⟨h1, h2⟩, rfl⟩
  · refine ⟨h, ?_⟩
    simp only [eW, fR]
    simp only [hB 8 _ _ (show (8 : Nat) ≠ 2 by decide)]
  · exact ⟨h, rfl⟩
  · refine ⟨h, ?_⟩
    match x with
    | 0 => rfl
    | x + 1 => rfl
theorem Wo_nP {D : va_G} {k : Nat → ClassId} {b : Nat} {ad ad2 : Tg → Nat} {g : XS} {M : MF} {o : OF} {H : Heap} {L2 : Tg → Prop} {w2 : Tg → va_E} {n : Nat} {a0 : Int32} (hn : n = g.2.1 1 0) (hA : ∀ u : Tg, u ≠ (2, n, 0) → ad2 u = ad u) (hh : Hp D b L2 ad2 w2 H)
    (h1 : L2 (2, n, 0) ∧ w2 (2, n, 0) = .inr (3, [.int a0, .null, .int 0, .int 0, .int 0, .int 0]))
    (h2 : L2 (0, 2, 0) ∧ w2 (0, 2, 0) = .inl (k 5, 12, .inr (.inr (.inr (.inr (va_up (phO g ad) n (some (ad2 (2, n, 0)))))))))
    (ho : ∀ t : Tg, LW g.2.1 t → t ≠ (2, n, 0) → t ≠ (0, 2, 0) → L2 t ∧ w2 t = eW k ad g M o t) : Wo D k b ad2 (nwP g a0) M o H := by
  refine hh.mono fun t ht => ?_
  by_cases e1 : t = (2, n, 0)
  · subst e1
    refine ⟨h1.1, rfl, ?_⟩
    rw [h1.2]
    have hF : ∀ f, 30 ≤ f → f < 36 → (nwP g a0).1 f n = if f = 30 then a0 else 0 := fun f h h2 => by
      show (if n = g.2.1 1 0 ∧ 30 ≤ f ∧ f < 36 then _ else _) = _
      rw [if_pos ⟨hn, h, h2⟩]
    have hN : (nwP g a0).2.1 3 n = 0 := by
      show up (up g.2.1 3 (g.2.1 1 0) 0) 1 0 (g.2.1 1 0 + 1) 3 n = 0
      rw [up_f (by decide), hn, up_s]
    simp only [eW, fP]
    rw [hF 30 (by decide) (by decide), hF 32 (by decide) (by decide), hF 33 (by decide) (by decide), hF 34 (by decide) (by decide), hF 35 (by decide) (by decide), hN]
    rfl
  · by_cases e0 : t = (0, 2, 0)
    · subst e0
      refine ⟨h2.1, rfl, ?_⟩
      rw [h2.2]
      simp only [eW]
      rw [show phO (nwP g a0) ad2 = va_up (phO g ad) n (some (ad2 (2, n, 0))) from funext fun x => ?_]
      show (if x < up (up g.2.1 3 (g.2.1 1 0) 0) 1 0 (g.2.1 1 0 + 1) 1 0 then some (ad2 (2, x, 0)) else none) = (if x = n then some (ad2 (2, n, 0)) else phO g ad x)
      rw [up_s]
      by_cases e : x = n
      · subst e; rw [if_pos (by omega), if_pos rfl]
      · rw [if_neg e]
        unfold phO
        by_cases h : x < g.2.1 1 0
        · rw [if_pos (by omega), if_pos h, hA _ (by simp [e])]
        · rw [if_neg (by omega), if_neg h]
    · obtain ⟨q1, q2⟩ := eW_nP (k := k) (M := M) (o := o) (a := a0) hn hA t ht e1 e0
      obtain ⟨r1, r2⟩ := ho t q1 e1 e0
      exact ⟨r1, rfl, by rw [q2, r2]⟩
theorem eW_nL {k : Nat → ClassId} {ad ad2 : Tg → Nat} {g : XS} {M : MF} {o : OF} {n : Nat} {a : Nat → Int32} (hA : ∀ u : Tg, u ≠ (3, n, 0) → ad2 u = ad u) : ∀ t, LW (nwL g n a).2.1 t → t ≠ (3, n, 0) → t ≠ (1, n, 0) → LW g.2.1 t ∧ eW k ad2 (nwL g n a) M o t = eW k ad g M o t := by
  have hB : ∀ c x y : Nat, c ≠ 3 → ad2 (c, x, y) = ad (c, x, y) := fun c x y h => hA _ (by simp [h])
  have hlg : ∀ x z, lgO ad2 x z = lgO ad x z := fun x z => by unfold lgO; rw [hB 4 _ _ (by decide)]
  have hbf : ∀ x z, bfO ad2 x z = bfO ad x z := fun x z => by unfold bfO; rw [hB 4 _ _ (by decide)]
  have hmr : ∀ z, mrO ad2 z = mrO ad z := fun z => by unfold mrO; rw [hB 1 _ _ (by decide)]
  have hN : ∀ f i, (f ≠ 2 ∨ i ≠ n) → (nwL g n a).2.1 f i = g.2.1 f i := fun f i h2 => by
    show up g.2.1 2 n 1 f i = _
    rcases h2 with h2 | h2
    · rw [up_f h2]
    · rw [up_i h2]
  have hF : ∀ f i, i ≠ n ∨ f < 20 ∨ 26 ≤ f → (nwL g n a).1 f i = g.1 f i := fun f i h => by
    show (if i = n ∧ 20 ≤ f ∧ f < 26 then a (f - 20) else g.1 f i) = g.1 f i
    rw [if_neg (by omega)]
  have hF4 : ∀ f, f < 20 ∨ 26 ≤ f → (nwL g n a).1 f = g.1 f := fun f h => funext fun i => hF f i (Or.inr h)
  refine tg_all (fun x y h n1 n0 => ?_) (fun x y h n1 n0 => ?_) (fun x y h n1 n0 => ?_) (fun x y h n1 n0 => ?_) (fun x y h n1 n0 => ?_) (fun x y h n1 n0 => ?_) (fun x y h n1 n0 => ?_) (fun x y h n1 n0 => ?_) (fun x y h n1 n0 => ?_) (fun x y h n1 n0 => ?_) (fun x i y h => h.elim)
  · refine ⟨h, ?_⟩
    obtain ⟨h1, rfl⟩ := h
    match x with
    | 0 => simp only [eW, fX]; rw [hB 0 1 0 (by decide), hB 0 2 0 (by decide), hB 0 3 0 (by decide), hF4 40 (by decide), hF4 41 (by decide)]
    | 1 =>
      simp only [eW]
      rw [show maO (nwL g n a) ad2 = maO g ad from funext fun x => by unfold maO; rw [hN 0 0 (Or.inl (by decide)), hB 1 _ _ (by decide)]]
    | 2 =>
      simp only [eW]
      rw [show phO (nwL g n a) ad2 = phO g ad from funext fun x => by unfold phO; rw [hN 1 0 (Or.inl (by decide)), hB 2 _ _ (by decide)]]
    | x + 3 => simp only [eW]; rw [hF4 42 (by decide)]
  · obtain ⟨h1, rfl⟩ := h
    have e : x ≠ n := fun e => n0 (by rw [e])
    rw [hN 0 0 (Or.inl (by decide))] at h1
    refine ⟨⟨h1, rfl⟩, ?_⟩
    simp only [eW, fM, hlg]
    rw [hF 0 x (Or.inl e), hF 1 x (Or.inl e), hF 2 x (Or.inl e), hF 3 x (Or.inl e), hF 4 x (Or.inl e), hF 5 x (Or.inl e), hF 6 x (Or.inl e), hF 8 x (Or.inl e), hF 9 x (Or.inl e), hF 10 x (Or.inl e), hF 11 x (Or.inl e), hF 12 x (Or.inl e), hN 2 x (Or.inr e), hN 4 x (Or.inr e), show lsO ad2 x (g.2.1 2 x) = lsO ad x (g.2.1 2 x) from by unfold lsO; rw [hA _ (by simp [e])]]
  · obtain ⟨h1, rfl⟩ := h
    rw [hN 1 0 (Or.inl (by decide))] at h1
    refine ⟨⟨h1, rfl⟩, ?_⟩
    simp only [eW, fP, hmr]
    rw [hF4 30 (by decide), hF4 32 (by decide), hF4 33 (by decide), hF4 34 (by decide), hF4 35 (by decide), hN 3 x (Or.inl (by decide))]
  · obtain ⟨⟨h1, h2⟩, rfl⟩ := h
    have e : x ≠ n := fun e => n1 (by rw [e])
    rw [hN 0 0 (Or.inl (by decide))] at h1
    rw [hN 2 x (Or.inr e)] at h2
    refine ⟨⟨⟨h1, h2⟩, rfl⟩, ?_⟩
    simp only [eW, fL]
    rw [hF 20 x (Or.inl e), hF 21 x (Or.inl e), hF 22 x (Or.inl e), hF 23 x (Or.inl e), hF 24 x (Or.inl e), hF 25 x (Or.inl e)]
  · obtain ⟨h1, h2⟩ := h
    rw [hN 0 0 (Or.inl (by decide))] at h1
    rw [hN 4 x (Or.inl (by decide))] at h2
    refine ⟨⟨h1, h2⟩, ?_⟩
    simp only [eW, fG, hbf]
    rw [hB 5 _ _ (by decide), hB 6 _ _ (by decide), hN 4 x (Or.inl (by decide))]
  · obtain ⟨h1, h2⟩ := h
    rw [hN 0 0 (Or.inl (by decide))] at h1
    rw [hN 4 x (Or.inl (by decide))] at h2
    exact ⟨⟨h1, h2⟩, rfl⟩
  · obtain ⟨h1, h2⟩ := h
    rw [hN 0 0 (Or.inl (by decide))] at h1
    rw [hN 4 x (Or.inl (by decide))] at h2
    exact ⟨⟨h1, h2⟩, rfl⟩
  · refine ⟨h, ?_⟩
    simp only [eW, fR]
    simp only [hB 8 _ _ (show (8 : Nat) ≠ 3 by decide)]
  · exact ⟨h, rfl⟩
  · refine ⟨h, ?_⟩
    match x with
    | 0 => rfl
    | x + 1 => rfl
theorem Wo_nL {D : va_G} {k : Nat → ClassId} {b : Nat} {ad ad2 : Tg → Nat} {g : XS} {M : MF} {o : OF} {H : Heap} {L2 : Tg → Prop} {w2 : Tg → va_E} {n : Nat} {a0 a1 a2 a3 a4 a5 : Int32} (hA : ∀ u : Tg, u ≠ (3, n, 0) → ad2 u = ad u) (hh : Hp D b L2 ad2 w2 H)
    (h1 : L2 (3, n, 0) ∧ w2 (3, n, 0) = .inr (0, [.int a0, .int a1, .int a2, .int a3, .int a4, .int a5]))
    (h2 : L2 (1, n, 0) ∧ w2 (1, n, 0) = .inr (2, (fM g ad n).set 7 (.ref (ad2 (3, n, 0)))))
    (ho : ∀ t : Tg, LW g.2.1 t → t ≠ (3, n, 0) → t ≠ (1, n, 0) → L2 t ∧ w2 t = eW k ad g M o t) : Wo D k b ad2 (nwL g n (l6 a0 a1 a2 a3 a4 a5)) M o H := by
  have hF : ∀ f, 20 ≤ f → f < 26 → (nwL g n (l6 a0 a1 a2 a3 a4 a5)).1 f n = l6 a0 a1 a2 a3 a4 a5 (f - 20) := fun f h h2 => by
    show (if n = n ∧ 20 ≤ f ∧ f < 26 then _ else _) = _
    rw [if_pos ⟨rfl, h, h2⟩]
  have hF2 : ∀ f, f < 20 → (nwL g n (l6 a0 a1 a2 a3 a4 a5)).1 f n = g.1 f n := fun f h => by
    show (if n = n ∧ 20 ≤ f ∧ f < 26 then _ else _) = _
    rw [if_neg (by omega)]
  refine hh.mono fun t ht => ?_
  by_cases e1 : t = (3, n, 0)
  · subst e1
    refine ⟨h1.1, rfl, ?_⟩
    rw [h1.2]
    simp only [eW, fL]
    rw [hF 20 (by decide) (by decide), hF 21 (by decide) (by decide), hF 22 (by decide) (by decide), hF 23 (by decide) (by decide), hF 24 (by decide) (by decide), hF 25 (by decide) (by decide)]
    rfl
  · by_cases e0 : t = (1, n, 0)
    · subst e0
      refine ⟨h2.1, rfl, ?_⟩
      rw [h2.2]
      have hlg : lgO ad2 n (g.2.1 4 n) = lgO ad n (g.2.1 4 n) := by unfold lgO; rw [hA _ (by simp)]
      have hN2 : (nwL g n (l6 a0 a1 a2 a3 a4 a5)).2.1 2 n = 1 := show up g.2.1 2 n 1 2 n = 1 from up_s
      have hN4 : (nwL g n (l6 a0 a1 a2 a3 a4 a5)).2.1 4 n = g.2.1 4 n := show up g.2.1 2 n 1 4 n = g.2.1 4 n from up_f (by decide)
      simp only [eW, fM]
      rw [hF2 0 (by decide), hF2 1 (by decide), hF2 2 (by decide), hF2 3 (by decide), hF2 4 (by decide), hF2 5 (by decide), hF2 6 (by decide), hF2 8 (by decide), hF2 9 (by decide), hF2 10 (by decide), hF2 11 (by decide), hF2 12 (by decide), hN2, hN4, hlg]
      rfl
    · obtain ⟨q1, q2⟩ := eW_nL (k := k) (M := M) (o := o) (a := l6 a0 a1 a2 a3 a4 a5) hA t ht e1 e0
      obtain ⟨r1, r2⟩ := ho t q1 e1 e0
      exact ⟨r1, rfl, by rw [q2, r2]⟩
theorem Gr.e9 {g : XS} : Gr g (elsG (tkG (pwsG (prsG (ctrG g 8) 8) 8)) 8) := Gr.tr (Gr.of (g' := tkG (pwsG (prsG (ctrG g 8) 8) 8)) (by rw [tkG_n, pwsG_n, prsG_n, ctrG_n])) (Gr.els 8)
set_option maxHeartbeats 4000000 in
set_option maxRecDepth 100000 in
theorem mX2_init (l : Launch) {D : va_G} {k : Nat → ClassId} {b : Nat} {L : Tg → Prop} {ad : Tg → Nat} {w : Tg → va_E} (t0 : Tg) (h0 : L t0) (e0 : w t0 = .inr (2, [.int 0, .int 0, .int 0, .int 0, .int 0, .int 0, .int 0, .null, .int 0, .int 0, .int 0, .int 0, .int 0, .null])) (a0 a1 a2 a3 a4 a5 a6 : Int32) (hz : a6 = 0 ∨ a6 = 1) : Met l yX2_init (WS yX2_init cX2_init 8 none) ({ frames := 1, cells := 0, slots := 0, locals := 13 }) (P0 D k b (Hp D b L ad w) [.ref (ad t0), .int a0, .int a1, .int a2, .int a3, .int a4, .int a5, .int a6]) (Qw b none (Hp D b L ad (uE w t0 (.inr (2, [.int a0, .int a1, .int a2, .int a3, .int a4, .int a5, .int a6, .null, .int 0, .int 0, .int 0, .int 0, .int 0, .null]))))) 0 0 (Fb b) := by
  refine Met0 (by decide +kernel) (Nat.le_of_ble_eq_true rfl) (fun p e s m below meth c ls hx hb hr hts hown hml hlocks hnm hC hH hl => ?_)
  have hS : va_S (Fb b) s.heap s.heap [] := va_S.rf
  have hl : lv_has ls 8 [(0, .ref (ad t0)), (1, .int a0), (2, .int a1), (3, .int a2), (4, .int a3), (5, .int a4), (6, .int a5), (7, .int a6)] := hl
  refine lv_aload_n hx hb dX2_init_0 rfl (lv_at hl 0 rfl) ?_
  refine W.objInit hx hb hown (hts _ wm_X2_3) (hts _ wv_Obj) (hts _ wk_Obj) rfl (by rw [hml]; exact hl.1) rfl dX2_init_1 (Nat.le_of_ble_eq_true rfl) (Nat.le_of_ble_eq_true rfl) ?_
  refine W.eq (g2 := F0 m 4 ls []) rfl ?_
  refine lv_aload_n hx hb dX2_init_4 rfl (lv_at hl 0 rfl) ?_
  refine lv_iload_n hx hb dX2_init_5 rfl (lv_at hl 1 rfl) ?_
  refine r_putF hx hb hts hown hnm hC hH hS t0 h0 (fs := [.int 0, .int 0, .int 0, .int 0, .int 0, .int 0, .int 0, .null, .int 0, .int 0, .int 0, .int 0, .int 0, .null]) e0 rfl inX2 tyX2 tyX2_ok nmX2 0 (by decide) rfl rfl wf_X2_9 rfl rfl (by simp) dX2_init_6 (fun H locs hH hS => ?_)
  have hH : Hp D b L ad (uE w t0 (.inr (2, [.int a0, .int 0, .int 0, .int 0, .int 0, .int 0, .int 0, .null, .int 0, .int 0, .int 0, .int 0, .int 0, .null]))) H := hH
  refine lv_aload_n hx hb dX2_init_9 rfl (lv_at hl 0 rfl) ?_
  refine lv_iload_n hx hb dX2_init_10 rfl (lv_at hl 2 rfl) ?_
  refine r_putF hx hb hts hown hnm hC hH hS t0 h0 (fs := [.int a0, .int 0, .int 0, .int 0, .int 0, .int 0, .int 0, .null, .int 0, .int 0, .int 0, .int 0, .int 0, .null]) uE_s rfl inX2 tyX2 tyX2_ok nmX2 1 (by decide) rfl rfl wf_X2_15 rfl rfl (by simp) dX2_init_11 (fun H locs hH hS => ?_)
  rw [uE_uE] at hH
  have hH : Hp D b L ad (uE w t0 (.inr (2, [.int a0, .int a1, .int 0, .int 0, .int 0, .int 0, .int 0, .null, .int 0, .int 0, .int 0, .int 0, .int 0, .null]))) H := hH
  refine lv_aload_n hx hb dX2_init_14 rfl (lv_at hl 0 rfl) ?_
  refine lv_iload_n hx hb dX2_init_15 rfl (lv_at hl 3 rfl) ?_
  refine r_putF hx hb hts hown hnm hC hH hS t0 h0 (fs := [.int a0, .int a1, .int 0, .int 0, .int 0, .int 0, .int 0, .null, .int 0, .int 0, .int 0, .int 0, .int 0, .null]) uE_s rfl inX2 tyX2 tyX2_ok nmX2 2 (by decide) rfl rfl wf_X2_18 rfl rfl (by simp) dX2_init_16 (fun H locs hH hS => ?_)
  rw [uE_uE] at hH
  have hH : Hp D b L ad (uE w t0 (.inr (2, [.int a0, .int a1, .int a2, .int 0, .int 0, .int 0, .int 0, .null, .int 0, .int 0, .int 0, .int 0, .int 0, .null]))) H := hH
  refine lv_aload_n hx hb dX2_init_19 rfl (lv_at hl 0 rfl) ?_
  refine lv_iload hx hb dX2_init_20 (lv_at hl 4 rfl) ?_
  refine r_putF hx hb hts hown hnm hC hH hS t0 h0 (fs := [.int a0, .int a1, .int a2, .int 0, .int 0, .int 0, .int 0, .null, .int 0, .int 0, .int 0, .int 0, .int 0, .null]) uE_s rfl inX2 tyX2 tyX2_ok nmX2 3 (by decide) rfl rfl wf_X2_21 rfl rfl (by simp) dX2_init_22 (fun H locs hH hS => ?_)
  rw [uE_uE] at hH
  have hH : Hp D b L ad (uE w t0 (.inr (2, [.int a0, .int a1, .int a2, .int a3, .int 0, .int 0, .int 0, .null, .int 0, .int 0, .int 0, .int 0, .int 0, .null]))) H := hH
  refine lv_aload_n hx hb dX2_init_25 rfl (lv_at hl 0 rfl) ?_
  refine lv_iload hx hb dX2_init_26 (lv_at hl 5 rfl) ?_
  refine r_putF hx hb hts hown hnm hC hH hS t0 h0 (fs := [.int a0, .int a1, .int a2, .int a3, .int 0, .int 0, .int 0, .null, .int 0, .int 0, .int 0, .int 0, .int 0, .null]) uE_s rfl inX2 tyX2 tyX2_ok nmX2 4 (by decide) rfl rfl wf_X2_24 rfl rfl (by simp) dX2_init_28 (fun H locs hH hS => ?_)
  rw [uE_uE] at hH
  have hH : Hp D b L ad (uE w t0 (.inr (2, [.int a0, .int a1, .int a2, .int a3, .int a4, .int 0, .int 0, .null, .int 0, .int 0, .int 0, .int 0, .int 0, .null]))) H := hH
  refine lv_aload_n hx hb dX2_init_31 rfl (lv_at hl 0 rfl) ?_
  refine lv_iload hx hb dX2_init_32 (lv_at hl 6 rfl) ?_
  refine r_putF hx hb hts hown hnm hC hH hS t0 h0 (fs := [.int a0, .int a1, .int a2, .int a3, .int a4, .int 0, .int 0, .null, .int 0, .int 0, .int 0, .int 0, .int 0, .null]) uE_s rfl inX2 tyX2 tyX2_ok nmX2 5 (by decide) rfl rfl wf_X2_27 rfl rfl (by simp) dX2_init_34 (fun H locs hH hS => ?_)
  rw [uE_uE] at hH
  have hH : Hp D b L ad (uE w t0 (.inr (2, [.int a0, .int a1, .int a2, .int a3, .int a4, .int a5, .int 0, .null, .int 0, .int 0, .int 0, .int 0, .int 0, .null]))) H := hH
  refine lv_aload_n hx hb dX2_init_37 rfl (lv_at hl 0 rfl) ?_
  refine lv_iload hx hb dX2_init_38 (lv_at hl 7 rfl) ?_
  refine r_putF hx hb hts hown hnm hC hH hS t0 h0 (fs := [.int a0, .int a1, .int a2, .int a3, .int a4, .int a5, .int 0, .null, .int 0, .int 0, .int 0, .int 0, .int 0, .null]) uE_s rfl inX2 tyX2 tyX2_ok nmX2 6 (by decide) rfl rfl wf_X2_30 (by rcases hz with rfl | rfl <;> rfl) (by rcases hz with rfl | rfl <;> rfl) (by simp) dX2_init_40 (fun H locs hH hS => ?_)
  rw [uE_uE] at hH
  have hH : Hp D b L ad (uE w t0 (.inr (2, [.int a0, .int a1, .int a2, .int a3, .int a4, .int a5, .int a6, .null, .int 0, .int 0, .int 0, .int 0, .int 0, .null]))) H := hH
  exact e_wv hx hb hr hlocks hS hH (Nat.le_refl _) (Nat.le_refl _) dX2_init_43

set_option maxHeartbeats 4000000 in
set_option maxRecDepth 100000 in
theorem mX3_init (l : Launch) {D : va_G} {k : Nat → ClassId} {b : Nat} {L : Tg → Prop} {ad : Tg → Nat} {w : Tg → va_E} (t0 : Tg) (h0 : L t0) (e0 : w t0 = .inr (3, [.int 0, .null, .int 0, .int 0, .int 0, .int 0])) (a0 : Int32) : Met l yX3_init (WS yX3_init cX3_init 2 none) ({ frames := 1, cells := 0, slots := 0, locals := 13 }) (P0 D k b (Hp D b L ad w) [.ref (ad t0), .int a0]) (Qw b none (Hp D b L ad (uE w t0 (.inr (3, [.int a0, .null, .int 0, .int 0, .int 0, .int 0]))))) 0 0 (Fb b) := by
  refine Met0 (by decide +kernel) (Nat.le_of_ble_eq_true rfl) (fun p e s m below meth c ls hx hb hr hts hown hml hlocks hnm hC hH hl => ?_)
  have hS : va_S (Fb b) s.heap s.heap [] := va_S.rf
  have hl : lv_has ls 2 [(0, .ref (ad t0)), (1, .int a0)] := hl
  refine lv_aload_n hx hb dX3_init_0 rfl (lv_at hl 0 rfl) ?_
  refine W.objInit hx hb hown (hts _ wm_X3_3) (hts _ wv_Obj) (hts _ wk_Obj) rfl (by rw [hml]; exact hl.1) rfl dX3_init_1 (Nat.le_of_ble_eq_true rfl) (Nat.le_of_ble_eq_true rfl) ?_
  refine W.eq (g2 := F0 m 4 ls []) rfl ?_
  refine lv_aload_n hx hb dX3_init_4 rfl (lv_at hl 0 rfl) ?_
  refine lv_iload_n hx hb dX3_init_5 rfl (lv_at hl 1 rfl) ?_
  refine r_put hx hb hts hown hC hH hS t0 h0 (fs := [.int 0, .null, .int 0, .int 0, .int 0, .int 0]) e0 rfl inX3 tyX3 tyX3_ok nmX3 0 (by decide) rfl wf_X3_9 rfl rfl (by simp) dX3_init_6 (fun H locs hH hS => ?_)
  have hH : Hp D b L ad (uE w t0 (.inr (3, [.int a0, .null, .int 0, .int 0, .int 0, .int 0]))) H := hH
  exact e_wv hx hb hr hlocks hS hH (Nat.le_refl _) (Nat.le_refl _) dX3_init_9

set_option maxHeartbeats 4000000 in
set_option maxRecDepth 100000 in
theorem mX0_init (l : Launch) {D : va_G} {k : Nat → ClassId} {b : Nat} {L : Tg → Prop} {ad : Tg → Nat} {w : Tg → va_E} (t0 : Tg) (h0 : L t0) (e0 : w t0 = .inr (0, [.int 0, .int 0, .int 0, .int 0, .int 0, .int 0])) (a0 a1 a2 a3 a4 a5 : Int32) : Met l yX0_init (WS yX0_init cX0_init 7 none) ({ frames := 1, cells := 0, slots := 0, locals := 13 }) (P0 D k b (Hp D b L ad w) [.ref (ad t0), .int a0, .int a1, .int a2, .int a3, .int a4, .int a5]) (Qw b none (Hp D b L ad (uE w t0 (.inr (0, [.int a0, .int a1, .int a2, .int a3, .int a4, .int a5]))))) 0 0 (Fb b) := by
  refine Met0 (by decide +kernel) (Nat.le_of_ble_eq_true rfl) (fun p e s m below meth c ls hx hb hr hts hown hml hlocks hnm hC hH hl => ?_)
  have hS : va_S (Fb b) s.heap s.heap [] := va_S.rf
  have hl : lv_has ls 7 [(0, .ref (ad t0)), (1, .int a0), (2, .int a1), (3, .int a2), (4, .int a3), (5, .int a4), (6, .int a5)] := hl
  refine lv_aload_n hx hb dX0_init_0 rfl (lv_at hl 0 rfl) ?_
  refine W.objInit hx hb hown (hts _ wm_X0_1) (hts _ wv_Obj) (hts _ wk_Obj) rfl (by rw [hml]; exact hl.1) rfl dX0_init_1 (Nat.le_of_ble_eq_true rfl) (Nat.le_of_ble_eq_true rfl) ?_
  refine W.eq (g2 := F0 m 4 ls []) rfl ?_
  refine lv_aload_n hx hb dX0_init_4 rfl (lv_at hl 0 rfl) ?_
  refine lv_iload_n hx hb dX0_init_5 rfl (lv_at hl 1 rfl) ?_
  refine r_putF hx hb hts hown hnm hC hH hS t0 h0 (fs := [.int 0, .int 0, .int 0, .int 0, .int 0, .int 0]) e0 rfl inX0 tyX0 tyX0_ok nmX0 0 (by decide) rfl rfl wf_X0_7 rfl rfl (by simp) dX0_init_6 (fun H locs hH hS => ?_)
  have hH : Hp D b L ad (uE w t0 (.inr (0, [.int a0, .int 0, .int 0, .int 0, .int 0, .int 0]))) H := hH
  refine lv_aload_n hx hb dX0_init_9 rfl (lv_at hl 0 rfl) ?_
  refine lv_iload_n hx hb dX0_init_10 rfl (lv_at hl 2 rfl) ?_
  refine r_putF hx hb hts hown hnm hC hH hS t0 h0 (fs := [.int a0, .int 0, .int 0, .int 0, .int 0, .int 0]) uE_s rfl inX0 tyX0 tyX0_ok nmX0 1 (by decide) rfl rfl wf_X0_13 rfl rfl (by simp) dX0_init_11 (fun H locs hH hS => ?_)
  rw [uE_uE] at hH
  have hH : Hp D b L ad (uE w t0 (.inr (0, [.int a0, .int a1, .int 0, .int 0, .int 0, .int 0]))) H := hH
  refine lv_aload_n hx hb dX0_init_14 rfl (lv_at hl 0 rfl) ?_
  refine lv_iload_n hx hb dX0_init_15 rfl (lv_at hl 3 rfl) ?_
  refine r_putF hx hb hts hown hnm hC hH hS t0 h0 (fs := [.int a0, .int a1, .int 0, .int 0, .int 0, .int 0]) uE_s rfl inX0 tyX0 tyX0_ok nmX0 2 (by decide) rfl rfl wf_X0_16 rfl rfl (by simp) dX0_init_16 (fun H locs hH hS => ?_)
  rw [uE_uE] at hH
  have hH : Hp D b L ad (uE w t0 (.inr (0, [.int a0, .int a1, .int a2, .int 0, .int 0, .int 0]))) H := hH
  refine lv_aload_n hx hb dX0_init_19 rfl (lv_at hl 0 rfl) ?_
  refine lv_iload hx hb dX0_init_20 (lv_at hl 4 rfl) ?_
  refine r_putF hx hb hts hown hnm hC hH hS t0 h0 (fs := [.int a0, .int a1, .int a2, .int 0, .int 0, .int 0]) uE_s rfl inX0 tyX0 tyX0_ok nmX0 3 (by decide) rfl rfl wf_X0_19 rfl rfl (by simp) dX0_init_22 (fun H locs hH hS => ?_)
  rw [uE_uE] at hH
  have hH : Hp D b L ad (uE w t0 (.inr (0, [.int a0, .int a1, .int a2, .int a3, .int 0, .int 0]))) H := hH
  refine lv_aload_n hx hb dX0_init_25 rfl (lv_at hl 0 rfl) ?_
  refine lv_iload hx hb dX0_init_26 (lv_at hl 5 rfl) ?_
  refine r_putF hx hb hts hown hnm hC hH hS t0 h0 (fs := [.int a0, .int a1, .int a2, .int a3, .int 0, .int 0]) uE_s rfl inX0 tyX0 tyX0_ok nmX0 4 (by decide) rfl rfl wf_X0_22 rfl rfl (by simp) dX0_init_28 (fun H locs hH hS => ?_)
  rw [uE_uE] at hH
  have hH : Hp D b L ad (uE w t0 (.inr (0, [.int a0, .int a1, .int a2, .int a3, .int a4, .int 0]))) H := hH
  refine lv_aload_n hx hb dX0_init_31 rfl (lv_at hl 0 rfl) ?_
  refine lv_iload hx hb dX0_init_32 (lv_at hl 6 rfl) ?_
  refine r_putF hx hb hts hown hnm hC hH hS t0 h0 (fs := [.int a0, .int a1, .int a2, .int a3, .int a4, .int 0]) uE_s rfl inX0 tyX0 tyX0_ok nmX0 5 (by decide) rfl rfl wf_X0_25 rfl rfl (by simp) dX0_init_34 (fun H locs hH hS => ?_)
  rw [uE_uE] at hH
  have hH : Hp D b L ad (uE w t0 (.inr (0, [.int a0, .int a1, .int a2, .int a3, .int a4, .int a5]))) H := hH
  exact e_wv hx hb hr hlocks hS hH (Nat.le_refl _) (Nat.le_refl _) dX0_init_37

set_option maxHeartbeats 4000000 in
set_option maxRecDepth 100000 in
theorem mX4_letAnHourGoBy (l : Launch) {D : va_G} {k : Nat → ClassId} {b : Nat} {ad0 : Tg → Nat} {g : XS} {M : MF} {o : OF} (hI : XI g) (B : Nat) (hB : tb (hrG g) ≤ tb g + B) : Met l yX4_letAnHourGoBy (WS yX4_letAnHourGoBy cX4_letAnHourGoBy 1 none) ({ frames := 7, cells := 3 * B, slots := 132 * B, locals := 148 }) (P0 D k b (Wo D k b ad0 g M o) [.ref (ad0 (0, 0, 0))]) (Qw b none (fun H => ∃ ad : Tg → Nat, Ex g ad0 ad ∧ Wo D k b ad (hrG g) M o H)) (3 * B) (132 * B) (Fb b) := by
  refine Met0 (by decide +kernel) (Nat.le_of_ble_eq_true rfl) (fun p e s m below meth c ls hx hb hr hts hown hml hlocks hnm hC hH hl => ?_)
  have hS : va_S (Fb b) s.heap s.heap [] := va_S.rf
  obtain ⟨ad, hE, hH, hl⟩ : ∃ ad : Tg → Nat, Ex g ad0 ad ∧ Wo D k b ad g M o s.heap ∧ lv_has ls 1 [(0, .ref (ad (0, 0, 0)))] := ⟨ad0, Ex.rf, hH, hl⟩
  refine lv_aload_n hx hb dX4_letAnHourGoBy_0 rfl (lv_at hl 0 rfl) ?_
  refine k_w (va_runV (As := []) (rest := []) ⟨hx, hb, hml, hown, hts⟩ (mX4_countTraffic l) ⟨cb_of hts wk_X4_countTraffic wi_X4 wm_X4_156 sd_X4_countTraffic rfl rfl ⟨Nat.le_of_ble_eq_true rfl, Nat.le_of_ble_eq_true rfl⟩, hts _ wv_X4_countTraffic, hts _ wl_X4_countTraffic⟩ (P0.preV hC hS hH (Hp.recv hC.1 hH (0, 0, 0) ⟨by decide, rfl⟩ rfl rfl)) rfl rfl hl.1 rfl (lv_room (Nat.le_of_ble_eq_true rfl)) dX4_letAnHourGoBy_1 ⟨Nat.le_of_ble_eq_true rfl, Nat.le_of_ble_eq_true rfl⟩) hS (fun H locs hH hS => ?_)
  refine W.eq (g2 := F0 m 4 ls []) rfl ?_
  refine lv_aload_n hx hb dX4_letAnHourGoBy_4 rfl (lv_at hl 0 rfl) ?_
  refine k_w (va_runV (As := []) (rest := []) ⟨hx, hb, hml, hown, hts⟩ (mX4_payRents l) ⟨cb_of hts wk_X4_payRents wi_X4 wm_X4_159 sd_X4_payRents rfl rfl ⟨Nat.le_of_ble_eq_true rfl, Nat.le_of_ble_eq_true rfl⟩, hts _ wv_X4_payRents, hts _ wl_X4_payRents⟩ (P0.preV hC hS hH (Hp.recv hC.1 hH (0, 0, 0) ⟨by decide, rfl⟩ rfl rfl)) rfl rfl hl.1 rfl (lv_room (Nat.le_of_ble_eq_true rfl)) dX4_letAnHourGoBy_5 ⟨Nat.le_of_ble_eq_true rfl, Nat.le_of_ble_eq_true rfl⟩) hS (fun H locs hH hS => ?_)
  refine W.eq (g2 := F0 m 8 ls []) rfl ?_
  refine lv_aload_n hx hb dX4_letAnHourGoBy_8 rfl (lv_at hl 0 rfl) ?_
  refine k_w (va_runV (As := []) (rest := []) ⟨hx, hb, hml, hown, hts⟩ (mX4_powerMasts l) ⟨cb_of hts wk_X4_powerMasts wi_X4 wm_X4_162 sd_X4_powerMasts rfl rfl ⟨Nat.le_of_ble_eq_true rfl, Nat.le_of_ble_eq_true rfl⟩, hts _ wv_X4_powerMasts, hts _ wl_X4_powerMasts⟩ (P0.preV hC hS hH (Hp.recv hC.1 hH (0, 0, 0) ⟨by decide, rfl⟩ rfl rfl)) rfl rfl hl.1 rfl (lv_room (Nat.le_of_ble_eq_true rfl)) dX4_letAnHourGoBy_9 ⟨Nat.le_of_ble_eq_true rfl, Nat.le_of_ble_eq_true rfl⟩) hS (fun H locs hH hS => ?_)
  refine W.eq (g2 := F0 m 12 ls []) rfl ?_
  refine lv_aload_n hx hb dX4_letAnHourGoBy_12 rfl (lv_at hl 0 rfl) ?_
  refine lv_dup hx hb dX4_letAnHourGoBy_13 rfl ?_
  refine g4 hx hb hts hown hC hH 3 (by decide) wf_X4_52 (v := .int ((pwsG (prsG (ctrG g 8) 8) 8).1 40 0)) rfl dX4_letAnHourGoBy_14 ?_
  refine lv_iconst (v := 1) hx hb dX4_letAnHourGoBy_17 (by decide) ?_
  refine lv_iadd hx hb dX4_letAnHourGoBy_18 ?_
  refine p4 hx hb hts hown hC hH hS 3 (by decide) (by decide) rfl wf_X4_52 rfl rfl dX4_letAnHourGoBy_19 (fun H locs (hH : Wo D k b ad (sx (pwsG (prsG (ctrG g 8) 8) 8) 40 0 (((pwsG (prsG (ctrG g 8) 8) 8).1 40 0) + 1)) M o H) hS => ?_)
  have hI9 : XI (elsG (tkG (pwsG (prsG (ctrG g 8) 8) 8)) 8) := ((((hI.ctr 8).prs 8).pws 8).tk).els 8
  have hH : Wo D k b ad (tkG (pwsG (prsG (ctrG g 8) 8) 8)) M o H := by exact hH
  refine lv_aload_n hx hb dX4_letAnHourGoBy_22 rfl (lv_at hl 0 rfl) ?_
  refine k_w (va_runV (As := []) (rest := []) ⟨hx, hb, hml, hown, hts⟩ (mX4_endLeases l) ⟨cb_of hts wk_X4_endLeases wi_X4 wm_X4_165 sd_X4_endLeases rfl rfl ⟨Nat.le_of_ble_eq_true rfl, Nat.le_of_ble_eq_true rfl⟩, hts _ wv_X4_endLeases, hts _ wl_X4_endLeases⟩ (P0.preV hC hS hH (Hp.recv hC.1 hH (0, 0, 0) ⟨by decide, rfl⟩ rfl rfl)) rfl rfl hl.1 rfl (lv_room (Nat.le_of_ble_eq_true rfl)) dX4_letAnHourGoBy_23 ⟨Nat.le_of_ble_eq_true rfl, Nat.le_of_ble_eq_true rfl⟩) hS (fun H locs hH hS => ?_)
  refine W.eq (g2 := F0 m 26 ls []) rfl ?_
  refine lv_aload_n hx hb dX4_letAnHourGoBy_26 rfl (lv_at hl 0 rfl) ?_
  refine k_w (va_runV (As := []) (rest := []) ⟨hx, hb, hml, hown, hts⟩ (mX4_leaveMastsThatAreNotOn l (g := (elsG (tkG (pwsG (prsG (ctrG g 8) 8) 8)) 8)) hI9 B (by rw [tb_hr0, ← tb_hr]; exact hB)) ⟨cb_of hts wk_X4_leaveMastsThatAreNotOn wi_X4 wm_X4_168 sd_X4_leaveMastsThatAreNotOn rfl rfl ⟨Nat.le_of_ble_eq_true rfl, Nat.le_of_ble_eq_true rfl⟩, hts _ wv_X4_leaveMastsThatAreNotOn, hts _ wl_X4_leaveMastsThatAreNotOn⟩ (P0.preV hC hS hH (Hp.recv hC.1 hH (0, 0, 0) ⟨by decide, rfl⟩ rfl rfl)) rfl rfl hl.1 rfl (lv_room (Nat.le_of_ble_eq_true rfl)) dX4_letAnHourGoBy_27 ⟨show 0 + 3 * B ≤ 3 * B by omega, show 0 + 132 * B ≤ 132 * B by omega⟩) hS (fun H locs hH hS => ?_)
  obtain ⟨ad, hF, hH⟩ := hH
  have hl : lv_has ls 1 [(0, .ref (ad (0, 0, 0)))] := by rw [hF (0, 0, 0) (by simp) ⟨by decide, rfl⟩]; exact hl
  refine W.eq (g2 := F0 m 30 ls []) rfl ?_
  have hE := hE.tr Gr.e9 hF
  have h9 : hrG g = (lvsG (elsG (tkG (pwsG (prsG (ctrG g 8) 8) 8)) 8) 12) := by rw [hrG]
  exact e_wv hx hb hr hlocks hS ⟨ad, hE, by rw [h9]; exact hH⟩ (show 0 + 3 * B ≤ 3 * B by omega) (show 0 + 132 * B ≤ 132 * B by omega) dX4_letAnHourGoBy_30
end
section
/-! THE CLASS: what callers call -/
set_option maxHeartbeats 4000000 in
set_option maxRecDepth 100000 in
theorem mX4_sun (l : Launch) (hlf : l.stackTraces = false) {D : va_G} {k : Nat → ClassId} {b : Nat} {ad0 : Tg → Nat} {g : XS} {M : MF} {o : OF} (a0 : Int32) : vx_Met l yX4_sun (WS yX4_sun cX4_sun 3 (some .int)) ({ frames := 6, cells := 1, slots := 6, locals := 81 }) (P0 D k b (Wo D k b ad0 g M o) [.ref (ad0 (0, 0, 0)), .int a0]) (Qx b (sunC a0 = 0) (some (.int (g.1 41 0))) (fun H => ∃ ad : Tg → Nat, Ex g ad0 ad ∧ Wo D k b ad (sx g 41 0 a0) M o H)) (Xx b (xN [nIA] (sunC a0)) (fun H => ∃ ad : Tg → Nat, Ex g ad0 ad ∧ Wo D k b ad g M o H)) 1 6 (Fb b) := by
  refine Met0x (by decide +kernel) (Nat.le_of_ble_eq_true rfl) (fun p e s m below meth c ls hx hb hr hts hown hml hlocks ht hC hH hl => ?_)
  have hS : va_S (Fb b) s.heap s.heap [] := va_S.rf
  obtain ⟨ad, hE, hH, hl⟩ : ∃ ad : Tg → Nat, Ex g ad0 ad ∧ Wo D k b ad g M o s.heap ∧ lv_has ls 3 [(0, .ref (ad (0, 0, 0))), (1, .int a0)] := ⟨ad0, Ex.rf, hH, hl⟩
  refine lv_iload_n hx hb dX4_sun_0 rfl (lv_at hl 1 rfl) ?_
  refine lv_iconst (v := 0) hx hb dX4_sun_1 (by decide) ?_
  refine lv_bipush (v := 10) hx hb dX4_sun_2 (by decide) ?_
  refine k_r (va_runS (As := [.int a0, .int 0, .int 10]) (rest := []) ⟨hx, hb, hml, hown, hts⟩ (mX4_isWithin l a0 0 10) ⟨cb_of hts wk_X4_isWithin wi_X4 wm_X4_29 sd_X4_isWithin rfl rfl ⟨Nat.le_of_ble_eq_true rfl, Nat.le_of_ble_eq_true rfl⟩, hts _ wz_X4_isWithin⟩ (P0.pre hC hS hH) rfl rfl hl.1 rfl (lv_room (Nat.le_of_ble_eq_true rfl)) dX4_sun_4 ⟨Nat.le_of_ble_eq_true rfl, Nat.le_of_ble_eq_true rfl⟩) ?_
  refine W.eq (g2 := F0 m 7 ls [.int (b2 (inB a0 0 10))]) rfl ?_
  refine lv_if_ne (tgt := 18) hx hb dX4_sun_7 (by decide) (fun c7 => ?_) (fun c7 => ?_)
  · skip
    have c7 := b2_n0.mp c7
    refine lv_aload_n hx hb dX4_sun_18 rfl (lv_at hl 0 rfl) ?_
    refine g4 hx hb hts hown hC hH 4 (by decide) wf_X4_65 (v := .int (g.1 41 0)) rfl dX4_sun_19 ?_
    refine lv_istore_n (lv' := [(2, .int (g.1 41 0)), (0, .ref (ad (0, 0, 0))), (1, .int a0)]) hx hb dX4_sun_22 rfl hl (by decide) rfl (fun ls hl => ?_)
    refine lv_aload_n hx hb dX4_sun_23 rfl (lv_at hl 1 rfl) ?_
    refine lv_iload_n hx hb dX4_sun_24 rfl (lv_at hl 2 rfl) ?_
    refine p4 hx hb hts hown hC hH hS 4 (by decide) (by decide) rfl wf_X4_65 rfl rfl dX4_sun_25 (fun H locs (hH : Wo D k b ad (sx g 41 0 a0) M o H) hS => ?_)
    refine lv_iload_n hx hb dX4_sun_28 rfl (lv_at hl 0 rfl) ?_
    have h8 : sunC a0 = 0 := by simp [sunC, c7]
    exact e_xi hx hb hr hlocks h8 rfl hS ⟨ad, hE, hH⟩ (Nat.zero_le _) (Nat.zero_le _) dX4_sun_29
  · skip
    have c7 := b2_0.mp c7
    have h9 : sunC a0 = 1 := by simp [sunC, c7]
    exact e_th (BX := fun H => ∃ ad : Tg → Nat, Ex g ad0 ad ∧ Wo D k b ad g M o H) (PE := xN [nIA] (sunC a0)) hlf (E := nIA) (by decide +kernel) wc_X4_33 wi_java_lang_IllegalArgumentException ax_IA gd_IA hx hb hts hown hC hlocks ht (by rw [hml]; exact hl.1) hS dX4_sun_10 dX4_sun_13 dX4_sun_14 dX4_sun_17 (fun H1 z o => ⟨ad, hE, hH.grow z o⟩) (Nat.le_of_ble_eq_true rfl) (Nat.le_of_ble_eq_true rfl) (show 0 + 1 ≤ 1 by omega) (show 0 + 6 ≤ 6 by omega) (show 0 + 1 ≤ 1 by omega) (show 0 + 6 ≤ 6 by omega) (by rw [h9]; exact ⟨by decide, rfl⟩)

set_option maxHeartbeats 4000000 in
set_option maxRecDepth 100000 in
theorem mX4_paid (l : Launch) (hlf : l.stackTraces = false) {D : va_G} {k : Nat → ClassId} {b : Nat} {ad0 : Tg → Nat} {g : XS} {M : MF} {o : OF} (a0 : Int32) : vx_Met l yX4_paid (WS yX4_paid cX4_paid 2 (some .int)) ({ frames := 6, cells := 1, slots := 6, locals := 81 }) (P0 D k b (Wo D k b ad0 g M o) [.ref (ad0 (0, 0, 0)), .int a0]) (Qx b (pdC a0 = 0) (some (.int (g.1 42 a0.toNatClampNeg))) (fun H => ∃ ad : Tg → Nat, Ex g ad0 ad ∧ Wo D k b ad g M o H)) (Xx b (xN [nIO] (pdC a0)) (fun H => ∃ ad : Tg → Nat, Ex g ad0 ad ∧ Wo D k b ad g M o H)) 1 6 (Fb b) := by
  refine Met0x (by decide +kernel) (Nat.le_of_ble_eq_true rfl) (fun p e s m below meth c ls hx hb hr hts hown hml hlocks ht hC hH hl => ?_)
  have hS : va_S (Fb b) s.heap s.heap [] := va_S.rf
  obtain ⟨ad, hE, hH, hl⟩ : ∃ ad : Tg → Nat, Ex g ad0 ad ∧ Wo D k b ad g M o s.heap ∧ lv_has ls 2 [(0, .ref (ad (0, 0, 0))), (1, .int a0)] := ⟨ad0, Ex.rf, hH, hl⟩
  refine lv_iload_n hx hb dX4_paid_0 rfl (lv_at hl 1 rfl) ?_
  refine k_r (va_runS (As := [.int a0]) (rest := []) ⟨hx, hb, hml, hown, hts⟩ (mX4_isFarmer l a0) ⟨cb_of hts wk_X4_isFarmer wi_X4 wm_X4_46 sd_X4_isFarmer rfl rfl ⟨Nat.le_of_ble_eq_true rfl, Nat.le_of_ble_eq_true rfl⟩, hts _ wz_X4_isFarmer⟩ (P0.pre hC hS hH) rfl rfl hl.1 rfl (lv_room (Nat.le_of_ble_eq_true rfl)) dX4_paid_1 ⟨Nat.le_of_ble_eq_true rfl, Nat.le_of_ble_eq_true rfl⟩) ?_
  refine W.eq (g2 := F0 m 4 ls [.int (b2 (inB a0 0 5))]) rfl ?_
  refine lv_if_ne (tgt := 15) hx hb dX4_paid_4 (by decide) (fun c4 => ?_) (fun c4 => ?_)
  · skip
    have c4 := b2_n0.mp c4
    refine lv_aload_n hx hb dX4_paid_15 rfl (lv_at hl 0 rfl) ?_
    refine g4 hx hb hts hown hC hH 2 (by decide) wf_X4_21 (v := .ref (ad (0, 3, 0))) rfl dX4_paid_16 ?_
    refine lv_iload_n hx hb dX4_paid_19 rfl (lv_at hl 1 rfl) ?_
    refine yLd hx hb hC hH (inB_vp c4) dX4_paid_20 ?_
    have h8 : pdC a0 = 0 := by simp [pdC, c4]
    exact e_xi hx hb hr hlocks h8 rfl hS ⟨ad, hE, hH⟩ (Nat.zero_le _) (Nat.zero_le _) dX4_paid_21
  · skip
    have c4 := b2_0.mp c4
    have h9 : pdC a0 = 1 := by simp [pdC, c4]
    exact e_th (BX := fun H => ∃ ad : Tg → Nat, Ex g ad0 ad ∧ Wo D k b ad g M o H) (PE := xN [nIO] (pdC a0)) hlf (E := nIO) (by decide +kernel) wc_X4_49 wi_java_lang_IndexOutOfBoundsException ax_IO gd_IO hx hb hts hown hC hlocks ht (by rw [hml]; exact hl.1) hS dX4_paid_7 dX4_paid_10 dX4_paid_11 dX4_paid_14 (fun H1 z o => ⟨ad, hE, hH.grow z o⟩) (Nat.le_of_ble_eq_true rfl) (Nat.le_of_ble_eq_true rfl) (show 0 + 1 ≤ 1 by omega) (show 0 + 6 ≤ 6 by omega) (show 0 + 1 ≤ 1 by omega) (show 0 + 6 ≤ 6 by omega) (by rw [h9]; exact ⟨by decide, rfl⟩)

set_option maxHeartbeats 4000000 in
set_option maxRecDepth 100000 in
theorem mX4_call (l : Launch) (hlf : l.stackTraces = false) {D : va_G} {k : Nat → ClassId} {b : Nat} {ad0 : Tg → Nat} {g : XS} {M : MF} {o : OF} (hI : XI g) (a0 : Int32) : vx_Met l yX4_call (WS yX4_call cX4_call 4 (some .int)) ({ frames := 6, cells := 1, slots := 6, locals := 102 }) (P0 D k b (Wo D k b ad0 g M o) [.ref (ad0 (0, 0, 0)), .int a0]) (Qx b (clC g a0 = 0) (some (.int (clV g (pI g a0 - 1)))) (fun H => ∃ ad : Tg → Nat, Ex g ad0 ad ∧ Wo D k b ad (clG g (pI g a0 - 1)) M o H)) (Xx b (xN [nIO, nIS] (clC g a0)) (fun H => ∃ ad : Tg → Nat, Ex g ad0 ad ∧ Wo D k b ad g M o H)) 1 6 (Fb b) := by
  refine Met0x (by decide +kernel) (Nat.le_of_ble_eq_true rfl) (fun p e s m below meth c ls hx hb hr hts hown hml hlocks ht hC hH hl => ?_)
  have hS : va_S (Fb b) s.heap s.heap [] := va_S.rf
  obtain ⟨ad, hE, hH, hl⟩ : ∃ ad : Tg → Nat, Ex g ad0 ad ∧ Wo D k b ad g M o s.heap ∧ lv_has ls 4 [(0, .ref (ad (0, 0, 0))), (1, .int a0)] := ⟨ad0, Ex.rf, hH, hl⟩
  refine lv_aload_n hx hb dX4_call_0 rfl (lv_at hl 0 rfl) ?_
  refine lv_iload_n hx hb dX4_call_1 rfl (lv_at hl 1 rfl) ?_
  refine k_r (va_runV (As := [.int a0]) (rest := []) ⟨hx, hb, hml, hown, hts⟩ (mX4_phoneAt l a0) ⟨cb_of hts wk_X4_phoneAt wi_X4 wm_X4_71 sd_X4_phoneAt rfl rfl ⟨Nat.le_of_ble_eq_true rfl, Nat.le_of_ble_eq_true rfl⟩, hts _ wv_X4_phoneAt, hts _ wl_X4_phoneAt⟩ (P0.preV hC hS hH (Hp.recv hC.1 hH (0, 0, 0) ⟨by decide, rfl⟩ rfl rfl)) rfl rfl hl.1 rfl (lv_room (Nat.le_of_ble_eq_true rfl)) dX4_call_2 ⟨Nat.le_of_ble_eq_true rfl, Nat.le_of_ble_eq_true rfl⟩) ?_
  refine W.eq (g2 := F0 m 5 ls [va_rf (prO ad (pI g a0))]) rfl ?_
  refine lv_astore_nO (lv' := [(2, va_rf (prO ad (pI g a0))), (0, .ref (ad (0, 0, 0))), (1, .int a0)]) hx hb dX4_call_5 rfl hl (by decide) rfl (fun ls hl => ?_)
  refine lv_aload_nO hx hb dX4_call_6 rfl (lv_at hl 0 rfl) ?_
  refine lv_ifnonnullO (tgt := 18) hx hb dX4_call_7 (by decide) (fun c7a c7 => ?_) (fun c7 => ?_)
  · skip
    have c7 := mt prO_0.mpr (by rw [c7]; exact Option.some_ne_none _)
    have hl : lv_has ls 4 [(2, .ref (ad (2, pI g a0 - 1, 0))), (0, .ref (ad (0, 0, 0))), (1, .int a0)] := by simpa [prO, va_rf, c7] using hl
    refine lv_aload_n hx hb dX4_call_18 rfl (lv_at hl 0 rfl) ?_
    refine g3N hx hb hts hown hC hH (pI g a0 - 1) (pI_n c7).1 1 (by decide) wf_X4_75 (v := va_rf (mrO ad (g.2.1 3 (pI g a0 - 1)))) rfl dX4_call_19 ?_
    by_cases c19 : g.2.1 3 (pI g a0 - 1) = 0
    · skip
      refine W.eq (g2 := F0 m 22 ls [.null]) (by simp [mrO, va_rf, c19]) ?_
      refine lv_ifnullN (tgt := 33) hx hb dX4_call_22 (by decide) ?_
      refine lv_aload_n hx hb dX4_call_33 rfl (lv_at hl 1 rfl) ?_
      refine lv_aload_n hx hb dX4_call_34 rfl (lv_at hl 0 rfl) ?_
      refine g3N hx hb hts hown hC hH (pI g a0 - 1) (pI_n c7).1 0 (by decide) wf_X4_79 (v := .int (g.1 30 (pI g a0 - 1))) rfl dX4_call_35 ?_
      refine k_r (va_runV (As := [.int (g.1 30 (pI g a0 - 1))]) (rest := []) ⟨hx, hb, hml, hown, hts⟩ (mX4_nearestFree l (g.1 30 (pI g a0 - 1))) ⟨cb_of hts wk_X4_nearestFree wi_X4 wm_X4_82 sd_X4_nearestFree rfl rfl ⟨Nat.le_of_ble_eq_true rfl, Nat.le_of_ble_eq_true rfl⟩, hts _ wv_X4_nearestFree, hts _ wl_X4_nearestFree⟩ (P0.preV hC hS hH (Hp.recv hC.1 hH (0, 0, 0) ⟨by decide, rfl⟩ rfl rfl)) rfl rfl hl.1 rfl (lv_room (Nat.le_of_ble_eq_true rfl)) dX4_call_38 ⟨Nat.le_of_ble_eq_true rfl, Nat.le_of_ble_eq_true rfl⟩) ?_
      refine W.eq (g2 := F0 m 41 ls [va_rf (mrO ad (nf g (g.1 30 (pI g a0 - 1)) 8))]) rfl ?_
      refine lv_astore_nO (lv' := [(3, va_rf (mrO ad (nf g (g.1 30 (pI g a0 - 1)) 8))), (2, .ref (ad (2, pI g a0 - 1, 0))), (0, .ref (ad (0, 0, 0))), (1, .int a0)]) hx hb dX4_call_41 rfl hl (by decide) rfl (fun ls hl => ?_)
      refine lv_aload_nO hx hb dX4_call_42 rfl (lv_at hl 0 rfl) ?_
      refine lv_ifnonnullO (tgt := 58) hx hb dX4_call_43 (by decide) (fun c43a c43 => ?_) (fun c43 => ?_)
      · skip
        have c43 := mt mrO_0.mpr (by rw [c43]; exact Option.some_ne_none _)
        have hl : lv_has ls 4 [(3, .ref (ad (1, nf g (g.1 30 (pI g a0 - 1)) 8 - 1, 0))), (2, .ref (ad (2, pI g a0 - 1, 0))), (0, .ref (ad (0, 0, 0))), (1, .int a0)] := by simpa [mrO, va_rf, c43] using hl
        refine lv_aload_n hx hb dX4_call_58 rfl (lv_at hl 1 rfl) ?_
        refine lv_aload_n hx hb dX4_call_59 rfl (lv_at hl 0 rfl) ?_
        refine lv_aload_n hx hb dX4_call_60 rfl (lv_at hl 2 rfl) ?_
        refine g4 hx hb hts hown hC hH 3 (by decide) wf_X4_52 (v := .int (g.1 40 0)) rfl dX4_call_61 ?_
        refine k_w (va_runVN (As := [.ref (ad (1, nf g (g.1 30 (pI g a0 - 1)) 8 - 1, 0)), .int (g.1 40 0)]) (rest := []) ⟨hx, hb, hml, hown, hts⟩ (mX3_comeTo l (g := g) (pI g a0 - 1) (nf g (g.1 30 (pI g a0 - 1)) 8 - 1) (pI_n c7).1 (show nf g (g.1 30 (pI g a0 - 1)) 8 - 1 < g.2.1 0 0 by have := (nf_le g (g.1 30 (pI g a0 - 1)) 8).2 c43; omega) (g.1 40 0)) ⟨cn_of hts wk_X3_comeTo wi_X3 wm_X4_88 sd_X3_comeTo rfl rfl ⟨Nat.le_of_ble_eq_true rfl, Nat.le_of_ble_eq_true rfl⟩, hts _ wv_X3_comeTo, hts _ wl_X3_comeTo⟩ (P0.preV hC hS hH (Hp.recv hC.1 hH (2, pI g a0 - 1, 0) ⟨(pI_n c7).1, rfl⟩ rfl rfl)) rfl rfl hl.1 rfl (lv_room (Nat.le_of_ble_eq_true rfl)) dX4_call_64 ⟨Nat.le_of_ble_eq_true rfl, Nat.le_of_ble_eq_true rfl⟩) hS (fun H locs hH hS => ?_)
        refine W.eq (g2 := F0 m 67 ls []) rfl ?_
        refine lv_aload_n hx hb dX4_call_67 rfl (lv_at hl 0 rfl) ?_
        refine g2N hx hb hts hown hC hH (nf g (g.1 30 (pI g a0 - 1)) 8 - 1) (show nf g (g.1 30 (pI g a0 - 1)) 8 - 1 < g.2.1 0 0 by have := (nf_le g (g.1 30 (pI g a0 - 1)) 8).2 c43; omega) 0 (by decide) wf_X4_92 (v := .int ((comG g (pI g a0 - 1) (nf g (g.1 30 (pI g a0 - 1)) 8 - 1) (g.1 40 0)).1 0 (nf g (g.1 30 (pI g a0 - 1)) 8 - 1))) rfl dX4_call_68 ?_
        have h8 : clC g a0 = 0 := by simp [clC, c7, c19, c43]
        have h9 : clG g (pI g a0 - 1) = (comG g (pI g a0 - 1) (nf g (g.1 30 (pI g a0 - 1)) 8 - 1) (g.1 40 0)) := by simp [clG, c7, c19, c43]
        exact e_xi hx hb hr hlocks h8 (by simp [clV, clG, c7, c19, c43]) hS ⟨ad, hE, by rw [h9]; exact hH⟩ (Nat.zero_le _) (Nat.zero_le _) dX4_call_71
      · skip
        have c43 := mrO_0.mp c43
        have hl : lv_has ls 4 [(3, .null), (2, .ref (ad (2, pI g a0 - 1, 0))), (0, .ref (ad (0, 0, 0))), (1, .int a0)] := by simpa [mrO, va_rf, c43] using hl
        refine lv_aload_n hx hb dX4_call_46 rfl (lv_at hl 1 rfl) ?_
        refine lv_dup hx hb dX4_call_47 rfl ?_
        refine g3N hx hb hts hown hC hH (pI g a0 - 1) (pI_n c7).1 3 (by decide) wf_X4_85 (v := .int (g.1 33 (pI g a0 - 1))) rfl dX4_call_48 ?_
        refine lv_iconst (v := 1) hx hb dX4_call_51 (by decide) ?_
        refine lv_iadd hx hb dX4_call_52 ?_
        refine p3N hx hb hts hown hC hH hS (pI g a0 - 1) (pI_n c7).1 3 (by decide) (by decide) rfl wf_X4_85 rfl rfl dX4_call_53 (fun H locs (hH : Wo D k b ad (sx g 33 (pI g a0 - 1) ((g.1 33 (pI g a0 - 1)) + 1)) M o H) hS => ?_)
        refine lv_iconst (v := (-1)) hx hb dX4_call_56 (by decide) ?_
        have h8 : clC g a0 = 0 := by simp [clC, c7, c19, c43]
        have h9 : clG g (pI g a0 - 1) = sx g 33 (pI g a0 - 1) ((g.1 33 (pI g a0 - 1)) + 1) := by simp [clG, c7, c19, c43]
        exact e_xi hx hb hr hlocks h8 (by simp [clV, clG, c7, c19, c43]) hS ⟨ad, hE, by rw [h9]; exact hH⟩ (Nat.zero_le _) (Nat.zero_le _) dX4_call_57
    · skip
      refine W.eq (g2 := F0 m 22 ls [.ref (ad (1, (g.2.1 3 (pI g a0 - 1)) - 1, 0))]) (by simp [mrO, va_rf, c19]) ?_
      refine lv_ifnull hx hb dX4_call_22 ?_
      have h9 : clC g a0 = 2 := by simp [clC, c7, c19]
      exact e_th (BX := fun H => ∃ ad : Tg → Nat, Ex g ad0 ad ∧ Wo D k b ad g M o H) (PE := xN [nIO, nIS] (clC g a0)) hlf (E := nIS) (by decide +kernel) wc_X4_39 wi_java_lang_IllegalStateException ax_IS gd_IS hx hb hts hown hC hlocks ht (by rw [hml]; exact hl.1) hS dX4_call_25 dX4_call_28 dX4_call_29 dX4_call_32 (fun H1 z o => ⟨ad, hE, hH.grow z o⟩) (Nat.le_of_ble_eq_true rfl) (Nat.le_of_ble_eq_true rfl) (show 0 + 1 ≤ 1 by omega) (show 0 + 6 ≤ 6 by omega) (show 0 + 1 ≤ 1 by omega) (show 0 + 6 ≤ 6 by omega) (by rw [h9]; exact ⟨by decide, rfl⟩)
  · skip
    have c7 := prO_0.mp c7
    have hl : lv_has ls 4 [(2, .null), (0, .ref (ad (0, 0, 0))), (1, .int a0)] := by simpa [prO, va_rf, c7] using hl
    have h9 : clC g a0 = 1 := by simp [clC, c7]
    exact e_th (BX := fun H => ∃ ad : Tg → Nat, Ex g ad0 ad ∧ Wo D k b ad g M o H) (PE := xN [nIO, nIS] (clC g a0)) hlf (E := nIO) (by decide +kernel) wc_X4_49 wi_java_lang_IndexOutOfBoundsException ax_IO gd_IO hx hb hts hown hC hlocks ht (by rw [hml]; exact hl.1) hS dX4_call_10 dX4_call_13 dX4_call_14 dX4_call_17 (fun H1 z o => ⟨ad, hE, hH.grow z o⟩) (Nat.le_of_ble_eq_true rfl) (Nat.le_of_ble_eq_true rfl) (show 0 + 1 ≤ 1 by omega) (show 0 + 6 ≤ 6 by omega) (show 0 + 1 ≤ 1 by omega) (show 0 + 6 ≤ 6 by omega) (by rw [h9]; exact ⟨by decide, rfl⟩)

set_option maxHeartbeats 4000000 in
set_option maxRecDepth 100000 in
theorem mX4_end (l : Launch) (hlf : l.stackTraces = false) {D : va_G} {k : Nat → ClassId} {b : Nat} {ad0 : Tg → Nat} {g : XS} {M : MF} {o : OF} (hI : XI g) (a0 : Int32) (B : Nat) (hB : tb (goG g (pI g a0 - 1) (g.1 40 0)) ≤ tb g + B) : vx_Met l yX4_end (WS yX4_end cX4_end 4 (some .int)) ({ frames := 6, cells := 3 * B + 1, slots := 132 * B + 6, locals := 101 }) (P0 D k b (Wo D k b ad0 g M o) [.ref (ad0 (0, 0, 0)), .int a0]) (Qx b (enC g a0 = 0) (some (.int (cnI g (pI g a0 - 1)))) (fun H => ∃ ad : Tg → Nat, Ex g ad0 ad ∧ Wo D k b ad (goG g (pI g a0 - 1) (g.1 40 0)) M o H)) (Xx b (xN [nIO, nIS] (enC g a0)) (fun H => ∃ ad : Tg → Nat, Ex g ad0 ad ∧ Wo D k b ad g M o H)) (3 * B + 1) (132 * B + 6) (Fb b) := by
  refine Met0x (by decide +kernel) (Nat.le_of_ble_eq_true rfl) (fun p e s m below meth c ls hx hb hr hts hown hml hlocks ht hC hH hl => ?_)
  have hS : va_S (Fb b) s.heap s.heap [] := va_S.rf
  obtain ⟨ad, hE, hH, hl⟩ : ∃ ad : Tg → Nat, Ex g ad0 ad ∧ Wo D k b ad g M o s.heap ∧ lv_has ls 4 [(0, .ref (ad (0, 0, 0))), (1, .int a0)] := ⟨ad0, Ex.rf, hH, hl⟩
  refine lv_aload_n hx hb dX4_end_0 rfl (lv_at hl 0 rfl) ?_
  refine lv_iload_n hx hb dX4_end_1 rfl (lv_at hl 1 rfl) ?_
  refine k_r (va_runV (As := [.int a0]) (rest := []) ⟨hx, hb, hml, hown, hts⟩ (mX4_phoneAt l a0) ⟨cb_of hts wk_X4_phoneAt wi_X4 wm_X4_71 sd_X4_phoneAt rfl rfl ⟨Nat.le_of_ble_eq_true rfl, Nat.le_of_ble_eq_true rfl⟩, hts _ wv_X4_phoneAt, hts _ wl_X4_phoneAt⟩ (P0.preV hC hS hH (Hp.recv hC.1 hH (0, 0, 0) ⟨by decide, rfl⟩ rfl rfl)) rfl rfl hl.1 rfl (lv_room (Nat.le_of_ble_eq_true rfl)) dX4_end_2 ⟨Nat.le_of_ble_eq_true rfl, Nat.le_of_ble_eq_true rfl⟩) ?_
  refine W.eq (g2 := F0 m 5 ls [va_rf (prO ad (pI g a0))]) rfl ?_
  refine lv_astore_nO (lv' := [(2, va_rf (prO ad (pI g a0))), (0, .ref (ad (0, 0, 0))), (1, .int a0)]) hx hb dX4_end_5 rfl hl (by decide) rfl (fun ls hl => ?_)
  refine lv_aload_nO hx hb dX4_end_6 rfl (lv_at hl 0 rfl) ?_
  refine lv_ifnonnullO (tgt := 18) hx hb dX4_end_7 (by decide) (fun c7a c7 => ?_) (fun c7 => ?_)
  · skip
    have c7 := mt prO_0.mpr (by rw [c7]; exact Option.some_ne_none _)
    have hl : lv_has ls 4 [(2, .ref (ad (2, pI g a0 - 1, 0))), (0, .ref (ad (0, 0, 0))), (1, .int a0)] := by simpa [prO, va_rf, c7] using hl
    refine lv_aload_n hx hb dX4_end_18 rfl (lv_at hl 0 rfl) ?_
    refine g3N hx hb hts hown hC hH (pI g a0 - 1) (pI_n c7).1 1 (by decide) wf_X4_75 (v := va_rf (mrO ad (g.2.1 3 (pI g a0 - 1)))) rfl dX4_end_19 ?_
    by_cases c19 : g.2.1 3 (pI g a0 - 1) = 0
    · skip
      refine W.eq (g2 := F0 m 22 ls [.null]) (by simp [mrO, va_rf, c19]) ?_
      refine lv_ifnonnullN hx hb dX4_end_22 ?_
      have h9 : enC g a0 = 2 := by simp [enC, c7, c19]
      exact e_th (BX := fun H => ∃ ad : Tg → Nat, Ex g ad0 ad ∧ Wo D k b ad g M o H) (PE := xN [nIO, nIS] (enC g a0)) hlf (E := nIS) (by decide +kernel) wc_X4_39 wi_java_lang_IllegalStateException ax_IS gd_IS hx hb hts hown hC hlocks ht (by rw [hml]; exact hl.1) hS dX4_end_25 dX4_end_28 dX4_end_29 dX4_end_32 (fun H1 z o => ⟨ad, hE, hH.grow z o⟩) (Nat.le_of_ble_eq_true rfl) (Nat.le_of_ble_eq_true rfl) (show 0 + 1 ≤ 3 * B + 1 by omega) (show 0 + 6 ≤ 132 * B + 6 by omega) (show 0 + 1 ≤ 3 * B + 1 by omega) (show 0 + 6 ≤ 132 * B + 6 by omega) (by rw [h9]; exact ⟨by decide, rfl⟩)
    · skip
      refine W.eq (g2 := F0 m 22 ls [.ref (ad (1, (g.2.1 3 (pI g a0 - 1)) - 1, 0))]) (by simp [mrO, va_rf, c19]) ?_
      refine lv_ifnonnull (tgt := 33) hx hb dX4_end_22 (by decide) ?_
      refine lv_aload_n hx hb dX4_end_33 rfl (lv_at hl 0 rfl) ?_
      refine k_r (va_runVN (As := []) (rest := []) ⟨hx, hb, hml, hown, hts⟩ (mX3_carrierNumber l (pI g a0 - 1) (pI_n c7).1 hI) ⟨cn_of hts wk_X3_carrierNumber wi_X3 wm_X4_95 sd_X3_carrierNumber rfl rfl ⟨Nat.le_of_ble_eq_true rfl, Nat.le_of_ble_eq_true rfl⟩, hts _ wv_X3_carrierNumber, hts _ wl_X3_carrierNumber⟩ (P0.preV hC hS hH (Hp.recv hC.1 hH (2, pI g a0 - 1, 0) ⟨(pI_n c7).1, rfl⟩ rfl rfl)) rfl rfl hl.1 rfl (lv_room (Nat.le_of_ble_eq_true rfl)) dX4_end_34 ⟨Nat.le_of_ble_eq_true rfl, Nat.le_of_ble_eq_true rfl⟩) ?_
      refine W.eq (g2 := F0 m 37 ls [.int (cnI g (pI g a0 - 1))]) rfl ?_
      refine lv_istore_n (lv' := [(3, .int (cnI g (pI g a0 - 1))), (2, .ref (ad (2, pI g a0 - 1, 0))), (0, .ref (ad (0, 0, 0))), (1, .int a0)]) hx hb dX4_end_37 rfl hl (by decide) rfl (fun ls hl => ?_)
      refine lv_aload_n hx hb dX4_end_38 rfl (lv_at hl 1 rfl) ?_
      refine lv_aload_n hx hb dX4_end_39 rfl (lv_at hl 2 rfl) ?_
      refine g4 hx hb hts hown hC hH 3 (by decide) wf_X4_52 (v := .int (g.1 40 0)) rfl dX4_end_40 ?_
      refine k_w (va_runVN (As := [.int (g.1 40 0)]) (rest := []) ⟨hx, hb, hml, hown, hts⟩ (mX3_goAway l (pI g a0 - 1) (pI_n c7).1 hI c19 (g.1 40 0) B (by exact hB)) ⟨cn_of hts wk_X3_goAway wi_X3 wm_X4_99 sd_X3_goAway rfl rfl ⟨Nat.le_of_ble_eq_true rfl, Nat.le_of_ble_eq_true rfl⟩, hts _ wv_X3_goAway, hts _ wl_X3_goAway⟩ (P0.preV hC hS hH (Hp.recv hC.1 hH (2, pI g a0 - 1, 0) ⟨(pI_n c7).1, rfl⟩ rfl rfl)) rfl rfl hl.1 rfl (lv_room (Nat.le_of_ble_eq_true rfl)) dX4_end_43 ⟨show 0 + 3 * B ≤ 3 * B + 1 by omega, show 0 + 132 * B ≤ 132 * B + 6 by omega⟩) hS (fun H locs hH hS => ?_)
      obtain ⟨ad, hF, hH⟩ := hH
      have hl : lv_has ls 4 [(3, .int (cnI g (pI g a0 - 1))), (2, .ref (ad (2, pI g a0 - 1, 0))), (0, .ref (ad (0, 0, 0))), (1, .int a0)] := by rw [hF (2, pI g a0 - 1, 0) (by simp) ⟨(pI_n c7).1, rfl⟩, hF (0, 0, 0) (by simp) ⟨by decide, rfl⟩]; exact hl
      refine W.eq (g2 := F0 m 46 ls []) rfl ?_
      have hE := hE.tr Gr.rf hF
      refine lv_iload_n hx hb dX4_end_46 rfl (lv_at hl 0 rfl) ?_
      have h8 : enC g a0 = 0 := by simp [enC, c7, c19]
      exact e_xi hx hb hr hlocks h8 rfl hS ⟨ad, hE, hH⟩ (show 0 + 3 * B ≤ 3 * B + 1 by omega) (show 0 + 132 * B ≤ 132 * B + 6 by omega) dX4_end_47
  · skip
    have c7 := prO_0.mp c7
    have hl : lv_has ls 4 [(2, .null), (0, .ref (ad (0, 0, 0))), (1, .int a0)] := by simpa [prO, va_rf, c7] using hl
    have h9 : enC g a0 = 1 := by simp [enC, c7]
    exact e_th (BX := fun H => ∃ ad : Tg → Nat, Ex g ad0 ad ∧ Wo D k b ad g M o H) (PE := xN [nIO, nIS] (enC g a0)) hlf (E := nIO) (by decide +kernel) wc_X4_49 wi_java_lang_IndexOutOfBoundsException ax_IO gd_IO hx hb hts hown hC hlocks ht (by rw [hml]; exact hl.1) hS dX4_end_10 dX4_end_13 dX4_end_14 dX4_end_17 (fun H1 z o => ⟨ad, hE, hH.grow z o⟩) (Nat.le_of_ble_eq_true rfl) (Nat.le_of_ble_eq_true rfl) (show 0 + 1 ≤ 3 * B + 1 by omega) (show 0 + 6 ≤ 132 * B + 6 by omega) (show 0 + 1 ≤ 3 * B + 1 by omega) (show 0 + 6 ≤ 132 * B + 6 by omega) (by rw [h9]; exact ⟨by decide, rfl⟩)

set_option maxHeartbeats 4000000 in
set_option maxRecDepth 100000 in
theorem mX4_move (l : Launch) (hlf : l.stackTraces = false) {D : va_G} {k : Nat → ClassId} {b : Nat} {ad0 : Tg → Nat} {g : XS} {M : MF} {o : OF} (hI : XI g) (a0 a1 : Int32) (B : Nat) (hB : tb (moveG g (pI g a0 - 1) a1) ≤ tb g + B) : vx_Met l yX4_move (WS yX4_move cX4_move 4 (some .int)) ({ frames := 6, cells := 3 * B + 1, slots := 132 * B + 6, locals := 124 }) (P0 D k b (Wo D k b ad0 g M o) [.ref (ad0 (0, 0, 0)), .int a0, .int a1]) (Qx b (mvC g a0 a1 = 0) (some (.int (cnI (moveG g (pI g a0 - 1) a1) (pI g a0 - 1)))) (fun H => ∃ ad : Tg → Nat, Ex g ad0 ad ∧ Wo D k b ad (moveG g (pI g a0 - 1) a1) M o H)) (Xx b (xN [nIO, nIA] (mvC g a0 a1)) (fun H => ∃ ad : Tg → Nat, Ex g ad0 ad ∧ Wo D k b ad g M o H)) (3 * B + 1) (132 * B + 6) (Fb b) := by
  refine Met0x (by decide +kernel) (Nat.le_of_ble_eq_true rfl) (fun p e s m below meth c ls hx hb hr hts hown hml hlocks ht hC hH hl => ?_)
  have hS : va_S (Fb b) s.heap s.heap [] := va_S.rf
  obtain ⟨ad, hE, hH, hl⟩ : ∃ ad : Tg → Nat, Ex g ad0 ad ∧ Wo D k b ad g M o s.heap ∧ lv_has ls 4 [(0, .ref (ad (0, 0, 0))), (1, .int a0), (2, .int a1)] := ⟨ad0, Ex.rf, hH, hl⟩
  refine lv_aload_n hx hb dX4_move_0 rfl (lv_at hl 0 rfl) ?_
  refine lv_iload_n hx hb dX4_move_1 rfl (lv_at hl 1 rfl) ?_
  refine k_r (va_runV (As := [.int a0]) (rest := []) ⟨hx, hb, hml, hown, hts⟩ (mX4_phoneAt l a0) ⟨cb_of hts wk_X4_phoneAt wi_X4 wm_X4_71 sd_X4_phoneAt rfl rfl ⟨Nat.le_of_ble_eq_true rfl, Nat.le_of_ble_eq_true rfl⟩, hts _ wv_X4_phoneAt, hts _ wl_X4_phoneAt⟩ (P0.preV hC hS hH (Hp.recv hC.1 hH (0, 0, 0) ⟨by decide, rfl⟩ rfl rfl)) rfl rfl hl.1 rfl (lv_room (Nat.le_of_ble_eq_true rfl)) dX4_move_2 ⟨Nat.le_of_ble_eq_true rfl, Nat.le_of_ble_eq_true rfl⟩) ?_
  refine W.eq (g2 := F0 m 5 ls [va_rf (prO ad (pI g a0))]) rfl ?_
  refine lv_astore_nO (lv' := [(3, va_rf (prO ad (pI g a0))), (0, .ref (ad (0, 0, 0))), (1, .int a0), (2, .int a1)]) hx hb dX4_move_5 rfl hl (by decide) rfl (fun ls hl => ?_)
  refine lv_aload_nO hx hb dX4_move_6 rfl (lv_at hl 0 rfl) ?_
  refine lv_ifnonnullO (tgt := 18) hx hb dX4_move_7 (by decide) (fun c7a c7 => ?_) (fun c7 => ?_)
  · skip
    have c7 := mt prO_0.mpr (by rw [c7]; exact Option.some_ne_none _)
    have hl : lv_has ls 4 [(3, .ref (ad (2, pI g a0 - 1, 0))), (0, .ref (ad (0, 0, 0))), (1, .int a0), (2, .int a1)] := by simpa [prO, va_rf, c7] using hl
    refine lv_iload_n hx hb dX4_move_18 rfl (lv_at hl 3 rfl) ?_
    refine k_r (va_runS (As := [.int a1]) (rest := []) ⟨hx, hb, hml, hown, hts⟩ (mX4_isPlace l a1) ⟨cb_of hts wk_X4_isPlace wi_X4 wm_X4_25 sd_X4_isPlace rfl rfl ⟨Nat.le_of_ble_eq_true rfl, Nat.le_of_ble_eq_true rfl⟩, hts _ wz_X4_isPlace⟩ (P0.pre hC hS hH) rfl rfl hl.1 rfl (lv_room (Nat.le_of_ble_eq_true rfl)) dX4_move_19 ⟨Nat.le_of_ble_eq_true rfl, Nat.le_of_ble_eq_true rfl⟩) ?_
    refine W.eq (g2 := F0 m 22 ls [.int (b2 (inB a1 0 99))]) rfl ?_
    refine lv_if_ne (tgt := 33) hx hb dX4_move_22 (by decide) (fun c22 => ?_) (fun c22 => ?_)
    · skip
      have c22 := b2_n0.mp c22
      refine lv_aload_n hx hb dX4_move_33 rfl (lv_at hl 0 rfl) ?_
      refine lv_iload_n hx hb dX4_move_34 rfl (lv_at hl 3 rfl) ?_
      refine p3N hx hb hts hown hC hH hS (pI g a0 - 1) (pI_n c7).1 0 (by decide) (by decide) rfl wf_X4_79 rfl rfl dX4_move_35 (fun H locs (hH : Wo D k b ad (sx g 30 (pI g a0 - 1) a1) M o H) hS => ?_)
      refine lv_aload_n hx hb dX4_move_38 rfl (lv_at hl 0 rfl) ?_
      refine g3N hx hb hts hown hC hH (pI g a0 - 1) (pI_n c7).1 1 (by decide) wf_X4_75 (v := va_rf (mrO ad (g.2.1 3 (pI g a0 - 1)))) rfl dX4_move_39 ?_
      by_cases c39 : g.2.1 3 (pI g a0 - 1) = 0
      · skip
        refine W.eq (g2 := F0 m 42 ls [.null]) (by simp [mrO, va_rf, c39]) ?_
        refine lv_ifnullN (tgt := 61) hx hb dX4_move_42 (by decide) ?_
        refine lv_aload_n hx hb dX4_move_61 rfl (lv_at hl 0 rfl) ?_
        refine k_r (va_runVN (As := []) (rest := []) ⟨hx, hb, hml, hown, hts⟩ (mX3_carrierNumber l (g := (sx g 30 (pI g a0 - 1) a1)) (pI g a0 - 1) (pI_n c7).1 (hI.of rfl rfl)) ⟨cn_of hts wk_X3_carrierNumber wi_X3 wm_X4_95 sd_X3_carrierNumber rfl rfl ⟨Nat.le_of_ble_eq_true rfl, Nat.le_of_ble_eq_true rfl⟩, hts _ wv_X3_carrierNumber, hts _ wl_X3_carrierNumber⟩ (P0.preV hC hS hH (Hp.recv hC.1 hH (2, pI g a0 - 1, 0) ⟨(pI_n c7).1, rfl⟩ rfl rfl)) rfl rfl hl.1 rfl (lv_room (Nat.le_of_ble_eq_true rfl)) dX4_move_62 ⟨Nat.le_of_ble_eq_true rfl, Nat.le_of_ble_eq_true rfl⟩) ?_
        refine W.eq (g2 := F0 m 65 ls [.int (cnI (sx g 30 (pI g a0 - 1) a1) (pI g a0 - 1))]) rfl ?_
        have h8 : mvC g a0 a1 = 0 := by simp [mvC, c7, c22, c39]
        have h9 : moveG g (pI g a0 - 1) a1 = sx g 30 (pI g a0 - 1) a1 := by unfold moveG; rw [if_neg (fun q => q.1 c39)]
        exact e_xi hx hb hr hlocks h8 (by rw [h9]) hS ⟨ad, hE, by rw [h9]; exact hH⟩ (Nat.zero_le _) (Nat.zero_le _) dX4_move_65
      · skip
        refine W.eq (g2 := F0 m 42 ls [.ref (ad (1, (g.2.1 3 (pI g a0 - 1)) - 1, 0))]) (by simp [mrO, va_rf, c39]) ?_
        refine lv_ifnull hx hb dX4_move_42 ?_
        refine lv_aload_n hx hb dX4_move_45 rfl (lv_at hl 0 rfl) ?_
        refine g3N hx hb hts hown hC hH (pI g a0 - 1) (pI_n c7).1 1 (by decide) wf_X4_75 (v := va_rf (mrO ad (g.2.1 3 (pI g a0 - 1)))) rfl dX4_move_46 ?_
        refine W.eq (g2 := F0 m 49 ls [.ref (ad (1, (g.2.1 3 (pI g a0 - 1)) - 1, 0))]) (by simp [mrO, va_rf, c39]) ?_
        refine lv_iload_n hx hb dX4_move_49 rfl (lv_at hl 3 rfl) ?_
        refine k_r (va_runVN (As := [.int a1]) (rest := []) ⟨hx, hb, hml, hown, hts⟩ (mX2_covers l (g := (sx g 30 (pI g a0 - 1) a1)) ((g.2.1 3 (pI g a0 - 1)) - 1) (show _ < g.2.1 0 0 by have := hI.2.2.1 (pI g a0 - 1) (pI_n c7).1; omega) a1) ⟨cn_of hts wk_X2_covers wi_X2 wm_X4_102 sd_X2_covers rfl rfl ⟨Nat.le_of_ble_eq_true rfl, Nat.le_of_ble_eq_true rfl⟩, hts _ wv_X2_covers, hts _ wl_X2_covers⟩ (P0.preV hC hS hH (Hp.recv hC.1 hH (1, (g.2.1 3 (pI g a0 - 1)) - 1, 0) ⟨(show _ < g.2.1 0 0 by have := hI.2.2.1 (pI g a0 - 1) (pI_n c7).1; omega), rfl⟩ rfl rfl)) rfl rfl hl.1 rfl (lv_room (Nat.le_of_ble_eq_true rfl)) dX4_move_50 ⟨Nat.le_of_ble_eq_true rfl, Nat.le_of_ble_eq_true rfl⟩) ?_
        refine W.eq (g2 := F0 m 53 ls [.int (b2 (cvB (sx g 30 (pI g a0 - 1) a1) ((g.2.1 3 (pI g a0 - 1)) - 1) a1))]) rfl ?_
        refine lv_if_ne (tgt := 61) hx hb dX4_move_53 (by decide) (fun c53 => ?_) (fun c53 => ?_)
        · skip
          have c53 := b2_n0.mp c53
          refine lv_aload_n hx hb dX4_move_61 rfl (lv_at hl 0 rfl) ?_
          refine k_r (va_runVN (As := []) (rest := []) ⟨hx, hb, hml, hown, hts⟩ (mX3_carrierNumber l (g := (sx g 30 (pI g a0 - 1) a1)) (pI g a0 - 1) (pI_n c7).1 (hI.of rfl rfl)) ⟨cn_of hts wk_X3_carrierNumber wi_X3 wm_X4_95 sd_X3_carrierNumber rfl rfl ⟨Nat.le_of_ble_eq_true rfl, Nat.le_of_ble_eq_true rfl⟩, hts _ wv_X3_carrierNumber, hts _ wl_X3_carrierNumber⟩ (P0.preV hC hS hH (Hp.recv hC.1 hH (2, pI g a0 - 1, 0) ⟨(pI_n c7).1, rfl⟩ rfl rfl)) rfl rfl hl.1 rfl (lv_room (Nat.le_of_ble_eq_true rfl)) dX4_move_62 ⟨Nat.le_of_ble_eq_true rfl, Nat.le_of_ble_eq_true rfl⟩) ?_
          refine W.eq (g2 := F0 m 65 ls [.int (cnI (sx g 30 (pI g a0 - 1) a1) (pI g a0 - 1))]) rfl ?_
          have h8 : mvC g a0 a1 = 0 := by simp [mvC, c7, c22, c39, c53]
          have h9 : moveG g (pI g a0 - 1) a1 = sx g 30 (pI g a0 - 1) a1 := by unfold moveG; rw [if_neg (fun q => by rw [c53] at q; exact absurd q.2 (by decide))]
          exact e_xi hx hb hr hlocks h8 (by rw [h9]) hS ⟨ad, hE, by rw [h9]; exact hH⟩ (Nat.zero_le _) (Nat.zero_le _) dX4_move_65
        · skip
          have c53 := b2_0.mp c53
          have h9 : moveG g (pI g a0 - 1) a1 = hndG (sx g 30 (pI g a0 - 1) a1) (pI g a0 - 1) := by unfold moveG; rw [if_pos ⟨c39, c53⟩]
          refine lv_aload_n hx hb dX4_move_56 rfl (lv_at hl 1 rfl) ?_
          refine lv_aload_n hx hb dX4_move_57 rfl (lv_at hl 0 rfl) ?_
          refine k_w (va_runV (As := [.ref (ad (2, pI g a0 - 1, 0))]) (rest := []) ⟨hx, hb, hml, hown, hts⟩ (mX4_handOverOrDrop l (g := (sx g 30 (pI g a0 - 1) a1)) (pI g a0 - 1) (pI_n c7).1 (hI.of rfl rfl) c39 B (by rw [← h9]; exact hB)) ⟨cb_of hts wk_X4_handOverOrDrop wi_X4 wm_X4_105 sd_X4_handOverOrDrop rfl rfl ⟨Nat.le_of_ble_eq_true rfl, Nat.le_of_ble_eq_true rfl⟩, hts _ wv_X4_handOverOrDrop, hts _ wl_X4_handOverOrDrop⟩ (P0.preV hC hS hH (Hp.recv hC.1 hH (0, 0, 0) ⟨by decide, rfl⟩ rfl rfl)) rfl rfl hl.1 rfl (lv_room (Nat.le_of_ble_eq_true rfl)) dX4_move_58 ⟨show 0 + 3 * B ≤ 3 * B + 1 by omega, show 0 + 132 * B ≤ 132 * B + 6 by omega⟩) hS (fun H locs hH hS => ?_)
          obtain ⟨ad, hF, hH⟩ := hH
          have hl : lv_has ls 4 [(3, .ref (ad (2, pI g a0 - 1, 0))), (0, .ref (ad (0, 0, 0))), (1, .int a0), (2, .int a1)] := by rw [hF (2, pI g a0 - 1, 0) (by simp) ⟨(pI_n c7).1, rfl⟩, hF (0, 0, 0) (by simp) ⟨by decide, rfl⟩]; exact hl
          refine W.eq (g2 := F0 m 61 ls []) rfl ?_
          have hE := hE.tr (Gr.of rfl) hF
          have hI9 : XI (hndG (sx g 30 (pI g a0 - 1) a1) (pI g a0 - 1)) := XI.hnd (hI.of rfl rfl) (pI_n c7).1 c39
          refine lv_aload_n hx hb dX4_move_61 rfl (lv_at hl 0 rfl) ?_
          refine k_r (va_runVN (As := []) (rest := []) ⟨hx, hb, hml, hown, hts⟩ (mX3_carrierNumber l (g := (hndG (sx g 30 (pI g a0 - 1) a1) (pI g a0 - 1))) (pI g a0 - 1) (by rw [hndG_n (by decide) (by decide)]; exact (pI_n c7).1) hI9) ⟨cn_of hts wk_X3_carrierNumber wi_X3 wm_X4_95 sd_X3_carrierNumber rfl rfl ⟨Nat.le_of_ble_eq_true rfl, Nat.le_of_ble_eq_true rfl⟩, hts _ wv_X3_carrierNumber, hts _ wl_X3_carrierNumber⟩ (P0.preV hC hS hH (Hp.recv hC.1 hH (2, pI g a0 - 1, 0) ⟨(by rw [hndG_n (by decide) (by decide)]; exact (pI_n c7).1), rfl⟩ rfl rfl)) rfl rfl hl.1 rfl (lv_room (Nat.le_of_ble_eq_true rfl)) dX4_move_62 ⟨show 0 + 3 * B + 0 ≤ 3 * B + 1 by omega, show 0 + 132 * B + 0 ≤ 132 * B + 6 by omega⟩) ?_
          refine W.eq (g2 := F0 m 65 ls [.int (cnI (hndG (sx g 30 (pI g a0 - 1) a1) (pI g a0 - 1)) (pI g a0 - 1))]) rfl ?_
          have h8 : mvC g a0 a1 = 0 := by simp [mvC, c7, c22, c39, c53]
          exact e_xi hx hb hr hlocks h8 (by rw [h9]) hS ⟨ad, hE, by rw [h9]; exact hH⟩ (show 0 + 3 * B ≤ 3 * B + 1 by omega) (show 0 + 132 * B ≤ 132 * B + 6 by omega) dX4_move_65
    · skip
      have c22 := b2_0.mp c22
      have h9 : mvC g a0 a1 = 2 := by simp [mvC, c7, c22]
      exact e_th (BX := fun H => ∃ ad : Tg → Nat, Ex g ad0 ad ∧ Wo D k b ad g M o H) (PE := xN [nIO, nIA] (mvC g a0 a1)) hlf (E := nIA) (by decide +kernel) wc_X4_33 wi_java_lang_IllegalArgumentException ax_IA gd_IA hx hb hts hown hC hlocks ht (by rw [hml]; exact hl.1) hS dX4_move_25 dX4_move_28 dX4_move_29 dX4_move_32 (fun H1 z o => ⟨ad, hE, hH.grow z o⟩) (Nat.le_of_ble_eq_true rfl) (Nat.le_of_ble_eq_true rfl) (show 0 + 1 ≤ 3 * B + 1 by omega) (show 0 + 6 ≤ 132 * B + 6 by omega) (show 0 + 1 ≤ 3 * B + 1 by omega) (show 0 + 6 ≤ 132 * B + 6 by omega) (by rw [h9]; exact ⟨by decide, rfl⟩)
  · skip
    have c7 := prO_0.mp c7
    have hl : lv_has ls 4 [(3, .null), (0, .ref (ad (0, 0, 0))), (1, .int a0), (2, .int a1)] := by simpa [prO, va_rf, c7] using hl
    have h9 : mvC g a0 a1 = 1 := by simp [mvC, c7]
    exact e_th (BX := fun H => ∃ ad : Tg → Nat, Ex g ad0 ad ∧ Wo D k b ad g M o H) (PE := xN [nIO, nIA] (mvC g a0 a1)) hlf (E := nIO) (by decide +kernel) wc_X4_49 wi_java_lang_IndexOutOfBoundsException ax_IO gd_IO hx hb hts hown hC hlocks ht (by rw [hml]; exact hl.1) hS dX4_move_10 dX4_move_13 dX4_move_14 dX4_move_17 (fun H1 z o => ⟨ad, hE, hH.grow z o⟩) (Nat.le_of_ble_eq_true rfl) (Nat.le_of_ble_eq_true rfl) (show 0 + 1 ≤ 3 * B + 1 by omega) (show 0 + 6 ≤ 132 * B + 6 by omega) (show 0 + 1 ≤ 3 * B + 1 by omega) (show 0 + 6 ≤ 132 * B + 6 by omega) (by rw [h9]; exact ⟨by decide, rfl⟩)
end
section
/-! THE CLASS: what callers call, the rest -/
theorem inB_n1 {a lo z : Int32} {n : Nat} (hlo : ¬ lo < 0) (hz : z = nI n) (hn : n < 2 ^ 31) (h : inB a lo z = true) : ∃ j : Nat, j ≤ n ∧ a = nI j := by
  subst hz
  simp only [inB, Bool.and_eq_true, decide_eq_true_eq] at h
  exact nI_of2 (nI_toInt hn) (Int32.not_lt.mpr (Int32.le_trans (Int32.not_lt.mp hlo) h.1)) h.2
theorem inB_out {a lo hi : Int32} (h : inB a lo hi = false) : a.toInt < lo.toInt ∨ hi.toInt < a.toInt := by
  by_cases h1 : lo ≤ a
  · by_cases h2 : a ≤ hi
    · simp [inB, h1, h2] at h
    · right
      rw [Int32.le_iff_toInt_le] at h2
      omega
  · left
    rw [Int32.le_iff_toInt_le] at h1
    omega
theorem mrO_is {D : va_G} {k : Nat → ClassId} {b : Nat} {ad : Tg → Nat} {g : XS} {M : MF} {o : OF} {H : Heap} (hH : Wo D k b ad g M o H) {i r : Nat} (hi : i < g.2.1 0 0) (hr : r ≤ g.2.1 0 0) : mrO ad r = some (ad (1, i, 0)) ↔ r = i + 1 := by
  unfold mrO
  by_cases e : r = 0
  · rw [if_pos e]
    constructor
    · intro q; cases q
    · intro q; omega
  · rw [if_neg e]
    constructor
    · intro q
      have h9 := hH.2.1 (1, r - 1, 0) (1, i, 0) ⟨by omega, rfl⟩ ⟨hi, rfl⟩ (Option.some.inj q)
      have h8 : r - 1 = i := by simpa using h9
      omega
    · intro q
      subst q
      rfl
set_option maxHeartbeats 4000000 in
set_option maxRecDepth 100000 in
theorem mX4_pass (l : Launch) (hlf : l.stackTraces = false) {D : va_G} {k : Nat → ClassId} {b : Nat} {ad0 : Tg → Nat} {g : XS} {M : MF} {o : OF} (hI : XI g) (a0 : Int32) (B : Nat) (hB : tb (hrsG g a0.toNatClampNeg) ≤ tb g + B) : vx_Met l yX4_pass (WS yX4_pass cX4_pass 3 (some .int)) ({ frames := 8, cells := 3 * B + 1, slots := 132 * B + 6, locals := 168 }) (P0 D k b (Wo D k b ad0 g M o) [.ref (ad0 (0, 0, 0)), .int a0]) (Qx b (paC g a0 = 0) (some (.int ((hrsG g a0.toNatClampNeg).1 40 0))) (fun H => ∃ ad : Tg → Nat, Ex g ad0 ad ∧ Wo D k b ad (hrsG g a0.toNatClampNeg) M o H)) (Xx b (xN [nIA, nIS] (paC g a0)) (fun H => ∃ ad : Tg → Nat, Ex g ad0 ad ∧ Wo D k b ad g M o H)) (3 * B + 1) (132 * B + 6) (Fb b) := by
  refine Met0x (by decide +kernel) (Nat.le_of_ble_eq_true rfl) (fun p e s m below meth c ls hx hb hr hts hown hml hlocks ht hC hH hl => ?_)
  have hS : va_S (Fb b) s.heap s.heap [] := va_S.rf
  obtain ⟨ad, hE, hH, hl⟩ : ∃ ad : Tg → Nat, Ex g ad0 ad ∧ Wo D k b ad g M o s.heap ∧ lv_has ls 3 [(0, .ref (ad (0, 0, 0))), (1, .int a0)] := ⟨ad0, Ex.rf, hH, hl⟩
  refine lv_iload_n hx hb dX4_pass_0 rfl (lv_at hl 1 rfl) ?_
  refine lv_iconst (v := 1) hx hb dX4_pass_1 (by decide) ?_
  refine lv_bipush (v := 100) hx hb dX4_pass_2 (by decide) ?_
  refine k_r (va_runS (As := [.int a0, .int 1, .int 100]) (rest := []) ⟨hx, hb, hml, hown, hts⟩ (mX4_isWithin l a0 1 100) ⟨cb_of hts wk_X4_isWithin wi_X4 wm_X4_29 sd_X4_isWithin rfl rfl ⟨Nat.le_of_ble_eq_true rfl, Nat.le_of_ble_eq_true rfl⟩, hts _ wz_X4_isWithin⟩ (P0.pre hC hS hH) rfl rfl hl.1 rfl (lv_room (Nat.le_of_ble_eq_true rfl)) dX4_pass_4 ⟨Nat.le_of_ble_eq_true rfl, Nat.le_of_ble_eq_true rfl⟩) ?_
  refine W.eq (g2 := F0 m 7 ls [.int (b2 (inB a0 1 100))]) rfl ?_
  refine lv_if_ne (tgt := 18) hx hb dX4_pass_7 (by decide) (fun c7 => ?_) (fun c7 => ?_)
  · skip
    have c7 := b2_n0.mp c7
    refine lv_aload_n hx hb dX4_pass_18 rfl (lv_at hl 0 rfl) ?_
    refine g4 hx hb hts hown hC hH 3 (by decide) wf_X4_52 (v := .int (g.1 40 0)) rfl dX4_pass_19 ?_
    refine lv_iload_n hx hb dX4_pass_22 rfl (lv_at hl 1 rfl) ?_
    refine lv_iadd hx hb dX4_pass_23 ?_
    refine lv_sipush (v := 10000) hx hb dX4_pass_24 (by decide) ?_
    refine lv_icmp_le (tgt := 38) hx hb dX4_pass_27 (by decide) (fun c27 => ?_) (fun c27 => ?_)
    · skip
      have c27x := Int32.not_lt.mpr c27
      refine lv_iconst (v := nI 0) hx hb dX4_pass_38 (by decide) ?_
      refine lv_istore_n (lv' := [(2, .int (nI 0)), (0, .ref (ad (0, 0, 0))), (1, .int a0)]) hx hb dX4_pass_39 rfl hl (by decide) rfl (fun ls hl => ?_)
      have h8 : paC g a0 = 0 := by simp [paC, c7, c27, c27x]
      obtain ⟨n, hn, h7⟩ := inB_n1 (n := 100) (by decide) rfl (by decide) c7
      have h6 : a0.toNatClampNeg = n := by rw [h7]; exact nI_clamp (by omega)
      rw [h6] at hB ⊢
      have hl : lv_has ls 3 [(2, .int (nI 0)), (0, .ref (ad (0, 0, 0))), (1, .int (nI n))] := by rw [← h7]; exact hl
      refine loop_w n (fun i H locs cells slots ls => cells = 3 * (tb (hrsG g i) - tb g) ∧ slots = 132 * (tb (hrsG g i) - tb g) ∧ ∃ ad : Tg → Nat, Ex g ad0 ad ∧ Wo D k b ad (hrsG g i) M o H ∧ va_S (Fb b) s.heap H locs ∧ lv_has ls 3 [(0, .ref (ad (0, 0, 0))), (1, .int (nI n)), (2, .int (nI i))]) (fun i hi H locs cells slots ls hJ0 ih => ?_) (fun H locs cells slots ls hJ0 => ?_) ⟨by rw [hrsG]; omega, by rw [hrsG]; omega, ad, hE, hH, hS, lv_sub hl [1, 2, 0] rfl⟩
      · skip
        obtain ⟨rfl, rfl, ad, hE, hH, hS, hl⟩ := hJ0
        have t0 := tb_hrs hI 0 i
        rw [Nat.zero_add, show hrsG g 0 = g from rfl] at t0
        have t1 := tb_hrle (hI.hrs i)
        have t2 := tb_hrs hI (i + 1) (n - (i + 1))
        rw [show i + 1 + (n - (i + 1)) = n by omega] at t2
        rw [show hrsG g (i + 1) = hrG (hrsG g i) from rfl] at t2
        obtain ⟨B1, hB1⟩ : ∃ z, z = tb (hrG (hrsG g i)) - tb (hrsG g i) := ⟨_, rfl⟩
        refine lv_iload_n hx hb dX4_pass_40 rfl (lv_at hl 2 rfl) ?_
        refine lv_iload_n hx hb dX4_pass_41 rfl (lv_at hl 1 rfl) ?_
        refine lv_icmp_ge (tgt := 55) hx hb dX4_pass_42 (by decide) (fun c42 => absurd c42 (nI_ge hi (by omega))) (fun c42 => ?_)
        refine lv_aload_n hx hb dX4_pass_45 rfl (lv_at hl 0 rfl) ?_
        refine k_w (va_runV (As := []) (rest := []) ⟨hx, hb, hml, hown, hts⟩ (mX4_letAnHourGoBy l (g := hrsG g i) (hI.hrs i) B1 (by omega)) ⟨cb_of hts wk_X4_letAnHourGoBy wi_X4 wm_X4_109 sd_X4_letAnHourGoBy rfl rfl ⟨Nat.le_of_ble_eq_true rfl, Nat.le_of_ble_eq_true rfl⟩, hts _ wv_X4_letAnHourGoBy, hts _ wl_X4_letAnHourGoBy⟩ (P0.preV hC hS hH (Hp.recv hC.1 hH (0, 0, 0) ⟨by decide, rfl⟩ rfl rfl)) rfl rfl hl.1 rfl (lv_room (Nat.le_of_ble_eq_true rfl)) dX4_pass_46 ⟨show 3 * (tb (hrsG g i) - tb g) + 3 * B1 ≤ 3 * B + 1 by omega, show 132 * (tb (hrsG g i) - tb g) + 132 * B1 ≤ 132 * B + 6 by omega⟩) hS (fun H locs hH hS => ?_)
        obtain ⟨ad, hF, hH⟩ := hH
        have hl : lv_has ls 3 [(0, .ref (ad (0, 0, 0))), (1, .int (nI n)), (2, .int (nI i))] := by rw [hF (0, 0, 0) (by simp) ⟨by decide, rfl⟩]; exact hl
        refine W.eq (g2 := F0 m 49 ls []) rfl ?_
        have hE := hE.tr (Gr.hrs i) hF
        rw [show hrG (hrsG g i) = hrsG g (i + 1) from rfl] at hH hB1 t1 t2
        refine lv_iinc (v := nI (i + 1)) (lv' := [(2, .int (nI (i + 1))), (0, .ref (ad (0, 0, 0))), (1, .int (nI n))]) hx hb dX4_pass_49 hl (k := 2) rfl (by rw [← nI_add]; rfl) (by decide) rfl (fun ls hl => ?_)
        refine lv_goto (tgt := 40) hx hb dX4_pass_52 (by decide) ?_
        exact ih H locs _ _ ls ⟨by omega, by omega, ad, hE, hH, hS, lv_sub hl [1, 2, 0] rfl⟩
      · skip
        obtain ⟨rfl, rfl, ad, hE, hH, hS, hl⟩ := hJ0
        have t0 := tb_hrs hI 0 n
        rw [Nat.zero_add, show hrsG g 0 = g from rfl] at t0
        refine lv_iload_n hx hb dX4_pass_40 rfl (lv_at hl 2 rfl) ?_
        refine lv_iload_n hx hb dX4_pass_41 rfl (lv_at hl 1 rfl) ?_
        refine lv_icmp_ge (tgt := 55) hx hb dX4_pass_42 (by decide) (fun c42 => ?_) (fun c42 => absurd (nI_le (Nat.le_refl _) (by omega)) c42)
        refine lv_aload_n hx hb dX4_pass_55 rfl (lv_at hl 0 rfl) ?_
        refine g4 hx hb hts hown hC hH 3 (by decide) wf_X4_52 (v := .int ((hrsG g n).1 40 0)) rfl dX4_pass_56 ?_
        exact e_xi hx hb hr hlocks h8 rfl hS ⟨ad, hE, hH⟩ (show 3 * (tb (hrsG g n) - tb g) ≤ 3 * B + 1 by omega) (show 132 * (tb (hrsG g n) - tb g) ≤ 132 * B + 6 by omega) dX4_pass_59
    · skip
      have c27x := Int32.not_le.mp c27
      have h9 : paC g a0 = 2 := by simp [paC, c7, c27, c27x]
      exact e_th (BX := fun H => ∃ ad : Tg → Nat, Ex g ad0 ad ∧ Wo D k b ad g M o H) (PE := xN [nIA, nIS] (paC g a0)) hlf (E := nIS) (by decide +kernel) wc_X4_39 wi_java_lang_IllegalStateException ax_IS gd_IS hx hb hts hown hC hlocks ht (by rw [hml]; exact hl.1) hS dX4_pass_30 dX4_pass_33 dX4_pass_34 dX4_pass_37 (fun H1 z o => ⟨ad, hE, hH.grow z o⟩) (Nat.le_of_ble_eq_true rfl) (Nat.le_of_ble_eq_true rfl) (show 0 + 1 ≤ 3 * B + 1 by omega) (show 0 + 6 ≤ 132 * B + 6 by omega) (show 0 + 1 ≤ 3 * B + 1 by omega) (show 0 + 6 ≤ 132 * B + 6 by omega) (by rw [h9]; exact ⟨by decide, rfl⟩)
  · skip
    have c7 := b2_0.mp c7
    have h9 : paC g a0 = 1 := by simp [paC, c7]
    exact e_th (BX := fun H => ∃ ad : Tg → Nat, Ex g ad0 ad ∧ Wo D k b ad g M o H) (PE := xN [nIA, nIS] (paC g a0)) hlf (E := nIA) (by decide +kernel) wc_X4_33 wi_java_lang_IllegalArgumentException ax_IA gd_IA hx hb hts hown hC hlocks ht (by rw [hml]; exact hl.1) hS dX4_pass_10 dX4_pass_13 dX4_pass_14 dX4_pass_17 (fun H1 z o => ⟨ad, hE, hH.grow z o⟩) (Nat.le_of_ble_eq_true rfl) (Nat.le_of_ble_eq_true rfl) (show 0 + 1 ≤ 3 * B + 1 by omega) (show 0 + 6 ≤ 132 * B + 6 by omega) (show 0 + 1 ≤ 3 * B + 1 by omega) (show 0 + 6 ≤ 132 * B + 6 by omega) (by rw [h9]; exact ⟨by decide, rfl⟩)

set_option maxHeartbeats 4000000 in
set_option maxRecDepth 100000 in
theorem mX4_ofMast (l : Launch) (hlf : l.stackTraces = false) {D : va_G} {k : Nat → ClassId} {b : Nat} {ad0 : Tg → Nat} {g : XS} {M : MF} {o : OF} (a0 a1 : Int32) : vx_Met l yX4_ofMast (WS yX4_ofMast cX4_ofMast 4 (some .int)) ({ frames := 6, cells := 1, slots := 6, locals := 81 }) (P0 D k b (Wo D k b ad0 g M o) [.ref (ad0 (0, 0, 0)), .int a0, .int a1]) (Qx b (omC g a0 a1 = 0) (some (.int (ofMV g (mI g a0 - 1) a1))) (fun H => ∃ ad : Tg → Nat, Ex g ad0 ad ∧ Wo D k b ad g M o H)) (Xx b (xN [nIO, nIA] (omC g a0 a1)) (fun H => ∃ ad : Tg → Nat, Ex g ad0 ad ∧ Wo D k b ad g M o H)) 1 6 (Fb b) := by
  refine Met0x (by decide +kernel) (Nat.le_of_ble_eq_true rfl) (fun p e s m below meth c ls hx hb hr hts hown hml hlocks ht hC hH hl => ?_)
  have hS : va_S (Fb b) s.heap s.heap [] := va_S.rf
  obtain ⟨ad, hE, hH, hl⟩ : ∃ ad : Tg → Nat, Ex g ad0 ad ∧ Wo D k b ad g M o s.heap ∧ lv_has ls 4 [(0, .ref (ad (0, 0, 0))), (1, .int a0), (2, .int a1)] := ⟨ad0, Ex.rf, hH, hl⟩
  refine lv_aload_n hx hb dX4_ofMast_0 rfl (lv_at hl 0 rfl) ?_
  refine lv_iload_n hx hb dX4_ofMast_1 rfl (lv_at hl 1 rfl) ?_
  refine k_r (va_runV (As := [.int a0]) (rest := []) ⟨hx, hb, hml, hown, hts⟩ (mX4_mastAt l a0) ⟨cb_of hts wk_X4_mastAt wi_X4 wm_X4_42 sd_X4_mastAt rfl rfl ⟨Nat.le_of_ble_eq_true rfl, Nat.le_of_ble_eq_true rfl⟩, hts _ wv_X4_mastAt, hts _ wl_X4_mastAt⟩ (P0.preV hC hS hH (Hp.recv hC.1 hH (0, 0, 0) ⟨by decide, rfl⟩ rfl rfl)) rfl rfl hl.1 rfl (lv_room (Nat.le_of_ble_eq_true rfl)) dX4_ofMast_2 ⟨Nat.le_of_ble_eq_true rfl, Nat.le_of_ble_eq_true rfl⟩) ?_
  refine W.eq (g2 := F0 m 5 ls [va_rf (mrO ad (mI g a0))]) rfl ?_
  refine lv_astore_nO (lv' := [(3, va_rf (mrO ad (mI g a0))), (0, .ref (ad (0, 0, 0))), (1, .int a0), (2, .int a1)]) hx hb dX4_ofMast_5 rfl hl (by decide) rfl (fun ls hl => ?_)
  refine lv_aload_nO hx hb dX4_ofMast_6 rfl (lv_at hl 0 rfl) ?_
  refine lv_ifnonnullO (tgt := 18) hx hb dX4_ofMast_7 (by decide) (fun c7a c7 => ?_) (fun c7 => ?_)
  · skip
    have c7 := mt mrO_0.mpr (by rw [c7]; exact Option.some_ne_none _)
    have hl : lv_has ls 4 [(3, .ref (ad (1, mI g a0 - 1, 0))), (0, .ref (ad (0, 0, 0))), (1, .int a0), (2, .int a1)] := by simpa [mrO, va_rf, c7] using hl
    refine lv_iload_n hx hb dX4_ofMast_18 rfl (lv_at hl 3 rfl) ?_
    by_cases c19 : inB a1 0 5 = true
    · skip
      have h8 : omC g a0 a1 = 0 := by simp [omC, c7, c19]
      obtain ⟨z, hz, hq⟩ := inB_nI (n := 5) rfl (by decide) c19
      rcases (show z = 0 ∨ z = 1 ∨ z = 2 ∨ z = 3 ∨ z = 4 ∨ z = 5 by omega) with rfl | rfl | rfl | rfl | rfl | rfl
      · skip
        have cz : a1 = 0 := hq
        refine lv_tableIn (tgt := 56) (off := 37) hx hb dX4_ofMast_19 (by rw [cz]; decide) (by rw [cz]; decide) (by rw [cz]; rfl) (by decide) ?_
        refine lv_aload_n hx hb dX4_ofMast_56 rfl (lv_at hl 0 rfl) ?_
        refine k_r (va_runVN (As := []) (rest := []) ⟨hx, hb, hml, hown, hts⟩ (mX2_isOn l (mI g a0 - 1) (mI_n c7).1) ⟨cn_of hts wk_X2_isOn wi_X2 wm_X4_112 sd_X2_isOn rfl rfl ⟨Nat.le_of_ble_eq_true rfl, Nat.le_of_ble_eq_true rfl⟩, hts _ wv_X2_isOn, hts _ wl_X2_isOn⟩ (P0.preV hC hS hH (Hp.recv hC.1 hH (1, mI g a0 - 1, 0) ⟨(mI_n c7).1, rfl⟩ rfl rfl)) rfl rfl hl.1 rfl (lv_room (Nat.le_of_ble_eq_true rfl)) dX4_ofMast_57 ⟨Nat.le_of_ble_eq_true rfl, Nat.le_of_ble_eq_true rfl⟩) ?_
        refine W.eq (g2 := F0 m 60 ls [.int (b2 (onB g (mI g a0 - 1)))]) rfl ?_
        refine lv_if_eq (tgt := 67) hx hb dX4_ofMast_60 (by decide) (fun c60 => ?_) (fun c60 => ?_)
        · skip
          have c60 := b2_0.mp c60
          refine lv_iconst (v := 0) hx hb dX4_ofMast_67 (by decide) ?_
          exact e_xi hx hb hr hlocks h8 (by simp [ofMV, b2, c7, c19, cz, c60]) hS ⟨ad, hE, hH⟩ (Nat.zero_le _) (Nat.zero_le _) dX4_ofMast_68
        · skip
          have c60 := b2_n0.mp c60
          refine lv_iconst (v := 1) hx hb dX4_ofMast_63 (by decide) ?_
          refine lv_goto (tgt := 68) hx hb dX4_ofMast_64 (by decide) ?_
          exact e_xi hx hb hr hlocks h8 (by simp [ofMV, b2, c7, c19, cz, c60]) hS ⟨ad, hE, hH⟩ (Nat.zero_le _) (Nat.zero_le _) dX4_ofMast_68
      · skip
        have cz : a1 = 1 := hq
        refine lv_tableIn (tgt := 69) (off := 50) hx hb dX4_ofMast_19 (by rw [cz]; decide) (by rw [cz]; decide) (by rw [cz]; rfl) (by decide) ?_
        refine lv_aload_n hx hb dX4_ofMast_69 rfl (lv_at hl 0 rfl) ?_
        refine g2N hx hb hts hown hC hH (mI g a0 - 1) (mI_n c7).1 9 (by decide) wf_X4_116 (v := .int (g.1 9 (mI g a0 - 1))) rfl dX4_ofMast_70 ?_
        exact e_xi hx hb hr hlocks h8 (by simp [ofMV, b2, c7, c19, cz]) hS ⟨ad, hE, hH⟩ (Nat.zero_le _) (Nat.zero_le _) dX4_ofMast_73
      · skip
        have cz : a1 = 2 := hq
        refine lv_tableIn (tgt := 74) (off := 55) hx hb dX4_ofMast_19 (by rw [cz]; decide) (by rw [cz]; decide) (by rw [cz]; rfl) (by decide) ?_
        refine lv_aload_n hx hb dX4_ofMast_74 rfl (lv_at hl 0 rfl) ?_
        refine g2N hx hb hts hown hC hH (mI g a0 - 1) (mI_n c7).1 10 (by decide) wf_X4_119 (v := .int (g.1 10 (mI g a0 - 1))) rfl dX4_ofMast_75 ?_
        exact e_xi hx hb hr hlocks h8 (by simp [ofMV, b2, c7, c19, cz]) hS ⟨ad, hE, hH⟩ (Nat.zero_le _) (Nat.zero_le _) dX4_ofMast_78
      · skip
        have cz : a1 = 3 := hq
        refine lv_tableIn (tgt := 79) (off := 60) hx hb dX4_ofMast_19 (by rw [cz]; decide) (by rw [cz]; decide) (by rw [cz]; rfl) (by decide) ?_
        refine lv_aload_n hx hb dX4_ofMast_79 rfl (lv_at hl 0 rfl) ?_
        refine g2N hx hb hts hown hC hH (mI g a0 - 1) (mI_n c7).1 11 (by decide) wf_X4_122 (v := .int (g.1 11 (mI g a0 - 1))) rfl dX4_ofMast_80 ?_
        exact e_xi hx hb hr hlocks h8 (by simp [ofMV, b2, c7, c19, cz]) hS ⟨ad, hE, hH⟩ (Nat.zero_le _) (Nat.zero_le _) dX4_ofMast_83
      · skip
        have cz : a1 = 4 := hq
        refine lv_tableIn (tgt := 84) (off := 65) hx hb dX4_ofMast_19 (by rw [cz]; decide) (by rw [cz]; decide) (by rw [cz]; rfl) (by decide) ?_
        refine lv_aload_n hx hb dX4_ofMast_84 rfl (lv_at hl 0 rfl) ?_
        refine g2N hx hb hts hown hC hH (mI g a0 - 1) (mI_n c7).1 12 (by decide) wf_X4_125 (v := .int (g.1 12 (mI g a0 - 1))) rfl dX4_ofMast_85 ?_
        exact e_xi hx hb hr hlocks h8 (by simp [ofMV, b2, c7, c19, cz]) hS ⟨ad, hE, hH⟩ (Nat.zero_le _) (Nat.zero_le _) dX4_ofMast_88
      · skip
        have cz : a1 = 5 := hq
        refine lv_tableIn (tgt := 89) (off := 70) hx hb dX4_ofMast_19 (by rw [cz]; decide) (by rw [cz]; decide) (by rw [cz]; rfl) (by decide) ?_
        refine lv_aload_n hx hb dX4_ofMast_89 rfl (lv_at hl 0 rfl) ?_
        refine g2N hx hb hts hown hC hH (mI g a0 - 1) (mI_n c7).1 7 (by decide) wf_X4_56 (v := va_rf (lsO ad (mI g a0 - 1) (g.2.1 2 (mI g a0 - 1)))) rfl dX4_ofMast_90 ?_
        by_cases c90 : g.2.1 2 (mI g a0 - 1) = 0
        · skip
          refine W.eq (g2 := F0 m 93 ls [.null]) (by simp [lsO, va_rf, c90]) ?_
          refine lv_ifnonnullN hx hb dX4_ofMast_93 ?_
          refine lv_iconst (v := (-1)) hx hb dX4_ofMast_96 (by decide) ?_
          refine lv_goto (tgt := 107) hx hb dX4_ofMast_97 (by decide) ?_
          exact e_xi hx hb hr hlocks h8 (by simp [ofMV, b2, c7, c19, cz, c90]) hS ⟨ad, hE, hH⟩ (Nat.zero_le _) (Nat.zero_le _) dX4_ofMast_107
        · skip
          refine W.eq (g2 := F0 m 93 ls [.ref (ad (3, mI g a0 - 1, 0))]) (by simp [lsO, va_rf, c90]) ?_
          refine lv_ifnonnull (tgt := 100) hx hb dX4_ofMast_93 (by decide) ?_
          refine lv_aload_n hx hb dX4_ofMast_100 rfl (lv_at hl 0 rfl) ?_
          refine g2N hx hb hts hown hC hH (mI g a0 - 1) (mI_n c7).1 7 (by decide) wf_X4_56 (v := va_rf (lsO ad (mI g a0 - 1) (g.2.1 2 (mI g a0 - 1)))) rfl dX4_ofMast_101 ?_
          refine W.eq (g2 := F0 m 104 ls [.ref (ad (3, mI g a0 - 1, 0))]) (by simp [lsO, va_rf, c90]) ?_
          refine g0N hx hb hts hown hC hH (mI g a0 - 1) (mI_n c7).1 c90 3 (by decide) wf_X4_128 (v := .int (g.1 23 (mI g a0 - 1))) rfl dX4_ofMast_104 ?_
          exact e_xi hx hb hr hlocks h8 (by simp [ofMV, b2, c7, c19, cz, c90]) hS ⟨ad, hE, hH⟩ (Nat.zero_le _) (Nat.zero_le _) dX4_ofMast_107
    · skip
      have c19 : inB a1 0 5 = false := by simpa using c19
      refine lv_tableOut (tgt := 108) hx hb dX4_ofMast_19 (inB_out c19) (by decide) ?_
      have h9 : omC g a0 a1 = 2 := by simp [omC, c7, c19]
      exact e_th (BX := fun H => ∃ ad : Tg → Nat, Ex g ad0 ad ∧ Wo D k b ad g M o H) (PE := xN [nIO, nIA] (omC g a0 a1)) hlf (E := nIA) (by decide +kernel) wc_X4_33 wi_java_lang_IllegalArgumentException ax_IA gd_IA hx hb hts hown hC hlocks ht (by rw [hml]; exact hl.1) hS dX4_ofMast_108 dX4_ofMast_111 dX4_ofMast_112 dX4_ofMast_115 (fun H1 z o => ⟨ad, hE, hH.grow z o⟩) (Nat.le_of_ble_eq_true rfl) (Nat.le_of_ble_eq_true rfl) (show 0 + 1 ≤ 1 by omega) (show 0 + 6 ≤ 6 by omega) (show 0 + 1 ≤ 1 by omega) (show 0 + 6 ≤ 6 by omega) (by rw [h9]; exact ⟨by decide, rfl⟩)
  · skip
    have c7 := mrO_0.mp c7
    have hl : lv_has ls 4 [(3, .null), (0, .ref (ad (0, 0, 0))), (1, .int a0), (2, .int a1)] := by simpa [mrO, va_rf, c7] using hl
    have h9 : omC g a0 a1 = 1 := by simp [omC, c7]
    exact e_th (BX := fun H => ∃ ad : Tg → Nat, Ex g ad0 ad ∧ Wo D k b ad g M o H) (PE := xN [nIO, nIA] (omC g a0 a1)) hlf (E := nIO) (by decide +kernel) wc_X4_49 wi_java_lang_IndexOutOfBoundsException ax_IO gd_IO hx hb hts hown hC hlocks ht (by rw [hml]; exact hl.1) hS dX4_ofMast_10 dX4_ofMast_13 dX4_ofMast_14 dX4_ofMast_17 (fun H1 z o => ⟨ad, hE, hH.grow z o⟩) (Nat.le_of_ble_eq_true rfl) (Nat.le_of_ble_eq_true rfl) (show 0 + 1 ≤ 1 by omega) (show 0 + 6 ≤ 6 by omega) (show 0 + 1 ≤ 1 by omega) (show 0 + 6 ≤ 6 by omega) (by rw [h9]; exact ⟨by decide, rfl⟩)

set_option maxHeartbeats 4000000 in
set_option maxRecDepth 100000 in
theorem mX4_ofPhone (l : Launch) (hlf : l.stackTraces = false) {D : va_G} {k : Nat → ClassId} {b : Nat} {ad0 : Tg → Nat} {g : XS} {M : MF} {o : OF} (hI : XI g) (a0 a1 : Int32) : vx_Met l yX4_ofPhone (WS yX4_ofPhone cX4_ofPhone 4 (some .int)) ({ frames := 6, cells := 1, slots := 6, locals := 81 }) (P0 D k b (Wo D k b ad0 g M o) [.ref (ad0 (0, 0, 0)), .int a0, .int a1]) (Qx b (opC g a0 a1 = 0) (some (.int (ofPV g (pI g a0 - 1) a1))) (fun H => ∃ ad : Tg → Nat, Ex g ad0 ad ∧ Wo D k b ad g M o H)) (Xx b (xN [nIO, nIA] (opC g a0 a1)) (fun H => ∃ ad : Tg → Nat, Ex g ad0 ad ∧ Wo D k b ad g M o H)) 1 6 (Fb b) := by
  refine Met0x (by decide +kernel) (Nat.le_of_ble_eq_true rfl) (fun p e s m below meth c ls hx hb hr hts hown hml hlocks ht hC hH hl => ?_)
  have hS : va_S (Fb b) s.heap s.heap [] := va_S.rf
  obtain ⟨ad, hE, hH, hl⟩ : ∃ ad : Tg → Nat, Ex g ad0 ad ∧ Wo D k b ad g M o s.heap ∧ lv_has ls 4 [(0, .ref (ad (0, 0, 0))), (1, .int a0), (2, .int a1)] := ⟨ad0, Ex.rf, hH, hl⟩
  refine lv_aload_n hx hb dX4_ofPhone_0 rfl (lv_at hl 0 rfl) ?_
  refine lv_iload_n hx hb dX4_ofPhone_1 rfl (lv_at hl 1 rfl) ?_
  refine k_r (va_runV (As := [.int a0]) (rest := []) ⟨hx, hb, hml, hown, hts⟩ (mX4_phoneAt l a0) ⟨cb_of hts wk_X4_phoneAt wi_X4 wm_X4_71 sd_X4_phoneAt rfl rfl ⟨Nat.le_of_ble_eq_true rfl, Nat.le_of_ble_eq_true rfl⟩, hts _ wv_X4_phoneAt, hts _ wl_X4_phoneAt⟩ (P0.preV hC hS hH (Hp.recv hC.1 hH (0, 0, 0) ⟨by decide, rfl⟩ rfl rfl)) rfl rfl hl.1 rfl (lv_room (Nat.le_of_ble_eq_true rfl)) dX4_ofPhone_2 ⟨Nat.le_of_ble_eq_true rfl, Nat.le_of_ble_eq_true rfl⟩) ?_
  refine W.eq (g2 := F0 m 5 ls [va_rf (prO ad (pI g a0))]) rfl ?_
  refine lv_astore_nO (lv' := [(3, va_rf (prO ad (pI g a0))), (0, .ref (ad (0, 0, 0))), (1, .int a0), (2, .int a1)]) hx hb dX4_ofPhone_5 rfl hl (by decide) rfl (fun ls hl => ?_)
  refine lv_aload_nO hx hb dX4_ofPhone_6 rfl (lv_at hl 0 rfl) ?_
  refine lv_ifnonnullO (tgt := 18) hx hb dX4_ofPhone_7 (by decide) (fun c7a c7 => ?_) (fun c7 => ?_)
  · skip
    have c7 := mt prO_0.mpr (by rw [c7]; exact Option.some_ne_none _)
    have hl : lv_has ls 4 [(3, .ref (ad (2, pI g a0 - 1, 0))), (0, .ref (ad (0, 0, 0))), (1, .int a0), (2, .int a1)] := by simpa [prO, va_rf, c7] using hl
    refine lv_iload_n hx hb dX4_ofPhone_18 rfl (lv_at hl 3 rfl) ?_
    by_cases c19 : inB a1 0 4 = true
    · skip
      have h8 : opC g a0 a1 = 0 := by simp [opC, c7, c19]
      obtain ⟨z, hz, hq⟩ := inB_nI (n := 4) rfl (by decide) c19
      rcases (show z = 0 ∨ z = 1 ∨ z = 2 ∨ z = 3 ∨ z = 4 by omega) with rfl | rfl | rfl | rfl | rfl
      · skip
        have cz : a1 = 0 := hq
        refine lv_tableIn (tgt := 52) (off := 33) hx hb dX4_ofPhone_19 (by rw [cz]; decide) (by rw [cz]; decide) (by rw [cz]; rfl) (by decide) ?_
        refine lv_aload_n hx hb dX4_ofPhone_52 rfl (lv_at hl 0 rfl) ?_
        refine g3N hx hb hts hown hC hH (pI g a0 - 1) (pI_n c7).1 0 (by decide) wf_X4_79 (v := .int (g.1 30 (pI g a0 - 1))) rfl dX4_ofPhone_53 ?_
        exact e_xi hx hb hr hlocks h8 (by simp [ofPV, c7, c19, cz]) hS ⟨ad, hE, hH⟩ (Nat.zero_le _) (Nat.zero_le _) dX4_ofPhone_56
      · skip
        have cz : a1 = 1 := hq
        refine lv_tableIn (tgt := 57) (off := 38) hx hb dX4_ofPhone_19 (by rw [cz]; decide) (by rw [cz]; decide) (by rw [cz]; rfl) (by decide) ?_
        refine lv_aload_n hx hb dX4_ofPhone_57 rfl (lv_at hl 0 rfl) ?_
        refine k_r (va_runVN (As := []) (rest := []) ⟨hx, hb, hml, hown, hts⟩ (mX3_carrierNumber l (pI g a0 - 1) (pI_n c7).1 hI) ⟨cn_of hts wk_X3_carrierNumber wi_X3 wm_X4_95 sd_X3_carrierNumber rfl rfl ⟨Nat.le_of_ble_eq_true rfl, Nat.le_of_ble_eq_true rfl⟩, hts _ wv_X3_carrierNumber, hts _ wl_X3_carrierNumber⟩ (P0.preV hC hS hH (Hp.recv hC.1 hH (2, pI g a0 - 1, 0) ⟨(pI_n c7).1, rfl⟩ rfl rfl)) rfl rfl hl.1 rfl (lv_room (Nat.le_of_ble_eq_true rfl)) dX4_ofPhone_58 ⟨Nat.le_of_ble_eq_true rfl, Nat.le_of_ble_eq_true rfl⟩) ?_
        refine W.eq (g2 := F0 m 61 ls [.int (cnI g (pI g a0 - 1))]) rfl ?_
        exact e_xi hx hb hr hlocks h8 (by simp [ofPV, c7, c19, cz]) hS ⟨ad, hE, hH⟩ (Nat.zero_le _) (Nat.zero_le _) dX4_ofPhone_61
      · skip
        have cz : a1 = 2 := hq
        refine lv_tableIn (tgt := 62) (off := 43) hx hb dX4_ofPhone_19 (by rw [cz]; decide) (by rw [cz]; decide) (by rw [cz]; rfl) (by decide) ?_
        refine lv_aload_n hx hb dX4_ofPhone_62 rfl (lv_at hl 0 rfl) ?_
        refine g3N hx hb hts hown hC hH (pI g a0 - 1) (pI_n c7).1 3 (by decide) wf_X4_85 (v := .int (g.1 33 (pI g a0 - 1))) rfl dX4_ofPhone_63 ?_
        exact e_xi hx hb hr hlocks h8 (by simp [ofPV, c7, c19, cz]) hS ⟨ad, hE, hH⟩ (Nat.zero_le _) (Nat.zero_le _) dX4_ofPhone_66
      · skip
        have cz : a1 = 3 := hq
        refine lv_tableIn (tgt := 67) (off := 48) hx hb dX4_ofPhone_19 (by rw [cz]; decide) (by rw [cz]; decide) (by rw [cz]; rfl) (by decide) ?_
        refine lv_aload_n hx hb dX4_ofPhone_67 rfl (lv_at hl 0 rfl) ?_
        refine g3N hx hb hts hown hC hH (pI g a0 - 1) (pI_n c7).1 4 (by decide) wf_X4_137 (v := .int (g.1 34 (pI g a0 - 1))) rfl dX4_ofPhone_68 ?_
        exact e_xi hx hb hr hlocks h8 (by simp [ofPV, c7, c19, cz]) hS ⟨ad, hE, hH⟩ (Nat.zero_le _) (Nat.zero_le _) dX4_ofPhone_71
      · skip
        have cz : a1 = 4 := hq
        refine lv_tableIn (tgt := 72) (off := 53) hx hb dX4_ofPhone_19 (by rw [cz]; decide) (by rw [cz]; decide) (by rw [cz]; rfl) (by decide) ?_
        refine lv_aload_n hx hb dX4_ofPhone_72 rfl (lv_at hl 0 rfl) ?_
        refine g3N hx hb hts hown hC hH (pI g a0 - 1) (pI_n c7).1 5 (by decide) wf_X4_140 (v := .int (g.1 35 (pI g a0 - 1))) rfl dX4_ofPhone_73 ?_
        exact e_xi hx hb hr hlocks h8 (by simp [ofPV, c7, c19, cz]) hS ⟨ad, hE, hH⟩ (Nat.zero_le _) (Nat.zero_le _) dX4_ofPhone_76
    · skip
      have c19 : inB a1 0 4 = false := by simpa using c19
      refine lv_tableOut (tgt := 77) hx hb dX4_ofPhone_19 (inB_out c19) (by decide) ?_
      have h9 : opC g a0 a1 = 2 := by simp [opC, c7, c19]
      exact e_th (BX := fun H => ∃ ad : Tg → Nat, Ex g ad0 ad ∧ Wo D k b ad g M o H) (PE := xN [nIO, nIA] (opC g a0 a1)) hlf (E := nIA) (by decide +kernel) wc_X4_33 wi_java_lang_IllegalArgumentException ax_IA gd_IA hx hb hts hown hC hlocks ht (by rw [hml]; exact hl.1) hS dX4_ofPhone_77 dX4_ofPhone_80 dX4_ofPhone_81 dX4_ofPhone_84 (fun H1 z o => ⟨ad, hE, hH.grow z o⟩) (Nat.le_of_ble_eq_true rfl) (Nat.le_of_ble_eq_true rfl) (show 0 + 1 ≤ 1 by omega) (show 0 + 6 ≤ 6 by omega) (show 0 + 1 ≤ 1 by omega) (show 0 + 6 ≤ 6 by omega) (by rw [h9]; exact ⟨by decide, rfl⟩)
  · skip
    have c7 := prO_0.mp c7
    have hl : lv_has ls 4 [(3, .null), (0, .ref (ad (0, 0, 0))), (1, .int a0), (2, .int a1)] := by simpa [prO, va_rf, c7] using hl
    have h9 : opC g a0 a1 = 1 := by simp [opC, c7]
    exact e_th (BX := fun H => ∃ ad : Tg → Nat, Ex g ad0 ad ∧ Wo D k b ad g M o H) (PE := xN [nIO, nIA] (opC g a0 a1)) hlf (E := nIO) (by decide +kernel) wc_X4_49 wi_java_lang_IndexOutOfBoundsException ax_IO gd_IO hx hb hts hown hC hlocks ht (by rw [hml]; exact hl.1) hS dX4_ofPhone_10 dX4_ofPhone_13 dX4_ofPhone_14 dX4_ofPhone_17 (fun H1 z o => ⟨ad, hE, hH.grow z o⟩) (Nat.le_of_ble_eq_true rfl) (Nat.le_of_ble_eq_true rfl) (show 0 + 1 ≤ 1 by omega) (show 0 + 6 ≤ 6 by omega) (show 0 + 1 ≤ 1 by omega) (show 0 + 6 ≤ 6 by omega) (by rw [h9]; exact ⟨by decide, rfl⟩)

set_option maxHeartbeats 4000000 in
set_option maxRecDepth 100000 in
theorem mX4_trafficAnew (l : Launch) (hlf : l.stackTraces = false) {D : va_G} {k : Nat → ClassId} {b : Nat} {ad0 : Tg → Nat} {g : XS} {M : MF} {o : OF} (hI : XI g) (a0 : Int32) : vx_Met l yX4_trafficAnew (WS yX4_trafficAnew cX4_trafficAnew 8 (some .int)) ({ frames := 6, cells := 1, slots := 6, locals := 81 }) (P0 D k b (Wo D k b ad0 g M o) [.ref (ad0 (0, 0, 0)), .int a0]) (Qx b (taC g a0 = 0) (some (.int (pnS g (mI g a0 - 1) 12 (hbA g (mI g a0 - 1) (nbk (g.2.1 4 (mI g a0 - 1))) (nbk (g.2.1 4 (mI g a0 - 1))))))) (fun H => ∃ ad : Tg → Nat, Ex g ad0 ad ∧ Wo D k b ad g M o H)) (Xx b (xN [nIO] (taC g a0)) (fun H => ∃ ad : Tg → Nat, Ex g ad0 ad ∧ Wo D k b ad g M o H)) 1 6 (Fb b) := by
  refine Met0x (by decide +kernel) (Nat.le_of_ble_eq_true rfl) (fun p e s m below meth c ls hx hb hr hts hown hml hlocks ht hC hH hl => ?_)
  have hS : va_S (Fb b) s.heap s.heap [] := va_S.rf
  obtain ⟨ad, hE, hH, hl⟩ : ∃ ad : Tg → Nat, Ex g ad0 ad ∧ Wo D k b ad g M o s.heap ∧ lv_has ls 8 [(0, .ref (ad (0, 0, 0))), (1, .int a0)] := ⟨ad0, Ex.rf, hH, hl⟩
  refine lv_aload_n hx hb dX4_trafficAnew_0 rfl (lv_at hl 0 rfl) ?_
  refine lv_iload_n hx hb dX4_trafficAnew_1 rfl (lv_at hl 1 rfl) ?_
  refine k_r (va_runV (As := [.int a0]) (rest := []) ⟨hx, hb, hml, hown, hts⟩ (mX4_mastAt l a0) ⟨cb_of hts wk_X4_mastAt wi_X4 wm_X4_42 sd_X4_mastAt rfl rfl ⟨Nat.le_of_ble_eq_true rfl, Nat.le_of_ble_eq_true rfl⟩, hts _ wv_X4_mastAt, hts _ wl_X4_mastAt⟩ (P0.preV hC hS hH (Hp.recv hC.1 hH (0, 0, 0) ⟨by decide, rfl⟩ rfl rfl)) rfl rfl hl.1 rfl (lv_room (Nat.le_of_ble_eq_true rfl)) dX4_trafficAnew_2 ⟨Nat.le_of_ble_eq_true rfl, Nat.le_of_ble_eq_true rfl⟩) ?_
  refine W.eq (g2 := F0 m 5 ls [va_rf (mrO ad (mI g a0))]) rfl ?_
  refine lv_astore_nO (lv' := [(2, va_rf (mrO ad (mI g a0))), (0, .ref (ad (0, 0, 0))), (1, .int a0)]) hx hb dX4_trafficAnew_5 rfl hl (by decide) rfl (fun ls hl => ?_)
  refine lv_aload_nO hx hb dX4_trafficAnew_6 rfl (lv_at hl 0 rfl) ?_
  refine lv_ifnonnullO (tgt := 18) hx hb dX4_trafficAnew_7 (by decide) (fun c7a c7 => ?_) (fun c7 => ?_)
  · skip
    have c7 := mt mrO_0.mpr (by rw [c7]; exact Option.some_ne_none _)
    have hl : lv_has ls 8 [(2, .ref (ad (1, mI g a0 - 1, 0))), (0, .ref (ad (0, 0, 0))), (1, .int a0)] := by simpa [mrO, va_rf, c7] using hl
    refine lv_aload_n hx hb dX4_trafficAnew_18 rfl (lv_at hl 0 rfl) ?_
    refine k_r (va_runVN (As := []) (rest := []) ⟨hx, hb, hml, hown, hts⟩ (mX2_hoursOfLog l (mI g a0 - 1) (mI_n c7).1) ⟨cn_of hts wk_X2_hoursOfLog wi_X2 wm_X4_131 sd_X2_hoursOfLog rfl rfl ⟨Nat.le_of_ble_eq_true rfl, Nat.le_of_ble_eq_true rfl⟩, hts _ wv_X2_hoursOfLog, hts _ wl_X2_hoursOfLog⟩ (P0.preV hC hS hH (Hp.recv hC.1 hH (1, mI g a0 - 1, 0) ⟨(mI_n c7).1, rfl⟩ rfl rfl)) rfl rfl hl.1 rfl (lv_room (Nat.le_of_ble_eq_true rfl)) dX4_trafficAnew_19 ⟨Nat.le_of_ble_eq_true rfl, Nat.le_of_ble_eq_true rfl⟩) ?_
    refine W.eq (g2 := F0 m 22 ls [.int (hbA g (mI g a0 - 1) (nbk (g.2.1 4 (mI g a0 - 1))) (nbk (g.2.1 4 (mI g a0 - 1))))]) rfl ?_
    refine lv_istore_n (lv' := [(3, .int (hbA g (mI g a0 - 1) (nbk (g.2.1 4 (mI g a0 - 1))) (nbk (g.2.1 4 (mI g a0 - 1))))), (2, .ref (ad (1, mI g a0 - 1, 0))), (0, .ref (ad (0, 0, 0))), (1, .int a0)]) hx hb dX4_trafficAnew_22 rfl hl (by decide) rfl (fun ls hl => ?_)
    refine lv_aload_n hx hb dX4_trafficAnew_23 rfl (lv_at hl 2 rfl) ?_
    refine g4 hx hb hts hown hC hH 1 (by decide) wf_X4_17 (v := .ref (ad (0, 2, 0))) rfl dX4_trafficAnew_24 ?_
    refine lv_astore (lv' := [(4, .ref (ad (0, 2, 0))), (3, .int (hbA g (mI g a0 - 1) (nbk (g.2.1 4 (mI g a0 - 1))) (nbk (g.2.1 4 (mI g a0 - 1))))), (2, .ref (ad (1, mI g a0 - 1, 0))), (0, .ref (ad (0, 0, 0))), (1, .int a0)]) hx hb dX4_trafficAnew_27 hl (by decide) rfl (fun ls hl => ?_)
    refine lv_aload hx hb dX4_trafficAnew_29 (lv_at hl 0 rfl) ?_
    refine pLen hx hb hC hH dX4_trafficAnew_31 ?_
    refine lv_istore (lv' := [(5, .int (nI 12)), (4, .ref (ad (0, 2, 0))), (3, .int (hbA g (mI g a0 - 1) (nbk (g.2.1 4 (mI g a0 - 1))) (nbk (g.2.1 4 (mI g a0 - 1))))), (2, .ref (ad (1, mI g a0 - 1, 0))), (0, .ref (ad (0, 0, 0))), (1, .int a0)]) hx hb dX4_trafficAnew_32 hl (by decide) rfl (fun ls hl => ?_)
    refine lv_iconst (v := nI 0) hx hb dX4_trafficAnew_34 (by decide) ?_
    refine lv_istore (lv' := [(6, .int (nI 0)), (5, .int (nI 12)), (4, .ref (ad (0, 2, 0))), (3, .int (hbA g (mI g a0 - 1) (nbk (g.2.1 4 (mI g a0 - 1))) (nbk (g.2.1 4 (mI g a0 - 1))))), (2, .ref (ad (1, mI g a0 - 1, 0))), (0, .ref (ad (0, 0, 0))), (1, .int a0)]) hx hb dX4_trafficAnew_35 hl (by decide) rfl (fun ls hl => ?_)
    refine loop_r 12 (fun i ls => lv_has ls 8 [(0, .ref (ad (0, 0, 0))), (1, .int a0), (2, .ref (ad (1, mI g a0 - 1, 0))), (3, .int (pnS g (mI g a0 - 1) i (hbA g (mI g a0 - 1) (nbk (g.2.1 4 (mI g a0 - 1))) (nbk (g.2.1 4 (mI g a0 - 1)))))), (4, .ref (ad (0, 2, 0))), (5, .int (nI 12)), (6, .int (nI i))]) (fun i hi ls hJ0 ih => ?_) (fun ls hJ0 => ?_) (lv_sub hl [5, 6, 4, 3, 2, 1, 0] rfl)
    · skip
      have hl := hJ0
      refine lv_iload hx hb dX4_trafficAnew_37 (lv_at hl 6 rfl) ?_
      refine lv_iload hx hb dX4_trafficAnew_39 (lv_at hl 5 rfl) ?_
      refine lv_icmp_ge (tgt := 84) hx hb dX4_trafficAnew_41 (by decide) (fun c41 => absurd c41 (nI_ge hi (by decide))) (fun c41 => ?_)
      refine lv_aload hx hb dX4_trafficAnew_44 (lv_at hl 4 rfl) ?_
      refine lv_iload hx hb dX4_trafficAnew_46 (lv_at hl 6 rfl) ?_
      refine pLd hx hb hC hH (i := i) hi dX4_trafficAnew_48 ?_
      by_cases c48 : i < g.2.1 1 0
      · skip
        refine W.eq (g2 := F0 m 49 ls [.ref (ad (2, i, 0))]) (by simp [phO, c48, va_rf]) ?_
        refine lv_astore (lv' := [(7, .ref (ad (2, i, 0))), (0, .ref (ad (0, 0, 0))), (1, .int a0), (2, .ref (ad (1, mI g a0 - 1, 0))), (3, .int (pnS g (mI g a0 - 1) i (hbA g (mI g a0 - 1) (nbk (g.2.1 4 (mI g a0 - 1))) (nbk (g.2.1 4 (mI g a0 - 1)))))), (4, .ref (ad (0, 2, 0))), (5, .int (nI 12)), (6, .int (nI i))]) hx hb dX4_trafficAnew_49 hl (by decide) rfl (fun ls hl => ?_)
        refine lv_aload hx hb dX4_trafficAnew_51 (lv_at hl 0 rfl) ?_
        refine lv_ifnull hx hb dX4_trafficAnew_53 ?_
        refine lv_aload hx hb dX4_trafficAnew_56 (lv_at hl 0 rfl) ?_
        refine g3N hx hb hts hown hC hH i c48 1 (by decide) wf_X4_75 (v := va_rf (mrO ad (g.2.1 3 i))) rfl dX4_trafficAnew_58 ?_
        refine lv_aload_n hx hb dX4_trafficAnew_61 rfl (lv_at hl 3 rfl) ?_
        have h5 := mrO_is hH (i := mI g a0 - 1) (r := (g.2.1 3 i)) (mI_n c7).1 (hI.2.2.1 i c48)
        refine lv_acmp_ne (rx := mrO ad (g.2.1 3 i)) (ry := some (ad (1, mI g a0 - 1, 0))) (tgt := 78) hx hb dX4_trafficAnew_62 (by decide) (fun c62 => ?_) (fun c62 => ?_)
        · skip
          rw [h5] at c62
          refine lv_iinc (v := nI (i + 1)) (lv' := [(6, .int (nI (i + 1))), (7, .ref (ad (2, i, 0))), (0, .ref (ad (0, 0, 0))), (1, .int a0), (2, .ref (ad (1, mI g a0 - 1, 0))), (3, .int (pnS g (mI g a0 - 1) i (hbA g (mI g a0 - 1) (nbk (g.2.1 4 (mI g a0 - 1))) (nbk (g.2.1 4 (mI g a0 - 1)))))), (4, .ref (ad (0, 2, 0))), (5, .int (nI 12))]) hx hb dX4_trafficAnew_78 hl (k := 7) rfl (by rw [← nI_add]; rfl) (by decide) rfl (fun ls hl => ?_)
          refine lv_goto (tgt := 37) hx hb dX4_trafficAnew_81 (by decide) ?_
          have h9 : pnS g (mI g a0 - 1) (i + 1) (hbA g (mI g a0 - 1) (nbk (g.2.1 4 (mI g a0 - 1))) (nbk (g.2.1 4 (mI g a0 - 1)))) = pnS g (mI g a0 - 1) i (hbA g (mI g a0 - 1) (nbk (g.2.1 4 (mI g a0 - 1))) (nbk (g.2.1 4 (mI g a0 - 1)))) := by rw [pnS]; simp only [c48, c62]; simp
          refine ih ls ?_
          rw [h9]
          exact lv_sub hl [2, 3, 4, 5, 6, 7, 0] rfl
        · skip
          rw [h5] at c62
          refine lv_iload_n hx hb dX4_trafficAnew_65 rfl (lv_at hl 4 rfl) ?_
          refine lv_aload_n hx hb dX4_trafficAnew_66 rfl (lv_at hl 1 rfl) ?_
          refine g4 hx hb hts hown hC hH 3 (by decide) wf_X4_52 (v := .int (g.1 40 0)) rfl dX4_trafficAnew_67 ?_
          refine lv_aload hx hb dX4_trafficAnew_70 (lv_at hl 0 rfl) ?_
          refine g3N hx hb hts hown hC hH i c48 2 (by decide) wf_X4_134 (v := .int (g.1 32 i)) rfl dX4_trafficAnew_72 ?_
          refine lv_isub hx hb dX4_trafficAnew_75 ?_
          refine lv_iadd hx hb dX4_trafficAnew_76 ?_
          refine lv_istore_n (lv' := [(3, .int ((pnS g (mI g a0 - 1) i (hbA g (mI g a0 - 1) (nbk (g.2.1 4 (mI g a0 - 1))) (nbk (g.2.1 4 (mI g a0 - 1))))) + ((g.1 40 0) - (g.1 32 i)))), (7, .ref (ad (2, i, 0))), (0, .ref (ad (0, 0, 0))), (1, .int a0), (2, .ref (ad (1, mI g a0 - 1, 0))), (4, .ref (ad (0, 2, 0))), (5, .int (nI 12)), (6, .int (nI i))]) hx hb dX4_trafficAnew_77 rfl hl (by decide) rfl (fun ls hl => ?_)
          refine lv_iinc (v := nI (i + 1)) (lv' := [(6, .int (nI (i + 1))), (3, .int ((pnS g (mI g a0 - 1) i (hbA g (mI g a0 - 1) (nbk (g.2.1 4 (mI g a0 - 1))) (nbk (g.2.1 4 (mI g a0 - 1))))) + ((g.1 40 0) - (g.1 32 i)))), (7, .ref (ad (2, i, 0))), (0, .ref (ad (0, 0, 0))), (1, .int a0), (2, .ref (ad (1, mI g a0 - 1, 0))), (4, .ref (ad (0, 2, 0))), (5, .int (nI 12))]) hx hb dX4_trafficAnew_78 hl (k := 7) rfl (by rw [← nI_add]; rfl) (by decide) rfl (fun ls hl => ?_)
          refine lv_goto (tgt := 37) hx hb dX4_trafficAnew_81 (by decide) ?_
          have h9 : pnS g (mI g a0 - 1) (i + 1) (hbA g (mI g a0 - 1) (nbk (g.2.1 4 (mI g a0 - 1))) (nbk (g.2.1 4 (mI g a0 - 1)))) = (pnS g (mI g a0 - 1) i (hbA g (mI g a0 - 1) (nbk (g.2.1 4 (mI g a0 - 1))) (nbk (g.2.1 4 (mI g a0 - 1))))) + ((g.1 40 0) - (g.1 32 i)) := by rw [pnS]; simp only [c48, c62]; simp
          refine ih ls ?_
          rw [h9]
          exact lv_sub hl [3, 4, 5, 1, 6, 7, 0] rfl
      · skip
        refine W.eq (g2 := F0 m 49 ls [.null]) (by simp [phO, c48, va_rf]) ?_
        refine lv_astoreN (lv' := [(7, .null), (0, .ref (ad (0, 0, 0))), (1, .int a0), (2, .ref (ad (1, mI g a0 - 1, 0))), (3, .int (pnS g (mI g a0 - 1) i (hbA g (mI g a0 - 1) (nbk (g.2.1 4 (mI g a0 - 1))) (nbk (g.2.1 4 (mI g a0 - 1)))))), (4, .ref (ad (0, 2, 0))), (5, .int (nI 12)), (6, .int (nI i))]) hx hb dX4_trafficAnew_49 hl (by decide) rfl (fun ls hl => ?_)
        refine lv_aloadN hx hb dX4_trafficAnew_51 (lv_at hl 0 rfl) ?_
        refine lv_ifnullN (tgt := 78) hx hb dX4_trafficAnew_53 (by decide) ?_
        refine lv_iinc (v := nI (i + 1)) (lv' := [(6, .int (nI (i + 1))), (7, .null), (0, .ref (ad (0, 0, 0))), (1, .int a0), (2, .ref (ad (1, mI g a0 - 1, 0))), (3, .int (pnS g (mI g a0 - 1) i (hbA g (mI g a0 - 1) (nbk (g.2.1 4 (mI g a0 - 1))) (nbk (g.2.1 4 (mI g a0 - 1)))))), (4, .ref (ad (0, 2, 0))), (5, .int (nI 12))]) hx hb dX4_trafficAnew_78 hl (k := 7) rfl (by rw [← nI_add]; rfl) (by decide) rfl (fun ls hl => ?_)
        refine lv_goto (tgt := 37) hx hb dX4_trafficAnew_81 (by decide) ?_
        have h9 : pnS g (mI g a0 - 1) (i + 1) (hbA g (mI g a0 - 1) (nbk (g.2.1 4 (mI g a0 - 1))) (nbk (g.2.1 4 (mI g a0 - 1)))) = pnS g (mI g a0 - 1) i (hbA g (mI g a0 - 1) (nbk (g.2.1 4 (mI g a0 - 1))) (nbk (g.2.1 4 (mI g a0 - 1)))) := by rw [pnS]; simp only [c48]; simp
        refine ih ls ?_
        rw [h9]
        exact lv_sub hl [2, 3, 4, 5, 6, 7, 0] rfl
    · skip
      have hl := hJ0
      refine lv_iload hx hb dX4_trafficAnew_37 (lv_at hl 6 rfl) ?_
      refine lv_iload hx hb dX4_trafficAnew_39 (lv_at hl 5 rfl) ?_
      refine lv_icmp_ge (tgt := 84) hx hb dX4_trafficAnew_41 (by decide) (fun c41 => ?_) (fun c41 => absurd (nI_le (Nat.le_refl _) (by decide)) c41)
      refine lv_iload_n hx hb dX4_trafficAnew_84 rfl (lv_at hl 3 rfl) ?_
      exact e_xi hx hb hr hlocks (by simp [taC, c7]) rfl hS ⟨ad, hE, hH⟩ (Nat.zero_le _) (Nat.zero_le _) dX4_trafficAnew_85
  · skip
    have c7 := mrO_0.mp c7
    have hl : lv_has ls 8 [(2, .null), (0, .ref (ad (0, 0, 0))), (1, .int a0)] := by simpa [mrO, va_rf, c7] using hl
    have h9 : taC g a0 = 1 := by simp [taC, c7]
    exact e_th (BX := fun H => ∃ ad : Tg → Nat, Ex g ad0 ad ∧ Wo D k b ad g M o H) (PE := xN [nIO] (taC g a0)) hlf (E := nIO) (by decide +kernel) wc_X4_49 wi_java_lang_IndexOutOfBoundsException ax_IO gd_IO hx hb hts hown hC hlocks ht (by rw [hml]; exact hl.1) hS dX4_trafficAnew_10 dX4_trafficAnew_13 dX4_trafficAnew_14 dX4_trafficAnew_17 (fun H1 z o => ⟨ad, hE, hH.grow z o⟩) (Nat.le_of_ble_eq_true rfl) (Nat.le_of_ble_eq_true rfl) (show 0 + 1 ≤ 1 by omega) (show 0 + 6 ≤ 6 by omega) (show 0 + 1 ≤ 1 by omega) (show 0 + 6 ≤ 6 by omega) (by rw [h9]; exact ⟨by decide, rfl⟩)

set_option maxHeartbeats 4000000 in
set_option maxRecDepth 100000 in
theorem mX4_strength (l : Launch) (hlf : l.stackTraces = false) {D : va_G} {k : Nat → ClassId} {b : Nat} {ad0 : Tg → Nat} {g : XS} {M : MF} {o : OF} (hI : XI g) (a0 : Int32) (hnan : ¬ pI g a0 = 0 → ¬ g.2.1 3 (pI g a0 - 1) = 0 → vf_n32 (FP.fdiv (FP.i2f (dsI g (g.2.1 3 (pI g a0 - 1) - 1) (g.1 30 (pI g a0 - 1)))) (FP.i2f (g.1 2 (g.2.1 3 (pI g a0 - 1) - 1)))) ∧ vf_n32 (FP.fsub FP.fconst1 (FP.fdiv (FP.i2f (dsI g (g.2.1 3 (pI g a0 - 1) - 1) (g.1 30 (pI g a0 - 1)))) (FP.i2f (g.1 2 (g.2.1 3 (pI g a0 - 1) - 1)))))) : vx_Met l yX4_strength (WS yX4_strength cX4_strength 4 (some .float)) ({ frames := 6, cells := 1, slots := 6, locals := 81 }) (P0 D k b (Wo D k b ad0 g M o) [.ref (ad0 (0, 0, 0)), .int a0]) (Qx b (stC g a0 = 0) (some (.float (stV g (pI g a0 - 1)))) (fun H => ∃ ad : Tg → Nat, Ex g ad0 ad ∧ Wo D k b ad g M o H)) (Xx b (xN [nIO] (stC g a0)) (fun H => ∃ ad : Tg → Nat, Ex g ad0 ad ∧ Wo D k b ad g M o H)) 1 6 (Fb b) := by
  refine Met0x (by decide +kernel) (Nat.le_of_ble_eq_true rfl) (fun p e s m below meth c ls hx hb hr hts hown hml hlocks ht hC hH hl => ?_)
  have hS : va_S (Fb b) s.heap s.heap [] := va_S.rf
  obtain ⟨ad, hE, hH, hl⟩ : ∃ ad : Tg → Nat, Ex g ad0 ad ∧ Wo D k b ad g M o s.heap ∧ lv_has ls 4 [(0, .ref (ad (0, 0, 0))), (1, .int a0)] := ⟨ad0, Ex.rf, hH, hl⟩
  refine lv_aload_n hx hb dX4_strength_0 rfl (lv_at hl 0 rfl) ?_
  refine lv_iload_n hx hb dX4_strength_1 rfl (lv_at hl 1 rfl) ?_
  refine k_r (va_runV (As := [.int a0]) (rest := []) ⟨hx, hb, hml, hown, hts⟩ (mX4_phoneAt l a0) ⟨cb_of hts wk_X4_phoneAt wi_X4 wm_X4_71 sd_X4_phoneAt rfl rfl ⟨Nat.le_of_ble_eq_true rfl, Nat.le_of_ble_eq_true rfl⟩, hts _ wv_X4_phoneAt, hts _ wl_X4_phoneAt⟩ (P0.preV hC hS hH (Hp.recv hC.1 hH (0, 0, 0) ⟨by decide, rfl⟩ rfl rfl)) rfl rfl hl.1 rfl (lv_room (Nat.le_of_ble_eq_true rfl)) dX4_strength_2 ⟨Nat.le_of_ble_eq_true rfl, Nat.le_of_ble_eq_true rfl⟩) ?_
  refine W.eq (g2 := F0 m 5 ls [va_rf (prO ad (pI g a0))]) rfl ?_
  refine lv_astore_nO (lv' := [(2, va_rf (prO ad (pI g a0))), (0, .ref (ad (0, 0, 0))), (1, .int a0)]) hx hb dX4_strength_5 rfl hl (by decide) rfl (fun ls hl => ?_)
  refine lv_aload_nO hx hb dX4_strength_6 rfl (lv_at hl 0 rfl) ?_
  refine lv_ifnonnullO (tgt := 18) hx hb dX4_strength_7 (by decide) (fun c7a c7 => ?_) (fun c7 => ?_)
  · skip
    have c7 := mt prO_0.mpr (by rw [c7]; exact Option.some_ne_none _)
    have hl : lv_has ls 4 [(2, .ref (ad (2, pI g a0 - 1, 0))), (0, .ref (ad (0, 0, 0))), (1, .int a0)] := by simpa [prO, va_rf, c7] using hl
    refine lv_aload_n hx hb dX4_strength_18 rfl (lv_at hl 0 rfl) ?_
    refine g3N hx hb hts hown hC hH (pI g a0 - 1) (pI_n c7).1 1 (by decide) wf_X4_75 (v := va_rf (mrO ad (g.2.1 3 (pI g a0 - 1)))) rfl dX4_strength_19 ?_
    by_cases c19 : g.2.1 3 (pI g a0 - 1) = 0
    · skip
      refine W.eq (g2 := F0 m 22 ls [.null]) (by simp [mrO, va_rf, c19]) ?_
      refine lv_astore_nN (lv' := [(3, .null), (2, .ref (ad (2, pI g a0 - 1, 0))), (0, .ref (ad (0, 0, 0))), (1, .int a0)]) hx hb dX4_strength_22 rfl hl (by decide) rfl (fun ls hl => ?_)
      refine lv_aload_nN hx hb dX4_strength_23 rfl (lv_at hl 0 rfl) ?_
      refine lv_ifnullN (tgt := 35) hx hb dX4_strength_24 (by decide) ?_
      refine lv_fconst0 hx hb dX4_strength_35 ?_
      have h8 : stC g a0 = 0 := by simp [stC, c7, c19]
      exact e_xf hx hb hr hlocks h8 (by simp [stV, c7, c19]) hS ⟨ad, hE, hH⟩ (Nat.zero_le _) (Nat.zero_le _) dX4_strength_36
    · skip
      refine W.eq (g2 := F0 m 22 ls [.ref (ad (1, (g.2.1 3 (pI g a0 - 1)) - 1, 0))]) (by simp [mrO, va_rf, c19]) ?_
      refine lv_astore_n (lv' := [(3, .ref (ad (1, (g.2.1 3 (pI g a0 - 1)) - 1, 0))), (2, .ref (ad (2, pI g a0 - 1, 0))), (0, .ref (ad (0, 0, 0))), (1, .int a0)]) hx hb dX4_strength_22 rfl hl (by decide) rfl (fun ls hl => ?_)
      refine lv_aload_n hx hb dX4_strength_23 rfl (lv_at hl 0 rfl) ?_
      refine lv_ifnull hx hb dX4_strength_24 ?_
      refine lv_aload_n hx hb dX4_strength_27 rfl (lv_at hl 0 rfl) ?_
      refine g2N hx hb hts hown hC hH ((g.2.1 3 (pI g a0 - 1)) - 1) (show _ < g.2.1 0 0 by have := hI.2.2.1 (pI g a0 - 1) (pI_n c7).1; omega) 2 (by decide) wf_X4_143 (v := .int (g.1 2 ((g.2.1 3 (pI g a0 - 1)) - 1))) rfl dX4_strength_28 ?_
      refine lv_iconst (v := 1) hx hb dX4_strength_31 (by decide) ?_
      refine lv_icmp_ge (tgt := 37) hx hb dX4_strength_32 (by decide) (fun c32 => ?_) (fun c32 => ?_)
      · skip
        have c32x := Int32.not_lt.mpr c32
        refine lv_fconst1 hx hb dX4_strength_37 ?_
        refine lv_aload_n hx hb dX4_strength_38 rfl (lv_at hl 0 rfl) ?_
        refine lv_aload_n hx hb dX4_strength_39 rfl (lv_at hl 1 rfl) ?_
        refine g3N hx hb hts hown hC hH (pI g a0 - 1) (pI_n c7).1 0 (by decide) wf_X4_79 (v := .int (g.1 30 (pI g a0 - 1))) rfl dX4_strength_40 ?_
        refine k_r (va_runVN (As := [.int (g.1 30 (pI g a0 - 1))]) (rest := [.float FP.fconst1]) ⟨hx, hb, hml, hown, hts⟩ (mX2_distanceTo l ((g.2.1 3 (pI g a0 - 1)) - 1) (show _ < g.2.1 0 0 by have := hI.2.2.1 (pI g a0 - 1) (pI_n c7).1; omega) (g.1 30 (pI g a0 - 1))) ⟨cn_of hts wk_X2_distanceTo wi_X2 wm_X4_146 sd_X2_distanceTo rfl rfl ⟨Nat.le_of_ble_eq_true rfl, Nat.le_of_ble_eq_true rfl⟩, hts _ wv_X2_distanceTo, hts _ wl_X2_distanceTo⟩ (P0.preV hC hS hH (Hp.recv hC.1 hH (1, (g.2.1 3 (pI g a0 - 1)) - 1, 0) ⟨(show _ < g.2.1 0 0 by have := hI.2.2.1 (pI g a0 - 1) (pI_n c7).1; omega), rfl⟩ rfl rfl)) rfl rfl hl.1 rfl (lv_room (Nat.le_of_ble_eq_true rfl)) dX4_strength_43 ⟨Nat.le_of_ble_eq_true rfl, Nat.le_of_ble_eq_true rfl⟩) ?_
        refine W.eq (g2 := F0 m 46 ls [.int (dsI g ((g.2.1 3 (pI g a0 - 1)) - 1) (g.1 30 (pI g a0 - 1))), .float FP.fconst1]) rfl ?_
        refine lv_i2f hx hb dX4_strength_46 ?_
        refine lv_aload_n hx hb dX4_strength_47 rfl (lv_at hl 0 rfl) ?_
        refine g2N hx hb hts hown hC hH ((g.2.1 3 (pI g a0 - 1)) - 1) (show _ < g.2.1 0 0 by have := hI.2.2.1 (pI g a0 - 1) (pI_n c7).1; omega) 2 (by decide) wf_X4_143 (v := .int (g.1 2 ((g.2.1 3 (pI g a0 - 1)) - 1))) rfl dX4_strength_48 ?_
        refine lv_i2f hx hb dX4_strength_51 ?_
        refine lv_fdiv hx hb dX4_strength_52 (hnan c7 c19).1 ?_
        refine lv_fsub hx hb dX4_strength_53 (hnan c7 c19).2 ?_
        have h8 : stC g a0 = 0 := by simp [stC, c7, c19, c32, c32x]
        exact e_xf hx hb hr hlocks h8 (by simp [stV, c7, c19, c32, c32x]) hS ⟨ad, hE, hH⟩ (Nat.zero_le _) (Nat.zero_le _) dX4_strength_54
      · skip
        have c32x := Int32.not_le.mp c32
        refine lv_fconst0 hx hb dX4_strength_35 ?_
        have h8 : stC g a0 = 0 := by simp [stC, c7, c19, c32, c32x]
        exact e_xf hx hb hr hlocks h8 (by simp [stV, c7, c19, c32, c32x]) hS ⟨ad, hE, hH⟩ (Nat.zero_le _) (Nat.zero_le _) dX4_strength_36
  · skip
    have c7 := prO_0.mp c7
    have hl : lv_has ls 4 [(2, .null), (0, .ref (ad (0, 0, 0))), (1, .int a0)] := by simpa [prO, va_rf, c7] using hl
    have h9 : stC g a0 = 1 := by simp [stC, c7]
    exact e_th (BX := fun H => ∃ ad : Tg → Nat, Ex g ad0 ad ∧ Wo D k b ad g M o H) (PE := xN [nIO] (stC g a0)) hlf (E := nIO) (by decide +kernel) wc_X4_49 wi_java_lang_IndexOutOfBoundsException ax_IO gd_IO hx hb hts hown hC hlocks ht (by rw [hml]; exact hl.1) hS dX4_strength_10 dX4_strength_13 dX4_strength_14 dX4_strength_17 (fun H1 z o => ⟨ad, hE, hH.grow z o⟩) (Nat.le_of_ble_eq_true rfl) (Nat.le_of_ble_eq_true rfl) (show 0 + 1 ≤ 1 by omega) (show 0 + 6 ≤ 6 by omega) (show 0 + 1 ≤ 1 by omega) (show 0 + 6 ≤ 6 by omega) (by rw [h9]; exact ⟨by decide, rfl⟩)
end
section
/-! THE CLASS: a new mast, a new phone, a new lease -/
set_option maxHeartbeats 4000000 in
set_option maxRecDepth 100000 in
theorem mX4_mast (l : Launch) (hlf : l.stackTraces = false) {D : va_G} {k : Nat → ClassId} {b : Nat} {ad0 : Tg → Nat} {g : XS} {M : MF} {o : OF} (hI : XI g) (a0 a1 a2 a3 a4 a5 : Int32) (hz : a5 = 0 ∨ a5 = 1) : vx_Met l yX4_mast (WS yX4_mast cX4_mast 8 (some .int)) ({ frames := 6, cells := 1, slots := 14, locals := 81 }) (P0 D k b (Wo D k b ad0 g M o) [.ref (ad0 (0, 0, 0)), .int a0, .int a1, .int a2, .int a3, .int a4, .int a5]) (Qx b (mastC g a0 a1 a2 a3 a4 = 0) (some (.int (nI (g.2.1 0 0)))) (fun H => ∃ ad : Tg → Nat, Ex g ad0 ad ∧ Wo D k b ad (nwM g (l13 (nI (g.2.1 0 0)) a0 a1 a2 a3 a4 a5)) M o H)) (Xx b (xN [nIA, nIS] (mastC g a0 a1 a2 a3 a4)) (fun H => ∃ ad : Tg → Nat, Ex g ad0 ad ∧ Wo D k b ad g M o H)) 1 14 (Fb b) := by
  refine Met0x (by decide +kernel) (Nat.le_of_ble_eq_true rfl) (fun p e s m below meth c ls hx hb hr hts hown hml hlocks ht hC hH hl => ?_)
  have hS : va_S (Fb b) s.heap s.heap [] := va_S.rf
  obtain ⟨ad, hE, hH, hl⟩ : ∃ ad : Tg → Nat, Ex g ad0 ad ∧ Wo D k b ad g M o s.heap ∧ lv_has ls 8 [(0, .ref (ad (0, 0, 0))), (1, .int a0), (2, .int a1), (3, .int a2), (4, .int a3), (5, .int a4), (6, .int a5)] := ⟨ad0, Ex.rf, hH, hl⟩
  refine lv_iload_n hx hb dX4_mast_0 rfl (lv_at hl 1 rfl) ?_
  refine k_r (va_runS (As := [.int a0]) (rest := []) ⟨hx, hb, hml, hown, hts⟩ (mX4_isPlace l a0) ⟨cb_of hts wk_X4_isPlace wi_X4 wm_X4_25 sd_X4_isPlace rfl rfl ⟨Nat.le_of_ble_eq_true rfl, Nat.le_of_ble_eq_true rfl⟩, hts _ wz_X4_isPlace⟩ (P0.pre hC hS hH) rfl rfl hl.1 rfl (lv_room (Nat.le_of_ble_eq_true rfl)) dX4_mast_1 ⟨Nat.le_of_ble_eq_true rfl, Nat.le_of_ble_eq_true rfl⟩) ?_
  refine W.eq (g2 := F0 m 4 ls [.int (b2 (inB a0 0 99))]) rfl ?_
  refine lv_if_eq (tgt := 49) hx hb dX4_mast_4 (by decide) (fun c4 => ?_) (fun c4 => ?_)
  · skip
    have c4 := b2_0.mp c4
    have h9 : mastC g a0 a1 a2 a3 a4 = 1 := by simp [mastC, c4]
    exact e_th (BX := fun H => ∃ ad : Tg → Nat, Ex g ad0 ad ∧ Wo D k b ad g M o H) (PE := xN [nIA, nIS] (mastC g a0 a1 a2 a3 a4)) hlf (E := nIA) (by decide +kernel) wc_X4_33 wi_java_lang_IllegalArgumentException ax_IA gd_IA hx hb hts hown hC hlocks ht (by rw [hml]; exact hl.1) hS dX4_mast_49 dX4_mast_52 dX4_mast_53 dX4_mast_56 (fun H1 z o => ⟨ad, hE, hH.grow z o⟩) (Nat.le_of_ble_eq_true rfl) (Nat.le_of_ble_eq_true rfl) (show 0 + 1 ≤ 1 by omega) (show 0 + 6 ≤ 14 by omega) (show 0 + 1 ≤ 1 by omega) (show 0 + 6 ≤ 14 by omega) (by rw [h9]; exact ⟨by decide, rfl⟩)
  · skip
    have c4 := b2_n0.mp c4
    refine lv_iload_n hx hb dX4_mast_7 rfl (lv_at hl 2 rfl) ?_
    refine lv_iconst (v := 1) hx hb dX4_mast_8 (by decide) ?_
    refine lv_bipush (v := 40) hx hb dX4_mast_9 (by decide) ?_
    refine k_r (va_runS (As := [.int a1, .int 1, .int 40]) (rest := []) ⟨hx, hb, hml, hown, hts⟩ (mX4_isWithin l a1 1 40) ⟨cb_of hts wk_X4_isWithin wi_X4 wm_X4_29 sd_X4_isWithin rfl rfl ⟨Nat.le_of_ble_eq_true rfl, Nat.le_of_ble_eq_true rfl⟩, hts _ wz_X4_isWithin⟩ (P0.pre hC hS hH) rfl rfl hl.1 rfl (lv_room (Nat.le_of_ble_eq_true rfl)) dX4_mast_11 ⟨Nat.le_of_ble_eq_true rfl, Nat.le_of_ble_eq_true rfl⟩) ?_
    refine W.eq (g2 := F0 m 14 ls [.int (b2 (inB a1 1 40))]) rfl ?_
    refine lv_if_eq (tgt := 49) hx hb dX4_mast_14 (by decide) (fun c14 => ?_) (fun c14 => ?_)
    · skip
      have c14 := b2_0.mp c14
      have h9 : mastC g a0 a1 a2 a3 a4 = 1 := by simp [mastC, c4, c14]
      exact e_th (BX := fun H => ∃ ad : Tg → Nat, Ex g ad0 ad ∧ Wo D k b ad g M o H) (PE := xN [nIA, nIS] (mastC g a0 a1 a2 a3 a4)) hlf (E := nIA) (by decide +kernel) wc_X4_33 wi_java_lang_IllegalArgumentException ax_IA gd_IA hx hb hts hown hC hlocks ht (by rw [hml]; exact hl.1) hS dX4_mast_49 dX4_mast_52 dX4_mast_53 dX4_mast_56 (fun H1 z o => ⟨ad, hE, hH.grow z o⟩) (Nat.le_of_ble_eq_true rfl) (Nat.le_of_ble_eq_true rfl) (show 0 + 1 ≤ 1 by omega) (show 0 + 6 ≤ 14 by omega) (show 0 + 1 ≤ 1 by omega) (show 0 + 6 ≤ 14 by omega) (by rw [h9]; exact ⟨by decide, rfl⟩)
    · skip
      have c14 := b2_n0.mp c14
      refine lv_iload_n hx hb dX4_mast_17 rfl (lv_at hl 3 rfl) ?_
      refine lv_iconst (v := 1) hx hb dX4_mast_18 (by decide) ?_
      refine lv_bipush (v := 10) hx hb dX4_mast_19 (by decide) ?_
      refine k_r (va_runS (As := [.int a2, .int 1, .int 10]) (rest := []) ⟨hx, hb, hml, hown, hts⟩ (mX4_isWithin l a2 1 10) ⟨cb_of hts wk_X4_isWithin wi_X4 wm_X4_29 sd_X4_isWithin rfl rfl ⟨Nat.le_of_ble_eq_true rfl, Nat.le_of_ble_eq_true rfl⟩, hts _ wz_X4_isWithin⟩ (P0.pre hC hS hH) rfl rfl hl.1 rfl (lv_room (Nat.le_of_ble_eq_true rfl)) dX4_mast_21 ⟨Nat.le_of_ble_eq_true rfl, Nat.le_of_ble_eq_true rfl⟩) ?_
      refine W.eq (g2 := F0 m 24 ls [.int (b2 (inB a2 1 10))]) rfl ?_
      refine lv_if_eq (tgt := 49) hx hb dX4_mast_24 (by decide) (fun c24 => ?_) (fun c24 => ?_)
      · skip
        have c24 := b2_0.mp c24
        have h9 : mastC g a0 a1 a2 a3 a4 = 1 := by simp [mastC, c4, c14, c24]
        exact e_th (BX := fun H => ∃ ad : Tg → Nat, Ex g ad0 ad ∧ Wo D k b ad g M o H) (PE := xN [nIA, nIS] (mastC g a0 a1 a2 a3 a4)) hlf (E := nIA) (by decide +kernel) wc_X4_33 wi_java_lang_IllegalArgumentException ax_IA gd_IA hx hb hts hown hC hlocks ht (by rw [hml]; exact hl.1) hS dX4_mast_49 dX4_mast_52 dX4_mast_53 dX4_mast_56 (fun H1 z o => ⟨ad, hE, hH.grow z o⟩) (Nat.le_of_ble_eq_true rfl) (Nat.le_of_ble_eq_true rfl) (show 0 + 1 ≤ 1 by omega) (show 0 + 6 ≤ 14 by omega) (show 0 + 1 ≤ 1 by omega) (show 0 + 6 ≤ 14 by omega) (by rw [h9]; exact ⟨by decide, rfl⟩)
      · skip
        have c24 := b2_n0.mp c24
        refine lv_iload hx hb dX4_mast_27 (lv_at hl 4 rfl) ?_
        refine lv_iconst (v := 0) hx hb dX4_mast_29 (by decide) ?_
        refine lv_bipush (v := 10) hx hb dX4_mast_30 (by decide) ?_
        refine k_r (va_runS (As := [.int a3, .int 0, .int 10]) (rest := []) ⟨hx, hb, hml, hown, hts⟩ (mX4_isWithin l a3 0 10) ⟨cb_of hts wk_X4_isWithin wi_X4 wm_X4_29 sd_X4_isWithin rfl rfl ⟨Nat.le_of_ble_eq_true rfl, Nat.le_of_ble_eq_true rfl⟩, hts _ wz_X4_isWithin⟩ (P0.pre hC hS hH) rfl rfl hl.1 rfl (lv_room (Nat.le_of_ble_eq_true rfl)) dX4_mast_32 ⟨Nat.le_of_ble_eq_true rfl, Nat.le_of_ble_eq_true rfl⟩) ?_
        refine W.eq (g2 := F0 m 35 ls [.int (b2 (inB a3 0 10))]) rfl ?_
        refine lv_if_eq (tgt := 49) hx hb dX4_mast_35 (by decide) (fun c35 => ?_) (fun c35 => ?_)
        · skip
          have c35 := b2_0.mp c35
          have h9 : mastC g a0 a1 a2 a3 a4 = 1 := by simp [mastC, c4, c14, c24, c35]
          exact e_th (BX := fun H => ∃ ad : Tg → Nat, Ex g ad0 ad ∧ Wo D k b ad g M o H) (PE := xN [nIA, nIS] (mastC g a0 a1 a2 a3 a4)) hlf (E := nIA) (by decide +kernel) wc_X4_33 wi_java_lang_IllegalArgumentException ax_IA gd_IA hx hb hts hown hC hlocks ht (by rw [hml]; exact hl.1) hS dX4_mast_49 dX4_mast_52 dX4_mast_53 dX4_mast_56 (fun H1 z o => ⟨ad, hE, hH.grow z o⟩) (Nat.le_of_ble_eq_true rfl) (Nat.le_of_ble_eq_true rfl) (show 0 + 1 ≤ 1 by omega) (show 0 + 6 ≤ 14 by omega) (show 0 + 1 ≤ 1 by omega) (show 0 + 6 ≤ 14 by omega) (by rw [h9]; exact ⟨by decide, rfl⟩)
        · skip
          have c35 := b2_n0.mp c35
          refine lv_iload hx hb dX4_mast_38 (lv_at hl 5 rfl) ?_
          refine lv_iconst (v := 0) hx hb dX4_mast_40 (by decide) ?_
          refine lv_bipush (v := 100) hx hb dX4_mast_41 (by decide) ?_
          refine k_r (va_runS (As := [.int a4, .int 0, .int 100]) (rest := []) ⟨hx, hb, hml, hown, hts⟩ (mX4_isWithin l a4 0 100) ⟨cb_of hts wk_X4_isWithin wi_X4 wm_X4_29 sd_X4_isWithin rfl rfl ⟨Nat.le_of_ble_eq_true rfl, Nat.le_of_ble_eq_true rfl⟩, hts _ wz_X4_isWithin⟩ (P0.pre hC hS hH) rfl rfl hl.1 rfl (lv_room (Nat.le_of_ble_eq_true rfl)) dX4_mast_43 ⟨Nat.le_of_ble_eq_true rfl, Nat.le_of_ble_eq_true rfl⟩) ?_
          refine W.eq (g2 := F0 m 46 ls [.int (b2 (inB a4 0 100))]) rfl ?_
          refine lv_if_ne (tgt := 57) hx hb dX4_mast_46 (by decide) (fun c46 => ?_) (fun c46 => ?_)
          · skip
            have c46 := b2_n0.mp c46
            refine lv_iconst (v := nI 0) hx hb dX4_mast_57 (by decide) ?_
            refine lv_istore (lv' := [(7, .int (nI 0)), (0, .ref (ad (0, 0, 0))), (1, .int a0), (2, .int a1), (3, .int a2), (4, .int a3), (5, .int a4), (6, .int a5)]) hx hb dX4_mast_58 hl (by decide) rfl (fun ls hl => ?_)
            refine loop_r 8 (fun i ls => lv_has ls 8 [(0, .ref (ad (0, 0, 0))), (1, .int a0), (2, .int a1), (3, .int a2), (4, .int a3), (5, .int a4), (6, .int a5), (7, .int (nI i))] ∧ i ≤ g.2.1 0 0) (fun i hi ls hJ0 ih => ?_) (fun ls hJ0 => ?_) ⟨lv_sub hl [1, 2, 3, 4, 5, 6, 7, 0] rfl, Nat.zero_le _⟩
            · skip
              obtain ⟨hl, hJ⟩ := hJ0
              refine lv_iload hx hb dX4_mast_60 (lv_at hl 7 rfl) ?_
              refine lv_aload_n hx hb dX4_mast_62 rfl (lv_at hl 0 rfl) ?_
              refine g4 hx hb hts hown hC hH 0 (by decide) wf_X4_11 (v := .ref (ad (0, 1, 0))) rfl dX4_mast_63 ?_
              refine mLen hx hb hC hH dX4_mast_66 ?_
              refine lv_icmp_ge (tgt := 114) hx hb dX4_mast_67 (by decide) (fun c67 => absurd c67 (nI_ge hi (by decide))) (fun c67 => ?_)
              refine lv_aload_n hx hb dX4_mast_70 rfl (lv_at hl 0 rfl) ?_
              refine g4 hx hb hts hown hC hH 0 (by decide) wf_X4_11 (v := .ref (ad (0, 1, 0))) rfl dX4_mast_71 ?_
              refine lv_iload hx hb dX4_mast_74 (lv_at hl 7 rfl) ?_
              refine mLd hx hb hC hH (i := i) hi dX4_mast_76 ?_
              by_cases c76 : i < g.2.1 0 0
              · skip
                refine W.eq (g2 := F0 m 77 ls [.ref (ad (1, i, 0))]) (by simp [maO, c76, va_rf]) ?_
                refine lv_ifnonnull (tgt := 108) hx hb dX4_mast_77 (by decide) ?_
                refine lv_iinc (v := nI (i + 1)) (lv' := [(7, .int (nI (i + 1))), (0, .ref (ad (0, 0, 0))), (1, .int a0), (2, .int a1), (3, .int a2), (4, .int a3), (5, .int a4), (6, .int a5)]) hx hb dX4_mast_108 hl (k := 7) rfl (by rw [← nI_add]; rfl) (by decide) rfl (fun ls hl => ?_)
                refine lv_goto (tgt := 60) hx hb dX4_mast_111 (by decide) ?_
                exact ih ls ⟨lv_sub hl [1, 2, 3, 4, 5, 6, 7, 0] rfl, by omega⟩
              · skip
                refine W.eq (g2 := F0 m 77 ls [.null]) (by simp [maO, c76, va_rf]) ?_
                refine lv_ifnonnullN hx hb dX4_mast_77 ?_
                refine lv_aload_n hx hb dX4_mast_80 rfl (lv_at hl 0 rfl) ?_
                refine g4 hx hb hts hown hC hH 0 (by decide) wf_X4_11 (v := .ref (ad (0, 1, 0))) rfl dX4_mast_81 ?_
                refine lv_iload hx hb dX4_mast_84 (lv_at hl 7 rfl) ?_
                have hn : i = g.2.1 0 0 := by omega
                have cz : g.2.1 0 0 < 8 := by omega
                have hb0 : b ≤ s.heap.size := (show Hp D b (LW g.2.1) ad (eW k ad g M o) s.heap from hH).2.2.2
                refine r_new hx hb hts hown hC hH hS hb0 (1, i, 0) (ci := 2) rfl inX2 tyX2 tyX2_ok wc_X4_9 wn_X2 wi_X2 [.int 0, .int 0, .int 0, .int 0, .int 0, .int 0, .int 0, .null, .int 0, .int 0, .int 0, .int 0, .int 0, .null] (fun j hj => by rcases (show j = 0 ∨ j = 1 ∨ j = 2 ∨ j = 3 ∨ j = 4 ∨ j = 5 ∨ j = 6 ∨ j = 7 ∨ j = 8 ∨ j = 9 ∨ j = 10 ∨ j = 11 ∨ j = 12 ∨ j = 13 by omega) with rfl | rfl | rfl | rfl | rfl | rfl | rfl | rfl | rfl | rfl | rfl | rfl | rfl | rfl <;> rfl) (show 0 + 1 ≤ 1 by omega) (show 0 + 14 ≤ 14 by omega) dX4_mast_86 (fun H hH hS => ?_)
                obtain ⟨ad1, had⟩ : ∃ z, z = uA ad (1, i, 0) s.heap.size := ⟨_, rfl⟩
                have ea : ∀ u : Tg, u ≠ (1, i, 0) → ad1 u = ad u := fun u h => by rw [had]; exact uA_n h
                have ea1 : ad1 (1, i, 0) = s.heap.size := by rw [had]; exact uA_s
                rw [← had] at hH
                refine W.eq (g2 := F0 m 89 ls [.ref (ad1 (1, i, 0)), .int (nI i), .ref (ad1 (0, 1, 0))]) (by rw [ea1, ea (0, 1, 0) (by simp)]) ?_
                refine lv_dup hx hb dX4_mast_89 rfl ?_
                refine lv_iload hx hb dX4_mast_90 (lv_at hl 7 rfl) ?_
                refine lv_iload_n hx hb dX4_mast_92 rfl (lv_at hl 1 rfl) ?_
                refine lv_iload_n hx hb dX4_mast_93 rfl (lv_at hl 2 rfl) ?_
                refine lv_iload_n hx hb dX4_mast_94 rfl (lv_at hl 3 rfl) ?_
                refine lv_iload hx hb dX4_mast_95 (lv_at hl 4 rfl) ?_
                refine lv_iload hx hb dX4_mast_97 (lv_at hl 5 rfl) ?_
                refine lv_iload hx hb dX4_mast_99 (lv_at hl 6 rfl) ?_
                refine k_w (va_runIN (As := [.int (nI i), .int a0, .int a1, .int a2, .int a3, .int a4, .int a5]) (rest := [.ref (ad1 (1, i, 0)), .int (nI i), .ref (ad1 (0, 1, 0))]) ⟨hx, hb, hml, hown, hts⟩ (mX2_init l (1, i, 0) (Or.inr rfl) uE_s (nI i) a0 a1 a2 a3 a4 a5 hz) ⟨cn_of hts wk_X2_init wi_X2 wm_X4_36 sd_X2_init rfl rfl ⟨Nat.le_of_ble_eq_true rfl, Nat.le_of_ble_eq_true rfl⟩, rfl, hts _ wv_X2_init⟩ (P0.pre hC hS hH) rfl rfl hl.1 rfl (lv_room (Nat.le_of_ble_eq_true rfl)) dX4_mast_101 ⟨show 0 + 1 + 0 ≤ 1 by omega, show 0 + 14 + 0 ≤ 14 by omega⟩) hS (fun H locs hH hS => ?_)
                rw [uE_uE] at hH
                refine W.eq (g2 := F0 m 104 ls [.ref (ad1 (1, i, 0)), .int (nI i), .ref (ad1 (0, 1, 0))]) rfl ?_
                refine r_aast hx hb hC hH hS (0, 1, 0) (Or.inl ⟨by decide, rfl⟩) 4 (r := (RX2, TX2, 14)) rfl (n := 8) (f := maO g ad) (by rw [uE_n (by simp)]; rfl) (1, i, 0) (Or.inr rfl) uE_s rfl (vp_in_nI hi (by decide)) dX4_mast_104 (fun H locs hH hS => ?_)
                rw [nI_clamp (by omega)] at hH
                refine lv_iload hx hb dX4_mast_105 (lv_at hl 7 rfl) ?_
                have h8 : mastC g a0 a1 a2 a3 a4 = 0 := by simp [mastC, c4, c14, c24, c35, c46, c76, cz]
                refine e_xi hx hb hr hlocks h8 (by rw [hn]) hS ⟨ad1, hE.tr Gr.rf (fun u h3 hu => ea u (fun q => ?_)), ?_⟩ (show 0 + 1 + 0 ≤ 1 by omega) (show 0 + 14 + 0 ≤ 14 by omega) dX4_mast_107
                · subst q; have h2 := hu.1; omega
                · refine Wo_nM hI hn ea hH ⟨Or.inr rfl, ?_⟩ ⟨Or.inl ⟨by decide, rfl⟩, uE_s⟩ (fun u hu n1 n0 => ⟨Or.inl hu, ?_⟩)
                  · rw [uE_n (by simp), uE_s, hn]
                  · rw [uE_n n0, uE_n n1]
            · skip
              obtain ⟨hl, hJ⟩ := hJ0
              refine lv_iload hx hb dX4_mast_60 (lv_at hl 7 rfl) ?_
              refine lv_aload_n hx hb dX4_mast_62 rfl (lv_at hl 0 rfl) ?_
              refine g4 hx hb hts hown hC hH 0 (by decide) wf_X4_11 (v := .ref (ad (0, 1, 0))) rfl dX4_mast_63 ?_
              refine mLen hx hb hC hH dX4_mast_66 ?_
              refine lv_icmp_ge (tgt := 114) hx hb dX4_mast_67 (by decide) (fun c67 => ?_) (fun c67 => absurd (nI_le (Nat.le_refl _) (by decide)) c67)
              have cz : ¬ g.2.1 0 0 < 8 := by omega
              have h9 : mastC g a0 a1 a2 a3 a4 = 2 := by simp [mastC, c4, c14, c24, c35, c46, cz]
              exact e_th (BX := fun H => ∃ ad : Tg → Nat, Ex g ad0 ad ∧ Wo D k b ad g M o H) (PE := xN [nIA, nIS] (mastC g a0 a1 a2 a3 a4)) hlf (E := nIS) (by decide +kernel) wc_X4_39 wi_java_lang_IllegalStateException ax_IS gd_IS hx hb hts hown hC hlocks ht (by rw [hml]; exact hl.1) hS dX4_mast_114 dX4_mast_117 dX4_mast_118 dX4_mast_121 (fun H1 z o => ⟨ad, hE, hH.grow z o⟩) (Nat.le_of_ble_eq_true rfl) (Nat.le_of_ble_eq_true rfl) (show 0 + 1 ≤ 1 by omega) (show 0 + 6 ≤ 14 by omega) (show 0 + 1 ≤ 1 by omega) (show 0 + 6 ≤ 14 by omega) (by rw [h9]; exact ⟨by decide, rfl⟩)
          · skip
            have c46 := b2_0.mp c46
            have h9 : mastC g a0 a1 a2 a3 a4 = 1 := by simp [mastC, c4, c14, c24, c35, c46]
            exact e_th (BX := fun H => ∃ ad : Tg → Nat, Ex g ad0 ad ∧ Wo D k b ad g M o H) (PE := xN [nIA, nIS] (mastC g a0 a1 a2 a3 a4)) hlf (E := nIA) (by decide +kernel) wc_X4_33 wi_java_lang_IllegalArgumentException ax_IA gd_IA hx hb hts hown hC hlocks ht (by rw [hml]; exact hl.1) hS dX4_mast_49 dX4_mast_52 dX4_mast_53 dX4_mast_56 (fun H1 z o => ⟨ad, hE, hH.grow z o⟩) (Nat.le_of_ble_eq_true rfl) (Nat.le_of_ble_eq_true rfl) (show 0 + 1 ≤ 1 by omega) (show 0 + 6 ≤ 14 by omega) (show 0 + 1 ≤ 1 by omega) (show 0 + 6 ≤ 14 by omega) (by rw [h9]; exact ⟨by decide, rfl⟩)

set_option maxHeartbeats 4000000 in
set_option maxRecDepth 100000 in
theorem mX4_phone (l : Launch) (hlf : l.stackTraces = false) {D : va_G} {k : Nat → ClassId} {b : Nat} {ad0 : Tg → Nat} {g : XS} {M : MF} {o : OF} (hI : XI g) (a0 : Int32) : vx_Met l yX4_phone (WS yX4_phone cX4_phone 3 (some .int)) ({ frames := 6, cells := 1, slots := 6, locals := 81 }) (P0 D k b (Wo D k b ad0 g M o) [.ref (ad0 (0, 0, 0)), .int a0]) (Qx b (phC g a0 = 0) (some (.int (nI (g.2.1 1 0)))) (fun H => ∃ ad : Tg → Nat, Ex g ad0 ad ∧ Wo D k b ad (nwP g a0) M o H)) (Xx b (xN [nIA, nIS] (phC g a0)) (fun H => ∃ ad : Tg → Nat, Ex g ad0 ad ∧ Wo D k b ad g M o H)) 1 6 (Fb b) := by
  refine Met0x (by decide +kernel) (Nat.le_of_ble_eq_true rfl) (fun p e s m below meth c ls hx hb hr hts hown hml hlocks ht hC hH hl => ?_)
  have hS : va_S (Fb b) s.heap s.heap [] := va_S.rf
  obtain ⟨ad, hE, hH, hl⟩ : ∃ ad : Tg → Nat, Ex g ad0 ad ∧ Wo D k b ad g M o s.heap ∧ lv_has ls 3 [(0, .ref (ad (0, 0, 0))), (1, .int a0)] := ⟨ad0, Ex.rf, hH, hl⟩
  refine lv_iload_n hx hb dX4_phone_0 rfl (lv_at hl 1 rfl) ?_
  refine k_r (va_runS (As := [.int a0]) (rest := []) ⟨hx, hb, hml, hown, hts⟩ (mX4_isPlace l a0) ⟨cb_of hts wk_X4_isPlace wi_X4 wm_X4_25 sd_X4_isPlace rfl rfl ⟨Nat.le_of_ble_eq_true rfl, Nat.le_of_ble_eq_true rfl⟩, hts _ wz_X4_isPlace⟩ (P0.pre hC hS hH) rfl rfl hl.1 rfl (lv_room (Nat.le_of_ble_eq_true rfl)) dX4_phone_1 ⟨Nat.le_of_ble_eq_true rfl, Nat.le_of_ble_eq_true rfl⟩) ?_
  refine W.eq (g2 := F0 m 4 ls [.int (b2 (inB a0 0 99))]) rfl ?_
  refine lv_if_ne (tgt := 15) hx hb dX4_phone_4 (by decide) (fun c4 => ?_) (fun c4 => ?_)
  · skip
    have c4 := b2_n0.mp c4
    refine lv_iconst (v := nI 0) hx hb dX4_phone_15 (by decide) ?_
    refine lv_istore_n (lv' := [(2, .int (nI 0)), (0, .ref (ad (0, 0, 0))), (1, .int a0)]) hx hb dX4_phone_16 rfl hl (by decide) rfl (fun ls hl => ?_)
    refine loop_r 12 (fun i ls => lv_has ls 3 [(0, .ref (ad (0, 0, 0))), (1, .int a0), (2, .int (nI i))] ∧ i ≤ g.2.1 1 0) (fun i hi ls hJ0 ih => ?_) (fun ls hJ0 => ?_) ⟨lv_sub hl [1, 2, 0] rfl, Nat.zero_le _⟩
    · skip
      obtain ⟨hl, hJ⟩ := hJ0
      refine lv_iload_n hx hb dX4_phone_17 rfl (lv_at hl 2 rfl) ?_
      refine lv_aload_n hx hb dX4_phone_18 rfl (lv_at hl 0 rfl) ?_
      refine g4 hx hb hts hown hC hH 1 (by decide) wf_X4_17 (v := .ref (ad (0, 2, 0))) rfl dX4_phone_19 ?_
      refine pLen hx hb hC hH dX4_phone_22 ?_
      refine lv_icmp_ge (tgt := 57) hx hb dX4_phone_23 (by decide) (fun c23 => absurd c23 (nI_ge hi (by decide))) (fun c23 => ?_)
      refine lv_aload_n hx hb dX4_phone_26 rfl (lv_at hl 0 rfl) ?_
      refine g4 hx hb hts hown hC hH 1 (by decide) wf_X4_17 (v := .ref (ad (0, 2, 0))) rfl dX4_phone_27 ?_
      refine lv_iload_n hx hb dX4_phone_30 rfl (lv_at hl 2 rfl) ?_
      refine pLd hx hb hC hH (i := i) hi dX4_phone_31 ?_
      by_cases c31 : i < g.2.1 1 0
      · skip
        refine W.eq (g2 := F0 m 32 ls [.ref (ad (2, i, 0))]) (by simp [phO, c31, va_rf]) ?_
        refine lv_ifnonnull (tgt := 51) hx hb dX4_phone_32 (by decide) ?_
        refine lv_iinc (v := nI (i + 1)) (lv' := [(2, .int (nI (i + 1))), (0, .ref (ad (0, 0, 0))), (1, .int a0)]) hx hb dX4_phone_51 hl (k := 2) rfl (by rw [← nI_add]; rfl) (by decide) rfl (fun ls hl => ?_)
        refine lv_goto (tgt := 17) hx hb dX4_phone_54 (by decide) ?_
        exact ih ls ⟨lv_sub hl [1, 2, 0] rfl, by omega⟩
      · skip
        refine W.eq (g2 := F0 m 32 ls [.null]) (by simp [phO, c31, va_rf]) ?_
        refine lv_ifnonnullN hx hb dX4_phone_32 ?_
        refine lv_aload_n hx hb dX4_phone_35 rfl (lv_at hl 0 rfl) ?_
        refine g4 hx hb hts hown hC hH 1 (by decide) wf_X4_17 (v := .ref (ad (0, 2, 0))) rfl dX4_phone_36 ?_
        refine lv_iload_n hx hb dX4_phone_39 rfl (lv_at hl 2 rfl) ?_
        have hn : i = g.2.1 1 0 := by omega
        have cz : g.2.1 1 0 < 12 := by omega
        have hb0 : b ≤ s.heap.size := (show Hp D b (LW g.2.1) ad (eW k ad g M o) s.heap from hH).2.2.2
        refine r_new hx hb hts hown hC hH hS hb0 (2, i, 0) (ci := 3) rfl inX3 tyX3 tyX3_ok wc_X4_15 wn_X3 wi_X3 [.int 0, .null, .int 0, .int 0, .int 0, .int 0] (fun j hj => by rcases (show j = 0 ∨ j = 1 ∨ j = 2 ∨ j = 3 ∨ j = 4 ∨ j = 5 by omega) with rfl | rfl | rfl | rfl | rfl | rfl <;> rfl) (show 0 + 1 ≤ 1 by omega) (show 0 + 6 ≤ 6 by omega) dX4_phone_40 (fun H hH hS => ?_)
        obtain ⟨ad1, had⟩ : ∃ z, z = uA ad (2, i, 0) s.heap.size := ⟨_, rfl⟩
        have ea : ∀ u : Tg, u ≠ (2, i, 0) → ad1 u = ad u := fun u h => by rw [had]; exact uA_n h
        have ea1 : ad1 (2, i, 0) = s.heap.size := by rw [had]; exact uA_s
        rw [← had] at hH
        refine W.eq (g2 := F0 m 43 ls [.ref (ad1 (2, i, 0)), .int (nI i), .ref (ad1 (0, 2, 0))]) (by rw [ea1, ea (0, 2, 0) (by simp)]) ?_
        refine lv_dup hx hb dX4_phone_43 rfl ?_
        refine lv_iload_n hx hb dX4_phone_44 rfl (lv_at hl 1 rfl) ?_
        refine k_w (va_runIN (As := [.int a0]) (rest := [.ref (ad1 (2, i, 0)), .int (nI i), .ref (ad1 (0, 2, 0))]) ⟨hx, hb, hml, hown, hts⟩ (mX3_init l (2, i, 0) (Or.inr rfl) uE_s a0) ⟨cn_of hts wk_X3_init wi_X3 wm_X4_68 sd_X3_init rfl rfl ⟨Nat.le_of_ble_eq_true rfl, Nat.le_of_ble_eq_true rfl⟩, rfl, hts _ wv_X3_init⟩ (P0.pre hC hS hH) rfl rfl hl.1 rfl (lv_room (Nat.le_of_ble_eq_true rfl)) dX4_phone_45 ⟨show 0 + 1 + 0 ≤ 1 by omega, show 0 + 6 + 0 ≤ 6 by omega⟩) hS (fun H locs hH hS => ?_)
        rw [uE_uE] at hH
        refine W.eq (g2 := F0 m 48 ls [.ref (ad1 (2, i, 0)), .int (nI i), .ref (ad1 (0, 2, 0))]) rfl ?_
        refine r_aast hx hb hC hH hS (0, 2, 0) (Or.inl ⟨by decide, rfl⟩) 5 (r := (RX3, TX3, 6)) rfl (n := 12) (f := phO g ad) (by rw [uE_n (by simp)]; rfl) (2, i, 0) (Or.inr rfl) uE_s rfl (vp_in_nI hi (by decide)) dX4_phone_48 (fun H locs hH hS => ?_)
        rw [nI_clamp (by omega)] at hH
        refine lv_iload_n hx hb dX4_phone_49 rfl (lv_at hl 2 rfl) ?_
        have h8 : phC g a0 = 0 := by simp [phC, c4, c31, cz]
        refine e_xi hx hb hr hlocks h8 (by rw [hn]) hS ⟨ad1, hE.tr Gr.rf (fun u h3 hu => ea u (fun q => ?_)), ?_⟩ (show 0 + 1 + 0 ≤ 1 by omega) (show 0 + 6 + 0 ≤ 6 by omega) dX4_phone_50
        · subst q; have h2 := hu.1; omega
        · refine Wo_nP hn ea hH ⟨Or.inr rfl, ?_⟩ ⟨Or.inl ⟨by decide, rfl⟩, uE_s⟩ (fun u hu n1 n0 => ⟨Or.inl hu, ?_⟩)
          · rw [uE_n (by simp), uE_s]
          · rw [uE_n n0, uE_n n1]
    · skip
      obtain ⟨hl, hJ⟩ := hJ0
      refine lv_iload_n hx hb dX4_phone_17 rfl (lv_at hl 2 rfl) ?_
      refine lv_aload_n hx hb dX4_phone_18 rfl (lv_at hl 0 rfl) ?_
      refine g4 hx hb hts hown hC hH 1 (by decide) wf_X4_17 (v := .ref (ad (0, 2, 0))) rfl dX4_phone_19 ?_
      refine pLen hx hb hC hH dX4_phone_22 ?_
      refine lv_icmp_ge (tgt := 57) hx hb dX4_phone_23 (by decide) (fun c23 => ?_) (fun c23 => absurd (nI_le (Nat.le_refl _) (by decide)) c23)
      have cz : ¬ g.2.1 1 0 < 12 := by omega
      have h9 : phC g a0 = 2 := by simp [phC, c4, cz]
      exact e_th (BX := fun H => ∃ ad : Tg → Nat, Ex g ad0 ad ∧ Wo D k b ad g M o H) (PE := xN [nIA, nIS] (phC g a0)) hlf (E := nIS) (by decide +kernel) wc_X4_39 wi_java_lang_IllegalStateException ax_IS gd_IS hx hb hts hown hC hlocks ht (by rw [hml]; exact hl.1) hS dX4_phone_57 dX4_phone_60 dX4_phone_61 dX4_phone_64 (fun H1 z o => ⟨ad, hE, hH.grow z o⟩) (Nat.le_of_ble_eq_true rfl) (Nat.le_of_ble_eq_true rfl) (show 0 + 1 ≤ 1 by omega) (show 0 + 6 ≤ 6 by omega) (show 0 + 1 ≤ 1 by omega) (show 0 + 6 ≤ 6 by omega) (by rw [h9]; exact ⟨by decide, rfl⟩)
  · skip
    have c4 := b2_0.mp c4
    have h9 : phC g a0 = 1 := by simp [phC, c4]
    exact e_th (BX := fun H => ∃ ad : Tg → Nat, Ex g ad0 ad ∧ Wo D k b ad g M o H) (PE := xN [nIA, nIS] (phC g a0)) hlf (E := nIA) (by decide +kernel) wc_X4_33 wi_java_lang_IllegalArgumentException ax_IA gd_IA hx hb hts hown hC hlocks ht (by rw [hml]; exact hl.1) hS dX4_phone_7 dX4_phone_10 dX4_phone_11 dX4_phone_14 (fun H1 z o => ⟨ad, hE, hH.grow z o⟩) (Nat.le_of_ble_eq_true rfl) (Nat.le_of_ble_eq_true rfl) (show 0 + 1 ≤ 1 by omega) (show 0 + 6 ≤ 6 by omega) (show 0 + 1 ≤ 1 by omega) (show 0 + 6 ≤ 6 by omega) (by rw [h9]; exact ⟨by decide, rfl⟩)

set_option maxHeartbeats 4000000 in
set_option maxRecDepth 100000 in
theorem mX4_lease (l : Launch) (hlf : l.stackTraces = false) {D : va_G} {k : Nat → ClassId} {b : Nat} {ad0 : Tg → Nat} {g : XS} {M : MF} {o : OF} (hI : XI g) (a0 a1 a2 a3 a4 a5 a6 : Int32) : vx_Met l yX4_lease (WS yX4_lease cX4_lease 9 none) ({ frames := 6, cells := 1, slots := 6, locals := 81 }) (P0 D k b (Wo D k b ad0 g M o) [.ref (ad0 (0, 0, 0)), .int a0, .int a1, .int a2, .int a3, .int a4, .int a5, .int a6]) (Qx b (leaseC g a0 a1 a2 a3 a4 a5 a6 = 0) none (fun H => ∃ ad : Tg → Nat, Ex g ad0 ad ∧ Wo D k b ad (nwL g (mI g a0 - 1) (l6 a1 a2 a3 a4 a5 a6)) M o H)) (Xx b (xN [nIO, nIA, nIS] (leaseC g a0 a1 a2 a3 a4 a5 a6)) (fun H => ∃ ad : Tg → Nat, Ex g ad0 ad ∧ Wo D k b ad g M o H)) 1 6 (Fb b) := by
  refine Met0x (by decide +kernel) (Nat.le_of_ble_eq_true rfl) (fun p e s m below meth c ls hx hb hr hts hown hml hlocks ht hC hH hl => ?_)
  have hS : va_S (Fb b) s.heap s.heap [] := va_S.rf
  obtain ⟨ad, hE, hH, hl⟩ : ∃ ad : Tg → Nat, Ex g ad0 ad ∧ Wo D k b ad g M o s.heap ∧ lv_has ls 9 [(0, .ref (ad (0, 0, 0))), (1, .int a0), (2, .int a1), (3, .int a2), (4, .int a3), (5, .int a4), (6, .int a5), (7, .int a6)] := ⟨ad0, Ex.rf, hH, hl⟩
  refine lv_aload_n hx hb dX4_lease_0 rfl (lv_at hl 0 rfl) ?_
  refine lv_iload_n hx hb dX4_lease_1 rfl (lv_at hl 1 rfl) ?_
  refine k_r (va_runV (As := [.int a0]) (rest := []) ⟨hx, hb, hml, hown, hts⟩ (mX4_mastAt l a0) ⟨cb_of hts wk_X4_mastAt wi_X4 wm_X4_42 sd_X4_mastAt rfl rfl ⟨Nat.le_of_ble_eq_true rfl, Nat.le_of_ble_eq_true rfl⟩, hts _ wv_X4_mastAt, hts _ wl_X4_mastAt⟩ (P0.preV hC hS hH (Hp.recv hC.1 hH (0, 0, 0) ⟨by decide, rfl⟩ rfl rfl)) rfl rfl hl.1 rfl (lv_room (Nat.le_of_ble_eq_true rfl)) dX4_lease_2 ⟨Nat.le_of_ble_eq_true rfl, Nat.le_of_ble_eq_true rfl⟩) ?_
  refine W.eq (g2 := F0 m 5 ls [va_rf (mrO ad (mI g a0))]) rfl ?_
  refine lv_astoreO (lv' := [(8, va_rf (mrO ad (mI g a0))), (0, .ref (ad (0, 0, 0))), (1, .int a0), (2, .int a1), (3, .int a2), (4, .int a3), (5, .int a4), (6, .int a5), (7, .int a6)]) hx hb dX4_lease_5 hl (by decide) rfl (fun ls hl => ?_)
  refine lv_aloadO hx hb dX4_lease_7 (lv_at hl 0 rfl) ?_
  refine lv_ifnullO (tgt := 31) hx hb dX4_lease_9 (by decide) (fun c9 => ?_) (fun c9a c9 => ?_)
  · skip
    have c9 := mrO_0.mp c9
    have hl : lv_has ls 9 [(8, .null), (0, .ref (ad (0, 0, 0))), (1, .int a0), (2, .int a1), (3, .int a2), (4, .int a3), (5, .int a4), (6, .int a5), (7, .int a6)] := by simpa [mrO, va_rf, c9] using hl
    have h9 : leaseC g a0 a1 a2 a3 a4 a5 a6 = 1 := by first | (simp [leaseC, c9]; done)
    exact e_th (BX := fun H => ∃ ad : Tg → Nat, Ex g ad0 ad ∧ Wo D k b ad g M o H) (PE := xN [nIO, nIA, nIS] (leaseC g a0 a1 a2 a3 a4 a5 a6)) hlf (E := nIO) (by decide +kernel) wc_X4_49 wi_java_lang_IndexOutOfBoundsException ax_IO gd_IO hx hb hts hown hC hlocks ht (by rw [hml]; exact hl.1) hS dX4_lease_31 dX4_lease_34 dX4_lease_35 dX4_lease_38 (fun H1 z o => ⟨ad, hE, hH.grow z o⟩) (Nat.le_of_ble_eq_true rfl) (Nat.le_of_ble_eq_true rfl) (show 0 + 1 ≤ 1 by omega) (show 0 + 6 ≤ 6 by omega) (show 0 + 1 ≤ 1 by omega) (show 0 + 6 ≤ 6 by omega) (by rw [h9]; exact ⟨by decide, rfl⟩)
  · skip
    have c9 := mt mrO_0.mpr (by rw [c9]; exact Option.some_ne_none _)
    have hl : lv_has ls 9 [(8, .ref (ad (1, mI g a0 - 1, 0))), (0, .ref (ad (0, 0, 0))), (1, .int a0), (2, .int a1), (3, .int a2), (4, .int a3), (5, .int a4), (6, .int a5), (7, .int a6)] := by simpa [mrO, va_rf, c9] using hl
    refine lv_iload_n hx hb dX4_lease_12 rfl (lv_at hl 3 rfl) ?_
    refine k_r (va_runS (As := [.int a1]) (rest := []) ⟨hx, hb, hml, hown, hts⟩ (mX4_isFarmer l a1) ⟨cb_of hts wk_X4_isFarmer wi_X4 wm_X4_46 sd_X4_isFarmer rfl rfl ⟨Nat.le_of_ble_eq_true rfl, Nat.le_of_ble_eq_true rfl⟩, hts _ wz_X4_isFarmer⟩ (P0.pre hC hS hH) rfl rfl hl.1 rfl (lv_room (Nat.le_of_ble_eq_true rfl)) dX4_lease_13 ⟨Nat.le_of_ble_eq_true rfl, Nat.le_of_ble_eq_true rfl⟩) ?_
    refine W.eq (g2 := F0 m 16 ls [.int (b2 (inB a1 0 5))]) rfl ?_
    refine lv_if_eq (tgt := 31) hx hb dX4_lease_16 (by decide) (fun c16 => ?_) (fun c16 => ?_)
    · skip
      have c16 := b2_0.mp c16
      have h9 : leaseC g a0 a1 a2 a3 a4 a5 a6 = 1 := by first | (simp [leaseC, c9, c16]; done)
      exact e_th (BX := fun H => ∃ ad : Tg → Nat, Ex g ad0 ad ∧ Wo D k b ad g M o H) (PE := xN [nIO, nIA, nIS] (leaseC g a0 a1 a2 a3 a4 a5 a6)) hlf (E := nIO) (by decide +kernel) wc_X4_49 wi_java_lang_IndexOutOfBoundsException ax_IO gd_IO hx hb hts hown hC hlocks ht (by rw [hml]; exact hl.1) hS dX4_lease_31 dX4_lease_34 dX4_lease_35 dX4_lease_38 (fun H1 z o => ⟨ad, hE, hH.grow z o⟩) (Nat.le_of_ble_eq_true rfl) (Nat.le_of_ble_eq_true rfl) (show 0 + 1 ≤ 1 by omega) (show 0 + 6 ≤ 6 by omega) (show 0 + 1 ≤ 1 by omega) (show 0 + 6 ≤ 6 by omega) (by rw [h9]; exact ⟨by decide, rfl⟩)
    · skip
      have c16 := b2_n0.mp c16
      refine lv_iload_n hx hb dX4_lease_19 rfl (lv_at hl 4 rfl) ?_
      refine lv_iconst (v := (-1)) hx hb dX4_lease_20 (by decide) ?_
      refine lv_icmp_eq (tgt := 39) hx hb dX4_lease_21 (by decide) (fun c21 => ?_) (fun c21 => ?_)
      · skip
        refine lv_iload_n hx hb dX4_lease_39 rfl (lv_at hl 3 rfl) ?_
        refine lv_iload_n hx hb dX4_lease_40 rfl (lv_at hl 4 rfl) ?_
        refine lv_icmp_eq (tgt := 105) hx hb dX4_lease_41 (by decide) (fun c41 => ?_) (fun c41 => ?_)
        · skip
          have h9 : leaseC g a0 a1 a2 a3 a4 a5 a6 = 2 := by first | (simp [leaseC, c9, c16, c21, c41]; done) | (subst c21; simp [leaseC, c9, c16, c41]; done) | (unfold leaseC; rw [if_neg (by simp [c9, c16, c21]), if_pos (Or.inl c41)])
          exact e_th (BX := fun H => ∃ ad : Tg → Nat, Ex g ad0 ad ∧ Wo D k b ad g M o H) (PE := xN [nIO, nIA, nIS] (leaseC g a0 a1 a2 a3 a4 a5 a6)) hlf (E := nIA) (by decide +kernel) wc_X4_33 wi_java_lang_IllegalArgumentException ax_IA gd_IA hx hb hts hown hC hlocks ht (by rw [hml]; exact hl.1) hS dX4_lease_105 dX4_lease_108 dX4_lease_109 dX4_lease_112 (fun H1 z o => ⟨ad, hE, hH.grow z o⟩) (Nat.le_of_ble_eq_true rfl) (Nat.le_of_ble_eq_true rfl) (show 0 + 1 ≤ 1 by omega) (show 0 + 6 ≤ 6 by omega) (show 0 + 1 ≤ 1 by omega) (show 0 + 6 ≤ 6 by omega) (by rw [h9]; exact ⟨by decide, rfl⟩)
        · skip
          refine lv_iload hx hb dX4_lease_44 (lv_at hl 5 rfl) ?_
          refine lv_iload_n hx hb dX4_lease_46 rfl (lv_at hl 4 rfl) ?_
          refine lv_iconst (v := (-1)) hx hb dX4_lease_47 (by decide) ?_
          refine lv_icmp_ne (tgt := 56) hx hb dX4_lease_48 (by decide) (fun c48 => ?_) (fun c48 => ?_)
          · skip
            refine lv_iconst (v := 0) hx hb dX4_lease_56 (by decide) ?_
            refine lv_bipush (v := 10) hx hb dX4_lease_57 (by decide) ?_
            refine k_r (va_runS (As := [.int a3, .int 0, .int 10]) (rest := []) ⟨hx, hb, hml, hown, hts⟩ (mX4_isWithin l a3 0 10) ⟨cb_of hts wk_X4_isWithin wi_X4 wm_X4_29 sd_X4_isWithin rfl rfl ⟨Nat.le_of_ble_eq_true rfl, Nat.le_of_ble_eq_true rfl⟩, hts _ wz_X4_isWithin⟩ (P0.pre hC hS hH) rfl rfl hl.1 rfl (lv_room (Nat.le_of_ble_eq_true rfl)) dX4_lease_59 ⟨Nat.le_of_ble_eq_true rfl, Nat.le_of_ble_eq_true rfl⟩) ?_
            refine W.eq (g2 := F0 m 62 ls [.int (b2 (inB a3 0 10))]) rfl ?_
            refine lv_if_eq (tgt := 105) hx hb dX4_lease_62 (by decide) (fun c62 => ?_) (fun c62 => ?_)
            · skip
              have c62 := b2_0.mp c62
              have h9 : leaseC g a0 a1 a2 a3 a4 a5 a6 = 2 := by first | (simp [leaseC, c9, c16, c21, c41, c48, c62]; done) | (subst c21; simp [leaseC, c9, c16, c41, c62]; done) | exact absurd c21 c48 | exact absurd c48 c21 | (unfold leaseC; rw [if_neg (by simp [c9, c16, c21, c48, c62]), if_pos (Or.inl c41)])
              exact e_th (BX := fun H => ∃ ad : Tg → Nat, Ex g ad0 ad ∧ Wo D k b ad g M o H) (PE := xN [nIO, nIA, nIS] (leaseC g a0 a1 a2 a3 a4 a5 a6)) hlf (E := nIA) (by decide +kernel) wc_X4_33 wi_java_lang_IllegalArgumentException ax_IA gd_IA hx hb hts hown hC hlocks ht (by rw [hml]; exact hl.1) hS dX4_lease_105 dX4_lease_108 dX4_lease_109 dX4_lease_112 (fun H1 z o => ⟨ad, hE, hH.grow z o⟩) (Nat.le_of_ble_eq_true rfl) (Nat.le_of_ble_eq_true rfl) (show 0 + 1 ≤ 1 by omega) (show 0 + 6 ≤ 6 by omega) (show 0 + 1 ≤ 1 by omega) (show 0 + 6 ≤ 6 by omega) (by rw [h9]; exact ⟨by decide, rfl⟩)
            · skip
              have c62 := b2_n0.mp c62
              refine lv_iload hx hb dX4_lease_65 (lv_at hl 6 rfl) ?_
              refine lv_aload_n hx hb dX4_lease_67 rfl (lv_at hl 1 rfl) ?_
              refine g4 hx hb hts hown hC hH 3 (by decide) wf_X4_52 (v := .int (g.1 40 0)) rfl dX4_lease_68 ?_
              refine lv_iconst (v := 1) hx hb dX4_lease_71 (by decide) ?_
              refine lv_iadd hx hb dX4_lease_72 ?_
              refine lv_sipush (v := 10000) hx hb dX4_lease_73 (by decide) ?_
              refine k_r (va_runS (As := [.int a4, .int ((g.1 40 0) + 1), .int 10000]) (rest := []) ⟨hx, hb, hml, hown, hts⟩ (mX4_isWithin l a4 ((g.1 40 0) + 1) 10000) ⟨cb_of hts wk_X4_isWithin wi_X4 wm_X4_29 sd_X4_isWithin rfl rfl ⟨Nat.le_of_ble_eq_true rfl, Nat.le_of_ble_eq_true rfl⟩, hts _ wz_X4_isWithin⟩ (P0.pre hC hS hH) rfl rfl hl.1 rfl (lv_room (Nat.le_of_ble_eq_true rfl)) dX4_lease_76 ⟨Nat.le_of_ble_eq_true rfl, Nat.le_of_ble_eq_true rfl⟩) ?_
              refine W.eq (g2 := F0 m 79 ls [.int (b2 (inB a4 ((g.1 40 0) + 1) 10000))]) rfl ?_
              refine lv_if_eq (tgt := 105) hx hb dX4_lease_79 (by decide) (fun c79 => ?_) (fun c79 => ?_)
              · skip
                have c79 := b2_0.mp c79
                have h9 : leaseC g a0 a1 a2 a3 a4 a5 a6 = 2 := by first | (simp [leaseC, c9, c16, c21, c41, c48, c62, c79]; done) | (subst c21; simp [leaseC, c9, c16, c41, c62, c79]; done) | exact absurd c21 c48 | exact absurd c48 c21 | (unfold leaseC; rw [if_neg (by simp [c9, c16, c21, c48, c62, c79]), if_pos (Or.inl c41)])
                exact e_th (BX := fun H => ∃ ad : Tg → Nat, Ex g ad0 ad ∧ Wo D k b ad g M o H) (PE := xN [nIO, nIA, nIS] (leaseC g a0 a1 a2 a3 a4 a5 a6)) hlf (E := nIA) (by decide +kernel) wc_X4_33 wi_java_lang_IllegalArgumentException ax_IA gd_IA hx hb hts hown hC hlocks ht (by rw [hml]; exact hl.1) hS dX4_lease_105 dX4_lease_108 dX4_lease_109 dX4_lease_112 (fun H1 z o => ⟨ad, hE, hH.grow z o⟩) (Nat.le_of_ble_eq_true rfl) (Nat.le_of_ble_eq_true rfl) (show 0 + 1 ≤ 1 by omega) (show 0 + 6 ≤ 6 by omega) (show 0 + 1 ≤ 1 by omega) (show 0 + 6 ≤ 6 by omega) (by rw [h9]; exact ⟨by decide, rfl⟩)
              · skip
                have c79 := b2_n0.mp c79
                refine lv_iload hx hb dX4_lease_82 (lv_at hl 7 rfl) ?_
                refine lv_iconst (v := 0) hx hb dX4_lease_84 (by decide) ?_
                refine lv_sipush (v := 1000) hx hb dX4_lease_85 (by decide) ?_
                refine k_r (va_runS (As := [.int a5, .int 0, .int 1000]) (rest := []) ⟨hx, hb, hml, hown, hts⟩ (mX4_isWithin l a5 0 1000) ⟨cb_of hts wk_X4_isWithin wi_X4 wm_X4_29 sd_X4_isWithin rfl rfl ⟨Nat.le_of_ble_eq_true rfl, Nat.le_of_ble_eq_true rfl⟩, hts _ wz_X4_isWithin⟩ (P0.pre hC hS hH) rfl rfl hl.1 rfl (lv_room (Nat.le_of_ble_eq_true rfl)) dX4_lease_88 ⟨Nat.le_of_ble_eq_true rfl, Nat.le_of_ble_eq_true rfl⟩) ?_
                refine W.eq (g2 := F0 m 91 ls [.int (b2 (inB a5 0 1000))]) rfl ?_
                refine lv_if_eq (tgt := 105) hx hb dX4_lease_91 (by decide) (fun c91 => ?_) (fun c91 => ?_)
                · skip
                  have c91 := b2_0.mp c91
                  have h9 : leaseC g a0 a1 a2 a3 a4 a5 a6 = 2 := by first | (simp [leaseC, c9, c16, c21, c41, c48, c62, c79, c91]; done) | (subst c21; simp [leaseC, c9, c16, c41, c62, c79, c91]; done) | exact absurd c21 c48 | exact absurd c48 c21 | (unfold leaseC; rw [if_neg (by simp [c9, c16, c21, c48, c62, c79, c91]), if_pos (Or.inl c41)])
                  exact e_th (BX := fun H => ∃ ad : Tg → Nat, Ex g ad0 ad ∧ Wo D k b ad g M o H) (PE := xN [nIO, nIA, nIS] (leaseC g a0 a1 a2 a3 a4 a5 a6)) hlf (E := nIA) (by decide +kernel) wc_X4_33 wi_java_lang_IllegalArgumentException ax_IA gd_IA hx hb hts hown hC hlocks ht (by rw [hml]; exact hl.1) hS dX4_lease_105 dX4_lease_108 dX4_lease_109 dX4_lease_112 (fun H1 z o => ⟨ad, hE, hH.grow z o⟩) (Nat.le_of_ble_eq_true rfl) (Nat.le_of_ble_eq_true rfl) (show 0 + 1 ≤ 1 by omega) (show 0 + 6 ≤ 6 by omega) (show 0 + 1 ≤ 1 by omega) (show 0 + 6 ≤ 6 by omega) (by rw [h9]; exact ⟨by decide, rfl⟩)
                · skip
                  have c91 := b2_n0.mp c91
                  refine lv_iload hx hb dX4_lease_94 (lv_at hl 8 rfl) ?_
                  refine lv_iconst (v := 0) hx hb dX4_lease_96 (by decide) ?_
                  refine lv_bipush (v := 100) hx hb dX4_lease_97 (by decide) ?_
                  refine k_r (va_runS (As := [.int a6, .int 0, .int 100]) (rest := []) ⟨hx, hb, hml, hown, hts⟩ (mX4_isWithin l a6 0 100) ⟨cb_of hts wk_X4_isWithin wi_X4 wm_X4_29 sd_X4_isWithin rfl rfl ⟨Nat.le_of_ble_eq_true rfl, Nat.le_of_ble_eq_true rfl⟩, hts _ wz_X4_isWithin⟩ (P0.pre hC hS hH) rfl rfl hl.1 rfl (lv_room (Nat.le_of_ble_eq_true rfl)) dX4_lease_99 ⟨Nat.le_of_ble_eq_true rfl, Nat.le_of_ble_eq_true rfl⟩) ?_
                  refine W.eq (g2 := F0 m 102 ls [.int (b2 (inB a6 0 100))]) rfl ?_
                  refine lv_if_ne (tgt := 113) hx hb dX4_lease_102 (by decide) (fun c102 => ?_) (fun c102 => ?_)
                  · skip
                    have c102 := b2_n0.mp c102
                    refine lv_aload hx hb dX4_lease_113 (lv_at hl 0 rfl) ?_
                    refine g2N hx hb hts hown hC hH (mI g a0 - 1) (mI_n c9).1 7 (by decide) wf_X4_56 (v := va_rf (lsO ad (mI g a0 - 1) (g.2.1 2 (mI g a0 - 1)))) rfl dX4_lease_115 ?_
                    by_cases c115 : g.2.1 2 (mI g a0 - 1) = 0
                    · skip
                      refine W.eq (g2 := F0 m 118 ls [.null]) (by simp [lsO, va_rf, c115]) ?_
                      refine lv_ifnullN (tgt := 129) hx hb dX4_lease_118 (by decide) ?_
                      refine lv_aload hx hb dX4_lease_129 (lv_at hl 0 rfl) ?_
                      have hb0 : b ≤ s.heap.size := (show Hp D b (LW g.2.1) ad (eW k ad g M o) s.heap from hH).2.2.2
                      refine r_new hx hb hts hown hC hH hS hb0 (3, mI g a0 - 1, 0) (ci := 0) rfl inX0 tyX0 tyX0_ok wc_X4_60 wn_X0 wi_X0 [.int 0, .int 0, .int 0, .int 0, .int 0, .int 0] (fun j hj => by rcases (show j = 0 ∨ j = 1 ∨ j = 2 ∨ j = 3 ∨ j = 4 ∨ j = 5 by omega) with rfl | rfl | rfl | rfl | rfl | rfl <;> rfl) (show 0 + 1 ≤ 1 by omega) (show 0 + 6 ≤ 6 by omega) dX4_lease_131 (fun H hH hS => ?_)
                      obtain ⟨ad1, had⟩ : ∃ z, z = uA ad (3, mI g a0 - 1, 0) s.heap.size := ⟨_, rfl⟩
                      have ea : ∀ u : Tg, u ≠ (3, mI g a0 - 1, 0) → ad1 u = ad u := fun u h => by rw [had]; exact uA_n h
                      have ea1 : ad1 (3, mI g a0 - 1, 0) = s.heap.size := by rw [had]; exact uA_s
                      rw [← had] at hH
                      refine W.eq (g2 := F0 m 134 ls [.ref (ad1 (3, mI g a0 - 1, 0)), .ref (ad1 (1, mI g a0 - 1, 0))]) (by rw [ea1, ea (1, mI g a0 - 1, 0) (by simp)]) ?_
                      refine lv_dup hx hb dX4_lease_134 rfl ?_
                      refine lv_iload_n hx hb dX4_lease_135 rfl (lv_at hl 3 rfl) ?_
                      refine lv_iload_n hx hb dX4_lease_136 rfl (lv_at hl 4 rfl) ?_
                      refine lv_iload hx hb dX4_lease_137 (lv_at hl 5 rfl) ?_
                      refine lv_iload hx hb dX4_lease_139 (lv_at hl 6 rfl) ?_
                      refine lv_iload hx hb dX4_lease_141 (lv_at hl 7 rfl) ?_
                      refine lv_iload hx hb dX4_lease_143 (lv_at hl 8 rfl) ?_
                      refine k_w (va_runIN (As := [.int a1, .int a2, .int a3, .int a4, .int a5, .int a6]) (rest := [.ref (ad1 (3, mI g a0 - 1, 0)), .ref (ad1 (1, mI g a0 - 1, 0))]) ⟨hx, hb, hml, hown, hts⟩ (mX0_init l (3, mI g a0 - 1, 0) (Or.inr rfl) uE_s a1 a2 a3 a4 a5 a6) ⟨cn_of hts wk_X0_init wi_X0 wm_X4_62 sd_X0_init rfl rfl ⟨Nat.le_of_ble_eq_true rfl, Nat.le_of_ble_eq_true rfl⟩, rfl, hts _ wv_X0_init⟩ (P0.pre hC hS hH) rfl rfl hl.1 rfl (lv_room (Nat.le_of_ble_eq_true rfl)) dX4_lease_145 ⟨show 0 + 1 + 0 ≤ 1 by omega, show 0 + 6 + 0 ≤ 6 by omega⟩) hS (fun H locs hH hS => ?_)
                      rw [uE_uE] at hH
                      refine W.eq (g2 := F0 m 148 ls [.ref (ad1 (3, mI g a0 - 1, 0)), .ref (ad1 (1, mI g a0 - 1, 0))]) rfl ?_
                      refine r_putN hx hb hts hown hC hH hS (1, mI g a0 - 1, 0) (Or.inl ⟨(mI_n c9).1, rfl⟩) (fs := fM g ad (mI g a0 - 1)) (by rw [uE_n (by simp)]; rfl) rfl inX2 tyX2 tyX2_ok nmX2 7 (by decide) rfl wf_X4_56 rfl rfl (by simp [fM]) dX4_lease_148 (fun H locs hH hS => ?_)
                      have h8 : leaseC g a0 a1 a2 a3 a4 a5 a6 = 0 := by first | (simp [leaseC, c9, c16, c21, c41, c48, c62, c79, c91, c102, c115]; done) | (subst c21; simp [leaseC, c9, c16, c41, c62, c79, c91, c102, c115]; done) | exact absurd c21 c48 | exact absurd c48 c21 | (unfold leaseC; rw [if_neg (by simp [c9, c16, c21, c48, c62, c79, c91, c102, c115]), if_pos (Or.inl c41)])
                      refine e_xv hx hb hr hlocks h8 hS ⟨ad1, hE.tr Gr.rf (fun u h3 hu => ea u (fun q => h3 (by rw [q]))), ?_⟩ (show 0 + 1 + 0 ≤ 1 by omega) (show 0 + 6 + 0 ≤ 6 by omega) dX4_lease_151
                      refine Wo_nL ea hH ⟨Or.inr rfl, ?_⟩ ⟨Or.inl ⟨(mI_n c9).1, rfl⟩, ?_⟩ (fun u hu n1 n0 => ⟨Or.inl hu, ?_⟩)
                      · rw [uE_n (by simp), uE_s]
                      · rw [uE_s]
                      · rw [uE_n n0, uE_n n1]
                    · skip
                      refine W.eq (g2 := F0 m 118 ls [.ref (ad (3, mI g a0 - 1, 0))]) (by simp [lsO, va_rf, c115]) ?_
                      refine lv_ifnull hx hb dX4_lease_118 ?_
                      have h9 : leaseC g a0 a1 a2 a3 a4 a5 a6 = 3 := by first | (simp [leaseC, c9, c16, c21, c41, c48, c62, c79, c91, c102, c115]; done) | (subst c21; simp [leaseC, c9, c16, c41, c62, c79, c91, c102, c115]; done) | exact absurd c21 c48 | exact absurd c48 c21 | (unfold leaseC; rw [if_neg (by simp [c9, c16, c21, c48, c62, c79, c91, c102, c115]), if_pos (Or.inl c41)])
                      exact e_th (BX := fun H => ∃ ad : Tg → Nat, Ex g ad0 ad ∧ Wo D k b ad g M o H) (PE := xN [nIO, nIA, nIS] (leaseC g a0 a1 a2 a3 a4 a5 a6)) hlf (E := nIS) (by decide +kernel) wc_X4_39 wi_java_lang_IllegalStateException ax_IS gd_IS hx hb hts hown hC hlocks ht (by rw [hml]; exact hl.1) hS dX4_lease_121 dX4_lease_124 dX4_lease_125 dX4_lease_128 (fun H1 z o => ⟨ad, hE, hH.grow z o⟩) (Nat.le_of_ble_eq_true rfl) (Nat.le_of_ble_eq_true rfl) (show 0 + 1 ≤ 1 by omega) (show 0 + 6 ≤ 6 by omega) (show 0 + 1 ≤ 1 by omega) (show 0 + 6 ≤ 6 by omega) (by rw [h9]; exact ⟨by decide, rfl⟩)
                  · skip
                    have c102 := b2_0.mp c102
                    have h9 : leaseC g a0 a1 a2 a3 a4 a5 a6 = 2 := by first | (simp [leaseC, c9, c16, c21, c41, c48, c62, c79, c91, c102]; done) | (subst c21; simp [leaseC, c9, c16, c41, c62, c79, c91, c102]; done) | exact absurd c21 c48 | exact absurd c48 c21 | (unfold leaseC; rw [if_neg (by simp [c9, c16, c21, c48, c62, c79, c91, c102]), if_pos (Or.inl c41)])
                    exact e_th (BX := fun H => ∃ ad : Tg → Nat, Ex g ad0 ad ∧ Wo D k b ad g M o H) (PE := xN [nIO, nIA, nIS] (leaseC g a0 a1 a2 a3 a4 a5 a6)) hlf (E := nIA) (by decide +kernel) wc_X4_33 wi_java_lang_IllegalArgumentException ax_IA gd_IA hx hb hts hown hC hlocks ht (by rw [hml]; exact hl.1) hS dX4_lease_105 dX4_lease_108 dX4_lease_109 dX4_lease_112 (fun H1 z o => ⟨ad, hE, hH.grow z o⟩) (Nat.le_of_ble_eq_true rfl) (Nat.le_of_ble_eq_true rfl) (show 0 + 1 ≤ 1 by omega) (show 0 + 6 ≤ 6 by omega) (show 0 + 1 ≤ 1 by omega) (show 0 + 6 ≤ 6 by omega) (by rw [h9]; exact ⟨by decide, rfl⟩)
          · skip
            refine lv_bipush (v := 10) hx hb dX4_lease_51 (by decide) ?_
            refine lv_goto (tgt := 57) hx hb dX4_lease_53 (by decide) ?_
            refine lv_bipush (v := 10) hx hb dX4_lease_57 (by decide) ?_
            refine k_r (va_runS (As := [.int a3, .int 10, .int 10]) (rest := []) ⟨hx, hb, hml, hown, hts⟩ (mX4_isWithin l a3 10 10) ⟨cb_of hts wk_X4_isWithin wi_X4 wm_X4_29 sd_X4_isWithin rfl rfl ⟨Nat.le_of_ble_eq_true rfl, Nat.le_of_ble_eq_true rfl⟩, hts _ wz_X4_isWithin⟩ (P0.pre hC hS hH) rfl rfl hl.1 rfl (lv_room (Nat.le_of_ble_eq_true rfl)) dX4_lease_59 ⟨Nat.le_of_ble_eq_true rfl, Nat.le_of_ble_eq_true rfl⟩) ?_
            refine W.eq (g2 := F0 m 62 ls [.int (b2 (inB a3 10 10))]) rfl ?_
            refine lv_if_eq (tgt := 105) hx hb dX4_lease_62 (by decide) (fun c62 => ?_) (fun c62 => ?_)
            · skip
              have c62 := b2_0.mp c62
              have h9 : leaseC g a0 a1 a2 a3 a4 a5 a6 = 2 := by first | (simp [leaseC, c9, c16, c21, c41, c48, c62]; done) | (subst c21; simp [leaseC, c9, c16, c41, c62]; done) | exact absurd c21 c48 | exact absurd c48 c21 | (unfold leaseC; rw [if_neg (by simp [c9, c16, c21, c48, c62]), if_pos (Or.inl c41)])
              exact e_th (BX := fun H => ∃ ad : Tg → Nat, Ex g ad0 ad ∧ Wo D k b ad g M o H) (PE := xN [nIO, nIA, nIS] (leaseC g a0 a1 a2 a3 a4 a5 a6)) hlf (E := nIA) (by decide +kernel) wc_X4_33 wi_java_lang_IllegalArgumentException ax_IA gd_IA hx hb hts hown hC hlocks ht (by rw [hml]; exact hl.1) hS dX4_lease_105 dX4_lease_108 dX4_lease_109 dX4_lease_112 (fun H1 z o => ⟨ad, hE, hH.grow z o⟩) (Nat.le_of_ble_eq_true rfl) (Nat.le_of_ble_eq_true rfl) (show 0 + 1 ≤ 1 by omega) (show 0 + 6 ≤ 6 by omega) (show 0 + 1 ≤ 1 by omega) (show 0 + 6 ≤ 6 by omega) (by rw [h9]; exact ⟨by decide, rfl⟩)
            · skip
              have c62 := b2_n0.mp c62
              refine lv_iload hx hb dX4_lease_65 (lv_at hl 6 rfl) ?_
              refine lv_aload_n hx hb dX4_lease_67 rfl (lv_at hl 1 rfl) ?_
              refine g4 hx hb hts hown hC hH 3 (by decide) wf_X4_52 (v := .int (g.1 40 0)) rfl dX4_lease_68 ?_
              refine lv_iconst (v := 1) hx hb dX4_lease_71 (by decide) ?_
              refine lv_iadd hx hb dX4_lease_72 ?_
              refine lv_sipush (v := 10000) hx hb dX4_lease_73 (by decide) ?_
              refine k_r (va_runS (As := [.int a4, .int ((g.1 40 0) + 1), .int 10000]) (rest := []) ⟨hx, hb, hml, hown, hts⟩ (mX4_isWithin l a4 ((g.1 40 0) + 1) 10000) ⟨cb_of hts wk_X4_isWithin wi_X4 wm_X4_29 sd_X4_isWithin rfl rfl ⟨Nat.le_of_ble_eq_true rfl, Nat.le_of_ble_eq_true rfl⟩, hts _ wz_X4_isWithin⟩ (P0.pre hC hS hH) rfl rfl hl.1 rfl (lv_room (Nat.le_of_ble_eq_true rfl)) dX4_lease_76 ⟨Nat.le_of_ble_eq_true rfl, Nat.le_of_ble_eq_true rfl⟩) ?_
              refine W.eq (g2 := F0 m 79 ls [.int (b2 (inB a4 ((g.1 40 0) + 1) 10000))]) rfl ?_
              refine lv_if_eq (tgt := 105) hx hb dX4_lease_79 (by decide) (fun c79 => ?_) (fun c79 => ?_)
              · skip
                have c79 := b2_0.mp c79
                have h9 : leaseC g a0 a1 a2 a3 a4 a5 a6 = 2 := by first | (simp [leaseC, c9, c16, c21, c41, c48, c62, c79]; done) | (subst c21; simp [leaseC, c9, c16, c41, c62, c79]; done) | exact absurd c21 c48 | exact absurd c48 c21 | (unfold leaseC; rw [if_neg (by simp [c9, c16, c21, c48, c62, c79]), if_pos (Or.inl c41)])
                exact e_th (BX := fun H => ∃ ad : Tg → Nat, Ex g ad0 ad ∧ Wo D k b ad g M o H) (PE := xN [nIO, nIA, nIS] (leaseC g a0 a1 a2 a3 a4 a5 a6)) hlf (E := nIA) (by decide +kernel) wc_X4_33 wi_java_lang_IllegalArgumentException ax_IA gd_IA hx hb hts hown hC hlocks ht (by rw [hml]; exact hl.1) hS dX4_lease_105 dX4_lease_108 dX4_lease_109 dX4_lease_112 (fun H1 z o => ⟨ad, hE, hH.grow z o⟩) (Nat.le_of_ble_eq_true rfl) (Nat.le_of_ble_eq_true rfl) (show 0 + 1 ≤ 1 by omega) (show 0 + 6 ≤ 6 by omega) (show 0 + 1 ≤ 1 by omega) (show 0 + 6 ≤ 6 by omega) (by rw [h9]; exact ⟨by decide, rfl⟩)
              · skip
                have c79 := b2_n0.mp c79
                refine lv_iload hx hb dX4_lease_82 (lv_at hl 7 rfl) ?_
                refine lv_iconst (v := 0) hx hb dX4_lease_84 (by decide) ?_
                refine lv_sipush (v := 1000) hx hb dX4_lease_85 (by decide) ?_
                refine k_r (va_runS (As := [.int a5, .int 0, .int 1000]) (rest := []) ⟨hx, hb, hml, hown, hts⟩ (mX4_isWithin l a5 0 1000) ⟨cb_of hts wk_X4_isWithin wi_X4 wm_X4_29 sd_X4_isWithin rfl rfl ⟨Nat.le_of_ble_eq_true rfl, Nat.le_of_ble_eq_true rfl⟩, hts _ wz_X4_isWithin⟩ (P0.pre hC hS hH) rfl rfl hl.1 rfl (lv_room (Nat.le_of_ble_eq_true rfl)) dX4_lease_88 ⟨Nat.le_of_ble_eq_true rfl, Nat.le_of_ble_eq_true rfl⟩) ?_
                refine W.eq (g2 := F0 m 91 ls [.int (b2 (inB a5 0 1000))]) rfl ?_
                refine lv_if_eq (tgt := 105) hx hb dX4_lease_91 (by decide) (fun c91 => ?_) (fun c91 => ?_)
                · skip
                  have c91 := b2_0.mp c91
                  have h9 : leaseC g a0 a1 a2 a3 a4 a5 a6 = 2 := by first | (simp [leaseC, c9, c16, c21, c41, c48, c62, c79, c91]; done) | (subst c21; simp [leaseC, c9, c16, c41, c62, c79, c91]; done) | exact absurd c21 c48 | exact absurd c48 c21 | (unfold leaseC; rw [if_neg (by simp [c9, c16, c21, c48, c62, c79, c91]), if_pos (Or.inl c41)])
                  exact e_th (BX := fun H => ∃ ad : Tg → Nat, Ex g ad0 ad ∧ Wo D k b ad g M o H) (PE := xN [nIO, nIA, nIS] (leaseC g a0 a1 a2 a3 a4 a5 a6)) hlf (E := nIA) (by decide +kernel) wc_X4_33 wi_java_lang_IllegalArgumentException ax_IA gd_IA hx hb hts hown hC hlocks ht (by rw [hml]; exact hl.1) hS dX4_lease_105 dX4_lease_108 dX4_lease_109 dX4_lease_112 (fun H1 z o => ⟨ad, hE, hH.grow z o⟩) (Nat.le_of_ble_eq_true rfl) (Nat.le_of_ble_eq_true rfl) (show 0 + 1 ≤ 1 by omega) (show 0 + 6 ≤ 6 by omega) (show 0 + 1 ≤ 1 by omega) (show 0 + 6 ≤ 6 by omega) (by rw [h9]; exact ⟨by decide, rfl⟩)
                · skip
                  have c91 := b2_n0.mp c91
                  refine lv_iload hx hb dX4_lease_94 (lv_at hl 8 rfl) ?_
                  refine lv_iconst (v := 0) hx hb dX4_lease_96 (by decide) ?_
                  refine lv_bipush (v := 100) hx hb dX4_lease_97 (by decide) ?_
                  refine k_r (va_runS (As := [.int a6, .int 0, .int 100]) (rest := []) ⟨hx, hb, hml, hown, hts⟩ (mX4_isWithin l a6 0 100) ⟨cb_of hts wk_X4_isWithin wi_X4 wm_X4_29 sd_X4_isWithin rfl rfl ⟨Nat.le_of_ble_eq_true rfl, Nat.le_of_ble_eq_true rfl⟩, hts _ wz_X4_isWithin⟩ (P0.pre hC hS hH) rfl rfl hl.1 rfl (lv_room (Nat.le_of_ble_eq_true rfl)) dX4_lease_99 ⟨Nat.le_of_ble_eq_true rfl, Nat.le_of_ble_eq_true rfl⟩) ?_
                  refine W.eq (g2 := F0 m 102 ls [.int (b2 (inB a6 0 100))]) rfl ?_
                  refine lv_if_ne (tgt := 113) hx hb dX4_lease_102 (by decide) (fun c102 => ?_) (fun c102 => ?_)
                  · skip
                    have c102 := b2_n0.mp c102
                    refine lv_aload hx hb dX4_lease_113 (lv_at hl 0 rfl) ?_
                    refine g2N hx hb hts hown hC hH (mI g a0 - 1) (mI_n c9).1 7 (by decide) wf_X4_56 (v := va_rf (lsO ad (mI g a0 - 1) (g.2.1 2 (mI g a0 - 1)))) rfl dX4_lease_115 ?_
                    by_cases c115 : g.2.1 2 (mI g a0 - 1) = 0
                    · skip
                      refine W.eq (g2 := F0 m 118 ls [.null]) (by simp [lsO, va_rf, c115]) ?_
                      refine lv_ifnullN (tgt := 129) hx hb dX4_lease_118 (by decide) ?_
                      refine lv_aload hx hb dX4_lease_129 (lv_at hl 0 rfl) ?_
                      have hb0 : b ≤ s.heap.size := (show Hp D b (LW g.2.1) ad (eW k ad g M o) s.heap from hH).2.2.2
                      refine r_new hx hb hts hown hC hH hS hb0 (3, mI g a0 - 1, 0) (ci := 0) rfl inX0 tyX0 tyX0_ok wc_X4_60 wn_X0 wi_X0 [.int 0, .int 0, .int 0, .int 0, .int 0, .int 0] (fun j hj => by rcases (show j = 0 ∨ j = 1 ∨ j = 2 ∨ j = 3 ∨ j = 4 ∨ j = 5 by omega) with rfl | rfl | rfl | rfl | rfl | rfl <;> rfl) (show 0 + 1 ≤ 1 by omega) (show 0 + 6 ≤ 6 by omega) dX4_lease_131 (fun H hH hS => ?_)
                      obtain ⟨ad1, had⟩ : ∃ z, z = uA ad (3, mI g a0 - 1, 0) s.heap.size := ⟨_, rfl⟩
                      have ea : ∀ u : Tg, u ≠ (3, mI g a0 - 1, 0) → ad1 u = ad u := fun u h => by rw [had]; exact uA_n h
                      have ea1 : ad1 (3, mI g a0 - 1, 0) = s.heap.size := by rw [had]; exact uA_s
                      rw [← had] at hH
                      refine W.eq (g2 := F0 m 134 ls [.ref (ad1 (3, mI g a0 - 1, 0)), .ref (ad1 (1, mI g a0 - 1, 0))]) (by rw [ea1, ea (1, mI g a0 - 1, 0) (by simp)]) ?_
                      refine lv_dup hx hb dX4_lease_134 rfl ?_
                      refine lv_iload_n hx hb dX4_lease_135 rfl (lv_at hl 3 rfl) ?_
                      refine lv_iload_n hx hb dX4_lease_136 rfl (lv_at hl 4 rfl) ?_
                      refine lv_iload hx hb dX4_lease_137 (lv_at hl 5 rfl) ?_
                      refine lv_iload hx hb dX4_lease_139 (lv_at hl 6 rfl) ?_
                      refine lv_iload hx hb dX4_lease_141 (lv_at hl 7 rfl) ?_
                      refine lv_iload hx hb dX4_lease_143 (lv_at hl 8 rfl) ?_
                      refine k_w (va_runIN (As := [.int a1, .int a2, .int a3, .int a4, .int a5, .int a6]) (rest := [.ref (ad1 (3, mI g a0 - 1, 0)), .ref (ad1 (1, mI g a0 - 1, 0))]) ⟨hx, hb, hml, hown, hts⟩ (mX0_init l (3, mI g a0 - 1, 0) (Or.inr rfl) uE_s a1 a2 a3 a4 a5 a6) ⟨cn_of hts wk_X0_init wi_X0 wm_X4_62 sd_X0_init rfl rfl ⟨Nat.le_of_ble_eq_true rfl, Nat.le_of_ble_eq_true rfl⟩, rfl, hts _ wv_X0_init⟩ (P0.pre hC hS hH) rfl rfl hl.1 rfl (lv_room (Nat.le_of_ble_eq_true rfl)) dX4_lease_145 ⟨show 0 + 1 + 0 ≤ 1 by omega, show 0 + 6 + 0 ≤ 6 by omega⟩) hS (fun H locs hH hS => ?_)
                      rw [uE_uE] at hH
                      refine W.eq (g2 := F0 m 148 ls [.ref (ad1 (3, mI g a0 - 1, 0)), .ref (ad1 (1, mI g a0 - 1, 0))]) rfl ?_
                      refine r_putN hx hb hts hown hC hH hS (1, mI g a0 - 1, 0) (Or.inl ⟨(mI_n c9).1, rfl⟩) (fs := fM g ad (mI g a0 - 1)) (by rw [uE_n (by simp)]; rfl) rfl inX2 tyX2 tyX2_ok nmX2 7 (by decide) rfl wf_X4_56 rfl rfl (by simp [fM]) dX4_lease_148 (fun H locs hH hS => ?_)
                      have h8 : leaseC g a0 a1 a2 a3 a4 a5 a6 = 0 := by first | (simp [leaseC, c9, c16, c21, c41, c48, c62, c79, c91, c102, c115]; done) | (subst c21; simp [leaseC, c9, c16, c41, c62, c79, c91, c102, c115]; done) | exact absurd c21 c48 | exact absurd c48 c21 | (unfold leaseC; rw [if_neg (by simp [c9, c16, c21, c48, c62, c79, c91, c102, c115]), if_pos (Or.inl c41)])
                      refine e_xv hx hb hr hlocks h8 hS ⟨ad1, hE.tr Gr.rf (fun u h3 hu => ea u (fun q => h3 (by rw [q]))), ?_⟩ (show 0 + 1 + 0 ≤ 1 by omega) (show 0 + 6 + 0 ≤ 6 by omega) dX4_lease_151
                      refine Wo_nL ea hH ⟨Or.inr rfl, ?_⟩ ⟨Or.inl ⟨(mI_n c9).1, rfl⟩, ?_⟩ (fun u hu n1 n0 => ⟨Or.inl hu, ?_⟩)
                      · rw [uE_n (by simp), uE_s]
                      · rw [uE_s]
                      · rw [uE_n n0, uE_n n1]
                    · skip
                      refine W.eq (g2 := F0 m 118 ls [.ref (ad (3, mI g a0 - 1, 0))]) (by simp [lsO, va_rf, c115]) ?_
                      refine lv_ifnull hx hb dX4_lease_118 ?_
                      have h9 : leaseC g a0 a1 a2 a3 a4 a5 a6 = 3 := by first | (simp [leaseC, c9, c16, c21, c41, c48, c62, c79, c91, c102, c115]; done) | (subst c21; simp [leaseC, c9, c16, c41, c62, c79, c91, c102, c115]; done) | exact absurd c21 c48 | exact absurd c48 c21 | (unfold leaseC; rw [if_neg (by simp [c9, c16, c21, c48, c62, c79, c91, c102, c115]), if_pos (Or.inl c41)])
                      exact e_th (BX := fun H => ∃ ad : Tg → Nat, Ex g ad0 ad ∧ Wo D k b ad g M o H) (PE := xN [nIO, nIA, nIS] (leaseC g a0 a1 a2 a3 a4 a5 a6)) hlf (E := nIS) (by decide +kernel) wc_X4_39 wi_java_lang_IllegalStateException ax_IS gd_IS hx hb hts hown hC hlocks ht (by rw [hml]; exact hl.1) hS dX4_lease_121 dX4_lease_124 dX4_lease_125 dX4_lease_128 (fun H1 z o => ⟨ad, hE, hH.grow z o⟩) (Nat.le_of_ble_eq_true rfl) (Nat.le_of_ble_eq_true rfl) (show 0 + 1 ≤ 1 by omega) (show 0 + 6 ≤ 6 by omega) (show 0 + 1 ≤ 1 by omega) (show 0 + 6 ≤ 6 by omega) (by rw [h9]; exact ⟨by decide, rfl⟩)
                  · skip
                    have c102 := b2_0.mp c102
                    have h9 : leaseC g a0 a1 a2 a3 a4 a5 a6 = 2 := by first | (simp [leaseC, c9, c16, c21, c41, c48, c62, c79, c91, c102]; done) | (subst c21; simp [leaseC, c9, c16, c41, c62, c79, c91, c102]; done) | exact absurd c21 c48 | exact absurd c48 c21 | (unfold leaseC; rw [if_neg (by simp [c9, c16, c21, c48, c62, c79, c91, c102]), if_pos (Or.inl c41)])
                    exact e_th (BX := fun H => ∃ ad : Tg → Nat, Ex g ad0 ad ∧ Wo D k b ad g M o H) (PE := xN [nIO, nIA, nIS] (leaseC g a0 a1 a2 a3 a4 a5 a6)) hlf (E := nIA) (by decide +kernel) wc_X4_33 wi_java_lang_IllegalArgumentException ax_IA gd_IA hx hb hts hown hC hlocks ht (by rw [hml]; exact hl.1) hS dX4_lease_105 dX4_lease_108 dX4_lease_109 dX4_lease_112 (fun H1 z o => ⟨ad, hE, hH.grow z o⟩) (Nat.le_of_ble_eq_true rfl) (Nat.le_of_ble_eq_true rfl) (show 0 + 1 ≤ 1 by omega) (show 0 + 6 ≤ 6 by omega) (show 0 + 1 ≤ 1 by omega) (show 0 + 6 ≤ 6 by omega) (by rw [h9]; exact ⟨by decide, rfl⟩)
      · skip
        refine lv_iload_n hx hb dX4_lease_24 rfl (lv_at hl 4 rfl) ?_
        refine k_r (va_runS (As := [.int a2]) (rest := []) ⟨hx, hb, hml, hown, hts⟩ (mX4_isFarmer l a2) ⟨cb_of hts wk_X4_isFarmer wi_X4 wm_X4_46 sd_X4_isFarmer rfl rfl ⟨Nat.le_of_ble_eq_true rfl, Nat.le_of_ble_eq_true rfl⟩, hts _ wz_X4_isFarmer⟩ (P0.pre hC hS hH) rfl rfl hl.1 rfl (lv_room (Nat.le_of_ble_eq_true rfl)) dX4_lease_25 ⟨Nat.le_of_ble_eq_true rfl, Nat.le_of_ble_eq_true rfl⟩) ?_
        refine W.eq (g2 := F0 m 28 ls [.int (b2 (inB a2 0 5))]) rfl ?_
        refine lv_if_ne (tgt := 39) hx hb dX4_lease_28 (by decide) (fun c28 => ?_) (fun c28 => ?_)
        · skip
          have c28 := b2_n0.mp c28
          refine lv_iload_n hx hb dX4_lease_39 rfl (lv_at hl 3 rfl) ?_
          refine lv_iload_n hx hb dX4_lease_40 rfl (lv_at hl 4 rfl) ?_
          refine lv_icmp_eq (tgt := 105) hx hb dX4_lease_41 (by decide) (fun c41 => ?_) (fun c41 => ?_)
          · skip
            have h9 : leaseC g a0 a1 a2 a3 a4 a5 a6 = 2 := by first | (simp [leaseC, c9, c16, c21, c28, c41]; done) | (subst c21; simp [leaseC, c9, c16, c28, c41]; done) | (unfold leaseC; rw [if_neg (by simp [c9, c16, c21, c28]), if_pos (Or.inl c41)])
            exact e_th (BX := fun H => ∃ ad : Tg → Nat, Ex g ad0 ad ∧ Wo D k b ad g M o H) (PE := xN [nIO, nIA, nIS] (leaseC g a0 a1 a2 a3 a4 a5 a6)) hlf (E := nIA) (by decide +kernel) wc_X4_33 wi_java_lang_IllegalArgumentException ax_IA gd_IA hx hb hts hown hC hlocks ht (by rw [hml]; exact hl.1) hS dX4_lease_105 dX4_lease_108 dX4_lease_109 dX4_lease_112 (fun H1 z o => ⟨ad, hE, hH.grow z o⟩) (Nat.le_of_ble_eq_true rfl) (Nat.le_of_ble_eq_true rfl) (show 0 + 1 ≤ 1 by omega) (show 0 + 6 ≤ 6 by omega) (show 0 + 1 ≤ 1 by omega) (show 0 + 6 ≤ 6 by omega) (by rw [h9]; exact ⟨by decide, rfl⟩)
          · skip
            refine lv_iload hx hb dX4_lease_44 (lv_at hl 5 rfl) ?_
            refine lv_iload_n hx hb dX4_lease_46 rfl (lv_at hl 4 rfl) ?_
            refine lv_iconst (v := (-1)) hx hb dX4_lease_47 (by decide) ?_
            refine lv_icmp_ne (tgt := 56) hx hb dX4_lease_48 (by decide) (fun c48 => ?_) (fun c48 => ?_)
            · skip
              refine lv_iconst (v := 0) hx hb dX4_lease_56 (by decide) ?_
              refine lv_bipush (v := 10) hx hb dX4_lease_57 (by decide) ?_
              refine k_r (va_runS (As := [.int a3, .int 0, .int 10]) (rest := []) ⟨hx, hb, hml, hown, hts⟩ (mX4_isWithin l a3 0 10) ⟨cb_of hts wk_X4_isWithin wi_X4 wm_X4_29 sd_X4_isWithin rfl rfl ⟨Nat.le_of_ble_eq_true rfl, Nat.le_of_ble_eq_true rfl⟩, hts _ wz_X4_isWithin⟩ (P0.pre hC hS hH) rfl rfl hl.1 rfl (lv_room (Nat.le_of_ble_eq_true rfl)) dX4_lease_59 ⟨Nat.le_of_ble_eq_true rfl, Nat.le_of_ble_eq_true rfl⟩) ?_
              refine W.eq (g2 := F0 m 62 ls [.int (b2 (inB a3 0 10))]) rfl ?_
              refine lv_if_eq (tgt := 105) hx hb dX4_lease_62 (by decide) (fun c62 => ?_) (fun c62 => ?_)
              · skip
                have c62 := b2_0.mp c62
                have h9 : leaseC g a0 a1 a2 a3 a4 a5 a6 = 2 := by first | (simp [leaseC, c9, c16, c21, c28, c41, c48, c62]; done) | (subst c21; simp [leaseC, c9, c16, c28, c41, c62]; done) | exact absurd c21 c48 | exact absurd c48 c21 | (unfold leaseC; rw [if_neg (by simp [c9, c16, c21, c28, c48, c62]), if_pos (Or.inl c41)])
                exact e_th (BX := fun H => ∃ ad : Tg → Nat, Ex g ad0 ad ∧ Wo D k b ad g M o H) (PE := xN [nIO, nIA, nIS] (leaseC g a0 a1 a2 a3 a4 a5 a6)) hlf (E := nIA) (by decide +kernel) wc_X4_33 wi_java_lang_IllegalArgumentException ax_IA gd_IA hx hb hts hown hC hlocks ht (by rw [hml]; exact hl.1) hS dX4_lease_105 dX4_lease_108 dX4_lease_109 dX4_lease_112 (fun H1 z o => ⟨ad, hE, hH.grow z o⟩) (Nat.le_of_ble_eq_true rfl) (Nat.le_of_ble_eq_true rfl) (show 0 + 1 ≤ 1 by omega) (show 0 + 6 ≤ 6 by omega) (show 0 + 1 ≤ 1 by omega) (show 0 + 6 ≤ 6 by omega) (by rw [h9]; exact ⟨by decide, rfl⟩)
              · skip
                have c62 := b2_n0.mp c62
                refine lv_iload hx hb dX4_lease_65 (lv_at hl 6 rfl) ?_
                refine lv_aload_n hx hb dX4_lease_67 rfl (lv_at hl 1 rfl) ?_
                refine g4 hx hb hts hown hC hH 3 (by decide) wf_X4_52 (v := .int (g.1 40 0)) rfl dX4_lease_68 ?_
                refine lv_iconst (v := 1) hx hb dX4_lease_71 (by decide) ?_
                refine lv_iadd hx hb dX4_lease_72 ?_
                refine lv_sipush (v := 10000) hx hb dX4_lease_73 (by decide) ?_
                refine k_r (va_runS (As := [.int a4, .int ((g.1 40 0) + 1), .int 10000]) (rest := []) ⟨hx, hb, hml, hown, hts⟩ (mX4_isWithin l a4 ((g.1 40 0) + 1) 10000) ⟨cb_of hts wk_X4_isWithin wi_X4 wm_X4_29 sd_X4_isWithin rfl rfl ⟨Nat.le_of_ble_eq_true rfl, Nat.le_of_ble_eq_true rfl⟩, hts _ wz_X4_isWithin⟩ (P0.pre hC hS hH) rfl rfl hl.1 rfl (lv_room (Nat.le_of_ble_eq_true rfl)) dX4_lease_76 ⟨Nat.le_of_ble_eq_true rfl, Nat.le_of_ble_eq_true rfl⟩) ?_
                refine W.eq (g2 := F0 m 79 ls [.int (b2 (inB a4 ((g.1 40 0) + 1) 10000))]) rfl ?_
                refine lv_if_eq (tgt := 105) hx hb dX4_lease_79 (by decide) (fun c79 => ?_) (fun c79 => ?_)
                · skip
                  have c79 := b2_0.mp c79
                  have h9 : leaseC g a0 a1 a2 a3 a4 a5 a6 = 2 := by first | (simp [leaseC, c9, c16, c21, c28, c41, c48, c62, c79]; done) | (subst c21; simp [leaseC, c9, c16, c28, c41, c62, c79]; done) | exact absurd c21 c48 | exact absurd c48 c21 | (unfold leaseC; rw [if_neg (by simp [c9, c16, c21, c28, c48, c62, c79]), if_pos (Or.inl c41)])
                  exact e_th (BX := fun H => ∃ ad : Tg → Nat, Ex g ad0 ad ∧ Wo D k b ad g M o H) (PE := xN [nIO, nIA, nIS] (leaseC g a0 a1 a2 a3 a4 a5 a6)) hlf (E := nIA) (by decide +kernel) wc_X4_33 wi_java_lang_IllegalArgumentException ax_IA gd_IA hx hb hts hown hC hlocks ht (by rw [hml]; exact hl.1) hS dX4_lease_105 dX4_lease_108 dX4_lease_109 dX4_lease_112 (fun H1 z o => ⟨ad, hE, hH.grow z o⟩) (Nat.le_of_ble_eq_true rfl) (Nat.le_of_ble_eq_true rfl) (show 0 + 1 ≤ 1 by omega) (show 0 + 6 ≤ 6 by omega) (show 0 + 1 ≤ 1 by omega) (show 0 + 6 ≤ 6 by omega) (by rw [h9]; exact ⟨by decide, rfl⟩)
                · skip
                  have c79 := b2_n0.mp c79
                  refine lv_iload hx hb dX4_lease_82 (lv_at hl 7 rfl) ?_
                  refine lv_iconst (v := 0) hx hb dX4_lease_84 (by decide) ?_
                  refine lv_sipush (v := 1000) hx hb dX4_lease_85 (by decide) ?_
                  refine k_r (va_runS (As := [.int a5, .int 0, .int 1000]) (rest := []) ⟨hx, hb, hml, hown, hts⟩ (mX4_isWithin l a5 0 1000) ⟨cb_of hts wk_X4_isWithin wi_X4 wm_X4_29 sd_X4_isWithin rfl rfl ⟨Nat.le_of_ble_eq_true rfl, Nat.le_of_ble_eq_true rfl⟩, hts _ wz_X4_isWithin⟩ (P0.pre hC hS hH) rfl rfl hl.1 rfl (lv_room (Nat.le_of_ble_eq_true rfl)) dX4_lease_88 ⟨Nat.le_of_ble_eq_true rfl, Nat.le_of_ble_eq_true rfl⟩) ?_
                  refine W.eq (g2 := F0 m 91 ls [.int (b2 (inB a5 0 1000))]) rfl ?_
                  refine lv_if_eq (tgt := 105) hx hb dX4_lease_91 (by decide) (fun c91 => ?_) (fun c91 => ?_)
                  · skip
                    have c91 := b2_0.mp c91
                    have h9 : leaseC g a0 a1 a2 a3 a4 a5 a6 = 2 := by first | (simp [leaseC, c9, c16, c21, c28, c41, c48, c62, c79, c91]; done) | (subst c21; simp [leaseC, c9, c16, c28, c41, c62, c79, c91]; done) | exact absurd c21 c48 | exact absurd c48 c21 | (unfold leaseC; rw [if_neg (by simp [c9, c16, c21, c28, c48, c62, c79, c91]), if_pos (Or.inl c41)])
                    exact e_th (BX := fun H => ∃ ad : Tg → Nat, Ex g ad0 ad ∧ Wo D k b ad g M o H) (PE := xN [nIO, nIA, nIS] (leaseC g a0 a1 a2 a3 a4 a5 a6)) hlf (E := nIA) (by decide +kernel) wc_X4_33 wi_java_lang_IllegalArgumentException ax_IA gd_IA hx hb hts hown hC hlocks ht (by rw [hml]; exact hl.1) hS dX4_lease_105 dX4_lease_108 dX4_lease_109 dX4_lease_112 (fun H1 z o => ⟨ad, hE, hH.grow z o⟩) (Nat.le_of_ble_eq_true rfl) (Nat.le_of_ble_eq_true rfl) (show 0 + 1 ≤ 1 by omega) (show 0 + 6 ≤ 6 by omega) (show 0 + 1 ≤ 1 by omega) (show 0 + 6 ≤ 6 by omega) (by rw [h9]; exact ⟨by decide, rfl⟩)
                  · skip
                    have c91 := b2_n0.mp c91
                    refine lv_iload hx hb dX4_lease_94 (lv_at hl 8 rfl) ?_
                    refine lv_iconst (v := 0) hx hb dX4_lease_96 (by decide) ?_
                    refine lv_bipush (v := 100) hx hb dX4_lease_97 (by decide) ?_
                    refine k_r (va_runS (As := [.int a6, .int 0, .int 100]) (rest := []) ⟨hx, hb, hml, hown, hts⟩ (mX4_isWithin l a6 0 100) ⟨cb_of hts wk_X4_isWithin wi_X4 wm_X4_29 sd_X4_isWithin rfl rfl ⟨Nat.le_of_ble_eq_true rfl, Nat.le_of_ble_eq_true rfl⟩, hts _ wz_X4_isWithin⟩ (P0.pre hC hS hH) rfl rfl hl.1 rfl (lv_room (Nat.le_of_ble_eq_true rfl)) dX4_lease_99 ⟨Nat.le_of_ble_eq_true rfl, Nat.le_of_ble_eq_true rfl⟩) ?_
                    refine W.eq (g2 := F0 m 102 ls [.int (b2 (inB a6 0 100))]) rfl ?_
                    refine lv_if_ne (tgt := 113) hx hb dX4_lease_102 (by decide) (fun c102 => ?_) (fun c102 => ?_)
                    · skip
                      have c102 := b2_n0.mp c102
                      refine lv_aload hx hb dX4_lease_113 (lv_at hl 0 rfl) ?_
                      refine g2N hx hb hts hown hC hH (mI g a0 - 1) (mI_n c9).1 7 (by decide) wf_X4_56 (v := va_rf (lsO ad (mI g a0 - 1) (g.2.1 2 (mI g a0 - 1)))) rfl dX4_lease_115 ?_
                      by_cases c115 : g.2.1 2 (mI g a0 - 1) = 0
                      · skip
                        refine W.eq (g2 := F0 m 118 ls [.null]) (by simp [lsO, va_rf, c115]) ?_
                        refine lv_ifnullN (tgt := 129) hx hb dX4_lease_118 (by decide) ?_
                        refine lv_aload hx hb dX4_lease_129 (lv_at hl 0 rfl) ?_
                        have hb0 : b ≤ s.heap.size := (show Hp D b (LW g.2.1) ad (eW k ad g M o) s.heap from hH).2.2.2
                        refine r_new hx hb hts hown hC hH hS hb0 (3, mI g a0 - 1, 0) (ci := 0) rfl inX0 tyX0 tyX0_ok wc_X4_60 wn_X0 wi_X0 [.int 0, .int 0, .int 0, .int 0, .int 0, .int 0] (fun j hj => by rcases (show j = 0 ∨ j = 1 ∨ j = 2 ∨ j = 3 ∨ j = 4 ∨ j = 5 by omega) with rfl | rfl | rfl | rfl | rfl | rfl <;> rfl) (show 0 + 1 ≤ 1 by omega) (show 0 + 6 ≤ 6 by omega) dX4_lease_131 (fun H hH hS => ?_)
                        obtain ⟨ad1, had⟩ : ∃ z, z = uA ad (3, mI g a0 - 1, 0) s.heap.size := ⟨_, rfl⟩
                        have ea : ∀ u : Tg, u ≠ (3, mI g a0 - 1, 0) → ad1 u = ad u := fun u h => by rw [had]; exact uA_n h
                        have ea1 : ad1 (3, mI g a0 - 1, 0) = s.heap.size := by rw [had]; exact uA_s
                        rw [← had] at hH
                        refine W.eq (g2 := F0 m 134 ls [.ref (ad1 (3, mI g a0 - 1, 0)), .ref (ad1 (1, mI g a0 - 1, 0))]) (by rw [ea1, ea (1, mI g a0 - 1, 0) (by simp)]) ?_
                        refine lv_dup hx hb dX4_lease_134 rfl ?_
                        refine lv_iload_n hx hb dX4_lease_135 rfl (lv_at hl 3 rfl) ?_
                        refine lv_iload_n hx hb dX4_lease_136 rfl (lv_at hl 4 rfl) ?_
                        refine lv_iload hx hb dX4_lease_137 (lv_at hl 5 rfl) ?_
                        refine lv_iload hx hb dX4_lease_139 (lv_at hl 6 rfl) ?_
                        refine lv_iload hx hb dX4_lease_141 (lv_at hl 7 rfl) ?_
                        refine lv_iload hx hb dX4_lease_143 (lv_at hl 8 rfl) ?_
                        refine k_w (va_runIN (As := [.int a1, .int a2, .int a3, .int a4, .int a5, .int a6]) (rest := [.ref (ad1 (3, mI g a0 - 1, 0)), .ref (ad1 (1, mI g a0 - 1, 0))]) ⟨hx, hb, hml, hown, hts⟩ (mX0_init l (3, mI g a0 - 1, 0) (Or.inr rfl) uE_s a1 a2 a3 a4 a5 a6) ⟨cn_of hts wk_X0_init wi_X0 wm_X4_62 sd_X0_init rfl rfl ⟨Nat.le_of_ble_eq_true rfl, Nat.le_of_ble_eq_true rfl⟩, rfl, hts _ wv_X0_init⟩ (P0.pre hC hS hH) rfl rfl hl.1 rfl (lv_room (Nat.le_of_ble_eq_true rfl)) dX4_lease_145 ⟨show 0 + 1 + 0 ≤ 1 by omega, show 0 + 6 + 0 ≤ 6 by omega⟩) hS (fun H locs hH hS => ?_)
                        rw [uE_uE] at hH
                        refine W.eq (g2 := F0 m 148 ls [.ref (ad1 (3, mI g a0 - 1, 0)), .ref (ad1 (1, mI g a0 - 1, 0))]) rfl ?_
                        refine r_putN hx hb hts hown hC hH hS (1, mI g a0 - 1, 0) (Or.inl ⟨(mI_n c9).1, rfl⟩) (fs := fM g ad (mI g a0 - 1)) (by rw [uE_n (by simp)]; rfl) rfl inX2 tyX2 tyX2_ok nmX2 7 (by decide) rfl wf_X4_56 rfl rfl (by simp [fM]) dX4_lease_148 (fun H locs hH hS => ?_)
                        have h8 : leaseC g a0 a1 a2 a3 a4 a5 a6 = 0 := by first | (simp [leaseC, c9, c16, c21, c28, c41, c48, c62, c79, c91, c102, c115]; done) | (subst c21; simp [leaseC, c9, c16, c28, c41, c62, c79, c91, c102, c115]; done) | exact absurd c21 c48 | exact absurd c48 c21 | (unfold leaseC; rw [if_neg (by simp [c9, c16, c21, c28, c48, c62, c79, c91, c102, c115]), if_pos (Or.inl c41)])
                        refine e_xv hx hb hr hlocks h8 hS ⟨ad1, hE.tr Gr.rf (fun u h3 hu => ea u (fun q => h3 (by rw [q]))), ?_⟩ (show 0 + 1 + 0 ≤ 1 by omega) (show 0 + 6 + 0 ≤ 6 by omega) dX4_lease_151
                        refine Wo_nL ea hH ⟨Or.inr rfl, ?_⟩ ⟨Or.inl ⟨(mI_n c9).1, rfl⟩, ?_⟩ (fun u hu n1 n0 => ⟨Or.inl hu, ?_⟩)
                        · rw [uE_n (by simp), uE_s]
                        · rw [uE_s]
                        · rw [uE_n n0, uE_n n1]
                      · skip
                        refine W.eq (g2 := F0 m 118 ls [.ref (ad (3, mI g a0 - 1, 0))]) (by simp [lsO, va_rf, c115]) ?_
                        refine lv_ifnull hx hb dX4_lease_118 ?_
                        have h9 : leaseC g a0 a1 a2 a3 a4 a5 a6 = 3 := by first | (simp [leaseC, c9, c16, c21, c28, c41, c48, c62, c79, c91, c102, c115]; done) | (subst c21; simp [leaseC, c9, c16, c28, c41, c62, c79, c91, c102, c115]; done) | exact absurd c21 c48 | exact absurd c48 c21 | (unfold leaseC; rw [if_neg (by simp [c9, c16, c21, c28, c48, c62, c79, c91, c102, c115]), if_pos (Or.inl c41)])
                        exact e_th (BX := fun H => ∃ ad : Tg → Nat, Ex g ad0 ad ∧ Wo D k b ad g M o H) (PE := xN [nIO, nIA, nIS] (leaseC g a0 a1 a2 a3 a4 a5 a6)) hlf (E := nIS) (by decide +kernel) wc_X4_39 wi_java_lang_IllegalStateException ax_IS gd_IS hx hb hts hown hC hlocks ht (by rw [hml]; exact hl.1) hS dX4_lease_121 dX4_lease_124 dX4_lease_125 dX4_lease_128 (fun H1 z o => ⟨ad, hE, hH.grow z o⟩) (Nat.le_of_ble_eq_true rfl) (Nat.le_of_ble_eq_true rfl) (show 0 + 1 ≤ 1 by omega) (show 0 + 6 ≤ 6 by omega) (show 0 + 1 ≤ 1 by omega) (show 0 + 6 ≤ 6 by omega) (by rw [h9]; exact ⟨by decide, rfl⟩)
                    · skip
                      have c102 := b2_0.mp c102
                      have h9 : leaseC g a0 a1 a2 a3 a4 a5 a6 = 2 := by first | (simp [leaseC, c9, c16, c21, c28, c41, c48, c62, c79, c91, c102]; done) | (subst c21; simp [leaseC, c9, c16, c28, c41, c62, c79, c91, c102]; done) | exact absurd c21 c48 | exact absurd c48 c21 | (unfold leaseC; rw [if_neg (by simp [c9, c16, c21, c28, c48, c62, c79, c91, c102]), if_pos (Or.inl c41)])
                      exact e_th (BX := fun H => ∃ ad : Tg → Nat, Ex g ad0 ad ∧ Wo D k b ad g M o H) (PE := xN [nIO, nIA, nIS] (leaseC g a0 a1 a2 a3 a4 a5 a6)) hlf (E := nIA) (by decide +kernel) wc_X4_33 wi_java_lang_IllegalArgumentException ax_IA gd_IA hx hb hts hown hC hlocks ht (by rw [hml]; exact hl.1) hS dX4_lease_105 dX4_lease_108 dX4_lease_109 dX4_lease_112 (fun H1 z o => ⟨ad, hE, hH.grow z o⟩) (Nat.le_of_ble_eq_true rfl) (Nat.le_of_ble_eq_true rfl) (show 0 + 1 ≤ 1 by omega) (show 0 + 6 ≤ 6 by omega) (show 0 + 1 ≤ 1 by omega) (show 0 + 6 ≤ 6 by omega) (by rw [h9]; exact ⟨by decide, rfl⟩)
            · skip
              refine lv_bipush (v := 10) hx hb dX4_lease_51 (by decide) ?_
              refine lv_goto (tgt := 57) hx hb dX4_lease_53 (by decide) ?_
              refine lv_bipush (v := 10) hx hb dX4_lease_57 (by decide) ?_
              refine k_r (va_runS (As := [.int a3, .int 10, .int 10]) (rest := []) ⟨hx, hb, hml, hown, hts⟩ (mX4_isWithin l a3 10 10) ⟨cb_of hts wk_X4_isWithin wi_X4 wm_X4_29 sd_X4_isWithin rfl rfl ⟨Nat.le_of_ble_eq_true rfl, Nat.le_of_ble_eq_true rfl⟩, hts _ wz_X4_isWithin⟩ (P0.pre hC hS hH) rfl rfl hl.1 rfl (lv_room (Nat.le_of_ble_eq_true rfl)) dX4_lease_59 ⟨Nat.le_of_ble_eq_true rfl, Nat.le_of_ble_eq_true rfl⟩) ?_
              refine W.eq (g2 := F0 m 62 ls [.int (b2 (inB a3 10 10))]) rfl ?_
              refine lv_if_eq (tgt := 105) hx hb dX4_lease_62 (by decide) (fun c62 => ?_) (fun c62 => ?_)
              · skip
                have c62 := b2_0.mp c62
                have h9 : leaseC g a0 a1 a2 a3 a4 a5 a6 = 2 := by first | (simp [leaseC, c9, c16, c21, c28, c41, c48, c62]; done) | (subst c21; simp [leaseC, c9, c16, c28, c41, c62]; done) | exact absurd c21 c48 | exact absurd c48 c21 | (unfold leaseC; rw [if_neg (by simp [c9, c16, c21, c28, c48, c62]), if_pos (Or.inl c41)])
                exact e_th (BX := fun H => ∃ ad : Tg → Nat, Ex g ad0 ad ∧ Wo D k b ad g M o H) (PE := xN [nIO, nIA, nIS] (leaseC g a0 a1 a2 a3 a4 a5 a6)) hlf (E := nIA) (by decide +kernel) wc_X4_33 wi_java_lang_IllegalArgumentException ax_IA gd_IA hx hb hts hown hC hlocks ht (by rw [hml]; exact hl.1) hS dX4_lease_105 dX4_lease_108 dX4_lease_109 dX4_lease_112 (fun H1 z o => ⟨ad, hE, hH.grow z o⟩) (Nat.le_of_ble_eq_true rfl) (Nat.le_of_ble_eq_true rfl) (show 0 + 1 ≤ 1 by omega) (show 0 + 6 ≤ 6 by omega) (show 0 + 1 ≤ 1 by omega) (show 0 + 6 ≤ 6 by omega) (by rw [h9]; exact ⟨by decide, rfl⟩)
              · skip
                have c62 := b2_n0.mp c62
                refine lv_iload hx hb dX4_lease_65 (lv_at hl 6 rfl) ?_
                refine lv_aload_n hx hb dX4_lease_67 rfl (lv_at hl 1 rfl) ?_
                refine g4 hx hb hts hown hC hH 3 (by decide) wf_X4_52 (v := .int (g.1 40 0)) rfl dX4_lease_68 ?_
                refine lv_iconst (v := 1) hx hb dX4_lease_71 (by decide) ?_
                refine lv_iadd hx hb dX4_lease_72 ?_
                refine lv_sipush (v := 10000) hx hb dX4_lease_73 (by decide) ?_
                refine k_r (va_runS (As := [.int a4, .int ((g.1 40 0) + 1), .int 10000]) (rest := []) ⟨hx, hb, hml, hown, hts⟩ (mX4_isWithin l a4 ((g.1 40 0) + 1) 10000) ⟨cb_of hts wk_X4_isWithin wi_X4 wm_X4_29 sd_X4_isWithin rfl rfl ⟨Nat.le_of_ble_eq_true rfl, Nat.le_of_ble_eq_true rfl⟩, hts _ wz_X4_isWithin⟩ (P0.pre hC hS hH) rfl rfl hl.1 rfl (lv_room (Nat.le_of_ble_eq_true rfl)) dX4_lease_76 ⟨Nat.le_of_ble_eq_true rfl, Nat.le_of_ble_eq_true rfl⟩) ?_
                refine W.eq (g2 := F0 m 79 ls [.int (b2 (inB a4 ((g.1 40 0) + 1) 10000))]) rfl ?_
                refine lv_if_eq (tgt := 105) hx hb dX4_lease_79 (by decide) (fun c79 => ?_) (fun c79 => ?_)
                · skip
                  have c79 := b2_0.mp c79
                  have h9 : leaseC g a0 a1 a2 a3 a4 a5 a6 = 2 := by first | (simp [leaseC, c9, c16, c21, c28, c41, c48, c62, c79]; done) | (subst c21; simp [leaseC, c9, c16, c28, c41, c62, c79]; done) | exact absurd c21 c48 | exact absurd c48 c21 | (unfold leaseC; rw [if_neg (by simp [c9, c16, c21, c28, c48, c62, c79]), if_pos (Or.inl c41)])
                  exact e_th (BX := fun H => ∃ ad : Tg → Nat, Ex g ad0 ad ∧ Wo D k b ad g M o H) (PE := xN [nIO, nIA, nIS] (leaseC g a0 a1 a2 a3 a4 a5 a6)) hlf (E := nIA) (by decide +kernel) wc_X4_33 wi_java_lang_IllegalArgumentException ax_IA gd_IA hx hb hts hown hC hlocks ht (by rw [hml]; exact hl.1) hS dX4_lease_105 dX4_lease_108 dX4_lease_109 dX4_lease_112 (fun H1 z o => ⟨ad, hE, hH.grow z o⟩) (Nat.le_of_ble_eq_true rfl) (Nat.le_of_ble_eq_true rfl) (show 0 + 1 ≤ 1 by omega) (show 0 + 6 ≤ 6 by omega) (show 0 + 1 ≤ 1 by omega) (show 0 + 6 ≤ 6 by omega) (by rw [h9]; exact ⟨by decide, rfl⟩)
                · skip
                  have c79 := b2_n0.mp c79
                  refine lv_iload hx hb dX4_lease_82 (lv_at hl 7 rfl) ?_
                  refine lv_iconst (v := 0) hx hb dX4_lease_84 (by decide) ?_
                  refine lv_sipush (v := 1000) hx hb dX4_lease_85 (by decide) ?_
                  refine k_r (va_runS (As := [.int a5, .int 0, .int 1000]) (rest := []) ⟨hx, hb, hml, hown, hts⟩ (mX4_isWithin l a5 0 1000) ⟨cb_of hts wk_X4_isWithin wi_X4 wm_X4_29 sd_X4_isWithin rfl rfl ⟨Nat.le_of_ble_eq_true rfl, Nat.le_of_ble_eq_true rfl⟩, hts _ wz_X4_isWithin⟩ (P0.pre hC hS hH) rfl rfl hl.1 rfl (lv_room (Nat.le_of_ble_eq_true rfl)) dX4_lease_88 ⟨Nat.le_of_ble_eq_true rfl, Nat.le_of_ble_eq_true rfl⟩) ?_
                  refine W.eq (g2 := F0 m 91 ls [.int (b2 (inB a5 0 1000))]) rfl ?_
                  refine lv_if_eq (tgt := 105) hx hb dX4_lease_91 (by decide) (fun c91 => ?_) (fun c91 => ?_)
                  · skip
                    have c91 := b2_0.mp c91
                    have h9 : leaseC g a0 a1 a2 a3 a4 a5 a6 = 2 := by first | (simp [leaseC, c9, c16, c21, c28, c41, c48, c62, c79, c91]; done) | (subst c21; simp [leaseC, c9, c16, c28, c41, c62, c79, c91]; done) | exact absurd c21 c48 | exact absurd c48 c21 | (unfold leaseC; rw [if_neg (by simp [c9, c16, c21, c28, c48, c62, c79, c91]), if_pos (Or.inl c41)])
                    exact e_th (BX := fun H => ∃ ad : Tg → Nat, Ex g ad0 ad ∧ Wo D k b ad g M o H) (PE := xN [nIO, nIA, nIS] (leaseC g a0 a1 a2 a3 a4 a5 a6)) hlf (E := nIA) (by decide +kernel) wc_X4_33 wi_java_lang_IllegalArgumentException ax_IA gd_IA hx hb hts hown hC hlocks ht (by rw [hml]; exact hl.1) hS dX4_lease_105 dX4_lease_108 dX4_lease_109 dX4_lease_112 (fun H1 z o => ⟨ad, hE, hH.grow z o⟩) (Nat.le_of_ble_eq_true rfl) (Nat.le_of_ble_eq_true rfl) (show 0 + 1 ≤ 1 by omega) (show 0 + 6 ≤ 6 by omega) (show 0 + 1 ≤ 1 by omega) (show 0 + 6 ≤ 6 by omega) (by rw [h9]; exact ⟨by decide, rfl⟩)
                  · skip
                    have c91 := b2_n0.mp c91
                    refine lv_iload hx hb dX4_lease_94 (lv_at hl 8 rfl) ?_
                    refine lv_iconst (v := 0) hx hb dX4_lease_96 (by decide) ?_
                    refine lv_bipush (v := 100) hx hb dX4_lease_97 (by decide) ?_
                    refine k_r (va_runS (As := [.int a6, .int 0, .int 100]) (rest := []) ⟨hx, hb, hml, hown, hts⟩ (mX4_isWithin l a6 0 100) ⟨cb_of hts wk_X4_isWithin wi_X4 wm_X4_29 sd_X4_isWithin rfl rfl ⟨Nat.le_of_ble_eq_true rfl, Nat.le_of_ble_eq_true rfl⟩, hts _ wz_X4_isWithin⟩ (P0.pre hC hS hH) rfl rfl hl.1 rfl (lv_room (Nat.le_of_ble_eq_true rfl)) dX4_lease_99 ⟨Nat.le_of_ble_eq_true rfl, Nat.le_of_ble_eq_true rfl⟩) ?_
                    refine W.eq (g2 := F0 m 102 ls [.int (b2 (inB a6 0 100))]) rfl ?_
                    refine lv_if_ne (tgt := 113) hx hb dX4_lease_102 (by decide) (fun c102 => ?_) (fun c102 => ?_)
                    · skip
                      have c102 := b2_n0.mp c102
                      refine lv_aload hx hb dX4_lease_113 (lv_at hl 0 rfl) ?_
                      refine g2N hx hb hts hown hC hH (mI g a0 - 1) (mI_n c9).1 7 (by decide) wf_X4_56 (v := va_rf (lsO ad (mI g a0 - 1) (g.2.1 2 (mI g a0 - 1)))) rfl dX4_lease_115 ?_
                      by_cases c115 : g.2.1 2 (mI g a0 - 1) = 0
                      · skip
                        refine W.eq (g2 := F0 m 118 ls [.null]) (by simp [lsO, va_rf, c115]) ?_
                        refine lv_ifnullN (tgt := 129) hx hb dX4_lease_118 (by decide) ?_
                        refine lv_aload hx hb dX4_lease_129 (lv_at hl 0 rfl) ?_
                        have hb0 : b ≤ s.heap.size := (show Hp D b (LW g.2.1) ad (eW k ad g M o) s.heap from hH).2.2.2
                        refine r_new hx hb hts hown hC hH hS hb0 (3, mI g a0 - 1, 0) (ci := 0) rfl inX0 tyX0 tyX0_ok wc_X4_60 wn_X0 wi_X0 [.int 0, .int 0, .int 0, .int 0, .int 0, .int 0] (fun j hj => by rcases (show j = 0 ∨ j = 1 ∨ j = 2 ∨ j = 3 ∨ j = 4 ∨ j = 5 by omega) with rfl | rfl | rfl | rfl | rfl | rfl <;> rfl) (show 0 + 1 ≤ 1 by omega) (show 0 + 6 ≤ 6 by omega) dX4_lease_131 (fun H hH hS => ?_)
                        obtain ⟨ad1, had⟩ : ∃ z, z = uA ad (3, mI g a0 - 1, 0) s.heap.size := ⟨_, rfl⟩
                        have ea : ∀ u : Tg, u ≠ (3, mI g a0 - 1, 0) → ad1 u = ad u := fun u h => by rw [had]; exact uA_n h
                        have ea1 : ad1 (3, mI g a0 - 1, 0) = s.heap.size := by rw [had]; exact uA_s
                        rw [← had] at hH
                        refine W.eq (g2 := F0 m 134 ls [.ref (ad1 (3, mI g a0 - 1, 0)), .ref (ad1 (1, mI g a0 - 1, 0))]) (by rw [ea1, ea (1, mI g a0 - 1, 0) (by simp)]) ?_
                        refine lv_dup hx hb dX4_lease_134 rfl ?_
                        refine lv_iload_n hx hb dX4_lease_135 rfl (lv_at hl 3 rfl) ?_
                        refine lv_iload_n hx hb dX4_lease_136 rfl (lv_at hl 4 rfl) ?_
                        refine lv_iload hx hb dX4_lease_137 (lv_at hl 5 rfl) ?_
                        refine lv_iload hx hb dX4_lease_139 (lv_at hl 6 rfl) ?_
                        refine lv_iload hx hb dX4_lease_141 (lv_at hl 7 rfl) ?_
                        refine lv_iload hx hb dX4_lease_143 (lv_at hl 8 rfl) ?_
                        refine k_w (va_runIN (As := [.int a1, .int a2, .int a3, .int a4, .int a5, .int a6]) (rest := [.ref (ad1 (3, mI g a0 - 1, 0)), .ref (ad1 (1, mI g a0 - 1, 0))]) ⟨hx, hb, hml, hown, hts⟩ (mX0_init l (3, mI g a0 - 1, 0) (Or.inr rfl) uE_s a1 a2 a3 a4 a5 a6) ⟨cn_of hts wk_X0_init wi_X0 wm_X4_62 sd_X0_init rfl rfl ⟨Nat.le_of_ble_eq_true rfl, Nat.le_of_ble_eq_true rfl⟩, rfl, hts _ wv_X0_init⟩ (P0.pre hC hS hH) rfl rfl hl.1 rfl (lv_room (Nat.le_of_ble_eq_true rfl)) dX4_lease_145 ⟨show 0 + 1 + 0 ≤ 1 by omega, show 0 + 6 + 0 ≤ 6 by omega⟩) hS (fun H locs hH hS => ?_)
                        rw [uE_uE] at hH
                        refine W.eq (g2 := F0 m 148 ls [.ref (ad1 (3, mI g a0 - 1, 0)), .ref (ad1 (1, mI g a0 - 1, 0))]) rfl ?_
                        refine r_putN hx hb hts hown hC hH hS (1, mI g a0 - 1, 0) (Or.inl ⟨(mI_n c9).1, rfl⟩) (fs := fM g ad (mI g a0 - 1)) (by rw [uE_n (by simp)]; rfl) rfl inX2 tyX2 tyX2_ok nmX2 7 (by decide) rfl wf_X4_56 rfl rfl (by simp [fM]) dX4_lease_148 (fun H locs hH hS => ?_)
                        have h8 : leaseC g a0 a1 a2 a3 a4 a5 a6 = 0 := by first | (simp [leaseC, c9, c16, c21, c28, c41, c48, c62, c79, c91, c102, c115]; done) | (subst c21; simp [leaseC, c9, c16, c28, c41, c62, c79, c91, c102, c115]; done) | exact absurd c21 c48 | exact absurd c48 c21 | (unfold leaseC; rw [if_neg (by simp [c9, c16, c21, c28, c48, c62, c79, c91, c102, c115]), if_pos (Or.inl c41)])
                        refine e_xv hx hb hr hlocks h8 hS ⟨ad1, hE.tr Gr.rf (fun u h3 hu => ea u (fun q => h3 (by rw [q]))), ?_⟩ (show 0 + 1 + 0 ≤ 1 by omega) (show 0 + 6 + 0 ≤ 6 by omega) dX4_lease_151
                        refine Wo_nL ea hH ⟨Or.inr rfl, ?_⟩ ⟨Or.inl ⟨(mI_n c9).1, rfl⟩, ?_⟩ (fun u hu n1 n0 => ⟨Or.inl hu, ?_⟩)
                        · rw [uE_n (by simp), uE_s]
                        · rw [uE_s]
                        · rw [uE_n n0, uE_n n1]
                      · skip
                        refine W.eq (g2 := F0 m 118 ls [.ref (ad (3, mI g a0 - 1, 0))]) (by simp [lsO, va_rf, c115]) ?_
                        refine lv_ifnull hx hb dX4_lease_118 ?_
                        have h9 : leaseC g a0 a1 a2 a3 a4 a5 a6 = 3 := by first | (simp [leaseC, c9, c16, c21, c28, c41, c48, c62, c79, c91, c102, c115]; done) | (subst c21; simp [leaseC, c9, c16, c28, c41, c62, c79, c91, c102, c115]; done) | exact absurd c21 c48 | exact absurd c48 c21 | (unfold leaseC; rw [if_neg (by simp [c9, c16, c21, c28, c48, c62, c79, c91, c102, c115]), if_pos (Or.inl c41)])
                        exact e_th (BX := fun H => ∃ ad : Tg → Nat, Ex g ad0 ad ∧ Wo D k b ad g M o H) (PE := xN [nIO, nIA, nIS] (leaseC g a0 a1 a2 a3 a4 a5 a6)) hlf (E := nIS) (by decide +kernel) wc_X4_39 wi_java_lang_IllegalStateException ax_IS gd_IS hx hb hts hown hC hlocks ht (by rw [hml]; exact hl.1) hS dX4_lease_121 dX4_lease_124 dX4_lease_125 dX4_lease_128 (fun H1 z o => ⟨ad, hE, hH.grow z o⟩) (Nat.le_of_ble_eq_true rfl) (Nat.le_of_ble_eq_true rfl) (show 0 + 1 ≤ 1 by omega) (show 0 + 6 ≤ 6 by omega) (show 0 + 1 ≤ 1 by omega) (show 0 + 6 ≤ 6 by omega) (by rw [h9]; exact ⟨by decide, rfl⟩)
                    · skip
                      have c102 := b2_0.mp c102
                      have h9 : leaseC g a0 a1 a2 a3 a4 a5 a6 = 2 := by first | (simp [leaseC, c9, c16, c21, c28, c41, c48, c62, c79, c91, c102]; done) | (subst c21; simp [leaseC, c9, c16, c28, c41, c62, c79, c91, c102]; done) | exact absurd c21 c48 | exact absurd c48 c21 | (unfold leaseC; rw [if_neg (by simp [c9, c16, c21, c28, c48, c62, c79, c91, c102]), if_pos (Or.inl c41)])
                      exact e_th (BX := fun H => ∃ ad : Tg → Nat, Ex g ad0 ad ∧ Wo D k b ad g M o H) (PE := xN [nIO, nIA, nIS] (leaseC g a0 a1 a2 a3 a4 a5 a6)) hlf (E := nIA) (by decide +kernel) wc_X4_33 wi_java_lang_IllegalArgumentException ax_IA gd_IA hx hb hts hown hC hlocks ht (by rw [hml]; exact hl.1) hS dX4_lease_105 dX4_lease_108 dX4_lease_109 dX4_lease_112 (fun H1 z o => ⟨ad, hE, hH.grow z o⟩) (Nat.le_of_ble_eq_true rfl) (Nat.le_of_ble_eq_true rfl) (show 0 + 1 ≤ 1 by omega) (show 0 + 6 ≤ 6 by omega) (show 0 + 1 ≤ 1 by omega) (show 0 + 6 ≤ 6 by omega) (by rw [h9]; exact ⟨by decide, rfl⟩)
        · skip
          have c28 := b2_0.mp c28
          have h9 : leaseC g a0 a1 a2 a3 a4 a5 a6 = 1 := by first | (simp [leaseC, c9, c16, c21, c28]; done) | (subst c21; simp [leaseC, c9, c16, c28]; done)
          exact e_th (BX := fun H => ∃ ad : Tg → Nat, Ex g ad0 ad ∧ Wo D k b ad g M o H) (PE := xN [nIO, nIA, nIS] (leaseC g a0 a1 a2 a3 a4 a5 a6)) hlf (E := nIO) (by decide +kernel) wc_X4_49 wi_java_lang_IndexOutOfBoundsException ax_IO gd_IO hx hb hts hown hC hlocks ht (by rw [hml]; exact hl.1) hS dX4_lease_31 dX4_lease_34 dX4_lease_35 dX4_lease_38 (fun H1 z o => ⟨ad, hE, hH.grow z o⟩) (Nat.le_of_ble_eq_true rfl) (Nat.le_of_ble_eq_true rfl) (show 0 + 1 ≤ 1 by omega) (show 0 + 6 ≤ 6 by omega) (show 0 + 1 ≤ 1 by omega) (show 0 + 6 ≤ 6 by omega) (by rw [h9]; exact ⟨by decide, rfl⟩)
end
