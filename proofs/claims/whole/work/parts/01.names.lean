-- ===== PART A: goes FIRST, ahead of the names: the tables' words, and 'selects' of the private methods out of them =====
/-- a private method of a class that the tables say can be made, by its rows of tables_1 -/
def lw_okq (q : MethodName × Nat) : Prop := (q.1.cls ≠ "java/lang/invoke/MethodHandle" ∧ q.1.cls ≠ "java/lang/invoke/VarHandle") ∧ Cond.instantiable q.1.cls q.2 ∈ tables_1 ∧ Cond.privateMethod q.1 ∈ tables_1 ∧ Cond.instanceMethod q.1 ∈ tables_1
theorem lw_p0 : lw_okq (⟨"FlapDamper$Text", "tells", "(Ljava/lang/String;)Z"⟩, 2) := ⟨⟨by decide +kernel, by decide +kernel⟩, List.mem_of_getElem? (i := 25) (by decide +kernel), List.mem_of_getElem? (i := 246) (by decide +kernel), List.mem_of_getElem? (i := 247) (by decide +kernel)⟩
theorem lw_p1 : lw_okq (⟨"FlapDamper$Text", "fittingSigns", "(Ljava/lang/String;)I"⟩, 2) := ⟨⟨by decide +kernel, by decide +kernel⟩, List.mem_of_getElem? (i := 25) (by decide +kernel), List.mem_of_getElem? (i := 260) (by decide +kernel), List.mem_of_getElem? (i := 261) (by decide +kernel)⟩
theorem lw_p2 : lw_okq (⟨"FlapDamper$Text", "fits", "(Ljava/lang/String;I)Z"⟩, 2) := ⟨⟨by decide +kernel, by decide +kernel⟩, List.mem_of_getElem? (i := 25) (by decide +kernel), List.mem_of_getElem? (i := 264) (by decide +kernel), List.mem_of_getElem? (i := 265) (by decide +kernel)⟩
theorem lw_p3 : lw_okq (⟨"FlapDamper$State", "weigh", "(II)I"⟩, 11) := ⟨⟨by decide +kernel, by decide +kernel⟩, List.mem_of_getElem? (i := 40) (by decide +kernel), List.mem_of_getElem? (i := 348) (by decide +kernel), List.mem_of_getElem? (i := 349) (by decide +kernel)⟩
theorem lw_p4 : lw_okq (⟨"FlapDamper$State", "judge", "(III)I"⟩, 11) := ⟨⟨by decide +kernel, by decide +kernel⟩, List.mem_of_getElem? (i := 40) (by decide +kernel), List.mem_of_getElem? (i := 352) (by decide +kernel), List.mem_of_getElem? (i := 353) (by decide +kernel)⟩
theorem lw_p5 : lw_okq (⟨"FlapDamper$RecordList", "dropFirstFree", "()Z"⟩, 3) := ⟨⟨by decide +kernel, by decide +kernel⟩, List.mem_of_getElem? (i := 67) (by decide +kernel), List.mem_of_getElem? (i := 368) (by decide +kernel), List.mem_of_getElem? (i := 369) (by decide +kernel)⟩
theorem lw_p6 : lw_okq (⟨"FlapDamper$State", "addTo", "(LFlapDamper$RouteRecord;II)I"⟩, 11) := ⟨⟨by decide +kernel, by decide +kernel⟩, List.mem_of_getElem? (i := 40) (by decide +kernel), List.mem_of_getElem? (i := 381) (by decide +kernel), List.mem_of_getElem? (i := 382) (by decide +kernel)⟩
theorem lw_p7 : lw_okq (⟨"FlapDamper$State", "dueAfter", "(LFlapDamper$RouteRecord;I)I"⟩, 11) := ⟨⟨by decide +kernel, by decide +kernel⟩, List.mem_of_getElem? (i := 40) (by decide +kernel), List.mem_of_getElem? (i := 406) (by decide +kernel), List.mem_of_getElem? (i := 407) (by decide +kernel)⟩
theorem lw_p8 : lw_okq (⟨"FlapDamper$State", "isBelowBack", "(LFlapDamper$RouteRecord;I)Z"⟩, 11) := ⟨⟨by decide +kernel, by decide +kernel⟩, List.mem_of_getElem? (i := 40) (by decide +kernel), List.mem_of_getElem? (i := 411) (by decide +kernel), List.mem_of_getElem? (i := 412) (by decide +kernel)⟩
theorem lw_p9 : lw_okq (⟨"FlapDamper$State", "writeEvent", "(III)V"⟩, 11) := ⟨⟨by decide +kernel, by decide +kernel⟩, List.mem_of_getElem? (i := 40) (by decide +kernel), List.mem_of_getElem? (i := 415) (by decide +kernel), List.mem_of_getElem? (i := 416) (by decide +kernel)⟩
theorem lw_p10 : lw_okq (⟨"FlapDamper$State", "refreshBest", "(I)V"⟩, 11) := ⟨⟨by decide +kernel, by decide +kernel⟩, List.mem_of_getElem? (i := 40) (by decide +kernel), List.mem_of_getElem? (i := 433) (by decide +kernel), List.mem_of_getElem? (i := 434) (by decide +kernel)⟩
theorem lw_p11 : lw_okq (⟨"FlapDamper$State", "findBest", "(I)I"⟩, 11) := ⟨⟨by decide +kernel, by decide +kernel⟩, List.mem_of_getElem? (i := 40) (by decide +kernel), List.mem_of_getElem? (i := 437) (by decide +kernel), List.mem_of_getElem? (i := 438) (by decide +kernel)⟩
theorem lw_p12 : lw_okq (⟨"FlapDamper$State", "isLookedAt", "(I)Z"⟩, 11) := ⟨⟨by decide +kernel, by decide +kernel⟩, List.mem_of_getElem? (i := 40) (by decide +kernel), List.mem_of_getElem? (i := 457) (by decide +kernel), List.mem_of_getElem? (i := 458) (by decide +kernel)⟩
theorem lw_p13 : lw_okq (⟨"FlapDamper$State", "lookAt", "(LFlapDamper$RouteRecord;)V"⟩, 11) := ⟨⟨by decide +kernel, by decide +kernel⟩, List.mem_of_getElem? (i := 40) (by decide +kernel), List.mem_of_getElem? (i := 461) (by decide +kernel), List.mem_of_getElem? (i := 462) (by decide +kernel)⟩
theorem lw_p14 : lw_okq (⟨"FlapDamper$State", "dropSmallOnes", "()V"⟩, 11) := ⟨⟨by decide +kernel, by decide +kernel⟩, List.mem_of_getElem? (i := 40) (by decide +kernel), List.mem_of_getElem? (i := 465) (by decide +kernel), List.mem_of_getElem? (i := 466) (by decide +kernel)⟩
theorem lw_p15 : lw_okq (⟨"FlapDamper", "keptImages", "()I"⟩, 5) := ⟨⟨by decide +kernel, by decide +kernel⟩, List.mem_of_getElem? (i := 17) (by decide +kernel), List.mem_of_getElem? (i := 527) (by decide +kernel), List.mem_of_getElem? (i := 528) (by decide +kernel)⟩
def lw_privs_1 : List (MethodName × Nat) := [(⟨"FlapDamper$Text", "tells", "(Ljava/lang/String;)Z"⟩, 2), (⟨"FlapDamper$Text", "fittingSigns", "(Ljava/lang/String;)I"⟩, 2), (⟨"FlapDamper$Text", "fits", "(Ljava/lang/String;I)Z"⟩, 2), (⟨"FlapDamper$State", "weigh", "(II)I"⟩, 11), (⟨"FlapDamper$State", "judge", "(III)I"⟩, 11), (⟨"FlapDamper$RecordList", "dropFirstFree", "()Z"⟩, 3), (⟨"FlapDamper$State", "addTo", "(LFlapDamper$RouteRecord;II)I"⟩, 11), (⟨"FlapDamper$State", "dueAfter", "(LFlapDamper$RouteRecord;I)I"⟩, 11), (⟨"FlapDamper$State", "isBelowBack", "(LFlapDamper$RouteRecord;I)Z"⟩, 11), (⟨"FlapDamper$State", "writeEvent", "(III)V"⟩, 11), (⟨"FlapDamper$State", "refreshBest", "(I)V"⟩, 11), (⟨"FlapDamper$State", "findBest", "(I)I"⟩, 11), (⟨"FlapDamper$State", "isLookedAt", "(I)Z"⟩, 11), (⟨"FlapDamper$State", "lookAt", "(LFlapDamper$RouteRecord;)V"⟩, 11), (⟨"FlapDamper$State", "dropSmallOnes", "()V"⟩, 11), (⟨"FlapDamper", "keptImages", "()I"⟩, 5)]
theorem lw_r1 : ∀ q ∈ lw_privs_1, lw_okq q := List.forall_mem_cons.mpr ⟨lw_p0, List.forall_mem_cons.mpr ⟨lw_p1, List.forall_mem_cons.mpr ⟨lw_p2, List.forall_mem_cons.mpr ⟨lw_p3, List.forall_mem_cons.mpr ⟨lw_p4, List.forall_mem_cons.mpr ⟨lw_p5, List.forall_mem_cons.mpr ⟨lw_p6, List.forall_mem_cons.mpr ⟨lw_p7, List.forall_mem_cons.mpr ⟨lw_p8, List.forall_mem_cons.mpr ⟨lw_p9, List.forall_mem_cons.mpr ⟨lw_p10, List.forall_mem_cons.mpr ⟨lw_p11, List.forall_mem_cons.mpr ⟨lw_p12, List.forall_mem_cons.mpr ⟨lw_p13, List.forall_mem_cons.mpr ⟨lw_p14, List.forall_mem_cons.mpr ⟨lw_p15, fun _ h => absurd h List.not_mem_nil⟩⟩⟩⟩⟩⟩⟩⟩⟩⟩⟩⟩⟩⟩⟩⟩
theorem lw_p16 : lw_okq (⟨"FlapDamper", "imageOf", "(I)LFlapDamper$State;"⟩, 5) := ⟨⟨by decide +kernel, by decide +kernel⟩, List.mem_of_getElem? (i := 17) (by decide +kernel), List.mem_of_getElem? (i := 540) (by decide +kernel), List.mem_of_getElem? (i := 541) (by decide +kernel)⟩
theorem lw_p17 : lw_okq (⟨"FlapDamperModel", "faultNow", "()I"⟩, 9) := ⟨⟨by decide +kernel, by decide +kernel⟩, List.mem_of_getElem? (i := 571) (by decide +kernel), List.mem_of_getElem? (i := 628) (by decide +kernel), List.mem_of_getElem? (i := 629) (by decide +kernel)⟩
theorem lw_p18 : lw_okq (⟨"FlapDamperModel", "fitting", "(I)I"⟩, 9) := ⟨⟨by decide +kernel, by decide +kernel⟩, List.mem_of_getElem? (i := 571) (by decide +kernel), List.mem_of_getElem? (i := 632) (by decide +kernel), List.mem_of_getElem? (i := 633) (by decide +kernel)⟩
theorem lw_p19 : lw_okq (⟨"FlapDamperModel", "told", "()I"⟩, 9) := ⟨⟨by decide +kernel, by decide +kernel⟩, List.mem_of_getElem? (i := 571) (by decide +kernel), List.mem_of_getElem? (i := 642) (by decide +kernel), List.mem_of_getElem? (i := 643) (by decide +kernel)⟩
theorem lw_p20 : lw_okq (⟨"FlapDamperModel", "bounded", "(I)I"⟩, 9) := ⟨⟨by decide +kernel, by decide +kernel⟩, List.mem_of_getElem? (i := 571) (by decide +kernel), List.mem_of_getElem? (i := 650) (by decide +kernel), List.mem_of_getElem? (i := 651) (by decide +kernel)⟩
theorem lw_p21 : lw_okq (⟨"FlapDamperModel", "beginLine", "(II)V"⟩, 9) := ⟨⟨by decide +kernel, by decide +kernel⟩, List.mem_of_getElem? (i := 571) (by decide +kernel), List.mem_of_getElem? (i := 665) (by decide +kernel), List.mem_of_getElem? (i := 666) (by decide +kernel)⟩
theorem lw_p22 : lw_okq (⟨"FlapDamperModel", "write", "(I)V"⟩, 9) := ⟨⟨by decide +kernel, by decide +kernel⟩, List.mem_of_getElem? (i := 571) (by decide +kernel), List.mem_of_getElem? (i := 669) (by decide +kernel), List.mem_of_getElem? (i := 670) (by decide +kernel)⟩
theorem lw_p23 : lw_okq (⟨"FlapDamperModel", "lineAt", "(II)I"⟩, 9) := ⟨⟨by decide +kernel, by decide +kernel⟩, List.mem_of_getElem? (i := 571) (by decide +kernel), List.mem_of_getElem? (i := 673) (by decide +kernel), List.mem_of_getElem? (i := 674) (by decide +kernel)⟩
theorem lw_p24 : lw_okq (⟨"FlapDamperModel", "meet", "(III)I"⟩, 9) := ⟨⟨by decide +kernel, by decide +kernel⟩, List.mem_of_getElem? (i := 571) (by decide +kernel), List.mem_of_getElem? (i := 677) (by decide +kernel), List.mem_of_getElem? (i := 678) (by decide +kernel)⟩
theorem lw_p25 : lw_okq (⟨"FlapDamperModel", "recordOf", "(I)I"⟩, 9) := ⟨⟨by decide +kernel, by decide +kernel⟩, List.mem_of_getElem? (i := 571) (by decide +kernel), List.mem_of_getElem? (i := 681) (by decide +kernel), List.mem_of_getElem? (i := 682) (by decide +kernel)⟩
theorem lw_p26 : lw_okq (⟨"FlapDamperModel", "isCounted", "(II)Z"⟩, 9) := ⟨⟨by decide +kernel, by decide +kernel⟩, List.mem_of_getElem? (i := 571) (by decide +kernel), List.mem_of_getElem? (i := 688) (by decide +kernel), List.mem_of_getElem? (i := 689) (by decide +kernel)⟩
theorem lw_p27 : lw_okq (⟨"FlapDamperModel", "makeRecord", "(I)I"⟩, 9) := ⟨⟨by decide +kernel, by decide +kernel⟩, List.mem_of_getElem? (i := 571) (by decide +kernel), List.mem_of_getElem? (i := 692) (by decide +kernel), List.mem_of_getElem? (i := 693) (by decide +kernel)⟩
theorem lw_p28 : lw_okq (⟨"FlapDamperModel", "isHeld", "(I)Z"⟩, 9) := ⟨⟨by decide +kernel, by decide +kernel⟩, List.mem_of_getElem? (i := 571) (by decide +kernel), List.mem_of_getElem? (i := 696) (by decide +kernel), List.mem_of_getElem? (i := 697) (by decide +kernel)⟩
theorem lw_p29 : lw_okq (⟨"FlapDamperModel", "remove", "(I)V"⟩, 9) := ⟨⟨by decide +kernel, by decide +kernel⟩, List.mem_of_getElem? (i := 571) (by decide +kernel), List.mem_of_getElem? (i := 700) (by decide +kernel), List.mem_of_getElem? (i := 701) (by decide +kernel)⟩
theorem lw_p30 : lw_okq (⟨"FlapDamperModel", "penaltyAt", "(II)I"⟩, 9) := ⟨⟨by decide +kernel, by decide +kernel⟩, List.mem_of_getElem? (i := 571) (by decide +kernel), List.mem_of_getElem? (i := 704) (by decide +kernel), List.mem_of_getElem? (i := 705) (by decide +kernel)⟩
theorem lw_p31 : lw_okq (⟨"FlapDamperModel", "lessened", "(II)I"⟩, 9) := ⟨⟨by decide +kernel, by decide +kernel⟩, List.mem_of_getElem? (i := 571) (by decide +kernel), List.mem_of_getElem? (i := 708) (by decide +kernel), List.mem_of_getElem? (i := 709) (by decide +kernel)⟩
def lw_privs_2 : List (MethodName × Nat) := [(⟨"FlapDamper", "imageOf", "(I)LFlapDamper$State;"⟩, 5), (⟨"FlapDamperModel", "faultNow", "()I"⟩, 9), (⟨"FlapDamperModel", "fitting", "(I)I"⟩, 9), (⟨"FlapDamperModel", "told", "()I"⟩, 9), (⟨"FlapDamperModel", "bounded", "(I)I"⟩, 9), (⟨"FlapDamperModel", "beginLine", "(II)V"⟩, 9), (⟨"FlapDamperModel", "write", "(I)V"⟩, 9), (⟨"FlapDamperModel", "lineAt", "(II)I"⟩, 9), (⟨"FlapDamperModel", "meet", "(III)I"⟩, 9), (⟨"FlapDamperModel", "recordOf", "(I)I"⟩, 9), (⟨"FlapDamperModel", "isCounted", "(II)Z"⟩, 9), (⟨"FlapDamperModel", "makeRecord", "(I)I"⟩, 9), (⟨"FlapDamperModel", "isHeld", "(I)Z"⟩, 9), (⟨"FlapDamperModel", "remove", "(I)V"⟩, 9), (⟨"FlapDamperModel", "penaltyAt", "(II)I"⟩, 9), (⟨"FlapDamperModel", "lessened", "(II)I"⟩, 9)]
theorem lw_r2 : ∀ q ∈ lw_privs_2, lw_okq q := List.forall_mem_cons.mpr ⟨lw_p16, List.forall_mem_cons.mpr ⟨lw_p17, List.forall_mem_cons.mpr ⟨lw_p18, List.forall_mem_cons.mpr ⟨lw_p19, List.forall_mem_cons.mpr ⟨lw_p20, List.forall_mem_cons.mpr ⟨lw_p21, List.forall_mem_cons.mpr ⟨lw_p22, List.forall_mem_cons.mpr ⟨lw_p23, List.forall_mem_cons.mpr ⟨lw_p24, List.forall_mem_cons.mpr ⟨lw_p25, List.forall_mem_cons.mpr ⟨lw_p26, List.forall_mem_cons.mpr ⟨lw_p27, List.forall_mem_cons.mpr ⟨lw_p28, List.forall_mem_cons.mpr ⟨lw_p29, List.forall_mem_cons.mpr ⟨lw_p30, List.forall_mem_cons.mpr ⟨lw_p31, fun _ h => absurd h List.not_mem_nil⟩⟩⟩⟩⟩⟩⟩⟩⟩⟩⟩⟩⟩⟩⟩⟩
theorem lw_p32 : lw_okq (⟨"FlapDamperModel", "addCause", "(II)V"⟩, 9) := ⟨⟨by decide +kernel, by decide +kernel⟩, List.mem_of_getElem? (i := 571) (by decide +kernel), List.mem_of_getElem? (i := 712) (by decide +kernel), List.mem_of_getElem? (i := 713) (by decide +kernel)⟩
theorem lw_p33 : lw_okq (⟨"FlapDamperModel", "writeNumber", "(I)V"⟩, 9) := ⟨⟨by decide +kernel, by decide +kernel⟩, List.mem_of_getElem? (i := 571) (by decide +kernel), List.mem_of_getElem? (i := 716) (by decide +kernel), List.mem_of_getElem? (i := 717) (by decide +kernel)⟩
theorem lw_p34 : lw_okq (⟨"FlapDamperModel", "dueAfter", "(II)I"⟩, 9) := ⟨⟨by decide +kernel, by decide +kernel⟩, List.mem_of_getElem? (i := 571) (by decide +kernel), List.mem_of_getElem? (i := 720) (by decide +kernel), List.mem_of_getElem? (i := 721) (by decide +kernel)⟩
theorem lw_p35 : lw_okq (⟨"FlapDamperModel", "lookAtBest", "()V"⟩, 9) := ⟨⟨by decide +kernel, by decide +kernel⟩, List.mem_of_getElem? (i := 571) (by decide +kernel), List.mem_of_getElem? (i := 724) (by decide +kernel), List.mem_of_getElem? (i := 725) (by decide +kernel)⟩
theorem lw_p36 : lw_okq (⟨"FlapDamperModel", "lookAtRecords", "()V"⟩, 9) := ⟨⟨by decide +kernel, by decide +kernel⟩, List.mem_of_getElem? (i := 571) (by decide +kernel), List.mem_of_getElem? (i := 736) (by decide +kernel), List.mem_of_getElem? (i := 737) (by decide +kernel)⟩
theorem lw_p37 : lw_okq (⟨"FlapDamperModel", "heldOnes", "()I"⟩, 9) := ⟨⟨by decide +kernel, by decide +kernel⟩, List.mem_of_getElem? (i := 571) (by decide +kernel), List.mem_of_getElem? (i := 740) (by decide +kernel), List.mem_of_getElem? (i := 741) (by decide +kernel)⟩
def lw_privs_3 : List (MethodName × Nat) := [(⟨"FlapDamperModel", "addCause", "(II)V"⟩, 9), (⟨"FlapDamperModel", "writeNumber", "(I)V"⟩, 9), (⟨"FlapDamperModel", "dueAfter", "(II)I"⟩, 9), (⟨"FlapDamperModel", "lookAtBest", "()V"⟩, 9), (⟨"FlapDamperModel", "lookAtRecords", "()V"⟩, 9), (⟨"FlapDamperModel", "heldOnes", "()I"⟩, 9)]
theorem lw_r3 : ∀ q ∈ lw_privs_3, lw_okq q := List.forall_mem_cons.mpr ⟨lw_p32, List.forall_mem_cons.mpr ⟨lw_p33, List.forall_mem_cons.mpr ⟨lw_p34, List.forall_mem_cons.mpr ⟨lw_p35, List.forall_mem_cons.mpr ⟨lw_p36, List.forall_mem_cons.mpr ⟨lw_p37, fun _ h => absurd h List.not_mem_nil⟩⟩⟩⟩⟩⟩
def lw_privs : List (MethodName × Nat) := lw_privs_1 ++ (lw_privs_2 ++ (lw_privs_3))
def lw_tbl : List Cond := k2_sels lw_privs ++ tables_1
theorem lw_privs_ok : ∀ q ∈ lw_privs, lw_okq q := by
  show ∀ q ∈ lw_privs_1 ++ (lw_privs_2 ++ (lw_privs_3)), lw_okq q
  exact List.forall_mem_append.mpr ⟨lw_r1, List.forall_mem_append.mpr ⟨lw_r2, lw_r3⟩⟩

/-! ===== BEGIN words of one list among another's, by their places ===== -/
theorem goodIn_r {big : List Cond} (ws : List Cond) (ps : List Nat) (hp : ws = ps.filterMap (fun i => big[i]?)) (h : ws.all goodWord = true) : GoodIn big ws := by
  intro w hw
  have h1 := List.all_eq_true.mp h w hw
  rw [hp] at hw
  obtain ⟨i, -, hi⟩ := List.mem_filterMap.mp hw
  have hm : w ∈ big := by first | exact List.mem_of_getElem? hi | exact List.getElem?_mem hi
  exact ⟨hm, good_of_word h1⟩
theorem goodIn_app {big a b : List Cond} (ha : GoodIn big a) (hb : GoodIn big b) : GoodIn big (a ++ b) := fun w h => (List.mem_append.mp h).elim (ha w) (hb w)
theorem goodIn_ca {big a b : List Cond} {c : Cond} (ha : GoodIn big (c :: a)) (hb : GoodIn big b) : GoodIn big (c :: (a ++ b)) := fun w h => (List.mem_cons.mp h).elim (fun e => ha w (List.mem_cons.mpr (Or.inl e))) (fun h => (List.mem_append.mp h).elim (fun h => ha w (List.mem_cons.mpr (Or.inr h))) (hb w))
theorem goodIn_sub {big ws : List Cond} (hm : ∀ w ∈ ws, w ∈ big) (h : ws.all goodWord = true) : GoodIn big ws := fun w hw => ⟨hm w hw, good_of_word (List.all_eq_true.mp h w hw)⟩
/-! ===== END ===== -/

/-! ===== BEGIN printed: names, fields, word lists, decode rows ===== -/
def RX0 : String := "FlapDamper$Bounds"
def TX0 : u_T := fun k => match k with
  | _ => ("FlapDamper$Bounds", "values", "[I", true)
def tyX0 : Nat → FieldType := fun k => match k with
  | _ => .array .int
abbrev wsX00 : List Cond := u_ws RX0 TX0 1
theorem nmX0 : ∀ a, a < 1 → ∀ b, b < 1 → a ≠ b → (TX0 a).2.1 ≠ (TX0 b).2.1 := by decide +kernel
theorem tyX0_ok : ∀ k, k < 1 → parseFieldDescriptor (TX0 k).2.2.1 = some (tyX0 k) := by decide +kernel
abbrev cX0_init : ByteArray := prog_2_method_1_code
def yX0_init : MethodName := ⟨RX0, "<init>", "()V"⟩
abbrev cX0_replace : ByteArray := prog_2_method_2_code
def yX0_replace : MethodName := ⟨RX0, "replace", "(II)I"⟩
abbrev cX0_lessened : ByteArray := prog_2_method_3_code
def yX0_lessened : MethodName := ⟨RX0, "lessened", "(II)I"⟩
abbrev cX0_copyFrom : ByteArray := prog_2_method_4_code
def yX0_copyFrom : MethodName := ⟨RX0, "copyFrom", "(LFlapDamper$Bounds;)V"⟩
def RX1 : String := "FlapDamper$Lines"
def TX1 : u_T := fun k => match k with
  | 0 => ("FlapDamper$Lines", "signs", "[I", true)
  | 1 => ("FlapDamper$Lines", "lengths", "[I", true)
  | 2 => ("FlapDamper$Lines", "newest", "I", false)
  | _ => ("FlapDamper$Lines", "written", "I", false)
def tyX1 : Nat → FieldType := fun k => match k with
  | 0 => .array .int
  | 1 => .array .int
  | 2 => .int
  | _ => .int
abbrev wsX10 : List Cond := u_ws RX1 TX1 4
theorem nmX1 : ∀ a, a < 4 → ∀ b, b < 4 → a ≠ b → (TX1 a).2.1 ≠ (TX1 b).2.1 := by decide +kernel
theorem tyX1_ok : ∀ k, k < 4 → parseFieldDescriptor (TX1 k).2.2.1 = some (tyX1 k) := by decide +kernel
abbrev cX1_init : ByteArray := prog_3_method_1_code
def yX1_init : MethodName := ⟨RX1, "<init>", "()V"⟩
abbrev cX1_begin : ByteArray := prog_3_method_2_code
def yX1_begin : MethodName := ⟨RX1, "begin", "(II)V"⟩
abbrev cX1_put : ByteArray := prog_3_method_3_code
def yX1_put : MethodName := ⟨RX1, "put", "(I)V"⟩
abbrev cX1_putNumber : ByteArray := prog_3_method_4_code
def yX1_putNumber : MethodName := ⟨RX1, "putNumber", "(I)V"⟩
abbrev cX1_tell : ByteArray := prog_3_method_5_code
def yX1_tell : MethodName := ⟨RX1, "tell", "(II)I"⟩
abbrev cX1_copyFrom : ByteArray := prog_3_method_6_code
def yX1_copyFrom : MethodName := ⟨RX1, "copyFrom", "(LFlapDamper$Lines;)V"⟩
def RX2 : String := "FlapDamper$RecordList"
def TX2 : u_T := fun k => match k with
  | 0 => ("FlapDamper$RecordList", "rows", "[LFlapDamper$RouteRecord;", true)
  | 1 => ("FlapDamper$RecordList", "size", "I", false)
  | _ => ("FlapDamper$RecordList", "dropped", "I", false)
def tyX2 : Nat → FieldType := fun k => match k with
  | 0 => .array (.object "FlapDamper$RouteRecord")
  | 1 => .int
  | _ => .int
abbrev wsX20 : List Cond := u_ws RX2 TX2 3
theorem nmX2 : ∀ a, a < 3 → ∀ b, b < 3 → a ≠ b → (TX2 a).2.1 ≠ (TX2 b).2.1 := by decide +kernel
theorem tyX2_ok : ∀ k, k < 3 → parseFieldDescriptor (TX2 k).2.2.1 = some (tyX2 k) := by decide +kernel
abbrev cX2_init : ByteArray := prog_4_method_1_code
def yX2_init : MethodName := ⟨RX2, "<init>", "()V"⟩
abbrev cX2_find : ByteArray := prog_4_method_2_code
def yX2_find : MethodName := ⟨RX2, "find", "(I)LFlapDamper$RouteRecord;"⟩
abbrev cX2_make : ByteArray := prog_4_method_3_code
def yX2_make : MethodName := ⟨RX2, "make", "(II)LFlapDamper$RouteRecord;"⟩
abbrev cX2_dropFirstFree : ByteArray := prog_4_method_4_code
def yX2_dropFirstFree : MethodName := ⟨RX2, "dropFirstFree", "()Z"⟩
abbrev cX2_drop : ByteArray := prog_4_method_5_code
def yX2_drop : MethodName := ⟨RX2, "drop", "(I)V"⟩
abbrev cX2_heldOnes : ByteArray := prog_4_method_6_code
def yX2_heldOnes : MethodName := ⟨RX2, "heldOnes", "()I"⟩
abbrev cX2_copyFrom : ByteArray := prog_4_method_7_code
def yX2_copyFrom : MethodName := ⟨RX2, "copyFrom", "(LFlapDamper$RecordList;)V"⟩
def RX3 : String := "FlapDamper$RouteRecord"
def TX3 : u_T := fun k => match k with
  | 0 => ("FlapDamper$RouteRecord", "route", "I", false)
  | 1 => ("FlapDamper$RouteRecord", "figure", "I", false)
  | 2 => ("FlapDamper$RouteRecord", "told", "I", false)
  | 3 => ("FlapDamper$RouteRecord", "held", "Z", false)
  | 4 => ("FlapDamper$RouteRecord", "due", "I", false)
  | 5 => ("FlapDamper$RouteRecord", "causes", "[I", true)
  | _ => ("FlapDamper$RouteRecord", "causeCount", "I", false)
def tyX3 : Nat → FieldType := fun k => match k with
  | 0 => .int
  | 1 => .int
  | 2 => .int
  | 3 => .boolean
  | 4 => .int
  | 5 => .array .int
  | _ => .int
abbrev wsX30 : List Cond := u_ws RX3 TX3 7
theorem nmX3 : ∀ a, a < 7 → ∀ b, b < 7 → a ≠ b → (TX3 a).2.1 ≠ (TX3 b).2.1 := by decide +kernel
theorem tyX3_ok : ∀ k, k < 7 → parseFieldDescriptor (TX3 k).2.2.1 = some (tyX3 k) := by decide +kernel
abbrev cX3_init : ByteArray := prog_5_method_1_code
def yX3_init : MethodName := ⟨RX3, "<init>", "()V"⟩
abbrev cX3_begin : ByteArray := prog_5_method_2_code
def yX3_begin : MethodName := ⟨RX3, "begin", "(II)V"⟩
abbrev cX3_hasCause : ByteArray := prog_5_method_3_code
def yX3_hasCause : MethodName := ⟨RX3, "hasCause", "(I)Z"⟩
abbrev cX3_addCause : ByteArray := prog_5_method_4_code
def yX3_addCause : MethodName := ⟨RX3, "addCause", "(I)V"⟩
abbrev cX3_copyFrom : ByteArray := prog_5_method_5_code
def yX3_copyFrom : MethodName := ⟨RX3, "copyFrom", "(LFlapDamper$RouteRecord;)V"⟩
def RX4 : String := "FlapDamper$State"
def TX4 : u_T := fun k => match k with
  | 0 => ("FlapDamper$State", "bounds", "LFlapDamper$Bounds;", true)
  | 1 => ("FlapDamper$State", "records", "LFlapDamper$RecordList;", true)
  | 2 => ("FlapDamper$State", "lines", "LFlapDamper$Lines;", true)
  | 3 => ("FlapDamper$State", "paths", "[I", true)
  | 4 => ("FlapDamper$State", "bests", "[I", true)
  | 5 => ("FlapDamper$State", "changes", "[I", true)
  | 6 => ("FlapDamper$State", "tick", "I", false)
  | 7 => ("FlapDamper$State", "events", "I", false)
  | 8 => ("FlapDamper$State", "echoes", "I", false)
  | 9 => ("FlapDamper$State", "lost", "I", false)
  | _ => ("FlapDamper$State", "letGo", "I", false)
def tyX4 : Nat → FieldType := fun k => match k with
  | 0 => .object "FlapDamper$Bounds"
  | 1 => .object "FlapDamper$RecordList"
  | 2 => .object "FlapDamper$Lines"
  | 3 => .array .int
  | 4 => .array .int
  | 5 => .array .int
  | 6 => .int
  | 7 => .int
  | 8 => .int
  | 9 => .int
  | _ => .int
abbrev wsX40 : List Cond := u_ws RX4 TX4 11
theorem nmX4 : ∀ a, a < 11 → ∀ b, b < 11 → a ≠ b → (TX4 a).2.1 ≠ (TX4 b).2.1 := by decide +kernel
theorem tyX4_ok : ∀ k, k < 11 → parseFieldDescriptor (TX4 k).2.2.1 = some (tyX4 k) := by decide +kernel
abbrev cX4_init : ByteArray := prog_6_method_1_code
def yX4_init : MethodName := ⟨RX4, "<init>", "()V"⟩
abbrev cX4_happen : ByteArray := prog_6_method_2_code
def yX4_happen : MethodName := ⟨RX4, "happen", "(III)I"⟩
abbrev cX4_weigh : ByteArray := prog_6_method_3_code
def yX4_weigh : MethodName := ⟨RX4, "weigh", "(II)I"⟩
abbrev cX4_judge : ByteArray := prog_6_method_4_code
def yX4_judge : MethodName := ⟨RX4, "judge", "(III)I"⟩
abbrev cX4_addTo : ByteArray := prog_6_method_5_code
def yX4_addTo : MethodName := ⟨RX4, "addTo", "(LFlapDamper$RouteRecord;II)I"⟩
abbrev cX4_writeEvent : ByteArray := prog_6_method_6_code
def yX4_writeEvent : MethodName := ⟨RX4, "writeEvent", "(III)V"⟩
abbrev cX4_penaltyAt : ByteArray := prog_6_method_7_code
def yX4_penaltyAt : MethodName := ⟨RX4, "penaltyAt", "(LFlapDamper$RouteRecord;I)I"⟩
abbrev cX4_isBelowBack : ByteArray := prog_6_method_8_code
def yX4_isBelowBack : MethodName := ⟨RX4, "isBelowBack", "(LFlapDamper$RouteRecord;I)Z"⟩
abbrev cX4_dueAfter : ByteArray := prog_6_method_9_code
def yX4_dueAfter : MethodName := ⟨RX4, "dueAfter", "(LFlapDamper$RouteRecord;I)I"⟩
abbrev cX4_isLookedAt : ByteArray := prog_6_method_10_code
def yX4_isLookedAt : MethodName := ⟨RX4, "isLookedAt", "(I)Z"⟩
abbrev cX4_nextTick : ByteArray := prog_6_method_11_code
def yX4_nextTick : MethodName := ⟨RX4, "nextTick", "()V"⟩
abbrev cX4_lookAt : ByteArray := prog_6_method_12_code
def yX4_lookAt : MethodName := ⟨RX4, "lookAt", "(LFlapDamper$RouteRecord;)V"⟩
abbrev cX4_dropSmallOnes : ByteArray := prog_6_method_13_code
def yX4_dropSmallOnes : MethodName := ⟨RX4, "dropSmallOnes", "()V"⟩
abbrev cX4_letGoAt : ByteArray := prog_6_method_14_code
def yX4_letGoAt : MethodName := ⟨RX4, "letGoAt", "(LFlapDamper$RouteRecord;)I"⟩
abbrev cX4_refreshBest : ByteArray := prog_6_method_15_code
def yX4_refreshBest : MethodName := ⟨RX4, "refreshBest", "(I)V"⟩
abbrev cX4_findBest : ByteArray := prog_6_method_16_code
def yX4_findBest : MethodName := ⟨RX4, "findBest", "(I)I"⟩
abbrev cX4_isHeld : ByteArray := prog_6_method_17_code
def yX4_isHeld : MethodName := ⟨RX4, "isHeld", "(LFlapDamper$RouteRecord;)Z"⟩
abbrev cX4_tellRecord : ByteArray := prog_6_method_18_code
def yX4_tellRecord : MethodName := ⟨RX4, "tellRecord", "(LFlapDamper$RouteRecord;I)I"⟩
abbrev cX4_tellBest : ByteArray := prog_6_method_19_code
def yX4_tellBest : MethodName := ⟨RX4, "tellBest", "(II)I"⟩
abbrev cX4_tellCount : ByteArray := prog_6_method_20_code
def yX4_tellCount : MethodName := ⟨RX4, "tellCount", "(I)I"⟩
abbrev cX4_copyFrom : ByteArray := prog_6_method_21_code
def yX4_copyFrom : MethodName := ⟨RX4, "copyFrom", "(LFlapDamper$State;)V"⟩
def RX5 : String := "FlapDamper$Text"
def TX5 : u_T := fun k => match k with
  | 0 => ("FlapDamper$Text", "signs", "[I", true)
  | _ => ("FlapDamper$Text", "length", "I", false)
def tyX5 : Nat → FieldType := fun k => match k with
  | 0 => .array .int
  | _ => .int
abbrev wsX50 : List Cond := u_ws RX5 TX5 2
theorem nmX5 : ∀ a, a < 2 → ∀ b, b < 2 → a ≠ b → (TX5 a).2.1 ≠ (TX5 b).2.1 := by decide +kernel
theorem tyX5_ok : ∀ k, k < 2 → parseFieldDescriptor (TX5 k).2.2.1 = some (tyX5 k) := by decide +kernel
abbrev cX5_init : ByteArray := prog_7_method_1_code
def yX5_init : MethodName := ⟨RX5, "<init>", "()V"⟩
abbrev cX5_append : ByteArray := prog_7_method_2_code
def yX5_append : MethodName := ⟨RX5, "append", "(I)Z"⟩
abbrev cX5_clear : ByteArray := prog_7_method_3_code
def yX5_clear : MethodName := ⟨RX5, "clear", "()I"⟩
abbrev cX5_findFault : ByteArray := prog_7_method_4_code
def yX5_findFault : MethodName := ⟨RX5, "findFault", "()I"⟩
abbrev cX5_toldBound : ByteArray := prog_7_method_5_code
def yX5_toldBound : MethodName := ⟨RX5, "toldBound", "()I"⟩
abbrev cX5_toldNumber : ByteArray := prog_7_method_6_code
def yX5_toldNumber : MethodName := ⟨RX5, "toldNumber", "()I"⟩
abbrev cX5_tells : ByteArray := prog_7_method_7_code
def yX5_tells : MethodName := ⟨RX5, "tells", "(Ljava/lang/String;)Z"⟩
abbrev cX5_fittingSigns : ByteArray := prog_7_method_8_code
def yX5_fittingSigns : MethodName := ⟨RX5, "fittingSigns", "(Ljava/lang/String;)I"⟩
abbrev cX5_fits : ByteArray := prog_7_method_9_code
def yX5_fits : MethodName := ⟨RX5, "fits", "(Ljava/lang/String;I)Z"⟩
abbrev cX5_isFigure : ByteArray := prog_7_method_10_code
def yX5_isFigure : MethodName := ⟨RX5, "isFigure", "(I)Z"⟩
abbrev cX5_nameOf : ByteArray := prog_7_method_11_code
def yX5_nameOf : MethodName := ⟨RX5, "nameOf", "(I)Ljava/lang/String;"⟩
def RX6 : String := "FlapDamper"
def TX6 : u_T := fun k => match k with
  | 0 => ("FlapDamper", "text", "LFlapDamper$Text;", true)
  | 1 => ("FlapDamper", "now", "LFlapDamper$State;", true)
  | 2 => ("FlapDamper", "firstImage", "LFlapDamper$State;", true)
  | 3 => ("FlapDamper", "secondImage", "LFlapDamper$State;", true)
  | _ => ("FlapDamper", "kept", "[Z", true)
def tyX6 : Nat → FieldType := fun k => match k with
  | 0 => .object "FlapDamper$Text"
  | 1 => .object "FlapDamper$State"
  | 2 => .object "FlapDamper$State"
  | 3 => .object "FlapDamper$State"
  | _ => .array .boolean
abbrev wsX60 : List Cond := u_ws RX6 TX6 5
theorem nmX6 : ∀ a, a < 5 → ∀ b, b < 5 → a ≠ b → (TX6 a).2.1 ≠ (TX6 b).2.1 := by decide +kernel
theorem tyX6_ok : ∀ k, k < 5 → parseFieldDescriptor (TX6 k).2.2.1 = some (tyX6 k) := by decide +kernel
abbrev cX6_init : ByteArray := prog_1_method_1_code
def yX6_init : MethodName := ⟨RX6, "<init>", "()V"⟩
abbrev cX6_say : ByteArray := prog_1_method_2_code
def yX6_say : MethodName := ⟨RX6, "say", "(I)I"⟩
abbrev cX6_wipe : ByteArray := prog_1_method_3_code
def yX6_wipe : MethodName := ⟨RX6, "wipe", "()I"⟩
abbrev cX6_fault : ByteArray := prog_1_method_4_code
def yX6_fault : MethodName := ⟨RX6, "fault", "()I"⟩
abbrev cX6_set : ByteArray := prog_1_method_5_code
def yX6_set : MethodName := ⟨RX6, "set", "()I"⟩
abbrev cX6_bound : ByteArray := prog_1_method_6_code
def yX6_bound : MethodName := ⟨RX6, "bound", "(I)I"⟩
abbrev cX6_announce : ByteArray := prog_1_method_7_code
def yX6_announce : MethodName := ⟨RX6, "announce", "(IIII)I"⟩
abbrev cX6_withdraw : ByteArray := prog_1_method_8_code
def yX6_withdraw : MethodName := ⟨RX6, "withdraw", "(III)I"⟩
abbrev cX6_pass : ByteArray := prog_1_method_9_code
def yX6_pass : MethodName := ⟨RX6, "pass", "(I)I"⟩
abbrev cX6_route : ByteArray := prog_1_method_10_code
def yX6_route : MethodName := ⟨RX6, "route", "(III)I"⟩
abbrev cX6_later : ByteArray := prog_1_method_11_code
def yX6_later : MethodName := ⟨RX6, "later", "(III)I"⟩
abbrev cX6_when : ByteArray := prog_1_method_12_code
def yX6_when : MethodName := ⟨RX6, "when", "(II)I"⟩
abbrev cX6_longest : ByteArray := prog_1_method_13_code
def yX6_longest : MethodName := ⟨RX6, "longest", "()I"⟩
abbrev cX6_best : ByteArray := prog_1_method_14_code
def yX6_best : MethodName := ⟨RX6, "best", "(II)I"⟩
abbrev cX6_record : ByteArray := prog_1_method_15_code
def yX6_record : MethodName := ⟨RX6, "record", "(I)I"⟩
abbrev cX6_line : ByteArray := prog_1_method_16_code
def yX6_line : MethodName := ⟨RX6, "line", "(II)I"⟩
abbrev cX6_count : ByteArray := prog_1_method_17_code
def yX6_count : MethodName := ⟨RX6, "count", "(I)I"⟩
abbrev cX6_image : ByteArray := prog_1_method_18_code
def yX6_image : MethodName := ⟨RX6, "image", "(I)I"⟩
abbrev cX6_restore : ByteArray := prog_1_method_19_code
def yX6_restore : MethodName := ⟨RX6, "restore", "(I)I"⟩
abbrev cX6_imageOf : ByteArray := prog_1_method_20_code
def yX6_imageOf : MethodName := ⟨RX6, "imageOf", "(I)LFlapDamper$State;"⟩
abbrev cX6_keptImages : ByteArray := prog_1_method_21_code
def yX6_keptImages : MethodName := ⟨RX6, "keptImages", "()I"⟩
abbrev cX6_isWithin : ByteArray := prog_1_method_22_code
def yX6_isWithin : MethodName := ⟨RX6, "isWithin", "(III)Z"⟩
abbrev cX6_isRoute : ByteArray := prog_1_method_23_code
def yX6_isRoute : MethodName := ⟨RX6, "isRoute", "(II)Z"⟩
abbrev cX6_routeOf : ByteArray := prog_1_method_24_code
def yX6_routeOf : MethodName := ⟨RX6, "routeOf", "(II)I"⟩
def RX7 : String := "FlapDamperModel"
def TX7 : u_T := fun k => match k with
  | 0 => ("FlapDamperModel", "row", "[I", true)
  | 1 => ("FlapDamperModel", "names", "[I", true)
  | 2 => ("FlapDamperModel", "lows", "[I", true)
  | 3 => ("FlapDamperModel", "highs", "[I", true)
  | 4 => ("FlapDamperModel", "state", "[I", true)
  | 5 => ("FlapDamperModel", "images", "[I", true)
  | 6 => ("FlapDamperModel", "isKept", "[Z", true)
  | 7 => ("FlapDamperModel", "text", "[I", true)
  | _ => ("FlapDamperModel", "signs", "I", false)
def tyX7 : Nat → FieldType := fun k => match k with
  | 0 => .array .int
  | 1 => .array .int
  | 2 => .array .int
  | 3 => .array .int
  | 4 => .array .int
  | 5 => .array .int
  | 6 => .array .boolean
  | 7 => .array .int
  | _ => .int
abbrev wsX70 : List Cond := u_ws RX7 TX7 9
theorem nmX7 : ∀ a, a < 9 → ∀ b, b < 9 → a ≠ b → (TX7 a).2.1 ≠ (TX7 b).2.1 := by decide +kernel
theorem tyX7_ok : ∀ k, k < 9 → parseFieldDescriptor (TX7 k).2.2.1 = some (tyX7 k) := by decide +kernel
abbrev cX7_init : ByteArray := prog_9_method_1_code
def yX7_init : MethodName := ⟨RX7, "<init>", "()V"⟩
abbrev cX7_in : ByteArray := prog_9_method_2_code
def yX7_in : MethodName := ⟨RX7, "in", "(III)Z"⟩
abbrev cX7_bounded : ByteArray := prog_9_method_3_code
def yX7_bounded : MethodName := ⟨RX7, "bounded", "(I)I"⟩
abbrev cX7_say : ByteArray := prog_9_method_4_code
def yX7_say : MethodName := ⟨RX7, "say", "(I)I"⟩
abbrev cX7_wipe : ByteArray := prog_9_method_5_code
def yX7_wipe : MethodName := ⟨RX7, "wipe", "()I"⟩
abbrev cX7_size : ByteArray := prog_9_method_6_code
def yX7_size : MethodName := ⟨RX7, "size", "(I)I"⟩
abbrev cX7_isFigure : ByteArray := prog_9_method_7_code
def yX7_isFigure : MethodName := ⟨RX7, "isFigure", "(I)Z"⟩
abbrev cX7_fitting : ByteArray := prog_9_method_8_code
def yX7_fitting : MethodName := ⟨RX7, "fitting", "(I)I"⟩
abbrev cX7_told : ByteArray := prog_9_method_9_code
def yX7_told : MethodName := ⟨RX7, "told", "()I"⟩
abbrev cX7_faultNow : ByteArray := prog_9_method_10_code
def yX7_faultNow : MethodName := ⟨RX7, "faultNow", "()I"⟩
abbrev cX7_fault : ByteArray := prog_9_method_11_code
def yX7_fault : MethodName := ⟨RX7, "fault", "()I"⟩
abbrev cX7_set : ByteArray := prog_9_method_12_code
def yX7_set : MethodName := ⟨RX7, "set", "()I"⟩
abbrev cX7_bound : ByteArray := prog_9_method_13_code
def yX7_bound : MethodName := ⟨RX7, "bound", "(I)I"⟩
abbrev cX7_at : ByteArray := prog_9_method_14_code
def yX7_at : MethodName := ⟨RX7, "at", "(II)I"⟩
abbrev cX7_recordOf : ByteArray := prog_9_method_15_code
def yX7_recordOf : MethodName := ⟨RX7, "recordOf", "(I)I"⟩
abbrev cX7_isHeld : ByteArray := prog_9_method_16_code
def yX7_isHeld : MethodName := ⟨RX7, "isHeld", "(I)Z"⟩
abbrev cX7_lessened : ByteArray := prog_9_method_17_code
def yX7_lessened : MethodName := ⟨RX7, "lessened", "(II)I"⟩
abbrev cX7_penaltyAt : ByteArray := prog_9_method_18_code
def yX7_penaltyAt : MethodName := ⟨RX7, "penaltyAt", "(II)I"⟩
abbrev cX7_dueAfter : ByteArray := prog_9_method_19_code
def yX7_dueAfter : MethodName := ⟨RX7, "dueAfter", "(II)I"⟩
abbrev cX7_remove : ByteArray := prog_9_method_20_code
def yX7_remove : MethodName := ⟨RX7, "remove", "(I)V"⟩
abbrev cX7_makeRecord : ByteArray := prog_9_method_21_code
def yX7_makeRecord : MethodName := ⟨RX7, "makeRecord", "(I)I"⟩
abbrev cX7_isCounted : ByteArray := prog_9_method_22_code
def yX7_isCounted : MethodName := ⟨RX7, "isCounted", "(II)Z"⟩
abbrev cX7_addCause : ByteArray := prog_9_method_23_code
def yX7_addCause : MethodName := ⟨RX7, "addCause", "(II)V"⟩
abbrev cX7_lineAt : ByteArray := prog_9_method_24_code
def yX7_lineAt : MethodName := ⟨RX7, "lineAt", "(II)I"⟩
abbrev cX7_write : ByteArray := prog_9_method_25_code
def yX7_write : MethodName := ⟨RX7, "write", "(I)V"⟩
abbrev cX7_writeNumber : ByteArray := prog_9_method_26_code
def yX7_writeNumber : MethodName := ⟨RX7, "writeNumber", "(I)V"⟩
abbrev cX7_beginLine : ByteArray := prog_9_method_27_code
def yX7_beginLine : MethodName := ⟨RX7, "beginLine", "(II)V"⟩
abbrev cX7_lookAtBest : ByteArray := prog_9_method_28_code
def yX7_lookAtBest : MethodName := ⟨RX7, "lookAtBest", "()V"⟩
abbrev cX7_meet : ByteArray := prog_9_method_29_code
def yX7_meet : MethodName := ⟨RX7, "meet", "(III)I"⟩
abbrev cX7_isRoute : ByteArray := prog_9_method_30_code
def yX7_isRoute : MethodName := ⟨RX7, "isRoute", "(II)Z"⟩
abbrev cX7_announce : ByteArray := prog_9_method_31_code
def yX7_announce : MethodName := ⟨RX7, "announce", "(IIII)I"⟩
abbrev cX7_withdraw : ByteArray := prog_9_method_32_code
def yX7_withdraw : MethodName := ⟨RX7, "withdraw", "(III)I"⟩
abbrev cX7_lookAtRecords : ByteArray := prog_9_method_33_code
def yX7_lookAtRecords : MethodName := ⟨RX7, "lookAtRecords", "()V"⟩
abbrev cX7_heldOnes : ByteArray := prog_9_method_34_code
def yX7_heldOnes : MethodName := ⟨RX7, "heldOnes", "()I"⟩
abbrev cX7_pass : ByteArray := prog_9_method_35_code
def yX7_pass : MethodName := ⟨RX7, "pass", "(I)I"⟩
abbrev cX7_route : ByteArray := prog_9_method_36_code
def yX7_route : MethodName := ⟨RX7, "route", "(III)I"⟩
abbrev cX7_later : ByteArray := prog_9_method_37_code
def yX7_later : MethodName := ⟨RX7, "later", "(III)I"⟩
abbrev cX7_when : ByteArray := prog_9_method_38_code
def yX7_when : MethodName := ⟨RX7, "when", "(II)I"⟩
abbrev cX7_longest : ByteArray := prog_9_method_39_code
def yX7_longest : MethodName := ⟨RX7, "longest", "()I"⟩
abbrev cX7_best : ByteArray := prog_9_method_40_code
def yX7_best : MethodName := ⟨RX7, "best", "(II)I"⟩
abbrev cX7_record : ByteArray := prog_9_method_41_code
def yX7_record : MethodName := ⟨RX7, "record", "(I)I"⟩
abbrev cX7_line : ByteArray := prog_9_method_42_code
def yX7_line : MethodName := ⟨RX7, "line", "(II)I"⟩
abbrev cX7_count : ByteArray := prog_9_method_43_code
def yX7_count : MethodName := ⟨RX7, "count", "(I)I"⟩
abbrev cX7_image : ByteArray := prog_9_method_44_code
def yX7_image : MethodName := ⟨RX7, "image", "(I)I"⟩
abbrev cX7_restore : ByteArray := prog_9_method_45_code
def yX7_restore : MethodName := ⟨RX7, "restore", "(I)I"⟩
def RJx145de : String := "java/io/Serializable"
def TJx145de : u_T := fun k => match k with
  | _ => ("", "", "", false)
def tyJx145de : Nat → FieldType := fun k => match k with
  | _ => .int
abbrev wsJx145de0 : List Cond := u_ws RJx145de TJx145de 0
theorem nmJx145de : ∀ a, a < 0 → ∀ b, b < 0 → a ≠ b → (TJx145de a).2.1 ≠ (TJx145de b).2.1 := by decide +kernel
theorem tyJx145de_ok : ∀ k, k < 0 → parseFieldDescriptor (TJx145de k).2.2.1 = some (tyJx145de k) := by decide +kernel
def RJx9f9b0 : String := "java/lang/CharSequence"
def TJx9f9b0 : u_T := fun k => match k with
  | _ => ("", "", "", false)
def tyJx9f9b0 : Nat → FieldType := fun k => match k with
  | _ => .int
abbrev wsJx9f9b00 : List Cond := u_ws RJx9f9b0 TJx9f9b0 0
theorem nmJx9f9b0 : ∀ a, a < 0 → ∀ b, b < 0 → a ≠ b → (TJx9f9b0 a).2.1 ≠ (TJx9f9b0 b).2.1 := by decide +kernel
theorem tyJx9f9b0_ok : ∀ k, k < 0 → parseFieldDescriptor (TJx9f9b0 k).2.2.1 = some (tyJx9f9b0 k) := by decide +kernel
def RJx8e188 : String := "java/lang/Cloneable"
def TJx8e188 : u_T := fun k => match k with
  | _ => ("", "", "", false)
def tyJx8e188 : Nat → FieldType := fun k => match k with
  | _ => .int
abbrev wsJx8e1880 : List Cond := u_ws RJx8e188 TJx8e188 0
theorem nmJx8e188 : ∀ a, a < 0 → ∀ b, b < 0 → a ≠ b → (TJx8e188 a).2.1 ≠ (TJx8e188 b).2.1 := by decide +kernel
theorem tyJx8e188_ok : ∀ k, k < 0 → parseFieldDescriptor (TJx8e188 k).2.2.1 = some (tyJx8e188 k) := by decide +kernel
def RJxb160c : String := "java/lang/Comparable"
def TJxb160c : u_T := fun k => match k with
  | _ => ("", "", "", false)
def tyJxb160c : Nat → FieldType := fun k => match k with
  | _ => .int
abbrev wsJxb160c0 : List Cond := u_ws RJxb160c TJxb160c 0
theorem nmJxb160c : ∀ a, a < 0 → ∀ b, b < 0 → a ≠ b → (TJxb160c a).2.1 ≠ (TJxb160c b).2.1 := by decide +kernel
theorem tyJxb160c_ok : ∀ k, k < 0 → parseFieldDescriptor (TJxb160c k).2.2.1 = some (tyJxb160c k) := by decide +kernel
def RJ9 : String := "java/lang/Math"
def TJ9 : u_T := fun k => match k with
  | _ => ("", "", "", false)
def tyJ9 : Nat → FieldType := fun k => match k with
  | _ => .int
abbrev wsJ90 : List Cond := u_ws RJ9 TJ9 0
theorem nmJ9 : ∀ a, a < 0 → ∀ b, b < 0 → a ≠ b → (TJ9 a).2.1 ≠ (TJ9 b).2.1 := by decide +kernel
theorem tyJ9_ok : ∀ k, k < 0 → parseFieldDescriptor (TJ9 k).2.2.1 = some (tyJ9 k) := by decide +kernel
abbrev cJ9_max_7cf53 : ByteArray := prog_11_method_65_code
def yJ9_max_7cf53 : MethodName := ⟨RJ9, "max", "(II)I"⟩
abbrev cJ9_min_7cf53 : ByteArray := prog_11_method_69_code
def yJ9_min_7cf53 : MethodName := ⟨RJ9, "min", "(II)I"⟩
def RJ0 : String := "java/lang/String"
def TJ0 : u_T := fun k => match k with
  | _ => ("", "", "", false)
def tyJ0 : Nat → FieldType := fun k => match k with
  | _ => .int
abbrev wsJ00 : List Cond := u_ws RJ0 TJ0 0
theorem nmJ0 : ∀ a, a < 0 → ∀ b, b < 0 → a ≠ b → (TJ0 a).2.1 ≠ (TJ0 b).2.1 := by decide +kernel
theorem tyJ0_ok : ∀ k, k < 0 → parseFieldDescriptor (TJ0 k).2.2.1 = some (tyJ0 k) := by decide +kernel
abbrev cJ0_length_8abf5 : ByteArray := prog_12_method_54_code
def yJ0_length_8abf5 : MethodName := ⟨RJ0, "length", "()I"⟩
abbrev cJ0_charAt_5068e : ByteArray := prog_12_method_56_code
def yJ0_charAt_5068e : MethodName := ⟨RJ0, "charAt", "(I)C"⟩
abbrev cJ0_coder_7d493 : ByteArray := prog_12_method_152_code
def yJ0_coder_7d493 : MethodName := ⟨RJ0, "coder", "()B"⟩
abbrev cJ0_isLatin1_aae02 : ByteArray := prog_12_method_154_code
def yJ0_isLatin1_aae02 : MethodName := ⟨RJ0, "isLatin1", "()Z"⟩
abbrev cJ0_checkIndex_df160 : ByteArray := prog_12_method_155_code
def yJ0_checkIndex_df160 : MethodName := ⟨RJ0, "checkIndex", "(II)V"⟩
def RJ1 : String := "java/lang/StringLatin1"
def TJ1 : u_T := fun k => match k with
  | _ => ("", "", "", false)
def tyJ1 : Nat → FieldType := fun k => match k with
  | _ => .int
abbrev wsJ10 : List Cond := u_ws RJ1 TJ1 0
theorem nmJ1 : ∀ a, a < 0 → ∀ b, b < 0 → a ≠ b → (TJ1 a).2.1 ≠ (TJ1 b).2.1 := by decide +kernel
theorem tyJ1_ok : ∀ k, k < 0 → parseFieldDescriptor (TJ1 k).2.2.1 = some (tyJ1 k) := by decide +kernel
abbrev cJ1_charAt_3b067 : ByteArray := prog_13_method_2_code
def yJ1_charAt_3b067 : MethodName := ⟨RJ1, "charAt", "([BI)C"⟩
def RJ2 : String := "java/lang/StringUTF16"
def TJ2 : u_T := fun k => match k with
  | _ => ("", "", "", false)
def tyJ2 : Nat → FieldType := fun k => match k with
  | _ => .int
abbrev wsJ20 : List Cond := u_ws RJ2 TJ2 0
theorem nmJ2 : ∀ a, a < 0 → ∀ b, b < 0 → a ≠ b → (TJ2 a).2.1 ≠ (TJ2 b).2.1 := by decide +kernel
theorem tyJ2_ok : ∀ k, k < 0 → parseFieldDescriptor (TJ2 k).2.2.1 = some (tyJ2 k) := by decide +kernel
abbrev cJ2_getChar_3b067 : ByteArray := prog_14_method_5_code
def yJ2_getChar_3b067 : MethodName := ⟨RJ2, "getChar", "([BI)C"⟩
abbrev cJ2_length_9d52b : ByteArray := prog_14_method_6_code
def yJ2_length_9d52b : MethodName := ⟨RJ2, "length", "([B)I"⟩
abbrev cJ2_charAt_3b067 : ByteArray := prog_14_method_83_code
def yJ2_charAt_3b067 : MethodName := ⟨RJ2, "charAt", "([BI)C"⟩
abbrev cJ2_checkIndex_2214a : ByteArray := prog_14_method_91_code
def yJ2_checkIndex_2214a : MethodName := ⟨RJ2, "checkIndex", "(I[B)V"⟩
def RJ10 : String := "java/lang/System"
def TJ10 : u_T := fun k => match k with
  | _ => ("", "", "", false)
def tyJ10 : Nat → FieldType := fun k => match k with
  | _ => .int
abbrev wsJ100 : List Cond := u_ws RJ10 TJ10 0
theorem nmJ10 : ∀ a, a < 0 → ∀ b, b < 0 → a ≠ b → (TJ10 a).2.1 ≠ (TJ10 b).2.1 := by decide +kernel
theorem tyJ10_ok : ∀ k, k < 0 → parseFieldDescriptor (TJ10 k).2.2.1 = some (tyJ10 k) := by decide +kernel
def RJxfd54e : String := "java/lang/constant/Constable"
def TJxfd54e : u_T := fun k => match k with
  | _ => ("", "", "", false)
def tyJxfd54e : Nat → FieldType := fun k => match k with
  | _ => .int
abbrev wsJxfd54e0 : List Cond := u_ws RJxfd54e TJxfd54e 0
theorem nmJxfd54e : ∀ a, a < 0 → ∀ b, b < 0 → a ≠ b → (TJxfd54e a).2.1 ≠ (TJxfd54e b).2.1 := by decide +kernel
theorem tyJxfd54e_ok : ∀ k, k < 0 → parseFieldDescriptor (TJxfd54e k).2.2.1 = some (tyJxfd54e k) := by decide +kernel
def RJx3cf43 : String := "java/lang/constant/ConstantDesc"
def TJx3cf43 : u_T := fun k => match k with
  | _ => ("", "", "", false)
def tyJx3cf43 : Nat → FieldType := fun k => match k with
  | _ => .int
abbrev wsJx3cf430 : List Cond := u_ws RJx3cf43 TJx3cf43 0
theorem nmJx3cf43 : ∀ a, a < 0 → ∀ b, b < 0 → a ≠ b → (TJx3cf43 a).2.1 ≠ (TJx3cf43 b).2.1 := by decide +kernel
theorem tyJx3cf43_ok : ∀ k, k < 0 → parseFieldDescriptor (TJx3cf43 k).2.2.1 = some (tyJx3cf43 k) := by decide +kernel
def RJ7 : String := "java/util/Arrays"
def TJ7 : u_T := fun k => match k with
  | _ => ("", "", "", false)
def tyJ7 : Nat → FieldType := fun k => match k with
  | _ => .int
abbrev wsJ70 : List Cond := u_ws RJ7 TJ7 0
theorem nmJ7 : ∀ a, a < 0 → ∀ b, b < 0 → a ≠ b → (TJ7 a).2.1 ≠ (TJ7 b).2.1 := by decide +kernel
theorem tyJ7_ok : ∀ k, k < 0 → parseFieldDescriptor (TJ7 k).2.2.1 = some (tyJ7 k) := by decide +kernel
abbrev cJ7_fill_53178 : ByteArray := prog_16_method_103_code
def yJ7_fill_53178 : MethodName := ⟨RJ7, "fill", "([II)V"⟩
def RJ3 : String := "jdk/internal/util/Preconditions"
def TJ3 : u_T := fun k => match k with
  | _ => ("", "", "", false)
def tyJ3 : Nat → FieldType := fun k => match k with
  | _ => .int
abbrev wsJ30 : List Cond := u_ws RJ3 TJ3 0
theorem nmJ3 : ∀ a, a < 0 → ∀ b, b < 0 → a ≠ b → (TJ3 a).2.1 ≠ (TJ3 b).2.1 := by decide +kernel
theorem tyJ3_ok : ∀ k, k < 0 → parseFieldDescriptor (TJ3 k).2.2.1 = some (tyJ3 k) := by decide +kernel
abbrev cJ3_checkIndex_8e157 : ByteArray := prog_17_method_11_code
def yJ3_checkIndex_8e157 : MethodName := ⟨RJ3, "checkIndex", "(IILjava/util/function/BiFunction;)I"⟩
def RL : String := "FlapDamperLaw"
abbrev cL_law : ByteArray := code
def yL_law : MethodName := ⟨RL, "law", "([I)Z"⟩
