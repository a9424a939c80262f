section
-- ===== PART A: goes FIRST, ahead of the names: the tables' words, and 'selects' of the private methods out of them =====
/-- a private method of a class that the tables say can be made, by its rows of tables_1 -/
def lw_okq (q : MethodName × Nat) : Prop := (q.1.cls ≠ "java/lang/invoke/MethodHandle" ∧ q.1.cls ≠ "java/lang/invoke/VarHandle") ∧ Cond.instantiable q.1.cls q.2 ∈ tables_1 ∧ Cond.privateMethod q.1 ∈ tables_1 ∧ Cond.instanceMethod q.1 ∈ tables_1
theorem lw_p0 : lw_okq (⟨"FlapDamper$Text", "tells", "(Ljava/lang/String;)Z"⟩, 2) := ⟨⟨by decide +kernel, by decide +kernel⟩, List.mem_of_getElem? (i := 25) (by decide +kernel), List.mem_of_getElem? (i := 246) (by decide +kernel), List.mem_of_getElem? (i := 247) (by decide +kernel)⟩
theorem lw_p1 : lw_okq (⟨"FlapDamper$Text", "fittingSigns", "(Ljava/lang/String;)I"⟩, 2) := ⟨⟨by decide +kernel, by decide +kernel⟩, List.mem_of_getElem? (i := 25) (by decide +kernel), List.mem_of_getElem? (i := 260) (by decide +kernel), List.mem_of_getElem? (i := 261) (by decide +kernel)⟩
theorem lw_p2 : lw_okq (⟨"FlapDamper$Text", "fits", "(Ljava/lang/String;I)Z"⟩, 2) := ⟨⟨by decide +kernel, by decide +kernel⟩, List.mem_of_getElem? (i := 25) (by decide +kernel), List.mem_of_getElem? (i := 264) (by decide +kernel), List.mem_of_getElem? (i := 265) (by decide +kernel)⟩
theorem lw_p3 : lw_okq (⟨"FlapDamper$State", "weigh", "(II)I"⟩, 11) := ⟨⟨by decide +kernel, by decide +kernel⟩, List.mem_of_getElem? (i := 40) (by decide +kernel), List.mem_of_getElem? (i := 348) (by decide +kernel), List.mem_of_getElem? (i := 349) (by decide +kernel)⟩
theorem lw_p4 : lw_okq (⟨"FlapDamper$State", "judge", "(III)I"⟩, 11) := ⟨⟨by decide +kernel, by decide +kernel⟩, List.mem_of_getElem? (i := 40) (by decide +kernel), List.mem_of_getElem? (i := 352) (by decide +kernel), List.mem_of_getElem? (i := 353) (by decide +kernel)⟩
theorem lw_p5 : lw_okq (⟨"FlapDamper$RecordList", "dropFirstFree", "()Z"⟩, 3) := ⟨⟨by decide +kernel, by decide +kernel⟩, List.mem_of_getElem? (i := 67) (by decide +kernel), List.mem_of_getElem? (i := 368) (by decide +kernel), List.mem_of_getElem? (i := 369) (by decide +kernel)⟩
theorem lw_p6 : lw_okq (⟨"FlapDamper$State", "addTo", "(LFlapDamper$RouteRecord;II)I"⟩, 11) := ⟨⟨by decide +kernel, by decide +kernel⟩, List.mem_of_getElem? (i := 40) (by decide +kernel), List.mem_of_getElem? (i := 381) (by decide +kernel), List.mem_of_getElem? (i := 382) (by decide +kernel)⟩
theorem lw_p7 : lw_okq (⟨"FlapDamper$State", "dueAfter", "(LFlapDamper$RouteRecord;I)I"⟩, 11) := ⟨⟨by decide +kernel, by decide +kernel⟩, List.mem_of_getElem? (i := 40) (by decide +kernel), List.mem_of_getElem? (i := 406) (by decide +kernel), List.mem_of_getElem? (i := 407) (by decide +kernel)⟩
theorem lw_p8 : lw_okq (⟨"FlapDamper$State", "isBelowBack", "(LFlapDamper$RouteRecord;I)Z"⟩, 11) := ⟨⟨by decide +kernel, by decide +kernel⟩, List.mem_of_getElem? (i := 40) (by decide +kernel), List.mem_of_getElem? (i := 411) (by decide +kernel), List.mem_of_getElem? (i := 412) (by decide +kernel)⟩
theorem lw_p9 : lw_okq (⟨"FlapDamper$State", "writeEvent", "(III)V"⟩, 11) := ⟨⟨by decide +kernel, by decide +kernel⟩, List.mem_of_getElem? (i := 40) (by decide +kernel), List.mem_of_getElem? (i := 415) (by decide +kernel), List.mem_of_getElem? (i := 416) (by decide +kernel)⟩
theorem lw_p10 : lw_okq (⟨"FlapDamper$State", "refreshBest", "(I)V"⟩, 11) := ⟨⟨by decide +kernel, by decide +kernel⟩, List.mem_of_getElem? (i := 40) (by decide +kernel), List.mem_of_getElem? (i := 433) (by decide +kernel), List.mem_of_getElem? (i := 434) (by decide +kernel)⟩
theorem lw_p11 : lw_okq (⟨"FlapDamper$State", "findBest", "(I)I"⟩, 11) := ⟨⟨by decide +kernel, by decide +kernel⟩, List.mem_of_getElem? (i := 40) (by decide +kernel), List.mem_of_getElem? (i := 437) (by decide +kernel), List.mem_of_getElem? (i := 438) (by decide +kernel)⟩
theorem lw_p12 : lw_okq (⟨"FlapDamper$State", "isLookedAt", "(I)Z"⟩, 11) := ⟨⟨by decide +kernel, by decide +kernel⟩, List.mem_of_getElem? (i := 40) (by decide +kernel), List.mem_of_getElem? (i := 457) (by decide +kernel), List.mem_of_getElem? (i := 458) (by decide +kernel)⟩
theorem lw_p13 : lw_okq (⟨"FlapDamper$State", "lookAt", "(LFlapDamper$RouteRecord;)V"⟩, 11) := ⟨⟨by decide +kernel, by decide +kernel⟩, List.mem_of_getElem? (i := 40) (by decide +kernel), List.mem_of_getElem? (i := 461) (by decide +kernel), List.mem_of_getElem? (i := 462) (by decide +kernel)⟩
theorem lw_p14 : lw_okq (⟨"FlapDamper$State", "dropSmallOnes", "()V"⟩, 11) := ⟨⟨by decide +kernel, by decide +kernel⟩, List.mem_of_getElem? (i := 40) (by decide +kernel), List.mem_of_getElem? (i := 465) (by decide +kernel), List.mem_of_getElem? (i := 466) (by decide +kernel)⟩
theorem lw_p15 : lw_okq (⟨"FlapDamper", "keptImages", "()I"⟩, 5) := ⟨⟨by decide +kernel, by decide +kernel⟩, List.mem_of_getElem? (i := 17) (by decide +kernel), List.mem_of_getElem? (i := 527) (by decide +kernel), List.mem_of_getElem? (i := 528) (by decide +kernel)⟩
def lw_privs_1 : List (MethodName × Nat) := [(⟨"FlapDamper$Text", "tells", "(Ljava/lang/String;)Z"⟩, 2), (⟨"FlapDamper$Text", "fittingSigns", "(Ljava/lang/String;)I"⟩, 2), (⟨"FlapDamper$Text", "fits", "(Ljava/lang/String;I)Z"⟩, 2), (⟨"FlapDamper$State", "weigh", "(II)I"⟩, 11), (⟨"FlapDamper$State", "judge", "(III)I"⟩, 11), (⟨"FlapDamper$RecordList", "dropFirstFree", "()Z"⟩, 3), (⟨"FlapDamper$State", "addTo", "(LFlapDamper$RouteRecord;II)I"⟩, 11), (⟨"FlapDamper$State", "dueAfter", "(LFlapDamper$RouteRecord;I)I"⟩, 11), (⟨"FlapDamper$State", "isBelowBack", "(LFlapDamper$RouteRecord;I)Z"⟩, 11), (⟨"FlapDamper$State", "writeEvent", "(III)V"⟩, 11), (⟨"FlapDamper$State", "refreshBest", "(I)V"⟩, 11), (⟨"FlapDamper$State", "findBest", "(I)I"⟩, 11), (⟨"FlapDamper$State", "isLookedAt", "(I)Z"⟩, 11), (⟨"FlapDamper$State", "lookAt", "(LFlapDamper$RouteRecord;)V"⟩, 11), (⟨"FlapDamper$State", "dropSmallOnes", "()V"⟩, 11), (⟨"FlapDamper", "keptImages", "()I"⟩, 5)]
theorem lw_r1 : ∀ q ∈ lw_privs_1, lw_okq q := List.forall_mem_cons.mpr ⟨lw_p0, List.forall_mem_cons.mpr ⟨lw_p1, List.forall_mem_cons.mpr ⟨lw_p2, List.forall_mem_cons.mpr ⟨lw_p3, List.forall_mem_cons.mpr ⟨lw_p4, List.forall_mem_cons.mpr ⟨lw_p5, List.forall_mem_cons.mpr ⟨lw_p6, List.forall_mem_cons.mpr ⟨lw_p7, List.forall_mem_cons.mpr ⟨lw_p8, List.forall_mem_cons.mpr ⟨lw_p9, List.forall_mem_cons.mpr ⟨lw_p10, List.forall_mem_cons.mpr ⟨lw_p11, List.forall_mem_cons.mpr ⟨lw_p12, List.forall_mem_cons.mpr ⟨lw_p13, List.forall_mem_cons.mpr ⟨lw_p14, List.forall_mem_cons.mpr ⟨lw_p15, fun _ h => absurd h List.not_mem_nil⟩⟩⟩⟩⟩⟩⟩⟩⟩⟩⟩⟩⟩⟩⟩⟩
theorem lw_p16 : lw_okq (⟨"FlapDamper", "imageOf", "(I)LFlapDamper$State;"⟩, 5) := ⟨⟨by decide +kernel, by decide +kernel⟩, List.mem_of_getElem? (i := 17) (by decide +kernel), List.mem_of_getElem? (i := 540) (by decide +kernel), List.mem_of_getElem? (i := 541) (by decide +kernel)⟩
theorem lw_p17 : lw_okq (⟨"FlapDamperModel", "faultNow", "()I"⟩, 9) := ⟨⟨by decide +kernel, by decide +kernel⟩, List.mem_of_getElem? (i := 571) (by decide +kernel), List.mem_of_getElem? (i := 628) (by decide +kernel), List.mem_of_getElem? (i := 629) (by decide +kernel)⟩
theorem lw_p18 : lw_okq (⟨"FlapDamperModel", "fitting", "(I)I"⟩, 9) := ⟨⟨by decide +kernel, by decide +kernel⟩, List.mem_of_getElem? (i := 571) (by decide +kernel), List.mem_of_getElem? (i := 632) (by decide +kernel), List.mem_of_getElem? (i := 633) (by decide +kernel)⟩
theorem lw_p19 : lw_okq (⟨"FlapDamperModel", "told", "()I"⟩, 9) := ⟨⟨by decide +kernel, by decide +kernel⟩, List.mem_of_getElem? (i := 571) (by decide +kernel), List.mem_of_getElem? (i := 642) (by decide +kernel), List.mem_of_getElem? (i := 643) (by decide +kernel)⟩
theorem lw_p20 : lw_okq (⟨"FlapDamperModel", "bounded", "(I)I"⟩, 9) := ⟨⟨by decide +kernel, by decide +kernel⟩, List.mem_of_getElem? (i := 571) (by decide +kernel), List.mem_of_getElem? (i := 650) (by decide +kernel), List.mem_of_getElem? (i := 651) (by decide +kernel)⟩
theorem lw_p21 : lw_okq (⟨"FlapDamperModel", "beginLine", "(II)V"⟩, 9) := ⟨⟨by decide +kernel, by decide +kernel⟩, List.mem_of_getElem? (i := 571) (by decide +kernel), List.mem_of_getElem? (i := 665) (by decide +kernel), List.mem_of_getElem? (i := 666) (by decide +kernel)⟩
theorem lw_p22 : lw_okq (⟨"FlapDamperModel", "write", "(I)V"⟩, 9) := ⟨⟨by decide +kernel, by decide +kernel⟩, List.mem_of_getElem? (i := 571) (by decide +kernel), List.mem_of_getElem? (i := 669) (by decide +kernel), List.mem_of_getElem? (i := 670) (by decide +kernel)⟩
theorem lw_p23 : lw_okq (⟨"FlapDamperModel", "lineAt", "(II)I"⟩, 9) := ⟨⟨by decide +kernel, by decide +kernel⟩, List.mem_of_getElem? (i := 571) (by decide +kernel), List.mem_of_getElem? (i := 673) (by decide +kernel), List.mem_of_getElem? (i := 674) (by decide +kernel)⟩
theorem lw_p24 : lw_okq (⟨"FlapDamperModel", "meet", "(III)I"⟩, 9) := ⟨⟨by decide +kernel, by decide +kernel⟩, List.mem_of_getElem? (i := 571) (by decide +kernel), List.mem_of_getElem? (i := 677) (by decide +kernel), List.mem_of_getElem? (i := 678) (by decide +kernel)⟩
theorem lw_p25 : lw_okq (⟨"FlapDamperModel", "recordOf", "(I)I"⟩, 9) := ⟨⟨by decide +kernel, by decide +kernel⟩, List.mem_of_getElem? (i := 571) (by decide +kernel), List.mem_of_getElem? (i := 681) (by decide +kernel), List.mem_of_getElem? (i := 682) (by decide +kernel)⟩
theorem lw_p26 : lw_okq (⟨"FlapDamperModel", "isCounted", "(II)Z"⟩, 9) := ⟨⟨by decide +kernel, by decide +kernel⟩, List.mem_of_getElem? (i := 571) (by decide +kernel), List.mem_of_getElem? (i := 688) (by decide +kernel), List.mem_of_getElem? (i := 689) (by decide +kernel)⟩
theorem lw_p27 : lw_okq (⟨"FlapDamperModel", "makeRecord", "(I)I"⟩, 9) := ⟨⟨by decide +kernel, by decide +kernel⟩, List.mem_of_getElem? (i := 571) (by decide +kernel), List.mem_of_getElem? (i := 692) (by decide +kernel), List.mem_of_getElem? (i := 693) (by decide +kernel)⟩
theorem lw_p28 : lw_okq (⟨"FlapDamperModel", "isHeld", "(I)Z"⟩, 9) := ⟨⟨by decide +kernel, by decide +kernel⟩, List.mem_of_getElem? (i := 571) (by decide +kernel), List.mem_of_getElem? (i := 696) (by decide +kernel), List.mem_of_getElem? (i := 697) (by decide +kernel)⟩
theorem lw_p29 : lw_okq (⟨"FlapDamperModel", "remove", "(I)V"⟩, 9) := ⟨⟨by decide +kernel, by decide +kernel⟩, List.mem_of_getElem? (i := 571) (by decide +kernel), List.mem_of_getElem? (i := 700) (by decide +kernel), List.mem_of_getElem? (i := 701) (by decide +kernel)⟩
theorem lw_p30 : lw_okq (⟨"FlapDamperModel", "penaltyAt", "(II)I"⟩, 9) := ⟨⟨by decide +kernel, by decide +kernel⟩, List.mem_of_getElem? (i := 571) (by decide +kernel), List.mem_of_getElem? (i := 704) (by decide +kernel), List.mem_of_getElem? (i := 705) (by decide +kernel)⟩
theorem lw_p31 : lw_okq (⟨"FlapDamperModel", "lessened", "(II)I"⟩, 9) := ⟨⟨by decide +kernel, by decide +kernel⟩, List.mem_of_getElem? (i := 571) (by decide +kernel), List.mem_of_getElem? (i := 708) (by decide +kernel), List.mem_of_getElem? (i := 709) (by decide +kernel)⟩
def lw_privs_2 : List (MethodName × Nat) := [(⟨"FlapDamper", "imageOf", "(I)LFlapDamper$State;"⟩, 5), (⟨"FlapDamperModel", "faultNow", "()I"⟩, 9), (⟨"FlapDamperModel", "fitting", "(I)I"⟩, 9), (⟨"FlapDamperModel", "told", "()I"⟩, 9), (⟨"FlapDamperModel", "bounded", "(I)I"⟩, 9), (⟨"FlapDamperModel", "beginLine", "(II)V"⟩, 9), (⟨"FlapDamperModel", "write", "(I)V"⟩, 9), (⟨"FlapDamperModel", "lineAt", "(II)I"⟩, 9), (⟨"FlapDamperModel", "meet", "(III)I"⟩, 9), (⟨"FlapDamperModel", "recordOf", "(I)I"⟩, 9), (⟨"FlapDamperModel", "isCounted", "(II)Z"⟩, 9), (⟨"FlapDamperModel", "makeRecord", "(I)I"⟩, 9), (⟨"FlapDamperModel", "isHeld", "(I)Z"⟩, 9), (⟨"FlapDamperModel", "remove", "(I)V"⟩, 9), (⟨"FlapDamperModel", "penaltyAt", "(II)I"⟩, 9), (⟨"FlapDamperModel", "lessened", "(II)I"⟩, 9)]
theorem lw_r2 : ∀ q ∈ lw_privs_2, lw_okq q := List.forall_mem_cons.mpr ⟨lw_p16, List.forall_mem_cons.mpr ⟨lw_p17, List.forall_mem_cons.mpr ⟨lw_p18, List.forall_mem_cons.mpr ⟨lw_p19, List.forall_mem_cons.mpr ⟨lw_p20, List.forall_mem_cons.mpr ⟨lw_p21, List.forall_mem_cons.mpr ⟨lw_p22, List.forall_mem_cons.mpr ⟨lw_p23, List.forall_mem_cons.mpr ⟨lw_p24, List.forall_mem_cons.mpr ⟨lw_p25, List.forall_mem_cons.mpr ⟨lw_p26, List.forall_mem_cons.mpr ⟨lw_p27, List.forall_mem_cons.mpr ⟨lw_p28, List.forall_mem_cons.mpr ⟨lw_p29, List.forall_mem_cons.mpr ⟨lw_p30, List.forall_mem_cons.mpr ⟨lw_p31, fun _ h => absurd h List.not_mem_nil⟩⟩⟩⟩⟩⟩⟩⟩⟩⟩⟩⟩⟩⟩⟩⟩
theorem lw_p32 : lw_okq (⟨"FlapDamperModel", "addCause", "(II)V"⟩, 9) := ⟨⟨by decide +kernel, by decide +kernel⟩, List.mem_of_getElem? (i := 571) (by decide +kernel), List.mem_of_getElem? (i := 712) (by decide +kernel), List.mem_of_getElem? (i := 713) (by decide +kernel)⟩
theorem lw_p33 : lw_okq (⟨"FlapDamperModel", "writeNumber", "(I)V"⟩, 9) := ⟨⟨by decide +kernel, by decide +kernel⟩, List.mem_of_getElem? (i := 571) (by decide +kernel), List.mem_of_getElem? (i := 716) (by decide +kernel), List.mem_of_getElem? (i := 717) (by decide +kernel)⟩
theorem lw_p34 : lw_okq (⟨"FlapDamperModel", "dueAfter", "(II)I"⟩, 9) := ⟨⟨by decide +kernel, by decide +kernel⟩, List.mem_of_getElem? (i := 571) (by decide +kernel), List.mem_of_getElem? (i := 720) (by decide +kernel), List.mem_of_getElem? (i := 721) (by decide +kernel)⟩
theorem lw_p35 : lw_okq (⟨"FlapDamperModel", "lookAtBest", "()V"⟩, 9) := ⟨⟨by decide +kernel, by decide +kernel⟩, List.mem_of_getElem? (i := 571) (by decide +kernel), List.mem_of_getElem? (i := 724) (by decide +kernel), List.mem_of_getElem? (i := 725) (by decide +kernel)⟩
theorem lw_p36 : lw_okq (⟨"FlapDamperModel", "lookAtRecords", "()V"⟩, 9) := ⟨⟨by decide +kernel, by decide +kernel⟩, List.mem_of_getElem? (i := 571) (by decide +kernel), List.mem_of_getElem? (i := 736) (by decide +kernel), List.mem_of_getElem? (i := 737) (by decide +kernel)⟩
theorem lw_p37 : lw_okq (⟨"FlapDamperModel", "heldOnes", "()I"⟩, 9) := ⟨⟨by decide +kernel, by decide +kernel⟩, List.mem_of_getElem? (i := 571) (by decide +kernel), List.mem_of_getElem? (i := 740) (by decide +kernel), List.mem_of_getElem? (i := 741) (by decide +kernel)⟩
def lw_privs_3 : List (MethodName × Nat) := [(⟨"FlapDamperModel", "addCause", "(II)V"⟩, 9), (⟨"FlapDamperModel", "writeNumber", "(I)V"⟩, 9), (⟨"FlapDamperModel", "dueAfter", "(II)I"⟩, 9), (⟨"FlapDamperModel", "lookAtBest", "()V"⟩, 9), (⟨"FlapDamperModel", "lookAtRecords", "()V"⟩, 9), (⟨"FlapDamperModel", "heldOnes", "()I"⟩, 9)]
theorem lw_r3 : ∀ q ∈ lw_privs_3, lw_okq q := List.forall_mem_cons.mpr ⟨lw_p32, List.forall_mem_cons.mpr ⟨lw_p33, List.forall_mem_cons.mpr ⟨lw_p34, List.forall_mem_cons.mpr ⟨lw_p35, List.forall_mem_cons.mpr ⟨lw_p36, List.forall_mem_cons.mpr ⟨lw_p37, fun _ h => absurd h List.not_mem_nil⟩⟩⟩⟩⟩⟩
def lw_privs : List (MethodName × Nat) := lw_privs_1 ++ (lw_privs_2 ++ (lw_privs_3))
def lw_tbl : List Cond := k2_sels lw_privs ++ tables_1
theorem lw_privs_ok : ∀ q ∈ lw_privs, lw_okq q := by
  show ∀ q ∈ lw_privs_1 ++ (lw_privs_2 ++ (lw_privs_3)), lw_okq q
  exact List.forall_mem_append.mpr ⟨lw_r1, List.forall_mem_append.mpr ⟨lw_r2, lw_r3⟩⟩

/-! ===== BEGIN words of one list among another's, by their places ===== -/
theorem goodIn_r {big : List Cond} (ws : List Cond) (ps : List Nat) (hp : ws = ps.filterMap (fun i => big[i]?)) (h : ws.all goodWord = true) : GoodIn big ws := by
  intro w hw
  have h1 := List.all_eq_true.mp h w hw
  rw [hp] at hw
  obtain ⟨i, -, hi⟩ := List.mem_filterMap.mp hw
  have hm : w ∈ big := by first | exact List.mem_of_getElem? hi | exact List.getElem?_mem hi
  exact ⟨hm, good_of_word h1⟩
theorem goodIn_app {big a b : List Cond} (ha : GoodIn big a) (hb : GoodIn big b) : GoodIn big (a ++ b) := fun w h => (List.mem_append.mp h).elim (ha w) (hb w)
theorem goodIn_ca {big a b : List Cond} {c : Cond} (ha : GoodIn big (c :: a)) (hb : GoodIn big b) : GoodIn big (c :: (a ++ b)) := fun w h => (List.mem_cons.mp h).elim (fun e => ha w (List.mem_cons.mpr (Or.inl e))) (fun h => (List.mem_append.mp h).elim (fun h => ha w (List.mem_cons.mpr (Or.inr h))) (hb w))
theorem goodIn_sub {big ws : List Cond} (hm : ∀ w ∈ ws, w ∈ big) (h : ws.all goodWord = true) : GoodIn big ws := fun w hw => ⟨hm w hw, good_of_word (List.all_eq_true.mp h w hw)⟩
/-! ===== END ===== -/

/-! ===== BEGIN printed: names, fields, word lists, decode rows ===== -/
def RX0 : String := "FlapDamper$Bounds"
def TX0 : u_T := fun k => match k with
  | _ => ("FlapDamper$Bounds", "values", "[I", true)
def tyX0 : Nat → FieldType := fun k => match k with
  | _ => .array .int
abbrev wsX00 : List Cond := u_ws RX0 TX0 1
theorem nmX0 : ∀ a, a < 1 → ∀ b, b < 1 → a ≠ b → (TX0 a).2.1 ≠ (TX0 b).2.1 := by decide +kernel
theorem tyX0_ok : ∀ k, k < 1 → parseFieldDescriptor (TX0 k).2.2.1 = some (tyX0 k) := by decide +kernel
abbrev cX0_init : ByteArray := prog_2_method_1_code
def yX0_init : MethodName := ⟨RX0, "<init>", "()V"⟩
abbrev cX0_replace : ByteArray := prog_2_method_2_code
def yX0_replace : MethodName := ⟨RX0, "replace", "(II)I"⟩
abbrev cX0_lessened : ByteArray := prog_2_method_3_code
def yX0_lessened : MethodName := ⟨RX0, "lessened", "(II)I"⟩
abbrev cX0_copyFrom : ByteArray := prog_2_method_4_code
def yX0_copyFrom : MethodName := ⟨RX0, "copyFrom", "(LFlapDamper$Bounds;)V"⟩
def RX1 : String := "FlapDamper$Lines"
def TX1 : u_T := fun k => match k with
  | 0 => ("FlapDamper$Lines", "signs", "[I", true)
  | 1 => ("FlapDamper$Lines", "lengths", "[I", true)
  | 2 => ("FlapDamper$Lines", "newest", "I", false)
  | _ => ("FlapDamper$Lines", "written", "I", false)
def tyX1 : Nat → FieldType := fun k => match k with
  | 0 => .array .int
  | 1 => .array .int
  | 2 => .int
  | _ => .int
abbrev wsX10 : List Cond := u_ws RX1 TX1 4
theorem nmX1 : ∀ a, a < 4 → ∀ b, b < 4 → a ≠ b → (TX1 a).2.1 ≠ (TX1 b).2.1 := by decide +kernel
theorem tyX1_ok : ∀ k, k < 4 → parseFieldDescriptor (TX1 k).2.2.1 = some (tyX1 k) := by decide +kernel
abbrev cX1_init : ByteArray := prog_3_method_1_code
def yX1_init : MethodName := ⟨RX1, "<init>", "()V"⟩
abbrev cX1_begin : ByteArray := prog_3_method_2_code
def yX1_begin : MethodName := ⟨RX1, "begin", "(II)V"⟩
abbrev cX1_put : ByteArray := prog_3_method_3_code
def yX1_put : MethodName := ⟨RX1, "put", "(I)V"⟩
abbrev cX1_putNumber : ByteArray := prog_3_method_4_code
def yX1_putNumber : MethodName := ⟨RX1, "putNumber", "(I)V"⟩
abbrev cX1_tell : ByteArray := prog_3_method_5_code
def yX1_tell : MethodName := ⟨RX1, "tell", "(II)I"⟩
abbrev cX1_copyFrom : ByteArray := prog_3_method_6_code
def yX1_copyFrom : MethodName := ⟨RX1, "copyFrom", "(LFlapDamper$Lines;)V"⟩
def RX2 : String := "FlapDamper$RecordList"
def TX2 : u_T := fun k => match k with
  | 0 => ("FlapDamper$RecordList", "rows", "[LFlapDamper$RouteRecord;", true)
  | 1 => ("FlapDamper$RecordList", "size", "I", false)
  | _ => ("FlapDamper$RecordList", "dropped", "I", false)
def tyX2 : Nat → FieldType := fun k => match k with
  | 0 => .array (.object "FlapDamper$RouteRecord")
  | 1 => .int
  | _ => .int
abbrev wsX20 : List Cond := u_ws RX2 TX2 3
theorem nmX2 : ∀ a, a < 3 → ∀ b, b < 3 → a ≠ b → (TX2 a).2.1 ≠ (TX2 b).2.1 := by decide +kernel
theorem tyX2_ok : ∀ k, k < 3 → parseFieldDescriptor (TX2 k).2.2.1 = some (tyX2 k) := by decide +kernel
abbrev cX2_init : ByteArray := prog_4_method_1_code
def yX2_init : MethodName := ⟨RX2, "<init>", "()V"⟩
abbrev cX2_find : ByteArray := prog_4_method_2_code
def yX2_find : MethodName := ⟨RX2, "find", "(I)LFlapDamper$RouteRecord;"⟩
abbrev cX2_make : ByteArray := prog_4_method_3_code
def yX2_make : MethodName := ⟨RX2, "make", "(II)LFlapDamper$RouteRecord;"⟩
abbrev cX2_dropFirstFree : ByteArray := prog_4_method_4_code
def yX2_dropFirstFree : MethodName := ⟨RX2, "dropFirstFree", "()Z"⟩
abbrev cX2_drop : ByteArray := prog_4_method_5_code
def yX2_drop : MethodName := ⟨RX2, "drop", "(I)V"⟩
abbrev cX2_heldOnes : ByteArray := prog_4_method_6_code
def yX2_heldOnes : MethodName := ⟨RX2, "heldOnes", "()I"⟩
abbrev cX2_copyFrom : ByteArray := prog_4_method_7_code
def yX2_copyFrom : MethodName := ⟨RX2, "copyFrom", "(LFlapDamper$RecordList;)V"⟩
def RX3 : String := "FlapDamper$RouteRecord"
def TX3 : u_T := fun k => match k with
  | 0 => ("FlapDamper$RouteRecord", "route", "I", false)
  | 1 => ("FlapDamper$RouteRecord", "figure", "I", false)
  | 2 => ("FlapDamper$RouteRecord", "told", "I", false)
  | 3 => ("FlapDamper$RouteRecord", "held", "Z", false)
  | 4 => ("FlapDamper$RouteRecord", "due", "I", false)
  | 5 => ("FlapDamper$RouteRecord", "causes", "[I", true)
  | _ => ("FlapDamper$RouteRecord", "causeCount", "I", false)
def tyX3 : Nat → FieldType := fun k => match k with
  | 0 => .int
  | 1 => .int
  | 2 => .int
  | 3 => .boolean
  | 4 => .int
  | 5 => .array .int
  | _ => .int
abbrev wsX30 : List Cond := u_ws RX3 TX3 7
theorem nmX3 : ∀ a, a < 7 → ∀ b, b < 7 → a ≠ b → (TX3 a).2.1 ≠ (TX3 b).2.1 := by decide +kernel
theorem tyX3_ok : ∀ k, k < 7 → parseFieldDescriptor (TX3 k).2.2.1 = some (tyX3 k) := by decide +kernel
abbrev cX3_init : ByteArray := prog_5_method_1_code
def yX3_init : MethodName := ⟨RX3, "<init>", "()V"⟩
abbrev cX3_begin : ByteArray := prog_5_method_2_code
def yX3_begin : MethodName := ⟨RX3, "begin", "(II)V"⟩
abbrev cX3_hasCause : ByteArray := prog_5_method_3_code
def yX3_hasCause : MethodName := ⟨RX3, "hasCause", "(I)Z"⟩
abbrev cX3_addCause : ByteArray := prog_5_method_4_code
def yX3_addCause : MethodName := ⟨RX3, "addCause", "(I)V"⟩
abbrev cX3_copyFrom : ByteArray := prog_5_method_5_code
def yX3_copyFrom : MethodName := ⟨RX3, "copyFrom", "(LFlapDamper$RouteRecord;)V"⟩
def RX4 : String := "FlapDamper$State"
def TX4 : u_T := fun k => match k with
  | 0 => ("FlapDamper$State", "bounds", "LFlapDamper$Bounds;", true)
  | 1 => ("FlapDamper$State", "records", "LFlapDamper$RecordList;", true)
  | 2 => ("FlapDamper$State", "lines", "LFlapDamper$Lines;", true)
  | 3 => ("FlapDamper$State", "paths", "[I", true)
  | 4 => ("FlapDamper$State", "bests", "[I", true)
  | 5 => ("FlapDamper$State", "changes", "[I", true)
  | 6 => ("FlapDamper$State", "tick", "I", false)
  | 7 => ("FlapDamper$State", "events", "I", false)
  | 8 => ("FlapDamper$State", "echoes", "I", false)
  | 9 => ("FlapDamper$State", "lost", "I", false)
  | _ => ("FlapDamper$State", "letGo", "I", false)
def tyX4 : Nat → FieldType := fun k => match k with
  | 0 => .object "FlapDamper$Bounds"
  | 1 => .object "FlapDamper$RecordList"
  | 2 => .object "FlapDamper$Lines"
  | 3 => .array .int
  | 4 => .array .int
  | 5 => .array .int
  | 6 => .int
  | 7 => .int
  | 8 => .int
  | 9 => .int
  | _ => .int
abbrev wsX40 : List Cond := u_ws RX4 TX4 11
theorem nmX4 : ∀ a, a < 11 → ∀ b, b < 11 → a ≠ b → (TX4 a).2.1 ≠ (TX4 b).2.1 := by decide +kernel
theorem tyX4_ok : ∀ k, k < 11 → parseFieldDescriptor (TX4 k).2.2.1 = some (tyX4 k) := by decide +kernel
abbrev cX4_init : ByteArray := prog_6_method_1_code
def yX4_init : MethodName := ⟨RX4, "<init>", "()V"⟩
abbrev cX4_happen : ByteArray := prog_6_method_2_code
def yX4_happen : MethodName := ⟨RX4, "happen", "(III)I"⟩
abbrev cX4_weigh : ByteArray := prog_6_method_3_code
def yX4_weigh : MethodName := ⟨RX4, "weigh", "(II)I"⟩
abbrev cX4_judge : ByteArray := prog_6_method_4_code
def yX4_judge : MethodName := ⟨RX4, "judge", "(III)I"⟩
abbrev cX4_addTo : ByteArray := prog_6_method_5_code
def yX4_addTo : MethodName := ⟨RX4, "addTo", "(LFlapDamper$RouteRecord;II)I"⟩
abbrev cX4_writeEvent : ByteArray := prog_6_method_6_code
def yX4_writeEvent : MethodName := ⟨RX4, "writeEvent", "(III)V"⟩
abbrev cX4_penaltyAt : ByteArray := prog_6_method_7_code
def yX4_penaltyAt : MethodName := ⟨RX4, "penaltyAt", "(LFlapDamper$RouteRecord;I)I"⟩
abbrev cX4_isBelowBack : ByteArray := prog_6_method_8_code
def yX4_isBelowBack : MethodName := ⟨RX4, "isBelowBack", "(LFlapDamper$RouteRecord;I)Z"⟩
abbrev cX4_dueAfter : ByteArray := prog_6_method_9_code
def yX4_dueAfter : MethodName := ⟨RX4, "dueAfter", "(LFlapDamper$RouteRecord;I)I"⟩
abbrev cX4_isLookedAt : ByteArray := prog_6_method_10_code
def yX4_isLookedAt : MethodName := ⟨RX4, "isLookedAt", "(I)Z"⟩
abbrev cX4_nextTick : ByteArray := prog_6_method_11_code
def yX4_nextTick : MethodName := ⟨RX4, "nextTick", "()V"⟩
abbrev cX4_lookAt : ByteArray := prog_6_method_12_code
def yX4_lookAt : MethodName := ⟨RX4, "lookAt", "(LFlapDamper$RouteRecord;)V"⟩
abbrev cX4_dropSmallOnes : ByteArray := prog_6_method_13_code
def yX4_dropSmallOnes : MethodName := ⟨RX4, "dropSmallOnes", "()V"⟩
abbrev cX4_letGoAt : ByteArray := prog_6_method_14_code
def yX4_letGoAt : MethodName := ⟨RX4, "letGoAt", "(LFlapDamper$RouteRecord;)I"⟩
abbrev cX4_refreshBest : ByteArray := prog_6_method_15_code
def yX4_refreshBest : MethodName := ⟨RX4, "refreshBest", "(I)V"⟩
abbrev cX4_findBest : ByteArray := prog_6_method_16_code
def yX4_findBest : MethodName := ⟨RX4, "findBest", "(I)I"⟩
abbrev cX4_isHeld : ByteArray := prog_6_method_17_code
def yX4_isHeld : MethodName := ⟨RX4, "isHeld", "(LFlapDamper$RouteRecord;)Z"⟩
abbrev cX4_tellRecord : ByteArray := prog_6_method_18_code
def yX4_tellRecord : MethodName := ⟨RX4, "tellRecord", "(LFlapDamper$RouteRecord;I)I"⟩
abbrev cX4_tellBest : ByteArray := prog_6_method_19_code
def yX4_tellBest : MethodName := ⟨RX4, "tellBest", "(II)I"⟩
abbrev cX4_tellCount : ByteArray := prog_6_method_20_code
def yX4_tellCount : MethodName := ⟨RX4, "tellCount", "(I)I"⟩
abbrev cX4_copyFrom : ByteArray := prog_6_method_21_code
def yX4_copyFrom : MethodName := ⟨RX4, "copyFrom", "(LFlapDamper$State;)V"⟩
def RX5 : String := "FlapDamper$Text"
def TX5 : u_T := fun k => match k with
  | 0 => ("FlapDamper$Text", "signs", "[I", true)
  | _ => ("FlapDamper$Text", "length", "I", false)
def tyX5 : Nat → FieldType := fun k => match k with
  | 0 => .array .int
  | _ => .int
abbrev wsX50 : List Cond := u_ws RX5 TX5 2
theorem nmX5 : ∀ a, a < 2 → ∀ b, b < 2 → a ≠ b → (TX5 a).2.1 ≠ (TX5 b).2.1 := by decide +kernel
theorem tyX5_ok : ∀ k, k < 2 → parseFieldDescriptor (TX5 k).2.2.1 = some (tyX5 k) := by decide +kernel
abbrev cX5_init : ByteArray := prog_7_method_1_code
def yX5_init : MethodName := ⟨RX5, "<init>", "()V"⟩
abbrev cX5_append : ByteArray := prog_7_method_2_code
def yX5_append : MethodName := ⟨RX5, "append", "(I)Z"⟩
abbrev cX5_clear : ByteArray := prog_7_method_3_code
def yX5_clear : MethodName := ⟨RX5, "clear", "()I"⟩
abbrev cX5_findFault : ByteArray := prog_7_method_4_code
def yX5_findFault : MethodName := ⟨RX5, "findFault", "()I"⟩
abbrev cX5_toldBound : ByteArray := prog_7_method_5_code
def yX5_toldBound : MethodName := ⟨RX5, "toldBound", "()I"⟩
abbrev cX5_toldNumber : ByteArray := prog_7_method_6_code
def yX5_toldNumber : MethodName := ⟨RX5, "toldNumber", "()I"⟩
abbrev cX5_tells : ByteArray := prog_7_method_7_code
def yX5_tells : MethodName := ⟨RX5, "tells", "(Ljava/lang/String;)Z"⟩
abbrev cX5_fittingSigns : ByteArray := prog_7_method_8_code
def yX5_fittingSigns : MethodName := ⟨RX5, "fittingSigns", "(Ljava/lang/String;)I"⟩
abbrev cX5_fits : ByteArray := prog_7_method_9_code
def yX5_fits : MethodName := ⟨RX5, "fits", "(Ljava/lang/String;I)Z"⟩
abbrev cX5_isFigure : ByteArray := prog_7_method_10_code
def yX5_isFigure : MethodName := ⟨RX5, "isFigure", "(I)Z"⟩
abbrev cX5_nameOf : ByteArray := prog_7_method_11_code
def yX5_nameOf : MethodName := ⟨RX5, "nameOf", "(I)Ljava/lang/String;"⟩
def RX6 : String := "FlapDamper"
def TX6 : u_T := fun k => match k with
  | 0 => ("FlapDamper", "text", "LFlapDamper$Text;", true)
  | 1 => ("FlapDamper", "now", "LFlapDamper$State;", true)
  | 2 => ("FlapDamper", "firstImage", "LFlapDamper$State;", true)
  | 3 => ("FlapDamper", "secondImage", "LFlapDamper$State;", true)
  | _ => ("FlapDamper", "kept", "[Z", true)
def tyX6 : Nat → FieldType := fun k => match k with
  | 0 => .object "FlapDamper$Text"
  | 1 => .object "FlapDamper$State"
  | 2 => .object "FlapDamper$State"
  | 3 => .object "FlapDamper$State"
  | _ => .array .boolean
abbrev wsX60 : List Cond := u_ws RX6 TX6 5
theorem nmX6 : ∀ a, a < 5 → ∀ b, b < 5 → a ≠ b → (TX6 a).2.1 ≠ (TX6 b).2.1 := by decide +kernel
theorem tyX6_ok : ∀ k, k < 5 → parseFieldDescriptor (TX6 k).2.2.1 = some (tyX6 k) := by decide +kernel
abbrev cX6_init : ByteArray := prog_1_method_1_code
def yX6_init : MethodName := ⟨RX6, "<init>", "()V"⟩
abbrev cX6_say : ByteArray := prog_1_method_2_code
def yX6_say : MethodName := ⟨RX6, "say", "(I)I"⟩
abbrev cX6_wipe : ByteArray := prog_1_method_3_code
def yX6_wipe : MethodName := ⟨RX6, "wipe", "()I"⟩
abbrev cX6_fault : ByteArray := prog_1_method_4_code
def yX6_fault : MethodName := ⟨RX6, "fault", "()I"⟩
abbrev cX6_set : ByteArray := prog_1_method_5_code
def yX6_set : MethodName := ⟨RX6, "set", "()I"⟩
abbrev cX6_bound : ByteArray := prog_1_method_6_code
def yX6_bound : MethodName := ⟨RX6, "bound", "(I)I"⟩
abbrev cX6_announce : ByteArray := prog_1_method_7_code
def yX6_announce : MethodName := ⟨RX6, "announce", "(IIII)I"⟩
abbrev cX6_withdraw : ByteArray := prog_1_method_8_code
def yX6_withdraw : MethodName := ⟨RX6, "withdraw", "(III)I"⟩
abbrev cX6_pass : ByteArray := prog_1_method_9_code
def yX6_pass : MethodName := ⟨RX6, "pass", "(I)I"⟩
abbrev cX6_route : ByteArray := prog_1_method_10_code
def yX6_route : MethodName := ⟨RX6, "route", "(III)I"⟩
abbrev cX6_later : ByteArray := prog_1_method_11_code
def yX6_later : MethodName := ⟨RX6, "later", "(III)I"⟩
abbrev cX6_when : ByteArray := prog_1_method_12_code
def yX6_when : MethodName := ⟨RX6, "when", "(II)I"⟩
abbrev cX6_longest : ByteArray := prog_1_method_13_code
def yX6_longest : MethodName := ⟨RX6, "longest", "()I"⟩
abbrev cX6_best : ByteArray := prog_1_method_14_code
def yX6_best : MethodName := ⟨RX6, "best", "(II)I"⟩
abbrev cX6_record : ByteArray := prog_1_method_15_code
def yX6_record : MethodName := ⟨RX6, "record", "(I)I"⟩
abbrev cX6_line : ByteArray := prog_1_method_16_code
def yX6_line : MethodName := ⟨RX6, "line", "(II)I"⟩
abbrev cX6_count : ByteArray := prog_1_method_17_code
def yX6_count : MethodName := ⟨RX6, "count", "(I)I"⟩
abbrev cX6_image : ByteArray := prog_1_method_18_code
def yX6_image : MethodName := ⟨RX6, "image", "(I)I"⟩
abbrev cX6_restore : ByteArray := prog_1_method_19_code
def yX6_restore : MethodName := ⟨RX6, "restore", "(I)I"⟩
abbrev cX6_imageOf : ByteArray := prog_1_method_20_code
def yX6_imageOf : MethodName := ⟨RX6, "imageOf", "(I)LFlapDamper$State;"⟩
abbrev cX6_keptImages : ByteArray := prog_1_method_21_code
def yX6_keptImages : MethodName := ⟨RX6, "keptImages", "()I"⟩
abbrev cX6_isWithin : ByteArray := prog_1_method_22_code
def yX6_isWithin : MethodName := ⟨RX6, "isWithin", "(III)Z"⟩
abbrev cX6_isRoute : ByteArray := prog_1_method_23_code
def yX6_isRoute : MethodName := ⟨RX6, "isRoute", "(II)Z"⟩
abbrev cX6_routeOf : ByteArray := prog_1_method_24_code
def yX6_routeOf : MethodName := ⟨RX6, "routeOf", "(II)I"⟩
def RX7 : String := "FlapDamperModel"
def TX7 : u_T := fun k => match k with
  | 0 => ("FlapDamperModel", "row", "[I", true)
  | 1 => ("FlapDamperModel", "names", "[I", true)
  | 2 => ("FlapDamperModel", "lows", "[I", true)
  | 3 => ("FlapDamperModel", "highs", "[I", true)
  | 4 => ("FlapDamperModel", "state", "[I", true)
  | 5 => ("FlapDamperModel", "images", "[I", true)
  | 6 => ("FlapDamperModel", "isKept", "[Z", true)
  | 7 => ("FlapDamperModel", "text", "[I", true)
  | _ => ("FlapDamperModel", "signs", "I", false)
def tyX7 : Nat → FieldType := fun k => match k with
  | 0 => .array .int
  | 1 => .array .int
  | 2 => .array .int
  | 3 => .array .int
  | 4 => .array .int
  | 5 => .array .int
  | 6 => .array .boolean
  | 7 => .array .int
  | _ => .int
abbrev wsX70 : List Cond := u_ws RX7 TX7 9
theorem nmX7 : ∀ a, a < 9 → ∀ b, b < 9 → a ≠ b → (TX7 a).2.1 ≠ (TX7 b).2.1 := by decide +kernel
theorem tyX7_ok : ∀ k, k < 9 → parseFieldDescriptor (TX7 k).2.2.1 = some (tyX7 k) := by decide +kernel
abbrev cX7_init : ByteArray := prog_9_method_1_code
def yX7_init : MethodName := ⟨RX7, "<init>", "()V"⟩
abbrev cX7_in : ByteArray := prog_9_method_2_code
def yX7_in : MethodName := ⟨RX7, "in", "(III)Z"⟩
abbrev cX7_bounded : ByteArray := prog_9_method_3_code
def yX7_bounded : MethodName := ⟨RX7, "bounded", "(I)I"⟩
abbrev cX7_say : ByteArray := prog_9_method_4_code
def yX7_say : MethodName := ⟨RX7, "say", "(I)I"⟩
abbrev cX7_wipe : ByteArray := prog_9_method_5_code
def yX7_wipe : MethodName := ⟨RX7, "wipe", "()I"⟩
abbrev cX7_size : ByteArray := prog_9_method_6_code
def yX7_size : MethodName := ⟨RX7, "size", "(I)I"⟩
abbrev cX7_isFigure : ByteArray := prog_9_method_7_code
def yX7_isFigure : MethodName := ⟨RX7, "isFigure", "(I)Z"⟩
abbrev cX7_fitting : ByteArray := prog_9_method_8_code
def yX7_fitting : MethodName := ⟨RX7, "fitting", "(I)I"⟩
abbrev cX7_told : ByteArray := prog_9_method_9_code
def yX7_told : MethodName := ⟨RX7, "told", "()I"⟩
abbrev cX7_faultNow : ByteArray := prog_9_method_10_code
def yX7_faultNow : MethodName := ⟨RX7, "faultNow", "()I"⟩
abbrev cX7_fault : ByteArray := prog_9_method_11_code
def yX7_fault : MethodName := ⟨RX7, "fault", "()I"⟩
abbrev cX7_set : ByteArray := prog_9_method_12_code
def yX7_set : MethodName := ⟨RX7, "set", "()I"⟩
abbrev cX7_bound : ByteArray := prog_9_method_13_code
def yX7_bound : MethodName := ⟨RX7, "bound", "(I)I"⟩
abbrev cX7_at : ByteArray := prog_9_method_14_code
def yX7_at : MethodName := ⟨RX7, "at", "(II)I"⟩
abbrev cX7_recordOf : ByteArray := prog_9_method_15_code
def yX7_recordOf : MethodName := ⟨RX7, "recordOf", "(I)I"⟩
abbrev cX7_isHeld : ByteArray := prog_9_method_16_code
def yX7_isHeld : MethodName := ⟨RX7, "isHeld", "(I)Z"⟩
abbrev cX7_lessened : ByteArray := prog_9_method_17_code
def yX7_lessened : MethodName := ⟨RX7, "lessened", "(II)I"⟩
abbrev cX7_penaltyAt : ByteArray := prog_9_method_18_code
def yX7_penaltyAt : MethodName := ⟨RX7, "penaltyAt", "(II)I"⟩
abbrev cX7_dueAfter : ByteArray := prog_9_method_19_code
def yX7_dueAfter : MethodName := ⟨RX7, "dueAfter", "(II)I"⟩
abbrev cX7_remove : ByteArray := prog_9_method_20_code
def yX7_remove : MethodName := ⟨RX7, "remove", "(I)V"⟩
abbrev cX7_makeRecord : ByteArray := prog_9_method_21_code
def yX7_makeRecord : MethodName := ⟨RX7, "makeRecord", "(I)I"⟩
abbrev cX7_isCounted : ByteArray := prog_9_method_22_code
def yX7_isCounted : MethodName := ⟨RX7, "isCounted", "(II)Z"⟩
abbrev cX7_addCause : ByteArray := prog_9_method_23_code
def yX7_addCause : MethodName := ⟨RX7, "addCause", "(II)V"⟩
abbrev cX7_lineAt : ByteArray := prog_9_method_24_code
def yX7_lineAt : MethodName := ⟨RX7, "lineAt", "(II)I"⟩
abbrev cX7_write : ByteArray := prog_9_method_25_code
def yX7_write : MethodName := ⟨RX7, "write", "(I)V"⟩
abbrev cX7_writeNumber : ByteArray := prog_9_method_26_code
def yX7_writeNumber : MethodName := ⟨RX7, "writeNumber", "(I)V"⟩
abbrev cX7_beginLine : ByteArray := prog_9_method_27_code
def yX7_beginLine : MethodName := ⟨RX7, "beginLine", "(II)V"⟩
abbrev cX7_lookAtBest : ByteArray := prog_9_method_28_code
def yX7_lookAtBest : MethodName := ⟨RX7, "lookAtBest", "()V"⟩
abbrev cX7_meet : ByteArray := prog_9_method_29_code
def yX7_meet : MethodName := ⟨RX7, "meet", "(III)I"⟩
abbrev cX7_isRoute : ByteArray := prog_9_method_30_code
def yX7_isRoute : MethodName := ⟨RX7, "isRoute", "(II)Z"⟩
abbrev cX7_announce : ByteArray := prog_9_method_31_code
def yX7_announce : MethodName := ⟨RX7, "announce", "(IIII)I"⟩
abbrev cX7_withdraw : ByteArray := prog_9_method_32_code
def yX7_withdraw : MethodName := ⟨RX7, "withdraw", "(III)I"⟩
abbrev cX7_lookAtRecords : ByteArray := prog_9_method_33_code
def yX7_lookAtRecords : MethodName := ⟨RX7, "lookAtRecords", "()V"⟩
abbrev cX7_heldOnes : ByteArray := prog_9_method_34_code
def yX7_heldOnes : MethodName := ⟨RX7, "heldOnes", "()I"⟩
abbrev cX7_pass : ByteArray := prog_9_method_35_code
def yX7_pass : MethodName := ⟨RX7, "pass", "(I)I"⟩
abbrev cX7_route : ByteArray := prog_9_method_36_code
def yX7_route : MethodName := ⟨RX7, "route", "(III)I"⟩
abbrev cX7_later : ByteArray := prog_9_method_37_code
def yX7_later : MethodName := ⟨RX7, "later", "(III)I"⟩
abbrev cX7_when : ByteArray := prog_9_method_38_code
def yX7_when : MethodName := ⟨RX7, "when", "(II)I"⟩
abbrev cX7_longest : ByteArray := prog_9_method_39_code
def yX7_longest : MethodName := ⟨RX7, "longest", "()I"⟩
abbrev cX7_best : ByteArray := prog_9_method_40_code
def yX7_best : MethodName := ⟨RX7, "best", "(II)I"⟩
abbrev cX7_record : ByteArray := prog_9_method_41_code
def yX7_record : MethodName := ⟨RX7, "record", "(I)I"⟩
abbrev cX7_line : ByteArray := prog_9_method_42_code
def yX7_line : MethodName := ⟨RX7, "line", "(II)I"⟩
abbrev cX7_count : ByteArray := prog_9_method_43_code
def yX7_count : MethodName := ⟨RX7, "count", "(I)I"⟩
abbrev cX7_image : ByteArray := prog_9_method_44_code
def yX7_image : MethodName := ⟨RX7, "image", "(I)I"⟩
abbrev cX7_restore : ByteArray := prog_9_method_45_code
def yX7_restore : MethodName := ⟨RX7, "restore", "(I)I"⟩
def RJx145de : String := "java/io/Serializable"
def TJx145de : u_T := fun k => match k with
  | _ => ("", "", "", false)
def tyJx145de : Nat → FieldType := fun k => match k with
  | _ => .int
abbrev wsJx145de0 : List Cond := u_ws RJx145de TJx145de 0
theorem nmJx145de : ∀ a, a < 0 → ∀ b, b < 0 → a ≠ b → (TJx145de a).2.1 ≠ (TJx145de b).2.1 := by decide +kernel
theorem tyJx145de_ok : ∀ k, k < 0 → parseFieldDescriptor (TJx145de k).2.2.1 = some (tyJx145de k) := by decide +kernel
def RJx9f9b0 : String := "java/lang/CharSequence"
def TJx9f9b0 : u_T := fun k => match k with
  | _ => ("", "", "", false)
def tyJx9f9b0 : Nat → FieldType := fun k => match k with
  | _ => .int
abbrev wsJx9f9b00 : List Cond := u_ws RJx9f9b0 TJx9f9b0 0
theorem nmJx9f9b0 : ∀ a, a < 0 → ∀ b, b < 0 → a ≠ b → (TJx9f9b0 a).2.1 ≠ (TJx9f9b0 b).2.1 := by decide +kernel
theorem tyJx9f9b0_ok : ∀ k, k < 0 → parseFieldDescriptor (TJx9f9b0 k).2.2.1 = some (tyJx9f9b0 k) := by decide +kernel
def RJx8e188 : String := "java/lang/Cloneable"
def TJx8e188 : u_T := fun k => match k with
  | _ => ("", "", "", false)
def tyJx8e188 : Nat → FieldType := fun k => match k with
  | _ => .int
abbrev wsJx8e1880 : List Cond := u_ws RJx8e188 TJx8e188 0
theorem nmJx8e188 : ∀ a, a < 0 → ∀ b, b < 0 → a ≠ b → (TJx8e188 a).2.1 ≠ (TJx8e188 b).2.1 := by decide +kernel
theorem tyJx8e188_ok : ∀ k, k < 0 → parseFieldDescriptor (TJx8e188 k).2.2.1 = some (tyJx8e188 k) := by decide +kernel
def RJxb160c : String := "java/lang/Comparable"
def TJxb160c : u_T := fun k => match k with
  | _ => ("", "", "", false)
def tyJxb160c : Nat → FieldType := fun k => match k with
  | _ => .int
abbrev wsJxb160c0 : List Cond := u_ws RJxb160c TJxb160c 0
theorem nmJxb160c : ∀ a, a < 0 → ∀ b, b < 0 → a ≠ b → (TJxb160c a).2.1 ≠ (TJxb160c b).2.1 := by decide +kernel
theorem tyJxb160c_ok : ∀ k, k < 0 → parseFieldDescriptor (TJxb160c k).2.2.1 = some (tyJxb160c k) := by decide +kernel
def RJ9 : String := "java/lang/Math"
def TJ9 : u_T := fun k => match k with
  | _ => ("", "", "", false)
def tyJ9 : Nat → FieldType := fun k => match k with
  | _ => .int
abbrev wsJ90 : List Cond := u_ws RJ9 TJ9 0
theorem nmJ9 : ∀ a, a < 0 → ∀ b, b < 0 → a ≠ b → (TJ9 a).2.1 ≠ (TJ9 b).2.1 := by decide +kernel
theorem tyJ9_ok : ∀ k, k < 0 → parseFieldDescriptor (TJ9 k).2.2.1 = some (tyJ9 k) := by decide +kernel
abbrev cJ9_max_7cf53 : ByteArray := prog_11_method_65_code
def yJ9_max_7cf53 : MethodName := ⟨RJ9, "max", "(II)I"⟩
abbrev cJ9_min_7cf53 : ByteArray := prog_11_method_69_code
def yJ9_min_7cf53 : MethodName := ⟨RJ9, "min", "(II)I"⟩
def RJ0 : String := "java/lang/String"
def TJ0 : u_T := fun k => match k with
  | _ => ("", "", "", false)
def tyJ0 : Nat → FieldType := fun k => match k with
  | _ => .int
abbrev wsJ00 : List Cond := u_ws RJ0 TJ0 0
theorem nmJ0 : ∀ a, a < 0 → ∀ b, b < 0 → a ≠ b → (TJ0 a).2.1 ≠ (TJ0 b).2.1 := by decide +kernel
theorem tyJ0_ok : ∀ k, k < 0 → parseFieldDescriptor (TJ0 k).2.2.1 = some (tyJ0 k) := by decide +kernel
abbrev cJ0_length_8abf5 : ByteArray := prog_12_method_54_code
def yJ0_length_8abf5 : MethodName := ⟨RJ0, "length", "()I"⟩
abbrev cJ0_charAt_5068e : ByteArray := prog_12_method_56_code
def yJ0_charAt_5068e : MethodName := ⟨RJ0, "charAt", "(I)C"⟩
abbrev cJ0_coder_7d493 : ByteArray := prog_12_method_152_code
def yJ0_coder_7d493 : MethodName := ⟨RJ0, "coder", "()B"⟩
abbrev cJ0_isLatin1_aae02 : ByteArray := prog_12_method_154_code
def yJ0_isLatin1_aae02 : MethodName := ⟨RJ0, "isLatin1", "()Z"⟩
abbrev cJ0_checkIndex_df160 : ByteArray := prog_12_method_155_code
def yJ0_checkIndex_df160 : MethodName := ⟨RJ0, "checkIndex", "(II)V"⟩
def RJ1 : String := "java/lang/StringLatin1"
def TJ1 : u_T := fun k => match k with
  | _ => ("", "", "", false)
def tyJ1 : Nat → FieldType := fun k => match k with
  | _ => .int
abbrev wsJ10 : List Cond := u_ws RJ1 TJ1 0
theorem nmJ1 : ∀ a, a < 0 → ∀ b, b < 0 → a ≠ b → (TJ1 a).2.1 ≠ (TJ1 b).2.1 := by decide +kernel
theorem tyJ1_ok : ∀ k, k < 0 → parseFieldDescriptor (TJ1 k).2.2.1 = some (tyJ1 k) := by decide +kernel
abbrev cJ1_charAt_3b067 : ByteArray := prog_13_method_2_code
def yJ1_charAt_3b067 : MethodName := ⟨RJ1, "charAt", "([BI)C"⟩
def RJ2 : String := "java/lang/StringUTF16"
def TJ2 : u_T := fun k => match k with
  | _ => ("", "", "", false)
def tyJ2 : Nat → FieldType := fun k => match k with
  | _ => .int
abbrev wsJ20 : List Cond := u_ws RJ2 TJ2 0
theorem nmJ2 : ∀ a, a < 0 → ∀ b, b < 0 → a ≠ b → (TJ2 a).2.1 ≠ (TJ2 b).2.1 := by decide +kernel
theorem tyJ2_ok : ∀ k, k < 0 → parseFieldDescriptor (TJ2 k).2.2.1 = some (tyJ2 k) := by decide +kernel
abbrev cJ2_getChar_3b067 : ByteArray := prog_14_method_5_code
def yJ2_getChar_3b067 : MethodName := ⟨RJ2, "getChar", "([BI)C"⟩
abbrev cJ2_length_9d52b : ByteArray := prog_14_method_6_code
def yJ2_length_9d52b : MethodName := ⟨RJ2, "length", "([B)I"⟩
abbrev cJ2_charAt_3b067 : ByteArray := prog_14_method_83_code
def yJ2_charAt_3b067 : MethodName := ⟨RJ2, "charAt", "([BI)C"⟩
abbrev cJ2_checkIndex_2214a : ByteArray := prog_14_method_91_code
def yJ2_checkIndex_2214a : MethodName := ⟨RJ2, "checkIndex", "(I[B)V"⟩
def RJ10 : String := "java/lang/System"
def TJ10 : u_T := fun k => match k with
  | _ => ("", "", "", false)
def tyJ10 : Nat → FieldType := fun k => match k with
  | _ => .int
abbrev wsJ100 : List Cond := u_ws RJ10 TJ10 0
theorem nmJ10 : ∀ a, a < 0 → ∀ b, b < 0 → a ≠ b → (TJ10 a).2.1 ≠ (TJ10 b).2.1 := by decide +kernel
theorem tyJ10_ok : ∀ k, k < 0 → parseFieldDescriptor (TJ10 k).2.2.1 = some (tyJ10 k) := by decide +kernel
def RJxfd54e : String := "java/lang/constant/Constable"
def TJxfd54e : u_T := fun k => match k with
  | _ => ("", "", "", false)
def tyJxfd54e : Nat → FieldType := fun k => match k with
  | _ => .int
abbrev wsJxfd54e0 : List Cond := u_ws RJxfd54e TJxfd54e 0
theorem nmJxfd54e : ∀ a, a < 0 → ∀ b, b < 0 → a ≠ b → (TJxfd54e a).2.1 ≠ (TJxfd54e b).2.1 := by decide +kernel
theorem tyJxfd54e_ok : ∀ k, k < 0 → parseFieldDescriptor (TJxfd54e k).2.2.1 = some (tyJxfd54e k) := by decide +kernel
def RJx3cf43 : String := "java/lang/constant/ConstantDesc"
def TJx3cf43 : u_T := fun k => match k with
  | _ => ("", "", "", false)
def tyJx3cf43 : Nat → FieldType := fun k => match k with
  | _ => .int
abbrev wsJx3cf430 : List Cond := u_ws RJx3cf43 TJx3cf43 0
theorem nmJx3cf43 : ∀ a, a < 0 → ∀ b, b < 0 → a ≠ b → (TJx3cf43 a).2.1 ≠ (TJx3cf43 b).2.1 := by decide +kernel
theorem tyJx3cf43_ok : ∀ k, k < 0 → parseFieldDescriptor (TJx3cf43 k).2.2.1 = some (tyJx3cf43 k) := by decide +kernel
def RJ7 : String := "java/util/Arrays"
def TJ7 : u_T := fun k => match k with
  | _ => ("", "", "", false)
def tyJ7 : Nat → FieldType := fun k => match k with
  | _ => .int
abbrev wsJ70 : List Cond := u_ws RJ7 TJ7 0
theorem nmJ7 : ∀ a, a < 0 → ∀ b, b < 0 → a ≠ b → (TJ7 a).2.1 ≠ (TJ7 b).2.1 := by decide +kernel
theorem tyJ7_ok : ∀ k, k < 0 → parseFieldDescriptor (TJ7 k).2.2.1 = some (tyJ7 k) := by decide +kernel
abbrev cJ7_fill_53178 : ByteArray := prog_16_method_103_code
def yJ7_fill_53178 : MethodName := ⟨RJ7, "fill", "([II)V"⟩
def RJ3 : String := "jdk/internal/util/Preconditions"
def TJ3 : u_T := fun k => match k with
  | _ => ("", "", "", false)
def tyJ3 : Nat → FieldType := fun k => match k with
  | _ => .int
abbrev wsJ30 : List Cond := u_ws RJ3 TJ3 0
theorem nmJ3 : ∀ a, a < 0 → ∀ b, b < 0 → a ≠ b → (TJ3 a).2.1 ≠ (TJ3 b).2.1 := by decide +kernel
theorem tyJ3_ok : ∀ k, k < 0 → parseFieldDescriptor (TJ3 k).2.2.1 = some (tyJ3 k) := by decide +kernel
abbrev cJ3_checkIndex_8e157 : ByteArray := prog_17_method_11_code
def yJ3_checkIndex_8e157 : MethodName := ⟨RJ3, "checkIndex", "(IILjava/util/function/BiFunction;)I"⟩
def RL : String := "FlapDamperLaw"
abbrev cL_law : ByteArray := code
def yL_law : MethodName := ⟨RL, "law", "([I)Z"⟩
end
section
/-! ===== THE WORLD: 82 cells at addresses E.2.2 k; what they hold is S k j (cell, place); the object graph is fixed but for the rows of a RecordList ===== -/
abbrev fd_E : Type := va_G × (Nat → ClassId) × (Nat → Nat)
abbrev fd_S : Type := Nat → Int32 → Int32
def fd_up (S : fd_S) (k : Nat) (j v : Int32) : fd_S := fun a b => if a = k then (if b = j then v else S a b) else S a b
def fd_ix (n : Nat) : Int32 := if n < 2147483648 then nI n else -1
def fd_T : List Cond := lw_tbl.filter goodWord
abbrev fd_CL : List vw_C := [(RX0, TX0, 1), (RX1, TX1, 4), (RX2, TX2, 3), (RX3, TX3, 7), (RX4, TX4, 11), (RX5, TX5, 2), (RX6, TX6, 5), (RX7, TX7, 9)]
abbrev fd_ty (E : fd_E) : List (ClassId × FieldType) := [(E.2.1 0, .int), (E.2.1 1, .boolean), (E.2.1 2, .object "FlapDamper$RouteRecord")]
/-- kinds: 0 Bounds, 1 Lines, 2 RecordList, 3 RouteRecord, 4 State, 5 Text, 6 FlapDamper, 7 FlapDamperModel, 8 int[], 9 boolean[], 10 RouteRecord[] -/
def fd_kl : List Nat := [4, 0, 8, 2, 10, 1, 8, 8, 3, 3, 3, 3, 3, 3, 8, 8, 8, 8, 8, 8, 8, 8, 8, 4, 0, 8, 2, 10, 1, 8, 8, 3, 3, 3, 3, 3, 3, 8, 8, 8, 8, 8, 8, 8, 8, 8, 4, 0, 8, 2, 10, 1, 8, 8, 3, 3, 3, 3, 3, 3, 8, 8, 8, 8, 8, 8, 8, 8, 8, 6, 9, 5, 8, 7, 8, 8, 8, 8, 8, 8, 9, 8]
def fd_ll : List Nat := [0, 0, 7, 0, 6, 0, 120, 6, 0, 0, 0, 0, 0, 0, 4, 4, 4, 4, 4, 4, 32, 8, 8, 0, 0, 7, 0, 6, 0, 120, 6, 0, 0, 0, 0, 0, 0, 4, 4, 4, 4, 4, 4, 32, 8, 8, 0, 0, 7, 0, 6, 0, 120, 6, 0, 0, 0, 0, 0, 0, 4, 4, 4, 4, 4, 4, 32, 8, 8, 0, 2, 0, 12, 0, 8, 28, 7, 7, 275, 550, 2, 12]
def fd_kd (k : Nat) : Nat := fd_kl.getD k 99
def fd_ln (k : Nat) : Nat := fd_ll.getD k 0
/-- a record's cell, out of what a row of a RecordList holds -/
def fd_rc (k : Nat) (v : Int32) : Nat := 23 * (k / 23) + 8 + v.toNatClampNeg
def fd_fs (E : fd_E) (S : fd_S) (k : Nat) : Nat → List Value
  | 0 => [.ref (E.2.2 (k + 1))]
  | 1 => [.ref (E.2.2 (k + 1)), .ref (E.2.2 (k + 2)), .int (S k 2), .int (S k 3)]
  | 2 => [.ref (E.2.2 (k + 1)), .int (S k 1), .int (S k 2)]
  | 3 => [.int (S k 0), .int (S k 1), .int (S k 2), .int (S k 3), .int (S k 4), .ref (E.2.2 (k + 6)), .int (S k 6)]
  | 4 => [.ref (E.2.2 (k + 1)), .ref (E.2.2 (k + 3)), .ref (E.2.2 (k + 5)), .ref (E.2.2 (k + 20)), .ref (E.2.2 (k + 21)), .ref (E.2.2 (k + 22)), .int (S k 6), .int (S k 7), .int (S k 8), .int (S k 9), .int (S k 10)]
  | 5 => [.ref (E.2.2 (k + 1)), .int (S k 1)]
  | 6 => [.ref (E.2.2 71), .ref (E.2.2 0), .ref (E.2.2 23), .ref (E.2.2 46), .ref (E.2.2 70)]
  | _ => [.ref (E.2.2 74), .ref (E.2.2 75), .ref (E.2.2 76), .ref (E.2.2 77), .ref (E.2.2 78), .ref (E.2.2 79), .ref (E.2.2 80), .ref (E.2.2 81), .int (S k 8)]
def fd_ceK (E : fd_E) (S : fd_S) (k c : Nat) : va_E :=
  if c = 8 then .inl (E.2.1 0, fd_ln k, .inl (fun n => S k (fd_ix n)))
  else if c = 9 then .inl (E.2.1 1, fd_ln k, .inl (fun n => S k (fd_ix n)))
  else if c = 10 then .inl (E.2.1 2, fd_ln k, .inr (.inr (.inr (.inr (fun n => some (E.2.2 (fd_rc k (S k (fd_ix n)))))))))
  else .inr (c, fd_fs E S k c)
def fd_ce (E : fd_E) (S : fd_S) (k : Nat) : va_E := fd_ceK E S k (fd_kd k)
def fd_ws (E : fd_E) (S : fd_S) : va_W := (List.range 82).map (fun k => (E.2.2 k, fd_ce E S k))
def fd_A (E : fd_E) : Nat → Prop := fun q => ∃ k : Nat, k < 82 ∧ q = E.2.2 k
theorem fd_ws_at (E : fd_E) (S : fd_S) {k c : Nat} (hk : k < 82) (hc : fd_kd k = c) : (fd_ws E S)[k]? = some (E.2.2 k, fd_ceK E S k c) := by
  subst hc
  simp [fd_ws, List.getElem?_map, List.getElem?_range hk, fd_ce]
theorem fd_ws_o (E : fd_E) (S : fd_S) {k c : Nat} (hk : k < 82) (hc : fd_kd k = c) (h8 : c < 8) : (fd_ws E S)[k]? = some (E.2.2 k, .inr (c, fd_fs E S k c)) := by
  rw [fd_ws_at E S hk hc]
  unfold fd_ceK
  rw [if_neg (by omega), if_neg (by omega), if_neg (by omega)]
theorem fd_ws_set {E : fd_E} {S S' : fd_S} {k : Nat} {e : va_E} (hk : k < 82) (hs : ∀ a, a ≠ k → S' a = S a) (he : e = fd_ce E S' k) : (fd_ws E S).set k (E.2.2 k, e) = fd_ws E S' := by
  subst he
  apply List.ext_getElem?
  intro i
  by_cases hi : i = k
  · subst hi
    rw [List.getElem?_set_self (by simp [fd_ws]; exact hk), fd_ws_at E S' hk rfl]
    rfl
  · rw [List.getElem?_set_ne (Ne.symm hi)]
    by_cases h82 : i < 82
    · rw [fd_ws_at E S h82 rfl, fd_ws_at E S' h82 rfl]
      have hsi := hs i hi
      have : fd_ceK E S i (fd_kd i) = fd_ceK E S' i (fd_kd i) := by
        unfold fd_ceK
        have hf : fd_fs E S i (fd_kd i) = fd_fs E S' i (fd_kd i) := by
          unfold fd_fs
          split <;> simp only [hsi]
        rw [hsi, hf]
      rw [this]
    · rw [List.getElem?_eq_none (by simp [fd_ws]; omega), List.getElem?_eq_none (by simp [fd_ws]; omega)]
theorem fd_up_ne {S : fd_S} {k a : Nat} {j v : Int32} (h : a ≠ k) : fd_up S k j v a = S a := by
  funext b
  simp [fd_up, h]
/-- which fields hold ints -/
def fd_isI : Nat → Nat → Bool
  | 1, 2 => true | 1, 3 => true | 2, 1 => true | 2, 2 => true
  | 3, 0 => true | 3, 1 => true | 3, 2 => true | 3, 3 => true | 3, 4 => true | 3, 6 => true
  | 4, 6 => true | 4, 7 => true | 4, 8 => true | 4, 9 => true | 4, 10 => true
  | 5, 1 => true | 7, 8 => true
  | _, _ => false
theorem fd_fs_set (E : fd_E) (S : fd_S) (k : Nat) (v : Int32) (ci j : Nat) (h : fd_isI ci j = true) : (fd_fs E S k ci).set j (.int v) = fd_fs E (fd_up S k (nI j) v) k ci := by
  unfold fd_isI at h
  split at h <;> first | (simp [fd_fs, fd_up, nI]; done) | cases h
theorem fd_ix_of {i : Int32} (h : 0 ≤ i) : fd_ix i.toNatClampNeg = i := by
  have h1 : i.toNatClampNeg < 2147483648 := by
    have := Int32.toInt_lt i
    unfold Int32.toNatClampNeg
    omega
  have h0 : ¬ i < 0 := Int32.not_lt.mpr h
  obtain ⟨j, hj, rfl⟩ := nI_of h0
  rw [nI_clamp hj]
  unfold fd_ix
  rw [if_pos (by omega)]
theorem fd_ix_eq {i : Int32} {n : Nat} (h : 0 ≤ i) : fd_ix n = i ↔ n = i.toNatClampNeg := by
  have h0 : ¬ i < 0 := Int32.not_lt.mpr h
  obtain ⟨j, hj, rfl⟩ := nI_of h0
  rw [nI_clamp hj]
  unfold fd_ix
  by_cases hn : n < 2147483648
  · rw [if_pos hn]
    exact nI_eq (by omega) (by omega)
  · rw [if_neg hn]
    refine ⟨fun e => ?_, fun e => by omega⟩
    have : (nI j).toInt = (-1 : Int32).toInt := by rw [← e]
    rw [nI_toInt hj] at this
    have h2 : ((-1 : Int32).toInt) = -1 := by decide
    omega
theorem fd_in {i : Int32} {n : Nat} (hn : n < 2 ^ 31) (h : 0 ≤ i ∧ i < nI n) : vp_in i n := by
  rw [vp_in_iff]
  refine ⟨by simpa using Int32.le_iff_toInt_le.mp h.1, ?_⟩
  have := Int32.lt_iff_toInt_lt.mp h.2
  rwa [nI_toInt hn] at this
theorem fd_ln_lt (k : Nat) : fd_ln k < 2 ^ 31 := by
  have h : ∀ x ∈ fd_ll, x < 2 ^ 31 := by decide
  unfold fd_ln
  rw [List.getD_eq_getElem?_getD]
  cases hk : fd_ll[k]? with
  | none => simp
  | some x => exact h x (List.mem_of_getElem? hk)
/-- an array's contents behind a store -/
theorem fd_upd (S : fd_S) (k : Nat) {i : Int32} (x : Int32) (h : 0 ≤ i) : upd (fun n => S k (fd_ix n)) i.toNatClampNeg x = fun n => fd_up S k i x k (fd_ix n) := by
  funext n
  unfold upd fd_up
  rw [if_pos rfl]
  by_cases hn : n = i.toNatClampNeg
  · rw [if_pos hn, if_pos ((fd_ix_eq h).mpr hn)]
  · rw [if_neg hn, if_neg (fun q => hn ((fd_ix_eq h).mp q))]
end
section
/-! ===== what is there from the start and nobody writes: static tables, texts, words of the nest ===== -/
def fd_tl (l : List Int32) (i : Int32) : Int32 := l.getD i.toNatClampNeg 0
def fd_least : List Int32 := [4, 1, 0, 0, 100, 50, 100]
def fd_most : List Int32 := [200, 50, 2000, 2000, 9999, 9999, 20000]
def fd_row : List Int32 := [65536, 60097, 55109, 50535, 46341, 42495, 38968, 35734]
def fd_slen : List Nat := [4, 4, 4, 4, 4, 4, 3]
def fd_sbyt : List (List Int32) := [[104, 97, 108, 102], [115, 108, 111, 116], [103, 111, 110, 101], [115, 119, 97, 112], [111, 118, 101, 114], [98, 97, 99, 107], [116, 111, 112]]
def fd_stx : List String := ["half", "slot", "gone", "swap", "over", "back", "top"]
def fd_N1 : Cond := .methodLinkNest "FlapDamper$RecordList" 41 ⟨"FlapDamper", "isWithin", "(III)Z"⟩ "FlapDamper"
def fd_N2 : Cond := .methodLinkNest "FlapDamper$Lines" 38 ⟨"FlapDamper", "isWithin", "(III)Z"⟩ "FlapDamper"
def fd_N3 : Cond := .methodLinkNest "FlapDamper$State" 176 ⟨"FlapDamper", "routeOf", "(II)I"⟩ "FlapDamper"
def fd_N4 : Cond := .fieldLinkNest "FlapDamper$Bounds" 23 "FlapDamper" "ROW" "[I" "FlapDamper"
def fd_Z (E : fd_E) (U : State) (H : Heap) : Prop :=
  (va_Nw fd_N1 U ∧ va_Nw fd_N2 U ∧ va_Nw fd_N3 U ∧ va_Nw fd_N4 U) ∧
  (va_Z "FlapDamper" "LEAST" "[I" (.ref (E.2.2 100)) (fd_A E) U H ∧ va_T .int (E.2.2 100) 7 (fun j => .int (fd_least.getD j 0)) (fd_A E) U H) ∧
  (va_Z "FlapDamper" "MOST" "[I" (.ref (E.2.2 101)) (fd_A E) U H ∧ va_T .int (E.2.2 101) 7 (fun j => .int (fd_most.getD j 0)) (fd_A E) U H) ∧
  (va_Z "FlapDamper" "ROW" "[I" (.ref (E.2.2 102)) (fd_A E) U H ∧ va_T .int (E.2.2 102) 8 (fun j => .int (fd_row.getD j 0)) (fd_A E) U H) ∧
  (vk_S 7 fd_slen fd_sbyt (fun i => E.2.2 (110 + i)) (fun i => E.2.2 (120 + i)) (fd_A E) U H ∧ ∀ i : Nat, i < 7 → vk_R "FlapDamper$Text" (57 + 2 * i) (fd_stx.getD i "") (E.2.2 (110 + i)) U) ∧
  va_Z "java/lang/String" "COMPACT_STRINGS" "Z" (.int 1) (fd_A E) U H ∧ va_Zq "jdk/internal/util/Preconditions" "SIOOBE_FORMATTER" "Ljava/util/function/BiFunction;" (fd_A E) U H
theorem fd_Z.go {E : fd_E} {s U : State} {H : Heap} {locs : List Loc} (hW : s.WarmedH U.vm) (hU : U.heap = H) (hS : va_S (fd_A E) s.heap H locs) (h : fd_Z E s s.heap) : fd_Z E U U.heap := by
  rw [hU]
  obtain ⟨⟨n1, n2, n3, n4⟩, ⟨a1, a2⟩, ⟨b1, b2⟩, ⟨c1, c2⟩, ⟨d1, d2⟩, e1, f1⟩ := h
  have hv := hW.alike
  exact ⟨⟨va_Nw.warmM hW n1, va_Nw.warmM hW n2, va_Nw.warmM hW n3, va_Nw.warmF hW n4⟩, ⟨(va_Z.moved hv a1).kept hS.2.1, (va_T.moved hv a2).kept hS.2.1⟩, ⟨(va_Z.moved hv b1).kept hS.2.1, (va_T.moved hv b2).kept hS.2.1⟩, ⟨(va_Z.moved hv c1).kept hS.2.1, (va_T.moved hv c2).kept hS.2.1⟩, ⟨(vk_S.moved hv d1).kept hS.2.1, fun i hi => vk_R.warm hW (d2 i hi)⟩, (va_Z.moved hv e1).kept hS.2.1, (va_Zq.moved hv f1).kept hS.2.1⟩
theorem fd_Z.calling {E : fd_E} {U : State} {g : JFrame} {mk : MethodId} {a : Array Value} (h : fd_Z E U U.heap) : fd_Z E (U.calling g mk a) (U.calling g mk a).heap := by
  obtain ⟨⟨n1, n2, n3, n4⟩, ⟨a1, a2⟩, ⟨b1, b2⟩, ⟨c1, c2⟩, ⟨d1, d2⟩, e1, f1⟩ := h
  have hv : U.vm.Alike (U.calling g mk a).vm := Vm.Alike.refl U.vm
  exact ⟨⟨va_Nw.same rfl rfl n1, va_Nw.same rfl rfl n2, va_Nw.same rfl rfl n3, va_Nw.same rfl rfl n4⟩, ⟨va_Z.moved hv a1, va_T.moved hv a2⟩, ⟨va_Z.moved hv b1, va_T.moved hv b2⟩, ⟨va_Z.moved hv c1, va_T.moved hv c2⟩, ⟨vk_S.moved hv d1, fun i hi => vk_R.same rfl (d2 i hi)⟩, va_Z.moved hv e1, va_Zq.moved hv f1⟩
/-- what a walk stands on -/
def fd_C (p : Program) (s : State) (m : MethodId) (args : Array Value) (c : Code) (own : String) (cc : ByteArray) (nL : Nat) (E : fd_E) : Prop :=
  p.tables.exec = Jvm.exec ∧ c.code = cc ∧ c.maxLocals = nL ∧ s.vm.findClass own = some m.cls ∧ (∀ w ∈ fd_T, w.before args s = true) ∧ va_K E.1 fd_CL (fd_ty E) s ∧ fd_Z E s s.heap
/-- the heap holds the store -/
def fd_H (E : fd_E) (S : fd_S) (s : State) (H : Heap) (locs : List Loc) : Prop := va_P E.1 fd_CL (fd_ws E S) H ∧ va_D (fd_A E) (fd_ws E S) ∧ va_S (fd_A E) s.heap H locs
def fd_W (E : fd_E) (S : fd_S) (U : State) : Prop := va_P E.1 fd_CL (fd_ws E S) U.heap ∧ va_D (fd_A E) (fd_ws E S) ∧ va_K E.1 fd_CL (fd_ty E) U
def fd_Q (E : fd_E) (v : Option Value) (S : fd_S) : Array Value → State → Outcome → State → Prop := fun _ st oc t => (oc = .returned v ∧ fd_W E S t) ∧ va_F (fd_A E) st t
def fd_Ct (l : Launch) (y : MethodName) (cc : ByteArray) (nL : Nat) (ret : Option FieldType) (rm : Room) (E : fd_E) (S : fd_S) (av : List Value) (v : Option Value) (S' : fd_S) : Prop :=
  Met l y (Cond.code y cc nL ret :: fd_T) rm (va_Pc av (fun U => fd_W E S U ∧ fd_Z E U U.heap)) (fd_Q E v S') 0 0 (fd_A E)
abbrev fd_rm (f n : Nat) : Room := { frames := f, cells := 0, slots := 0, locals := n }
theorem fd_Ct_of {l : Launch} {y : MethodName} {cc : ByteArray} {nL : Nat} {ret : Option FieldType} {rm : Room} {E : fd_E} {S S' : fd_S} {av : List Value} {v : Option Value} (hy : plainName y.cls = true) (hn : (lg_sl av).length ≤ nL)
    (body : ∀ (p : Program) (e : Env) (s : State) (m : MethodId) (below : List Frame) (meth : Method) (c : Code) (ls : Array Slot), fd_C p s m av.toArray c y.cls cc nL E → meth.sig.returnType = ret → meth.locks = false → fd_H E S s s.heap [] → lv_has ls nL (lv_args 0 av) →
      W p l e rm s m av.toArray below meth c s.heap [] 0 0 (MQ below (fd_Q E v S') av.toArray s 0 0 (fd_A E)) (F0 m 0 ls [])) : fd_Ct l y cc nL ret rm E S av v S' := by
  refine Met.ofW (cc := cc) (maxL := nL) (ret := ret) hy rfl ?_
  intro p e s m args below meth c s₁ B hml hv
  obtain ⟨rfl, ⟨hP, hD, hK⟩, hZ⟩ := hv
  have hts := atoms_spec (ws := Cond.code y cc nL ret :: fd_T) B.pre
  rw [lg_entry_eq]
  exact body p e s m below meth c _ ⟨B.exec, B.bytes, hml, findClass_of_methodNamed B.named, fun w hw => hts w (List.mem_cons_of_mem _ hw), hK, hZ⟩ B.returns B.notSynchronized ⟨hP, hD, va_S.rf⟩ (lv_entry av hn)
theorem fd_blind {E : fd_E} {S : fd_S} {av : List Value} : FrameBlind (va_Pc av (fun U => fd_W E S U ∧ fd_Z E U U.heap)) := by
  intro a U g mk h
  obtain ⟨h1, ⟨hP, hD, hK⟩, hZ⟩ := h
  exact ⟨h1, ⟨hP, hD, va_K.moved (u := U) (U := U.calling g mk a) (Vm.Alike.refl U.vm) hK⟩, hZ.calling⟩
theorem fd_pre {E : fd_E} {S : fd_S} {av : List Value} {s : State} {H : Heap} {locs : List Loc} (hK : va_K E.1 fd_CL (fd_ty E) s) (hZ : fd_Z E s s.heap) (hH : fd_H E S s H locs) : ∀ U : State, U.heap = H → s.WarmedH U.vm → va_Pc av (fun U => fd_W E S U ∧ fd_Z E U U.heap) av.toArray U :=
  fun U hU hW => ⟨rfl, ⟨by rw [hU]; exact hH.1, hH.2.1, va_K.moved hW.alike hK⟩, hZ.go hW hU hH.2.2⟩
/-- the classes, and that their fields' words are among the tables' -/
def fd_cq : Nat → vw_C
  | 0 => (RX0, TX0, 1) | 1 => (RX1, TX1, 4) | 2 => (RX2, TX2, 3) | 3 => (RX3, TX3, 7) | 4 => (RX4, TX4, 11) | 5 => (RX5, TX5, 2) | 6 => (RX6, TX6, 5) | _ => (RX7, TX7, 9)
theorem fd_CL_at {ci : Nat} (h : ci < 8) : fd_CL[ci]? = some (fd_cq ci) := by
  match ci, h with
  | 0, _ => rfl
  | 1, _ => rfl
  | 2, _ => rfl
  | 3, _ => rfl
  | 4, _ => rfl
  | 5, _ => rfl
  | 6, _ => rfl
  | 7, _ => rfl
theorem fd_in0 : ∀ w ∈ u_ws RX0 TX0 1, w ∈ fd_T := by decide +kernel
theorem fd_in1 : ∀ w ∈ u_ws RX1 TX1 4, w ∈ fd_T := by decide +kernel
theorem fd_in2 : ∀ w ∈ u_ws RX2 TX2 3, w ∈ fd_T := by decide +kernel
theorem fd_in3 : ∀ w ∈ u_ws RX3 TX3 7, w ∈ fd_T := by decide +kernel
theorem fd_in4 : ∀ w ∈ u_ws RX4 TX4 11, w ∈ fd_T := by decide +kernel
theorem fd_in5 : ∀ w ∈ u_ws RX5 TX5 2, w ∈ fd_T := by decide +kernel
theorem fd_in6 : ∀ w ∈ u_ws RX6 TX6 5, w ∈ fd_T := by decide +kernel
theorem fd_in7 : ∀ w ∈ u_ws RX7 TX7 9, w ∈ fd_T := by decide +kernel
theorem fd_inc {ci : Nat} (h : ci < 8) : ∀ w ∈ u_ws (fd_cq ci).1 (fd_cq ci).2.1 (fd_cq ci).2.2, w ∈ fd_T := by
  match ci, h with
  | 0, _ => exact fd_in0
  | 1, _ => exact fd_in1
  | 2, _ => exact fd_in2
  | 3, _ => exact fd_in3
  | 4, _ => exact fd_in4
  | 5, _ => exact fd_in5
  | 6, _ => exact fd_in6
  | 7, _ => exact fd_in7
def fd_fty : Nat → Nat → FieldType
  | 0 => tyX0 | 1 => tyX1 | 2 => tyX2 | 3 => tyX3 | 4 => tyX4 | 5 => tyX5 | 6 => tyX6 | _ => tyX7
theorem fd_fty_ok {ci : Nat} (h : ci < 8) : ∀ k, k < (fd_cq ci).2.2 → parseFieldDescriptor ((fd_cq ci).2.1 k).2.2.1 = some (fd_fty ci k) := by
  match ci, h with
  | 0, _ => exact tyX0_ok
  | 1, _ => exact tyX1_ok
  | 2, _ => exact tyX2_ok
  | 3, _ => exact tyX3_ok
  | 4, _ => exact tyX4_ok
  | 5, _ => exact tyX5_ok
  | 6, _ => exact tyX6_ok
  | 7, _ => exact tyX7_ok
theorem fd_fnm {ci : Nat} (h : ci < 8) : ∀ a, a < (fd_cq ci).2.2 → ∀ b, b < (fd_cq ci).2.2 → a ≠ b → ((fd_cq ci).2.1 a).2.1 ≠ ((fd_cq ci).2.1 b).2.1 := by
  match ci, h with
  | 0, _ => exact nmX0
  | 1, _ => exact nmX1
  | 2, _ => exact nmX2
  | 3, _ => exact nmX3
  | 4, _ => exact nmX4
  | 5, _ => exact nmX5
  | 6, _ => exact nmX6
  | 7, _ => exact nmX7
end
section
section FD
variable {p : Program} {l : Launch} {e : Env} {R : Room} {s : State} {m : MethodId} {args : Array Value} {below : List Frame} {meth : Method} {c : Code} {H : Heap} {locs : List Loc} {cells slots : Nat} {Q : State → Prop}
variable {cc : ByteArray} {pc : Nat} {ls : Array Slot} {rest : List Value} {own : String} {nL : Nat} {E : fd_E} {S : fd_S}
theorem fd_get (k ci j : Nat) (C : fd_C p s m args c own cc nL E) (hH : fd_H E S s H locs) (hk : k < 82) (hkd : fd_kd k = ci) (h8 : ci < 8) (hj : j < (fd_cq ci).2.2) {index : Nat} (hl : Cond.fieldLink own index ((fd_cq ci).2.1 j).1 ((fd_cq ci).2.1 j).2.1 ((fd_cq ci).2.1 j).2.2.1 ∈ fd_T) {v : Value} (hv : (fd_fs E S k ci)[j]? = some v) (hdg : decode cc pc = .ok (.getfield index, 3))
    (kk : W p l e R s m args below meth c H locs cells slots Q (F0 m (pc + 3) ls (v :: rest))) : W p l e R s m args below meth c H locs cells slots Q (F0 m pc ls (.ref (E.2.2 k) :: rest)) := by
  obtain ⟨hx, hb, -, hown, hts, hK, -⟩ := C
  exact va_get (C := (fd_cq ci).1) (T := (fd_cq ci).2.1) (N := (fd_cq ci).2.2) hx hb hts (fd_inc h8) hown hK hH.1 k (fd_ws_o E S hk hkd h8) (fd_CL_at h8) j hj (hts _ hl) (fun _ h => h) hv hdg kk
theorem fd_put (k ci j : Nat) (jj : Int32) (C : fd_C p s m args c own cc nL E) (hH : fd_H E S s H locs) (hk : k < 82) (hkd : fd_kd k = ci) (h8 : ci < 8) (hj : j < (fd_cq ci).2.2) {index : Nat} (hl : Cond.fieldLink own index ((fd_cq ci).2.1 j).1 ((fd_cq ci).2.1 j).2.1 ((fd_cq ci).2.1 j).2.2.1 ∈ fd_T) (hI : fd_isI ci j = true) (hfin : ((fd_cq ci).2.1 j).2.2.2 = false) {v : Int32} (hn : narrow (fd_fty ci j) (.int v) = .int v) (hfit : fits (fd_fty ci j) (.int v) = true) (hjj : nI j = jj) (hln : j < (fd_fs E S k ci).length) (hdg : decode cc pc = .ok (.putfield index, 3))
    (kk : ∀ (H1 : Heap) (locs1 : List Loc), fd_H E (fd_up S k jj v) s H1 locs1 → W p l e R s m args below meth c H1 locs1 cells slots Q (F0 m (pc + 3) ls rest)) : W p l e R s m args below meth c H locs cells slots Q (F0 m pc ls (.int v :: .ref (E.2.2 k) :: rest)) := by
  obtain ⟨hx, hb, -, hown, hts, hK, -⟩ := C
  subst hjj
  refine va_put (C := (fd_cq ci).1) (T := (fd_cq ci).2.1) (N := (fd_cq ci).2.2) hx hb hts (fd_inc h8) (fd_fty ci) (fd_fty_ok h8) (fd_fnm h8) hown hK hH.1 hH.2.1 hH.2.2 k (fd_ws_o E S hk hkd h8) (fd_CL_at h8) j hj (hts _ hl) (fun _ h => h) hfin (fd_fty_ok h8 j hj) hn hfit hln hdg (fun H1 locs1 hP hD hS => ?_)
  have e1 : (fd_ws E S).set k (E.2.2 k, .inr (ci, (fd_fs E S k ci).set j (.int v))) = fd_ws E (fd_up S k (nI j) v) := by
    refine fd_ws_set hk (fun a ha => fd_up_ne ha) ?_
    rw [fd_fs_set E S k v ci j hI]
    unfold fd_ce fd_ceK
    rw [hkd, if_neg (by omega), if_neg (by omega), if_neg (by omega)]
  rw [e1] at hP hD
  exact kk H1 locs1 ⟨hP, hD, hS⟩
theorem fd_ws_i (E : fd_E) (S : fd_S) {k : Nat} (hk : k < 82) (hc : fd_kd k = 8) : (fd_ws E S)[k]? = some (E.2.2 k, .inl (E.2.1 0, fd_ln k, .inl (fun n => S k (fd_ix n)))) := by
  rw [fd_ws_at E S hk hc]
  rfl
theorem fd_ws_z (E : fd_E) (S : fd_S) {k : Nat} (hk : k < 82) (hc : fd_kd k = 9) : (fd_ws E S)[k]? = some (E.2.2 k, .inl (E.2.1 1, fd_ln k, .inl (fun n => S k (fd_ix n)))) := by
  rw [fd_ws_at E S hk hc]
  rfl
theorem fd_ws_r (E : fd_E) (S : fd_S) {k : Nat} (hk : k < 82) (hc : fd_kd k = 10) : (fd_ws E S)[k]? = some (E.2.2 k, .inl (E.2.1 2, fd_ln k, .inr (.inr (.inr (.inr (fun n => some (E.2.2 (fd_rc k (S k (fd_ix n)))))))))) := by
  rw [fd_ws_at E S hk hc]
  rfl
theorem fd_iald (k : Nat) (n : Int32) (C : fd_C p s m args c own cc nL E) (hH : fd_H E S s H locs) (hk : k < 82) (hkd : fd_kd k = 8) (hn : nI (fd_ln k) = n) {i : Int32} (hi : 0 ≤ i ∧ i < n) (hdg : decode cc pc = .ok (.iaload, 1))
    (kk : W p l e R s m args below meth c H locs cells slots Q (F0 m (pc + 1) ls (.int (S k i) :: rest))) : W p l e R s m args below meth c H locs cells slots Q (F0 m pc ls (.int i :: .ref (E.2.2 k) :: rest)) := by
  obtain ⟨hx, hb, -, hown, hts, hK, -⟩ := C
  subst hn
  refine va_iald hx hb hK hH.1 k 0 (fd_ws_i E S hk hkd) rfl (fd_in (fd_ln_lt k) hi) hdg ?_
  rw [fd_ix_of hi.1]
  exact kk
theorem fd_zald (k : Nat) (n : Int32) (C : fd_C p s m args c own cc nL E) (hH : fd_H E S s H locs) (hk : k < 82) (hkd : fd_kd k = 9) (hn : nI (fd_ln k) = n) {i : Int32} (hi : 0 ≤ i ∧ i < n) (hdg : decode cc pc = .ok (.baload, 1))
    (kk : W p l e R s m args below meth c H locs cells slots Q (F0 m (pc + 1) ls (.int (S k i) :: rest))) : W p l e R s m args below meth c H locs cells slots Q (F0 m pc ls (.int i :: .ref (E.2.2 k) :: rest)) := by
  obtain ⟨hx, hb, -, hown, hts, hK, -⟩ := C
  subst hn
  refine va_zald hx hb hK hH.1 k 1 (fd_ws_z E S hk hkd) rfl (fd_in (fd_ln_lt k) hi) hdg ?_
  rw [fd_ix_of hi.1]
  exact kk
theorem fd_aald (k : Nat) (n : Int32) (C : fd_C p s m args c own cc nL E) (hH : fd_H E S s H locs) (hk : k < 82) (hkd : fd_kd k = 10) (hn : nI (fd_ln k) = n) {i : Int32} (hi : 0 ≤ i ∧ i < n) (hdg : decode cc pc = .ok (.aaload, 1))
    (kk : W p l e R s m args below meth c H locs cells slots Q (F0 m (pc + 1) ls (.ref (E.2.2 (fd_rc k (S k i))) :: rest))) : W p l e R s m args below meth c H locs cells slots Q (F0 m pc ls (.int i :: .ref (E.2.2 k) :: rest)) := by
  obtain ⟨hx, hb, -, hown, hts, hK, -⟩ := C
  subst hn
  refine va_aldq hx hb hK hH.1 k 2 (fd_ws_r E S hk hkd) rfl (fd_in (fd_ln_lt k) hi) hdg ?_
  dsimp only [va_rf]
  rw [fd_ix_of hi.1]
  exact kk
theorem fd_iast (k : Nat) (n : Int32) (C : fd_C p s m args c own cc nL E) (hH : fd_H E S s H locs) (hk : k < 82) (hkd : fd_kd k = 8) (hn : nI (fd_ln k) = n) {i x : Int32} (hi : 0 ≤ i ∧ i < n) (hdg : decode cc pc = .ok (.iastore, 1))
    (kk : ∀ (H1 : Heap) (locs1 : List Loc), fd_H E (fd_up S k i x) s H1 locs1 → W p l e R s m args below meth c H1 locs1 cells slots Q (F0 m (pc + 1) ls rest)) : W p l e R s m args below meth c H locs cells slots Q (F0 m pc ls (.int x :: .int i :: .ref (E.2.2 k) :: rest)) := by
  obtain ⟨hx, hb, -, hown, hts, hK, -⟩ := C
  subst hn
  refine va_iast hx hb hK hH.1 hH.2.1 hH.2.2 k 0 (fd_ws_i E S hk hkd) rfl (fd_in (fd_ln_lt k) hi) hdg (fun H1 locs1 hP hD hS => ?_)
  rw [fd_upd S k x hi.1] at hP hD
  have e1 : (fd_ws E S).set k (E.2.2 k, .inl (E.2.1 0, fd_ln k, .inl (fun n => fd_up S k i x k (fd_ix n)))) = fd_ws E (fd_up S k i x) := by
    refine fd_ws_set hk (fun a ha => fd_up_ne ha) ?_
    unfold fd_ce fd_ceK
    rw [hkd]
    rfl
  rw [e1] at hP hD
  exact kk H1 locs1 ⟨hP, hD, hS⟩
theorem fd_zast (k : Nat) (n : Int32) (C : fd_C p s m args c own cc nL E) (hH : fd_H E S s H locs) (hk : k < 82) (hkd : fd_kd k = 9) (hn : nI (fd_ln k) = n) {i x : Int32} (hi : 0 ≤ i ∧ i < n) (hz : vp_nar .boolean x = x) (hdg : decode cc pc = .ok (.bastore, 1))
    (kk : ∀ (H1 : Heap) (locs1 : List Loc), fd_H E (fd_up S k i x) s H1 locs1 → W p l e R s m args below meth c H1 locs1 cells slots Q (F0 m (pc + 1) ls rest)) : W p l e R s m args below meth c H locs cells slots Q (F0 m pc ls (.int x :: .int i :: .ref (E.2.2 k) :: rest)) := by
  obtain ⟨hx, hb, -, hown, hts, hK, -⟩ := C
  subst hn
  refine va_zast hx hb hK hH.1 hH.2.1 hH.2.2 k 1 (fd_ws_z E S hk hkd) rfl (fd_in (fd_ln_lt k) hi) hdg (fun H1 locs1 hP hD hS => ?_)
  rw [hz, fd_upd S k x hi.1] at hP hD
  have e1 : (fd_ws E S).set k (E.2.2 k, .inl (E.2.1 1, fd_ln k, .inl (fun n => fd_up S k i x k (fd_ix n)))) = fd_ws E (fd_up S k i x) := by
    refine fd_ws_set hk (fun a ha => fd_up_ne ha) ?_
    unfold fd_ce fd_ceK
    rw [hkd]
    rfl
  rw [e1] at hP hD
  exact kk H1 locs1 ⟨hP, hD, hS⟩
/-- a row of a RecordList takes a record of the same State -/
theorem fd_aast (k : Nat) (n : Int32) (C : fd_C p s m args c own cc nL E) (hH : fd_H E S s H locs) (hk : k < 82) (hkd : fd_kd k = 10) (hn : nI (fd_ln k) = n) {i : Int32} {q : Nat} (hi : 0 ≤ i ∧ i < n) (hq : 23 * (k / 23) + 8 ≤ q ∧ q < 23 * (k / 23) + 14) (hq3 : fd_kd q = 3) (hq82 : q < 82) (hdg : decode cc pc = .ok (.aastore, 1))
    (kk : ∀ (H1 : Heap) (locs1 : List Loc), fd_H E (fd_up S k i (nI (q - (23 * (k / 23) + 8)))) s H1 locs1 → W p l e R s m args below meth c H1 locs1 cells slots Q (F0 m (pc + 1) ls rest)) : W p l e R s m args below meth c H locs cells slots Q (F0 m pc ls (.ref (E.2.2 q) :: .int i :: .ref (E.2.2 k) :: rest)) := by
  obtain ⟨hx, hb, -, hown, hts, hK, -⟩ := C
  subst hn
  refine va_astq hx hb hK hH.1 hH.2.1 hH.2.2 k 2 q 3 (r := fd_cq 3) (fd_ws_r E S hk hkd) rfl (fd_ws_o E S hq82 hq3 (by omega)) (fd_CL_at (by omega)) (fd_in (fd_ln_lt k) hi) hdg (fun H1 locs1 hP hD hS => ?_)
  have e1 : (fd_ws E S).set k (E.2.2 k, .inl (E.2.1 2, fd_ln k, .inr (.inr (.inr (.inr (va_up (fun n => some (E.2.2 (fd_rc k (S k (fd_ix n))))) i.toNatClampNeg (some (E.2.2 q)))))))) = fd_ws E (fd_up S k i (nI (q - (23 * (k / 23) + 8)))) := by
    refine fd_ws_set hk (fun a ha => fd_up_ne ha) ?_
    have e2 : va_up (fun n => some (E.2.2 (fd_rc k (S k (fd_ix n))))) i.toNatClampNeg (some (E.2.2 q)) = fun n => some (E.2.2 (fd_rc k (fd_up S k i (nI (q - (23 * (k / 23) + 8))) k (fd_ix n)))) := by
      funext n
      unfold va_up fd_up
      rw [if_pos rfl]
      by_cases hn : n = i.toNatClampNeg
      · rw [if_pos hn, if_pos ((fd_ix_eq hi.1).mpr hn)]
        unfold fd_rc
        rw [nI_clamp (by omega)]
        rw [show 23 * (k / 23) + 8 + (q - (23 * (k / 23) + 8)) = q by omega]
      · rw [if_neg hn, if_neg (fun q => hn ((fd_ix_eq hi.1).mp q))]
    rw [e2]
    unfold fd_ce fd_ceK
    rw [hkd]
    rfl
  rw [e1] at hP hD
  exact kk H1 locs1 ⟨hP, hD, hS⟩
theorem fd_alen (k : Nat) (n : Int32) (C : fd_C p s m args c own cc nL E) (hH : fd_H E S s H locs) (hk : k < 82) (hkd : fd_kd k = 8) (hn : nI (fd_ln k) = n) (hdg : decode cc pc = .ok (.arraylength, 1))
    (kk : W p l e R s m args below meth c H locs cells slots Q (F0 m (pc + 1) ls (.int n :: rest))) : W p l e R s m args below meth c H locs cells slots Q (F0 m pc ls (.ref (E.2.2 k) :: rest)) := by
  obtain ⟨hx, hb, -, hown, hts, hK, -⟩ := C
  exact va_alen hx hb hK hH.1 k 0 (fd_ws_i E S hk hkd) rfl hn hdg kk
/-- System.arraycopy of ints: n places of cell k from sp on, to cell k' from dp on -/
def fd_cp (S : fd_S) (k k' : Nat) (sp dp n : Int32) : fd_S := fun a b => if a = k' then (if dp ≤ b ∧ b < dp + n then S k (sp + (b - dp)) else S a b) else S a b
theorem fd_cpy (S : fd_S) (k k' sp dp n : Nat) (h1 : sp + n < 2 ^ 30) (h2 : dp + n < 2 ^ 30) : va_cpy (fun n => S k (fd_ix n)) (fun n => S k' (fd_ix n)) sp dp n = fun j => fd_cp S k k' (nI sp) (nI dp) (nI n) k' (fd_ix j) := by
  funext j
  show (if dp ≤ j ∧ j < dp + n then S k (fd_ix (sp + (j - dp))) else S k' (fd_ix j)) = _
  unfold fd_cp
  rw [if_pos rfl]
  by_cases hj : j < 2147483648
  · have hjx : fd_ix j = nI j := by unfold fd_ix; rw [if_pos hj]
    by_cases hc : dp ≤ j ∧ j < dp + n
    · rw [if_pos hc, hjx, if_pos ⟨nI_le hc.1 (by omega), by rw [nI_add]; exact nI_lt hc.2 (by omega)⟩, pk_sub hc.1, nI_add]
      unfold fd_ix
      rw [if_pos (by omega)]
    · rw [if_neg hc, hjx, if_neg]
      rintro ⟨a, b⟩
      rw [nI_add] at b
      exact hc ⟨(nI_leI (by omega) (by omega)).mp a, (nI_ltI (by omega) (by omega)).mp b⟩
  · have hjx : fd_ix j = -1 := by unfold fd_ix; rw [if_neg hj]
    rw [if_neg (by omega), hjx, if_neg]
    rintro ⟨a, b⟩
    have h3 := Int32.le_iff_toInt_le.mp a
    rw [nI_toInt (by omega)] at h3
    have h4 : ((-1 : Int32).toInt) = -1 := by decide
    omega
theorem fd_copy (k k' sp dp n : Nat) (spI dpI nI' : Int32) (C : fd_C p s m args c own cc nL E) (hsz : ls.size = nL) (hH : fd_H E S s H locs) (hk : k < 82) (hkd : fd_kd k = 8) (hk' : k' < 82) (hkd' : fd_kd k' = 8) (e1 : nI sp = spI) (e2 : nI dp = dpI) (e3 : nI n = nI') (h4 : sp + n ≤ fd_ln k) (h5 : dp + n ≤ fd_ln k') (hs : fd_ln k < 1000 ∧ fd_ln k' < 1000)
    {index : Nat} (hl : Cond.methodLink own index arraycopyName ∈ fd_T) (hw : Cond.native arraycopyName ∈ fd_T ∧ Cond.static arraycopyName ∈ fd_T ∧ Cond.initialized "java/lang/System" ∈ fd_T) (hframes : 1 ≤ R.frames) (hlocals : (rest.map fun v => v.category).sum + (nativeFrameWords "java/lang/System" "arraycopy" 5 + 11) ≤ R.locals) (hdg : decode cc pc = .ok (.invokestatic index, 3))
    (kk : ∀ (H1 : Heap) (locs1 : List Loc), fd_H E (fd_cp S k k' spI dpI nI') s H1 locs1 → W p l e R s m args below meth c H1 locs1 cells slots Q (F0 m (pc + 3) ls rest)) : W p l e R s m args below meth c H locs cells slots Q (F0 m pc ls (.int nI' :: .int dpI :: .ref (E.2.2 k') :: .int spI :: .ref (E.2.2 k) :: rest)) := by
  obtain ⟨hx, hb, hml, hown, hts, hK, -⟩ := C
  subst e1 e2 e3
  have c1 : (nI sp).toNatClampNeg = sp := nI_clamp (by omega)
  have c2 : (nI dp).toNatClampNeg = dp := nI_clamp (by omega)
  have c3 : (nI n).toNatClampNeg = n := nI_clamp (by omega)
  refine va_copyi hx hb (hml.trans hsz.symm) hown (hts _ hl) (hts _ hw.1) (hts _ hw.2.1) (hts _ hw.2.2) hK hH.1 hH.2.1 hH.2.2 k k' 0 0 (ty := .int) (fd_ws_i E S hk hkd) (fd_ws_i E S hk' hkd') rfl rfl rfl (nI_pos (by omega)) (nI_pos (by omega)) (nI_pos (by omega)) (by rw [c1, c3]; exact h4) (by rw [c2, c3]; exact h5) (fun _ _ => rfl) hframes hlocals hdg (fun H1 locs1 hP hD hS => ?_)
  rw [c1, c2, c3, fd_cpy S k k' sp dp n (by omega) (by omega)] at hP hD
  have e1 : (fd_ws E S).set k' (E.2.2 k', .inl (E.2.1 0, fd_ln k', .inl (fun j => fd_cp S k k' (nI sp) (nI dp) (nI n) k' (fd_ix j)))) = fd_ws E (fd_cp S k k' (nI sp) (nI dp) (nI n)) := by
    refine fd_ws_set hk' (fun a ha => by funext b; simp [fd_cp, ha]) ?_
    unfold fd_ce fd_ceK
    rw [hkd']
    rfl
  rw [e1] at hP hD
  exact kk H1 locs1 ⟨hP, hD, hS⟩
/-! static tables -/
theorem fd_tin {i n : Int32} {N : Nat} (hN : N < 2 ^ 31) (hn : nI N = n) (h : 0 ≤ i ∧ i < n) : vp_in i N := by
  subst hn
  exact fd_in hN h
theorem fd_gets (n : String) (q : Nat) (C : fd_C p s m args c own cc nL E) (hH : fd_H E S s H locs) (hz : va_Z "FlapDamper" n "[I" (.ref (E.2.2 q)) (fd_A E) s s.heap) {index : Nat} (hl : Cond.fieldLink own index "FlapDamper" n "[I" ∈ fd_T) (hdg : decode cc pc = .ok (.getstatic index, 3))
    (kk : W p l e R s m args below meth c H locs cells slots Q (F0 m (pc + 3) ls (.ref (E.2.2 q) :: rest))) : W p l e R s m args below meth c H locs cells slots Q (F0 m pc ls rest) := by
  obtain ⟨hx, hb, hml, hown, hts, hK, -⟩ := C
  exact va_gets hx hb hz hH.2.2 hown (hts _ hl) (fun _ h => h) hdg kk
theorem fd_getsRow (C : fd_C p s m args c "FlapDamper$Bounds" cc nL E) (hH : fd_H E S s H locs) (hdg : decode cc pc = .ok (.getstatic 23, 3))
    (kk : W p l e R s m args below meth c H locs cells slots Q (F0 m (pc + 3) ls (.ref (E.2.2 102) :: rest))) : W p l e R s m args below meth c H locs cells slots Q (F0 m pc ls rest) := by
  obtain ⟨hx, hb, hml, hown, hts, hK, hZ⟩ := C
  exact va_getsN hx hb hZ.2.2.2.1.1 hH.2.2 hown (va_Nw.use rfl hZ.1.2.2.2) (fun _ h => h) hdg kk
theorem fd_tld (t : Nat) (N : Nat) (n : Int32) (tl : List Int32) (C : fd_C p s m args c own cc nL E) (hH : fd_H E S s H locs) (hT : va_T .int (E.2.2 t) N (fun j => .int (tl.getD j 0)) (fd_A E) s s.heap) (hN : N < 2 ^ 31) (hn : nI N = n) {i : Int32} (hi : 0 ≤ i ∧ i < n) (hdg : decode cc pc = .ok (.iaload, 1))
    (kk : W p l e R s m args below meth c H locs cells slots Q (F0 m (pc + 1) ls (.int (fd_tl tl i) :: rest))) : W p l e R s m args below meth c H locs cells slots Q (F0 m pc ls (.int i :: .ref (E.2.2 t) :: rest)) := by
  obtain ⟨hx, hb, hml, hown, hts, hK, hZ⟩ := C
  exact va_ti hx hb hT hH.2.2 (fd_tin hN hn hi) rfl hdg kk
theorem fd_tln (t : Nat) (N : Nat) (n : Int32) (tl : List Int32) (C : fd_C p s m args c own cc nL E) (hH : fd_H E S s H locs) (hT : va_T .int (E.2.2 t) N (fun j => .int (tl.getD j 0)) (fd_A E) s s.heap) (hn : nI N = n) (hdg : decode cc pc = .ok (.arraylength, 1))
    (kk : W p l e R s m args below meth c H locs cells slots Q (F0 m (pc + 1) ls (.int n :: rest))) : W p l e R s m args below meth c H locs cells slots Q (F0 m pc ls (.ref (E.2.2 t) :: rest)) := by
  obtain ⟨hx, hb, hml, hown, hts, hK, hZ⟩ := C
  exact va_tlen hx hb hT hH.2.2 hn hdg kk
/-! returns -/
variable {v : Option Value}
theorem fd_iret (C : fd_C p s m args c own cc nL E) (hr : meth.sig.returnType = some .int) (hlk : meth.locks = false) (hH : fd_H E S s H locs) {x : Int32} (hdg : decode cc pc = .ok (.ireturn, 1)) : W p l e R s m args below meth c H locs 0 0 (MQ below (fd_Q E (some (.int x)) S) args s 0 0 (fd_A E)) (F0 m pc ls [.int x]) := by
  obtain ⟨hx, hb, hml, hown, hts, hK, hZ⟩ := C
  exact W.iret hx hb hr (fun t ht hW => ⟨⟨rfl, by rw [ht]; exact hH.1, hH.2.1, va_K.moved hW.alike hK⟩, hH.2.2.F ht⟩) hH.2.2.2.2 hdg hlk
theorem fd_zret (ty : FieldType) (C : fd_C p s m args c own cc nL E) (hr : meth.sig.returnType = some ty) (hlk : meth.locks = false) (hH : fd_H E S s H locs) {x : Int32} (hn : narrow ty (.int x) = .int x) (hdg : decode cc pc = .ok (.ireturn, 1)) : W p l e R s m args below meth c H locs 0 0 (MQ below (fd_Q E (some (.int x)) S) args s 0 0 (fd_A E)) (F0 m pc ls [.int x]) := by
  obtain ⟨hx, hb, hml, hown, hts, hK, hZ⟩ := C
  exact W.zret hx hb hr hn (fun t ht hW => ⟨⟨rfl, by rw [ht]; exact hH.1, hH.2.1, va_K.moved hW.alike hK⟩, hH.2.2.F ht⟩) hH.2.2.2.2 hdg hlk
theorem fd_vret (C : fd_C p s m args c own cc nL E) (hr : meth.sig.returnType = none) (hlk : meth.locks = false) (hH : fd_H E S s H locs) (hdg : decode cc pc = .ok (.return_, 1)) : W p l e R s m args below meth c H locs 0 0 (MQ below (fd_Q E none S) args s 0 0 (fd_A E)) (F0 m pc ls []) := by
  obtain ⟨hx, hb, hml, hown, hts, hK, hZ⟩ := C
  exact W.vret hx hb hr (fun t ht hW => ⟨⟨rfl, by rw [ht]; exact hH.1, hH.2.1, va_K.moved hW.alike hK⟩, hH.2.2.F ht⟩) hH.2.2.2.2 hdg hlk
theorem fd_aret (n : String) (C : fd_C p s m args c own cc nL E) (hr : meth.sig.returnType = some (.object n)) (hlk : meth.locks = false) (hH : fd_H E S s H locs) {x : Value} (hv : x = .null ∨ ∃ a, x = .ref a) (hdg : decode cc pc = .ok (.areturn, 1)) : W p l e R s m args below meth c H locs 0 0 (MQ below (fd_Q E (some x) S) args s 0 0 (fd_A E)) (F0 m pc ls [x]) := by
  obtain ⟨hx, hb, hml, hown, hts, hK, hZ⟩ := C
  exact W.aret hx hb hr (Or.inl ⟨_, rfl⟩) hv (fun t ht hW => ⟨⟨rfl, by rw [ht]; exact hH.1, hH.2.1, va_K.moved hW.alike hK⟩, hH.2.2.F ht⟩) hH.2.2.2.2 hdg hlk
end FD
end
section
/-! ===== calls: the callee's contract over the whole world ===== -/
theorem fd_good {ws : List Cond} (h : ∀ w ∈ ws, w ∈ fd_T) : GoodIn fd_T ws := fun w hw => ⟨h w hw, good_of_word (List.mem_filter.mp (h w hw)).2⟩
def fd_wd (y : MethodName) (n : Nat) : Prop := y.cls ≠ "java/lang/invoke/MethodHandle" ∧ y.cls ≠ "java/lang/invoke/VarHandle" ∧ (parseMethodDescriptor y.desc).map (fun d => d.parameters.length) = some n
def fd_wV (own : String) (index : Nat) (y : MethodName) (bytes : ByteArray) (maxL : Nat) (ret : Option FieldType) (n : Nat) : Prop :=
  fd_wd y n ∧ Cond.methodLink own index y ∈ fd_T ∧ Cond.instanceMethod y ∈ fd_T ∧ Cond.selects y.cls y y ∈ fd_T ∧ Cond.initialized y.cls ∈ fd_T ∧ Cond.code y bytes maxL ret ∈ fd_T
def fd_wS (own : String) (index : Nat) (y : MethodName) (bytes : ByteArray) (maxL : Nat) (ret : Option FieldType) (n : Nat) : Prop :=
  fd_wd y n ∧ Cond.methodLink own index y ∈ fd_T ∧ Cond.static y ∈ fd_T ∧ Cond.initialized y.cls ∈ fd_T ∧ Cond.code y bytes maxL ret ∈ fd_T
def fd_wN (y : MethodName) (bytes : ByteArray) (maxL : Nat) (ret : Option FieldType) (n : Nat) : Prop :=
  fd_wd y n ∧ Cond.static y ∈ fd_T ∧ Cond.initialized y.cls ∈ fd_T ∧ Cond.code y bytes maxL ret ∈ fd_T
section FDC
variable {p : Program} {l : Launch} {e : Env} {R : Room} {s : State} {m : MethodId} {args : Array Value} {below : List Frame} {meth : Method} {c : Code} {H : Heap} {locs : List Loc} {cells slots : Nat} {Q : State → Prop}
variable {cc : ByteArray} {pc : Nat} {ls : Array Slot} {rest st0 : List Value} {own : String} {nL : Nat} {E : fd_E} {S S' : fd_S} {v : Option Value} {a : Array Value}
theorem fd_after (hr : va_Run p l e R s m args below meth c H locs cells slots 0 0 (F0 m pc ls st0) rest (fd_Q E v S' a) (fd_A E)) (hH : fd_H E S s H locs)
    (kk : ∀ (H1 : Heap) (locs1 : List Loc), fd_H E S' s H1 locs1 → W p l e R s m args below meth c H1 locs1 cells slots Q (F0 m (pc + 3) ls (v.toList ++ rest))) : W p l e R s m args below meth c H locs cells slots Q (F0 m pc ls st0) := by
  intro T hT X
  obtain ⟨v', st₀, t, T', L, h0, X', hL, e1, e2, ⟨⟨hv, hP, hD, hK'⟩, hz, hk⟩, st⟩ := hr T hT X
  cases hv
  rw [h0] at hz hk
  obtain ⟨-, -, hS⟩ := hH
  obtain ⟨t2, a1, b1⟩ := kk T'.heap (locs ++ L) ⟨by rw [e1]; exact hP, hD, Nat.le_trans hS.1 (by rw [e1]; exact hz), fun q h1 h2 => by rw [e1, hk q (Nat.lt_of_lt_of_le h1 hS.1) h2]; exact hS.2.1 q h1 h2, fun q hq => by
      rcases List.mem_append.mp hq with h | h
      · exact hS.2.2 q h
      · exact hL q h⟩ T' rfl X'
  exact ⟨t2, st t2 a1, b1⟩
variable {y : MethodName} {bytes : ByteArray} {maxL n index : Nat} {ret : Option FieldType} {rm' : Room} {As : List Value}
theorem fd_callR (As : List Value) {b : Nat} (C : fd_C p s m args c own cc nL E) (hsz : ls.size = nL) (hH : fd_H E S s H locs) (hM : fd_Ct l y bytes maxL ret rm' E S (.ref b :: As) v S') (hw : fd_wV own index y bytes maxL ret n) (hrecv : ∃ cell : Cell, H[b]? = some cell ∧ cell.vm.isStatics = false ∧ s.vm.findClass y.cls = some cell.cls)
    (hR : rm'.cells = 0 ∧ rm'.slots = 0 ∧ rm'.frames + 1 ≤ R.frames ∧ 8 + (maxL + 11) + rm'.locals ≤ R.locals) (hn : As.length = n) (hst : st0 = As.reverse ++ .ref b :: rest) (hrm : (rest.map fun v => v.category).sum ≤ 8) (hf : cells ≤ R.cells ∧ slots ≤ R.slots) (hdg : decode cc pc = .ok (.invokevirtual index, 3))
    (kk : ∀ (H1 : Heap) (locs1 : List Loc), fd_H E S' s H1 locs1 → W p l e R s m args below meth c H1 locs1 cells slots Q (F0 m (pc + 3) ls (v.toList ++ rest))) : W p l e R s m args below meth c H locs cells slots Q (F0 m pc ls st0) := by
  obtain ⟨hx, hb, hml, hown, hts, hK, hZ⟩ := C
  obtain ⟨hd, w1, w2, w3, w4, w5⟩ := hw
  refine fd_after (va_runV (Ts := fd_T) (own := own) (C := y.cls) (As := As) (rest := rest) ⟨hx, hb, hml, hown, hts⟩ hM (cwV n hts (fd_good ?_) rfl hR.1 hR.2.1 ⟨rfl, hd⟩ ⟨hR.2.2.1, hR.2.2.2⟩) ⟨fd_blind, hrecv, fd_pre hK hZ hH⟩ rfl hn hsz hst (lv_room hrm) hdg hf) hH kk
  intro w hw
  rcases List.mem_append.mp hw with h | h
  · simp only [List.mem_cons, List.not_mem_nil, or_false] at h
    rcases h with rfl | rfl | rfl | rfl
    · exact w1
    · exact w2
    · exact w3
    · exact w4
  · rcases List.mem_cons.mp h with rfl | h
    · exact w5
    · exact h
theorem fd_callV (k ci : Nat) (As : List Value) (C : fd_C p s m args c own cc nL E) (hsz : ls.size = nL) (hH : fd_H E S s H locs) (hM : fd_Ct l y bytes maxL ret rm' E S (.ref (E.2.2 k) :: As) v S') (hw : fd_wV own index y bytes maxL ret n) (hk : k < 82) (hkd : fd_kd k = ci) (h8 : ci < 8) (hcls : (fd_cq ci).1 = y.cls)
    (hR : rm'.cells = 0 ∧ rm'.slots = 0 ∧ rm'.frames + 1 ≤ R.frames ∧ 8 + (maxL + 11) + rm'.locals ≤ R.locals) (hn : As.length = n) (hst : st0 = As.reverse ++ .ref (E.2.2 k) :: rest) (hrm : (rest.map fun v => v.category).sum ≤ 8) (hf : cells ≤ R.cells ∧ slots ≤ R.slots) (hdg : decode cc pc = .ok (.invokevirtual index, 3))
    (kk : ∀ (H1 : Heap) (locs1 : List Loc), fd_H E S' s H1 locs1 → W p l e R s m args below meth c H1 locs1 cells slots Q (F0 m (pc + 3) ls (v.toList ++ rest))) : W p l e R s m args below meth c H locs cells slots Q (F0 m pc ls st0) :=
  fd_callR As C hsz hH hM hw (by have := va_recv C.2.2.2.2.2.1 hH.1 (fd_CL_at h8) (fd_ws_o E S hk hkd h8); rwa [hcls] at this) hR hn hst hrm hf hdg kk
theorem fd_callS (As : List Value) (C : fd_C p s m args c own cc nL E) (hsz : ls.size = nL) (hH : fd_H E S s H locs) (hM : fd_Ct l y bytes maxL ret rm' E S As v S') (hw : fd_wS own index y bytes maxL ret n)
    (hR : rm'.cells = 0 ∧ rm'.slots = 0 ∧ rm'.frames + 1 ≤ R.frames ∧ 8 + (maxL + 11) + rm'.locals ≤ R.locals) (hn : As.length = n) (hst : st0 = As.reverse ++ rest) (hrm : (rest.map fun v => v.category).sum ≤ 8) (hf : cells ≤ R.cells ∧ slots ≤ R.slots) (hdg : decode cc pc = .ok (.invokestatic index, 3))
    (kk : ∀ (H1 : Heap) (locs1 : List Loc), fd_H E S' s H1 locs1 → W p l e R s m args below meth c H1 locs1 cells slots Q (F0 m (pc + 3) ls (v.toList ++ rest))) : W p l e R s m args below meth c H locs cells slots Q (F0 m pc ls st0) := by
  obtain ⟨hx, hb, hml, hown, hts, hK, hZ⟩ := C
  obtain ⟨hd, w1, w2, w4, w5⟩ := hw
  refine fd_after (va_runS (Ts := fd_T) (own := own) (As := As) (rest := rest) ⟨hx, hb, hml, hown, hts⟩ hM (va_cwS n hts (fd_good ?_) rfl hR.1 hR.2.1 hd ⟨hR.2.2.1, hR.2.2.2⟩) ⟨fd_blind, fd_pre hK hZ hH⟩ rfl hn hsz hst (lv_room hrm) hdg hf) hH kk
  intro w hw
  rcases List.mem_append.mp hw with h | h
  · simp only [List.mem_cons, List.not_mem_nil, or_false] at h
    rcases h with rfl | rfl | rfl
    · exact w1
    · exact w2
    · exact w4
  · rcases List.mem_cons.mp h with rfl | h
    · exact w5
    · exact h
theorem fd_callN (host : String) (As : List Value) (C : fd_C p s m args c own cc nL E) (hsz : ls.size = nL) (hH : fd_H E S s H locs) (hM : fd_Ct l y bytes maxL ret rm' E S As v S') (hw : fd_wN y bytes maxL ret n) (hnw : va_Nw (.methodLinkNest own index y host) s)
    (hR : rm'.cells = 0 ∧ rm'.slots = 0 ∧ rm'.frames + 1 ≤ R.frames ∧ 8 + (maxL + 11) + rm'.locals ≤ R.locals) (hn : As.length = n) (hst : st0 = As.reverse ++ rest) (hrm : (rest.map fun v => v.category).sum ≤ 8) (hf : cells ≤ R.cells ∧ slots ≤ R.slots) (hdg : decode cc pc = .ok (.invokestatic index, 3))
    (kk : ∀ (H1 : Heap) (locs1 : List Loc), fd_H E S' s H1 locs1 → W p l e R s m args below meth c H1 locs1 cells slots Q (F0 m (pc + 3) ls (v.toList ++ rest))) : W p l e R s m args below meth c H locs cells slots Q (F0 m pc ls st0) := by
  obtain ⟨hx, hb, hml, hown, hts, hK, hZ⟩ := C
  obtain ⟨hd, w2, w4, w5⟩ := hw
  refine fd_after (va_runSN (Ts := fd_T) (own := own) (host := host) (As := As) (rest := rest) ⟨hx, hb, hml, hown, hts⟩ hM ⟨va_cnB n hts (fd_good ?_) rfl hR.1 hR.2.1 hnw (hts _ w4) hd ⟨hR.2.2.1, hR.2.2.2⟩, hts _ w2, trivial⟩ ⟨fd_blind, fd_pre hK hZ hH⟩ rfl hn hsz hst (lv_room hrm) hdg hf) hH kk
  intro w hw
  rcases List.mem_cons.mp hw with rfl | h
  · exact w5
  · exact h
end FDC
/-! small helpers of the walks -/
theorem fd_bnd {α β : Type} {o : Option α} {f : α → Option β} {y : β} (h : o.bind f = some y) : ∃ r, o = some r ∧ f r = some y := by
  cases o with
  | none => cases h
  | some r => exact ⟨r, rfl, h⟩
theorem fd_grd {α : Type} {g : Prop} {dg : Decidable g} {x : Option α} {y : α} (h : (if g then x else none) = some y) : g ∧ x = some y := by
  by_cases hg : g
  · rw [if_pos hg] at h
    exact ⟨hg, h⟩
  · rw [if_neg hg] at h
    cases h
def fd_lt {α β : Type} (x : α) (f : α → β) : β := f x
theorem fd_ltE {α β : Type} {x : α} {f : α → Option β} {y : β} (h : fd_lt x f = some y) : ∃ r, r = x ∧ f r = some y := ⟨x, rfl, h⟩
end
section
theorem fd_ifp {α : Type} {g : Prop} {dg : Decidable g} {a b y : α} (c : g) (h : (if g then a else b) = y) : a = y := by rwa [if_pos c] at h
theorem fd_ifn {α : Type} {g : Prop} {dg : Decidable g} {a b y : α} (c : ¬ g) (h : (if g then a else b) = y) : b = y := by rwa [if_neg c] at h
theorem fd_ltN {α β : Type} {x x' : α} {f : α → β} {y : β} (e : x' = x) (h : fd_lt x f = y) : f x' = y := by
  subst e
  exact h
theorem fd_ltS {α β : Type} {x : α} {f : α → β} {y : β} (h : fd_lt x f = y) : ∃ r, r = x ∧ f r = y := ⟨x, rfl, h⟩
theorem fd_ne {x : Int32} (k : Int32) {z : Int} (hz : k.toInt = z) (h : ¬ x = k) : x.toInt ≠ z := fun q => h (Int32.toInt_inj.mp (q.trans hz.symm))
/-- a record that may be missing -/
def fd_rv (E : fd_E) (o : Option Nat) : Value := match o with
  | none => .null
  | some k => .ref (E.2.2 k)
def fd_on {β : Type} (o : Option Nat) (a : β) (f : Nat → β) : β := match o with
  | none => a
  | some k => f k
theorem fd_rv_or (E : fd_E) (o : Option Nat) : fd_rv E o = .null ∨ ∃ a, fd_rv E o = .ref a := by
  cases o with
  | none => exact Or.inl rfl
  | some k => exact Or.inr ⟨_, rfl⟩
def fd_rem (x y : Int32) : Int32 := x - x / y * y
def fd_max (x y : Int32) : Int32 := if x < y then y else x
def fd_min (x y : Int32) : Int32 := if y < x then y else x
/-- a record's cell -/
abbrev fd_rk (k : Nat) : Prop := k < 69 ∧ 8 ≤ k % 23 ∧ k % 23 < 14
theorem fd_rk_all : ∀ k, k < 69 → (8 ≤ k % 23 ∧ k % 23 < 14) → fd_kd k = 3 ∧ fd_kd (k + 6) = 8 ∧ fd_ln (k + 6) = 4 := by decide
theorem fd_rk1 {k : Nat} (h : fd_rk k) : k < 82 := Nat.lt_of_lt_of_le h.1 (by decide)
theorem fd_rk2 {k : Nat} (h : fd_rk k) : k + 6 < 82 := by have := h.1; omega
theorem fd_rk3 {k : Nat} (h : fd_rk k) : fd_kd k = 3 := (fd_rk_all k h.1 h.2).1
theorem fd_rk4 {k : Nat} (h : fd_rk k) : fd_kd (k + 6) = 8 := (fd_rk_all k h.1 h.2).2.1
theorem fd_rk5 {k : Nat} (h : fd_rk k) : nI (fd_ln (k + 6)) = 4 := by rw [(fd_rk_all k h.1 h.2).2.2]; rfl
theorem fd_rk6 {k : Nat} (h : fd_rk k) : fd_ln (k + 6) = 4 := (fd_rk_all k h.1 h.2).2.2
/-- a State's first cell -/
def fd_st (a : Nat) : Prop := a = 0 ∨ a = 23 ∨ a = 46
theorem fd_st1 {a : Nat} (h : fd_st a) (o : Nat) (ho : o < 23) : a + o < 82 := by rcases h with rfl | rfl | rfl <;> omega
theorem fd_st2_all : ∀ o, o < 23 → fd_kd (23 + o) = fd_kd o ∧ fd_kd (46 + o) = fd_kd o ∧ fd_ln (23 + o) = fd_ln o ∧ fd_ln (46 + o) = fd_ln o := by decide
theorem fd_st2 {a : Nat} (h : fd_st a) (o : Nat) (ho : o < 23) {ci : Nat} (hc : fd_kd o = ci) : fd_kd (a + o) = ci := by
  subst hc
  rcases h with rfl | rfl | rfl
  · rw [Nat.zero_add]
  · exact (fd_st2_all o ho).1
  · exact (fd_st2_all o ho).2.1
theorem fd_st3 {a : Nat} (h : fd_st a) (o : Nat) (ho : o < 23) {n : Nat} (hc : fd_ln o = n) : fd_ln (a + o) = n := by
  subst hc
  rcases h with rfl | rfl | rfl
  · rw [Nat.zero_add]
  · exact (fd_st2_all o ho).2.2.1
  · exact (fd_st2_all o ho).2.2.2
theorem fd_st4 {a : Nat} (h : fd_st a) (o : Nat) (ho : o < 23) {n : Int32} (hc : nI (fd_ln o) = n) : nI (fd_ln (a + o)) = n := by rw [fd_st3 h o ho rfl]; exact hc
section FDH
variable {p : Program} {l : Launch} {e : Env} {R : Room} {s : State} {m : MethodId} {args : Array Value} {below : List Frame} {meth : Method} {c : Code} {H : Heap} {locs : List Loc} {cells slots : Nat} {Q : State → Prop}
variable {cc : ByteArray} {pc : Nat} {ls : Array Slot} {rest st0 : List Value} {own : String} {nL : Nat} {E : fd_E} {S S' : fd_S}
theorem fd_irem (hx : p.tables.exec = Jvm.exec) (hb : c.code = cc) {x y : Int32} (hdg : decode cc pc = .ok (.irem, 1)) (hne : ¬ y = 0) (k : W p l e R s m args below meth c H locs cells slots Q (F0 m (pc + 1) ls (.int (fd_rem x y) :: rest))) : W p l e R s m args below meth c H locs cells slots Q (F0 m pc ls (.int y :: .int x :: rest)) := lv_irem hx hb hdg hne k
def fd_wM (y : MethodName) (bytes : ByteArray) : Prop := Cond.static y ∈ fd_T ∧ Cond.initialized "java/lang/Math" ∈ fd_T ∧ Cond.code y bytes 2 (some .int) ∈ fd_T
theorem fd_mmax (C : fd_C p s m args c own cc nL E) (hsz : ls.size = nL) {index : Nat} (hl : Cond.methodLink own index Lib.Math.max.name ∈ fd_T) (hw : fd_wM Lib.Math.max.name Lib.Math.max.code) (hframes : 1 ≤ R.frames) (hlocals : (rest.map fun v => v.category).sum + 13 ≤ R.locals) (hc : cells ≤ R.cells) (hs : slots ≤ R.slots) {x y : Int32} (hdg : decode cc pc = .ok (.invokestatic index, 3))
    (kk : W p l e R s m args below meth c H locs cells slots Q (F0 m (pc + 3) ls (.int (fd_max x y) :: rest))) : W p l e R s m args below meth c H locs cells slots Q (F0 m pc ls (.int y :: .int x :: rest)) := by
  obtain ⟨hx, hb, hml, hown, hts, hK, hZ⟩ := C
  exact va_mmax hx hb (hml.trans hsz.symm) hown (hts _ hl) (hts _ hw.1) (hts _ hw.2.1) (hts _ hw.2.2) hframes hlocals hc hs hdg kk
theorem fd_mmin (C : fd_C p s m args c own cc nL E) (hsz : ls.size = nL) {index : Nat} (hl : Cond.methodLink own index Lib.Math.min.name ∈ fd_T) (hw : fd_wM Lib.Math.min.name Lib.Math.min.code) (hframes : 1 ≤ R.frames) (hlocals : (rest.map fun v => v.category).sum + 13 ≤ R.locals) (hc : cells ≤ R.cells) (hs : slots ≤ R.slots) {x y : Int32} (hdg : decode cc pc = .ok (.invokestatic index, 3))
    (kk : W p l e R s m args below meth c H locs cells slots Q (F0 m (pc + 3) ls (.int (fd_min x y) :: rest))) : W p l e R s m args below meth c H locs cells slots Q (F0 m pc ls (.int y :: .int x :: rest)) := by
  obtain ⟨hx, hb, hml, hown, hts, hK, hZ⟩ := C
  exact va_mmin hx hb (hml.trans hsz.symm) hown (hts _ hl) (hts _ hw.1) (hts _ hw.2.1) (hts _ hw.2.2) hframes hlocals hc hs hdg kk
variable {y : MethodName} {bytes : ByteArray} {maxL n index : Nat} {ret : Option FieldType} {rm' : Room} {x : Value}
theorem fd_callV1 (k ci : Nat) (As : List Value) (C : fd_C p s m args c own cc nL E) (hsz : ls.size = nL) (hH : fd_H E S s H locs) (hM : fd_Ct l y bytes maxL ret rm' E S (.ref (E.2.2 k) :: As) (some x) S') (hw : fd_wV own index y bytes maxL ret n) (hk : k < 82) (hkd : fd_kd k = ci) (h8 : ci < 8) (hcls : (fd_cq ci).1 = y.cls)
    (hR : rm'.cells = 0 ∧ rm'.slots = 0 ∧ rm'.frames + 1 ≤ R.frames ∧ 8 + (maxL + 11) + rm'.locals ≤ R.locals) (hn : As.length = n) (hst : st0 = As.reverse ++ .ref (E.2.2 k) :: rest) (hrm : (rest.map fun v => v.category).sum ≤ 8) (hf : cells ≤ R.cells ∧ slots ≤ R.slots) (hdg : decode cc pc = .ok (.invokevirtual index, 3))
    (kk : ∀ (H1 : Heap) (locs1 : List Loc), fd_H E S' s H1 locs1 → W p l e R s m args below meth c H1 locs1 cells slots Q (F0 m (pc + 3) ls (x :: rest))) : W p l e R s m args below meth c H locs cells slots Q (F0 m pc ls st0) := fd_callV k ci As C hsz hH hM hw hk hkd h8 hcls hR hn hst hrm hf hdg kk
theorem fd_callV0 (k ci : Nat) (As : List Value) (C : fd_C p s m args c own cc nL E) (hsz : ls.size = nL) (hH : fd_H E S s H locs) (hM : fd_Ct l y bytes maxL ret rm' E S (.ref (E.2.2 k) :: As) none S') (hw : fd_wV own index y bytes maxL ret n) (hk : k < 82) (hkd : fd_kd k = ci) (h8 : ci < 8) (hcls : (fd_cq ci).1 = y.cls)
    (hR : rm'.cells = 0 ∧ rm'.slots = 0 ∧ rm'.frames + 1 ≤ R.frames ∧ 8 + (maxL + 11) + rm'.locals ≤ R.locals) (hn : As.length = n) (hst : st0 = As.reverse ++ .ref (E.2.2 k) :: rest) (hrm : (rest.map fun v => v.category).sum ≤ 8) (hf : cells ≤ R.cells ∧ slots ≤ R.slots) (hdg : decode cc pc = .ok (.invokevirtual index, 3))
    (kk : ∀ (H1 : Heap) (locs1 : List Loc), fd_H E S' s H1 locs1 → W p l e R s m args below meth c H1 locs1 cells slots Q (F0 m (pc + 3) ls rest)) : W p l e R s m args below meth c H locs cells slots Q (F0 m pc ls st0) := fd_callV k ci As C hsz hH hM hw hk hkd h8 hcls hR hn hst hrm hf hdg kk
theorem fd_callR1 (As : List Value) {b : Nat} (C : fd_C p s m args c own cc nL E) (hsz : ls.size = nL) (hH : fd_H E S s H locs) (hM : fd_Ct l y bytes maxL ret rm' E S (.ref b :: As) (some x) S') (hw : fd_wV own index y bytes maxL ret n) (hrecv : ∃ cell : Cell, H[b]? = some cell ∧ cell.vm.isStatics = false ∧ s.vm.findClass y.cls = some cell.cls)
    (hR : rm'.cells = 0 ∧ rm'.slots = 0 ∧ rm'.frames + 1 ≤ R.frames ∧ 8 + (maxL + 11) + rm'.locals ≤ R.locals) (hn : As.length = n) (hst : st0 = As.reverse ++ .ref b :: rest) (hrm : (rest.map fun v => v.category).sum ≤ 8) (hf : cells ≤ R.cells ∧ slots ≤ R.slots) (hdg : decode cc pc = .ok (.invokevirtual index, 3))
    (kk : ∀ (H1 : Heap) (locs1 : List Loc), fd_H E S' s H1 locs1 → W p l e R s m args below meth c H1 locs1 cells slots Q (F0 m (pc + 3) ls (x :: rest))) : W p l e R s m args below meth c H locs cells slots Q (F0 m pc ls st0) := fd_callR As C hsz hH hM hw hrecv hR hn hst hrm hf hdg kk
theorem fd_callS1 (As : List Value) (C : fd_C p s m args c own cc nL E) (hsz : ls.size = nL) (hH : fd_H E S s H locs) (hM : fd_Ct l y bytes maxL ret rm' E S As (some x) S') (hw : fd_wS own index y bytes maxL ret n)
    (hR : rm'.cells = 0 ∧ rm'.slots = 0 ∧ rm'.frames + 1 ≤ R.frames ∧ 8 + (maxL + 11) + rm'.locals ≤ R.locals) (hn : As.length = n) (hst : st0 = As.reverse ++ rest) (hrm : (rest.map fun v => v.category).sum ≤ 8) (hf : cells ≤ R.cells ∧ slots ≤ R.slots) (hdg : decode cc pc = .ok (.invokestatic index, 3))
    (kk : ∀ (H1 : Heap) (locs1 : List Loc), fd_H E S' s H1 locs1 → W p l e R s m args below meth c H1 locs1 cells slots Q (F0 m (pc + 3) ls (x :: rest))) : W p l e R s m args below meth c H locs cells slots Q (F0 m pc ls st0) := fd_callS As C hsz hH hM hw hR hn hst hrm hf hdg kk
theorem fd_callS0 (As : List Value) (C : fd_C p s m args c own cc nL E) (hsz : ls.size = nL) (hH : fd_H E S s H locs) (hM : fd_Ct l y bytes maxL ret rm' E S As none S') (hw : fd_wS own index y bytes maxL ret n)
    (hR : rm'.cells = 0 ∧ rm'.slots = 0 ∧ rm'.frames + 1 ≤ R.frames ∧ 8 + (maxL + 11) + rm'.locals ≤ R.locals) (hn : As.length = n) (hst : st0 = As.reverse ++ rest) (hrm : (rest.map fun v => v.category).sum ≤ 8) (hf : cells ≤ R.cells ∧ slots ≤ R.slots) (hdg : decode cc pc = .ok (.invokestatic index, 3))
    (kk : ∀ (H1 : Heap) (locs1 : List Loc), fd_H E S' s H1 locs1 → W p l e R s m args below meth c H1 locs1 cells slots Q (F0 m (pc + 3) ls rest)) : W p l e R s m args below meth c H locs cells slots Q (F0 m pc ls st0) := fd_callS As C hsz hH hM hw hR hn hst hrm hf hdg kk
theorem fd_callN1 (host : String) (As : List Value) (C : fd_C p s m args c own cc nL E) (hsz : ls.size = nL) (hH : fd_H E S s H locs) (hM : fd_Ct l y bytes maxL ret rm' E S As (some x) S') (hw : fd_wN y bytes maxL ret n) (hnw : va_Nw (.methodLinkNest own index y host) s)
    (hR : rm'.cells = 0 ∧ rm'.slots = 0 ∧ rm'.frames + 1 ≤ R.frames ∧ 8 + (maxL + 11) + rm'.locals ≤ R.locals) (hn : As.length = n) (hst : st0 = As.reverse ++ rest) (hrm : (rest.map fun v => v.category).sum ≤ 8) (hf : cells ≤ R.cells ∧ slots ≤ R.slots) (hdg : decode cc pc = .ok (.invokestatic index, 3))
    (kk : ∀ (H1 : Heap) (locs1 : List Loc), fd_H E S' s H1 locs1 → W p l e R s m args below meth c H1 locs1 cells slots Q (F0 m (pc + 3) ls (x :: rest))) : W p l e R s m args below meth c H locs cells slots Q (F0 m pc ls st0) := fd_callN host As C hsz hH hM hw hnw hR hn hst hrm hf hdg kk
end FDH
/-! strings by their numbers 0 to 6 -/
def fd_sl (i : Nat) : Int32 := nI (fd_slen.getD i 0)
def fd_sc (i : Nat) (j : Int32) : Int32 := (fd_sbyt.getD i []).getD j.toNatClampNeg 0
section FDT
variable {p : Program} {l : Launch} {e : Env} {R : Room} {s : State} {m : MethodId} {args : Array Value} {below : List Frame} {meth : Method} {c : Code} {H : Heap} {locs : List Loc} {cells slots : Nat} {Q : State → Prop}
variable {cc : ByteArray} {pc : Nat} {ls : Array Slot} {rest st0 : List Value} {own : String} {nL : Nat} {E : fd_E} {S S' : fd_S}
theorem fd_topr {x : Nat} (k : ∀ y : Nat, y = x → W p l e R s m args below meth c H locs cells slots Q (F0 m pc ls (.ref (E.2.2 y) :: rest))) : W p l e R s m args below meth c H locs cells slots Q (F0 m pc ls (.ref (E.2.2 x) :: rest)) := k x rfl
theorem fd_k8 : ∀ q, q < 14 → 8 ≤ q → fd_kd q = 3 := by decide
/-- the rows of the RecordList of now -/
theorem fd_aast0 (C : fd_C p s m args c own cc nL E) (hH : fd_H E S s H locs) {i : Int32} {q : Nat} (hi : 0 ≤ i ∧ i < 6) (hq : 8 ≤ q ∧ q < 14) (hdg : decode cc pc = .ok (.aastore, 1))
    (kk : ∀ (H1 : Heap) (locs1 : List Loc), fd_H E (fd_up S 4 i (nI (q - 8))) s H1 locs1 → W p l e R s m args below meth c H1 locs1 cells slots Q (F0 m (pc + 1) ls rest)) : W p l e R s m args below meth c H locs cells slots Q (F0 m pc ls (.ref (E.2.2 q) :: .int i :: .ref (E.2.2 4) :: rest)) :=
  fd_aast 4 6 C hH (by decide) rfl rfl hi hq (fd_k8 q hq.2 hq.1) (by omega) hdg kk
theorem fd_srecv {i : Nat} (hi : i < 7) (C : fd_C p s m args c own cc nL E) (hH : fd_H E S s H locs) : ∃ cell : Cell, H[E.2.2 (110 + i)]? = some cell ∧ cell.vm.isStatics = false ∧ s.vm.findClass "java/lang/String" = some cell.cls := by
  obtain ⟨hx, hb, hml, hown, hts, hK, hZ⟩ := C
  exact vk_recv (adK := fun i => E.2.2 (110 + i)) hZ.2.2.2.2.1.1 hi hH.2.2
theorem fd_ldcS (i : Nat) (hi : i < 7) {tx : Nat} (htx : 57 + 2 * i = tx) (C : fd_C p s m args c "FlapDamper$Text" cc nL E) (hdg : decode cc pc = .ok (.ldc tx, 2))
    (kk : W p l e R s m args below meth c H locs cells slots Q (F0 m (pc + 2) ls (.ref (E.2.2 (110 + i)) :: rest))) : W p l e R s m args below meth c H locs cells slots Q (F0 m pc ls rest) := by
  subst htx
  obtain ⟨hx, hb, hml, hown, hts, hK, hZ⟩ := C
  exact va_ldcS hx hb hown (hZ.2.2.2.2.1.2 i hi) hdg kk
end FDT
theorem fd_on_n {β : Type} {a y : β} {f : Nat → β} (h : fd_on none a f = y) : a = y := h
theorem fd_on_s {β : Type} {a y : β} {f : Nat → β} {k : Nat} (h : fd_on (some k) a f = y) : f k = y := h
def fd_pr {α β γ : Type} (q : α × β) (f : α → β → γ) : γ := f q.1 q.2
theorem fd_prE {α β γ : Type} {a : α} {b : β} {f : α → β → γ} {y : γ} (h : fd_pr (a, b) f = y) : f a b = y := h
theorem fd_nb {v : Int32} (h : v = 0 ∨ v = 1) : narrow .boolean (.int v) = .int v := by rcases h with rfl | rfl <;> rfl
theorem fd_fb {v : Int32} (h : v = 0 ∨ v = 1) : fits .boolean (.int v) = true := by rcases h with rfl | rfl <;> rfl
end
section
theorem wf_X7_30 : (Cond.fieldLink "FlapDamperModel" 30 "FlapDamperModel" "state" "[I") ∈ fd_T := (List.mem_filter.mpr ⟨List.mem_append_right _ (List.mem_of_getElem? (i := 588) (by decide +kernel)), by decide +kernel⟩)
theorem wm_X7_43 : fd_wS "FlapDamperModel" 43 yX7_in cX7_in 3 (some .boolean) 3 := ⟨⟨by decide +kernel, by decide +kernel, by decide +kernel⟩, (List.mem_filter.mpr ⟨List.mem_append_right _ (List.mem_of_getElem? (i := 616) (by decide +kernel)), by decide +kernel⟩), (List.mem_filter.mpr ⟨List.mem_append_right _ (List.mem_of_getElem? (i := 617) (by decide +kernel)), by decide +kernel⟩), (List.mem_filter.mpr ⟨List.mem_append_right _ (List.mem_of_getElem? (i := 9) (by decide +kernel)), by decide +kernel⟩), (List.mem_filter.mpr ⟨List.mem_append_right _ (List.mem_of_getElem? (i := 618) (by decide +kernel)), by decide +kernel⟩)⟩
theorem wf_X7_47 : (Cond.fieldLink "FlapDamperModel" 47 "FlapDamperModel" "signs" "I") ∈ fd_T := (List.mem_filter.mpr ⟨List.mem_append_right _ (List.mem_of_getElem? (i := 592) (by decide +kernel)), by decide +kernel⟩)
theorem wf_X7_40 : (Cond.fieldLink "FlapDamperModel" 40 "FlapDamperModel" "text" "[I") ∈ fd_T := (List.mem_filter.mpr ⟨List.mem_append_right _ (List.mem_of_getElem? (i := 591) (by decide +kernel)), by decide +kernel⟩)
theorem wm_X7_51 : fd_wS "FlapDamperModel" 51 yX7_size cX7_size 1 (some .int) 1 := ⟨⟨by decide +kernel, by decide +kernel, by decide +kernel⟩, (List.mem_filter.mpr ⟨List.mem_append_right _ (List.mem_of_getElem? (i := 635) (by decide +kernel)), by decide +kernel⟩), (List.mem_filter.mpr ⟨List.mem_append_right _ (List.mem_of_getElem? (i := 636) (by decide +kernel)), by decide +kernel⟩), (List.mem_filter.mpr ⟨List.mem_append_right _ (List.mem_of_getElem? (i := 9) (by decide +kernel)), by decide +kernel⟩), (List.mem_filter.mpr ⟨List.mem_append_right _ (List.mem_of_getElem? (i := 637) (by decide +kernel)), by decide +kernel⟩)⟩
theorem wm_X7_55 : fd_wS "FlapDamperModel" 55 yX7_isFigure cX7_isFigure 1 (some .boolean) 1 := ⟨⟨by decide +kernel, by decide +kernel, by decide +kernel⟩, (List.mem_filter.mpr ⟨List.mem_append_right _ (List.mem_of_getElem? (i := 638) (by decide +kernel)), by decide +kernel⟩), (List.mem_filter.mpr ⟨List.mem_append_right _ (List.mem_of_getElem? (i := 639) (by decide +kernel)), by decide +kernel⟩), (List.mem_filter.mpr ⟨List.mem_append_right _ (List.mem_of_getElem? (i := 9) (by decide +kernel)), by decide +kernel⟩), (List.mem_filter.mpr ⟨List.mem_append_right _ (List.mem_of_getElem? (i := 640) (by decide +kernel)), by decide +kernel⟩)⟩
theorem wf_X7_21 : (Cond.fieldLink "FlapDamperModel" 21 "FlapDamperModel" "names" "[I") ∈ fd_T := (List.mem_filter.mpr ⟨List.mem_append_right _ (List.mem_of_getElem? (i := 585) (by decide +kernel)), by decide +kernel⟩)
theorem wm_X7_59 : fd_wV "FlapDamperModel" 59 yX7_fitting cX7_fitting 4 (some .int) 1 := ⟨⟨by decide +kernel, by decide +kernel, by decide +kernel⟩, (List.mem_filter.mpr ⟨List.mem_append_right _ (List.mem_of_getElem? (i := 631) (by decide +kernel)), by decide +kernel⟩), (List.mem_filter.mpr ⟨List.mem_append_right _ (List.mem_of_getElem? (i := 633) (by decide +kernel)), by decide +kernel⟩), (List.mem_filter.mpr ⟨List.mem_append_left _ (List.mem_of_getElem? (i := 18) (by decide +kernel)), by decide +kernel⟩), (List.mem_filter.mpr ⟨List.mem_append_right _ (List.mem_of_getElem? (i := 9) (by decide +kernel)), by decide +kernel⟩), (List.mem_filter.mpr ⟨List.mem_append_right _ (List.mem_of_getElem? (i := 634) (by decide +kernel)), by decide +kernel⟩)⟩
theorem wm_X7_62 : fd_wV "FlapDamperModel" 62 yX7_told cX7_told 3 (some .int) 0 := ⟨⟨by decide +kernel, by decide +kernel, by decide +kernel⟩, (List.mem_filter.mpr ⟨List.mem_append_right _ (List.mem_of_getElem? (i := 641) (by decide +kernel)), by decide +kernel⟩), (List.mem_filter.mpr ⟨List.mem_append_right _ (List.mem_of_getElem? (i := 643) (by decide +kernel)), by decide +kernel⟩), (List.mem_filter.mpr ⟨List.mem_append_left _ (List.mem_of_getElem? (i := 19) (by decide +kernel)), by decide +kernel⟩), (List.mem_filter.mpr ⟨List.mem_append_right _ (List.mem_of_getElem? (i := 9) (by decide +kernel)), by decide +kernel⟩), (List.mem_filter.mpr ⟨List.mem_append_right _ (List.mem_of_getElem? (i := 644) (by decide +kernel)), by decide +kernel⟩)⟩
theorem wm_X7_66 : fd_wV "FlapDamperModel" 66 yX7_faultNow cX7_faultNow 3 (some .int) 0 := ⟨⟨by decide +kernel, by decide +kernel, by decide +kernel⟩, (List.mem_filter.mpr ⟨List.mem_append_right _ (List.mem_of_getElem? (i := 627) (by decide +kernel)), by decide +kernel⟩), (List.mem_filter.mpr ⟨List.mem_append_right _ (List.mem_of_getElem? (i := 629) (by decide +kernel)), by decide +kernel⟩), (List.mem_filter.mpr ⟨List.mem_append_left _ (List.mem_of_getElem? (i := 17) (by decide +kernel)), by decide +kernel⟩), (List.mem_filter.mpr ⟨List.mem_append_right _ (List.mem_of_getElem? (i := 9) (by decide +kernel)), by decide +kernel⟩), (List.mem_filter.mpr ⟨List.mem_append_right _ (List.mem_of_getElem? (i := 630) (by decide +kernel)), by decide +kernel⟩)⟩
theorem wf_X7_24 : (Cond.fieldLink "FlapDamperModel" 24 "FlapDamperModel" "lows" "[I") ∈ fd_T := (List.mem_filter.mpr ⟨List.mem_append_right _ (List.mem_of_getElem? (i := 586) (by decide +kernel)), by decide +kernel⟩)
theorem wf_X7_27 : (Cond.fieldLink "FlapDamperModel" 27 "FlapDamperModel" "highs" "[I") ∈ fd_T := (List.mem_filter.mpr ⟨List.mem_append_right _ (List.mem_of_getElem? (i := 587) (by decide +kernel)), by decide +kernel⟩)
theorem wm_X7_69 : fd_wV "FlapDamperModel" 69 yX7_bounded cX7_bounded 2 (some .int) 1 := ⟨⟨by decide +kernel, by decide +kernel, by decide +kernel⟩, (List.mem_filter.mpr ⟨List.mem_append_right _ (List.mem_of_getElem? (i := 649) (by decide +kernel)), by decide +kernel⟩), (List.mem_filter.mpr ⟨List.mem_append_right _ (List.mem_of_getElem? (i := 651) (by decide +kernel)), by decide +kernel⟩), (List.mem_filter.mpr ⟨List.mem_append_left _ (List.mem_of_getElem? (i := 20) (by decide +kernel)), by decide +kernel⟩), (List.mem_filter.mpr ⟨List.mem_append_right _ (List.mem_of_getElem? (i := 9) (by decide +kernel)), by decide +kernel⟩), (List.mem_filter.mpr ⟨List.mem_append_right _ (List.mem_of_getElem? (i := 652) (by decide +kernel)), by decide +kernel⟩)⟩
theorem wm_X7_72 : fd_wS "FlapDamperModel" 72 yX7_at cX7_at 2 (some .int) 2 := ⟨⟨by decide +kernel, by decide +kernel, by decide +kernel⟩, (List.mem_filter.mpr ⟨List.mem_append_right _ (List.mem_of_getElem? (i := 684) (by decide +kernel)), by decide +kernel⟩), (List.mem_filter.mpr ⟨List.mem_append_right _ (List.mem_of_getElem? (i := 685) (by decide +kernel)), by decide +kernel⟩), (List.mem_filter.mpr ⟨List.mem_append_right _ (List.mem_of_getElem? (i := 9) (by decide +kernel)), by decide +kernel⟩), (List.mem_filter.mpr ⟨List.mem_append_right _ (List.mem_of_getElem? (i := 686) (by decide +kernel)), by decide +kernel⟩)⟩
theorem wf_X7_15 : (Cond.fieldLink "FlapDamperModel" 15 "FlapDamperModel" "row" "[I") ∈ fd_T := (List.mem_filter.mpr ⟨List.mem_append_right _ (List.mem_of_getElem? (i := 584) (by decide +kernel)), by decide +kernel⟩)
theorem wc_X7_7 : (Cond.constant "FlapDamperModel" 7 65536) ∈ fd_T := (List.mem_filter.mpr ⟨List.mem_append_right _ (List.mem_of_getElem? (i := 576) (by decide +kernel)), by decide +kernel⟩)
theorem wm_X7_76 : fd_wV "FlapDamperModel" 76 yX7_lessened cX7_lessened 6 (some .int) 2 := ⟨⟨by decide +kernel, by decide +kernel, by decide +kernel⟩, (List.mem_filter.mpr ⟨List.mem_append_right _ (List.mem_of_getElem? (i := 707) (by decide +kernel)), by decide +kernel⟩), (List.mem_filter.mpr ⟨List.mem_append_right _ (List.mem_of_getElem? (i := 709) (by decide +kernel)), by decide +kernel⟩), (List.mem_filter.mpr ⟨List.mem_append_left _ (List.mem_of_getElem? (i := 31) (by decide +kernel)), by decide +kernel⟩), (List.mem_filter.mpr ⟨List.mem_append_right _ (List.mem_of_getElem? (i := 9) (by decide +kernel)), by decide +kernel⟩), (List.mem_filter.mpr ⟨List.mem_append_right _ (List.mem_of_getElem? (i := 710) (by decide +kernel)), by decide +kernel⟩)⟩
theorem wm_X7_79 : fd_wV "FlapDamperModel" 79 yX7_penaltyAt cX7_penaltyAt 3 (some .int) 2 := ⟨⟨by decide +kernel, by decide +kernel, by decide +kernel⟩, (List.mem_filter.mpr ⟨List.mem_append_right _ (List.mem_of_getElem? (i := 703) (by decide +kernel)), by decide +kernel⟩), (List.mem_filter.mpr ⟨List.mem_append_right _ (List.mem_of_getElem? (i := 705) (by decide +kernel)), by decide +kernel⟩), (List.mem_filter.mpr ⟨List.mem_append_left _ (List.mem_of_getElem? (i := 30) (by decide +kernel)), by decide +kernel⟩), (List.mem_filter.mpr ⟨List.mem_append_right _ (List.mem_of_getElem? (i := 9) (by decide +kernel)), by decide +kernel⟩), (List.mem_filter.mpr ⟨List.mem_append_right _ (List.mem_of_getElem? (i := 706) (by decide +kernel)), by decide +kernel⟩)⟩
theorem wm_X7_82 : fd_wV "FlapDamperModel" 82 yX7_recordOf cX7_recordOf 4 (some .int) 1 := ⟨⟨by decide +kernel, by decide +kernel, by decide +kernel⟩, (List.mem_filter.mpr ⟨List.mem_append_right _ (List.mem_of_getElem? (i := 680) (by decide +kernel)), by decide +kernel⟩), (List.mem_filter.mpr ⟨List.mem_append_right _ (List.mem_of_getElem? (i := 682) (by decide +kernel)), by decide +kernel⟩), (List.mem_filter.mpr ⟨List.mem_append_left _ (List.mem_of_getElem? (i := 25) (by decide +kernel)), by decide +kernel⟩), (List.mem_filter.mpr ⟨List.mem_append_right _ (List.mem_of_getElem? (i := 9) (by decide +kernel)), by decide +kernel⟩), (List.mem_filter.mpr ⟨List.mem_append_right _ (List.mem_of_getElem? (i := 683) (by decide +kernel)), by decide +kernel⟩)⟩
theorem wm_X7_88 : fd_wV "FlapDamperModel" 88 yX7_remove cX7_remove 3 none 1 := ⟨⟨by decide +kernel, by decide +kernel, by decide +kernel⟩, (List.mem_filter.mpr ⟨List.mem_append_right _ (List.mem_of_getElem? (i := 699) (by decide +kernel)), by decide +kernel⟩), (List.mem_filter.mpr ⟨List.mem_append_right _ (List.mem_of_getElem? (i := 701) (by decide +kernel)), by decide +kernel⟩), (List.mem_filter.mpr ⟨List.mem_append_left _ (List.mem_of_getElem? (i := 29) (by decide +kernel)), by decide +kernel⟩), (List.mem_filter.mpr ⟨List.mem_append_right _ (List.mem_of_getElem? (i := 9) (by decide +kernel)), by decide +kernel⟩), (List.mem_filter.mpr ⟨List.mem_append_right _ (List.mem_of_getElem? (i := 702) (by decide +kernel)), by decide +kernel⟩)⟩
theorem wm_X7_85 : fd_wV "FlapDamperModel" 85 yX7_isHeld cX7_isHeld 2 (some .boolean) 1 := ⟨⟨by decide +kernel, by decide +kernel, by decide +kernel⟩, (List.mem_filter.mpr ⟨List.mem_append_right _ (List.mem_of_getElem? (i := 695) (by decide +kernel)), by decide +kernel⟩), (List.mem_filter.mpr ⟨List.mem_append_right _ (List.mem_of_getElem? (i := 697) (by decide +kernel)), by decide +kernel⟩), (List.mem_filter.mpr ⟨List.mem_append_left _ (List.mem_of_getElem? (i := 28) (by decide +kernel)), by decide +kernel⟩), (List.mem_filter.mpr ⟨List.mem_append_right _ (List.mem_of_getElem? (i := 9) (by decide +kernel)), by decide +kernel⟩), (List.mem_filter.mpr ⟨List.mem_append_right _ (List.mem_of_getElem? (i := 698) (by decide +kernel)), by decide +kernel⟩)⟩
theorem wm_X7_92 : fd_wV "FlapDamperModel" 92 yX7_lineAt cX7_lineAt 3 (some .int) 2 := ⟨⟨by decide +kernel, by decide +kernel, by decide +kernel⟩, (List.mem_filter.mpr ⟨List.mem_append_right _ (List.mem_of_getElem? (i := 672) (by decide +kernel)), by decide +kernel⟩), (List.mem_filter.mpr ⟨List.mem_append_right _ (List.mem_of_getElem? (i := 674) (by decide +kernel)), by decide +kernel⟩), (List.mem_filter.mpr ⟨List.mem_append_left _ (List.mem_of_getElem? (i := 23) (by decide +kernel)), by decide +kernel⟩), (List.mem_filter.mpr ⟨List.mem_append_right _ (List.mem_of_getElem? (i := 9) (by decide +kernel)), by decide +kernel⟩), (List.mem_filter.mpr ⟨List.mem_append_right _ (List.mem_of_getElem? (i := 675) (by decide +kernel)), by decide +kernel⟩)⟩
theorem wm_X7_95 : fd_wV "FlapDamperModel" 95 yX7_write cX7_write 2 none 1 := ⟨⟨by decide +kernel, by decide +kernel, by decide +kernel⟩, (List.mem_filter.mpr ⟨List.mem_append_right _ (List.mem_of_getElem? (i := 668) (by decide +kernel)), by decide +kernel⟩), (List.mem_filter.mpr ⟨List.mem_append_right _ (List.mem_of_getElem? (i := 670) (by decide +kernel)), by decide +kernel⟩), (List.mem_filter.mpr ⟨List.mem_append_left _ (List.mem_of_getElem? (i := 22) (by decide +kernel)), by decide +kernel⟩), (List.mem_filter.mpr ⟨List.mem_append_right _ (List.mem_of_getElem? (i := 9) (by decide +kernel)), by decide +kernel⟩), (List.mem_filter.mpr ⟨List.mem_append_right _ (List.mem_of_getElem? (i := 671) (by decide +kernel)), by decide +kernel⟩)⟩
theorem wm_X7_102 : fd_wV "FlapDamperModel" 102 yX7_makeRecord cX7_makeRecord 4 (some .int) 1 := ⟨⟨by decide +kernel, by decide +kernel, by decide +kernel⟩, (List.mem_filter.mpr ⟨List.mem_append_right _ (List.mem_of_getElem? (i := 691) (by decide +kernel)), by decide +kernel⟩), (List.mem_filter.mpr ⟨List.mem_append_right _ (List.mem_of_getElem? (i := 693) (by decide +kernel)), by decide +kernel⟩), (List.mem_filter.mpr ⟨List.mem_append_left _ (List.mem_of_getElem? (i := 27) (by decide +kernel)), by decide +kernel⟩), (List.mem_filter.mpr ⟨List.mem_append_right _ (List.mem_of_getElem? (i := 9) (by decide +kernel)), by decide +kernel⟩), (List.mem_filter.mpr ⟨List.mem_append_right _ (List.mem_of_getElem? (i := 694) (by decide +kernel)), by decide +kernel⟩)⟩
theorem wm_X7_109 : fd_wV "FlapDamperModel" 109 yX7_writeNumber cX7_writeNumber 3 none 1 := ⟨⟨by decide +kernel, by decide +kernel, by decide +kernel⟩, (List.mem_filter.mpr ⟨List.mem_append_right _ (List.mem_of_getElem? (i := 715) (by decide +kernel)), by decide +kernel⟩), (List.mem_filter.mpr ⟨List.mem_append_right _ (List.mem_of_getElem? (i := 717) (by decide +kernel)), by decide +kernel⟩), (List.mem_filter.mpr ⟨List.mem_append_left _ (List.mem_of_getElem? (i := 33) (by decide +kernel)), by decide +kernel⟩), (List.mem_filter.mpr ⟨List.mem_append_right _ (List.mem_of_getElem? (i := 9) (by decide +kernel)), by decide +kernel⟩), (List.mem_filter.mpr ⟨List.mem_append_right _ (List.mem_of_getElem? (i := 718) (by decide +kernel)), by decide +kernel⟩)⟩
theorem wm_X7_112 : fd_wV "FlapDamperModel" 112 yX7_dueAfter cX7_dueAfter 6 (some .int) 2 := ⟨⟨by decide +kernel, by decide +kernel, by decide +kernel⟩, (List.mem_filter.mpr ⟨List.mem_append_right _ (List.mem_of_getElem? (i := 719) (by decide +kernel)), by decide +kernel⟩), (List.mem_filter.mpr ⟨List.mem_append_right _ (List.mem_of_getElem? (i := 721) (by decide +kernel)), by decide +kernel⟩), (List.mem_filter.mpr ⟨List.mem_append_left _ (List.mem_of_getElem? (i := 34) (by decide +kernel)), by decide +kernel⟩), (List.mem_filter.mpr ⟨List.mem_append_right _ (List.mem_of_getElem? (i := 9) (by decide +kernel)), by decide +kernel⟩), (List.mem_filter.mpr ⟨List.mem_append_right _ (List.mem_of_getElem? (i := 722) (by decide +kernel)), by decide +kernel⟩)⟩
theorem wm_X7_105 : fd_wV "FlapDamperModel" 105 yX7_addCause cX7_addCause 4 none 2 := ⟨⟨by decide +kernel, by decide +kernel, by decide +kernel⟩, (List.mem_filter.mpr ⟨List.mem_append_right _ (List.mem_of_getElem? (i := 711) (by decide +kernel)), by decide +kernel⟩), (List.mem_filter.mpr ⟨List.mem_append_right _ (List.mem_of_getElem? (i := 713) (by decide +kernel)), by decide +kernel⟩), (List.mem_filter.mpr ⟨List.mem_append_left _ (List.mem_of_getElem? (i := 32) (by decide +kernel)), by decide +kernel⟩), (List.mem_filter.mpr ⟨List.mem_append_right _ (List.mem_of_getElem? (i := 9) (by decide +kernel)), by decide +kernel⟩), (List.mem_filter.mpr ⟨List.mem_append_right _ (List.mem_of_getElem? (i := 714) (by decide +kernel)), by decide +kernel⟩)⟩
theorem wm_X7_98 : fd_wV "FlapDamperModel" 98 yX7_isCounted cX7_isCounted 5 (some .boolean) 2 := ⟨⟨by decide +kernel, by decide +kernel, by decide +kernel⟩, (List.mem_filter.mpr ⟨List.mem_append_right _ (List.mem_of_getElem? (i := 687) (by decide +kernel)), by decide +kernel⟩), (List.mem_filter.mpr ⟨List.mem_append_right _ (List.mem_of_getElem? (i := 689) (by decide +kernel)), by decide +kernel⟩), (List.mem_filter.mpr ⟨List.mem_append_left _ (List.mem_of_getElem? (i := 26) (by decide +kernel)), by decide +kernel⟩), (List.mem_filter.mpr ⟨List.mem_append_right _ (List.mem_of_getElem? (i := 9) (by decide +kernel)), by decide +kernel⟩), (List.mem_filter.mpr ⟨List.mem_append_right _ (List.mem_of_getElem? (i := 690) (by decide +kernel)), by decide +kernel⟩)⟩
theorem wm_X7_115 : fd_wS "FlapDamperModel" 115 yX7_isRoute cX7_isRoute 2 (some .boolean) 2 := ⟨⟨by decide +kernel, by decide +kernel, by decide +kernel⟩, (List.mem_filter.mpr ⟨List.mem_append_right _ (List.mem_of_getElem? (i := 661) (by decide +kernel)), by decide +kernel⟩), (List.mem_filter.mpr ⟨List.mem_append_right _ (List.mem_of_getElem? (i := 662) (by decide +kernel)), by decide +kernel⟩), (List.mem_filter.mpr ⟨List.mem_append_right _ (List.mem_of_getElem? (i := 9) (by decide +kernel)), by decide +kernel⟩), (List.mem_filter.mpr ⟨List.mem_append_right _ (List.mem_of_getElem? (i := 663) (by decide +kernel)), by decide +kernel⟩)⟩
theorem wm_X7_118 : fd_wV "FlapDamperModel" 118 yX7_beginLine cX7_beginLine 4 none 2 := ⟨⟨by decide +kernel, by decide +kernel, by decide +kernel⟩, (List.mem_filter.mpr ⟨List.mem_append_right _ (List.mem_of_getElem? (i := 664) (by decide +kernel)), by decide +kernel⟩), (List.mem_filter.mpr ⟨List.mem_append_right _ (List.mem_of_getElem? (i := 666) (by decide +kernel)), by decide +kernel⟩), (List.mem_filter.mpr ⟨List.mem_append_left _ (List.mem_of_getElem? (i := 21) (by decide +kernel)), by decide +kernel⟩), (List.mem_filter.mpr ⟨List.mem_append_right _ (List.mem_of_getElem? (i := 9) (by decide +kernel)), by decide +kernel⟩), (List.mem_filter.mpr ⟨List.mem_append_right _ (List.mem_of_getElem? (i := 667) (by decide +kernel)), by decide +kernel⟩)⟩
theorem wm_X7_121 : fd_wV "FlapDamperModel" 121 yX7_meet cX7_meet 6 (some .int) 3 := ⟨⟨by decide +kernel, by decide +kernel, by decide +kernel⟩, (List.mem_filter.mpr ⟨List.mem_append_right _ (List.mem_of_getElem? (i := 676) (by decide +kernel)), by decide +kernel⟩), (List.mem_filter.mpr ⟨List.mem_append_right _ (List.mem_of_getElem? (i := 678) (by decide +kernel)), by decide +kernel⟩), (List.mem_filter.mpr ⟨List.mem_append_left _ (List.mem_of_getElem? (i := 24) (by decide +kernel)), by decide +kernel⟩), (List.mem_filter.mpr ⟨List.mem_append_right _ (List.mem_of_getElem? (i := 9) (by decide +kernel)), by decide +kernel⟩), (List.mem_filter.mpr ⟨List.mem_append_right _ (List.mem_of_getElem? (i := 679) (by decide +kernel)), by decide +kernel⟩)⟩
theorem wm_X7_125 : fd_wV "FlapDamperModel" 125 yX7_lookAtBest cX7_lookAtBest 7 none 0 := ⟨⟨by decide +kernel, by decide +kernel, by decide +kernel⟩, (List.mem_filter.mpr ⟨List.mem_append_right _ (List.mem_of_getElem? (i := 723) (by decide +kernel)), by decide +kernel⟩), (List.mem_filter.mpr ⟨List.mem_append_right _ (List.mem_of_getElem? (i := 725) (by decide +kernel)), by decide +kernel⟩), (List.mem_filter.mpr ⟨List.mem_append_left _ (List.mem_of_getElem? (i := 35) (by decide +kernel)), by decide +kernel⟩), (List.mem_filter.mpr ⟨List.mem_append_right _ (List.mem_of_getElem? (i := 9) (by decide +kernel)), by decide +kernel⟩), (List.mem_filter.mpr ⟨List.mem_append_right _ (List.mem_of_getElem? (i := 726) (by decide +kernel)), by decide +kernel⟩)⟩
theorem wm_X7_131 : fd_wV "FlapDamperModel" 131 yX7_heldOnes cX7_heldOnes 3 (some .int) 0 := ⟨⟨by decide +kernel, by decide +kernel, by decide +kernel⟩, (List.mem_filter.mpr ⟨List.mem_append_right _ (List.mem_of_getElem? (i := 739) (by decide +kernel)), by decide +kernel⟩), (List.mem_filter.mpr ⟨List.mem_append_right _ (List.mem_of_getElem? (i := 741) (by decide +kernel)), by decide +kernel⟩), (List.mem_filter.mpr ⟨List.mem_append_left _ (List.mem_of_getElem? (i := 37) (by decide +kernel)), by decide +kernel⟩), (List.mem_filter.mpr ⟨List.mem_append_right _ (List.mem_of_getElem? (i := 9) (by decide +kernel)), by decide +kernel⟩), (List.mem_filter.mpr ⟨List.mem_append_right _ (List.mem_of_getElem? (i := 742) (by decide +kernel)), by decide +kernel⟩)⟩
theorem wm_X7_128 : fd_wV "FlapDamperModel" 128 yX7_lookAtRecords cX7_lookAtRecords 2 none 0 := ⟨⟨by decide +kernel, by decide +kernel, by decide +kernel⟩, (List.mem_filter.mpr ⟨List.mem_append_right _ (List.mem_of_getElem? (i := 735) (by decide +kernel)), by decide +kernel⟩), (List.mem_filter.mpr ⟨List.mem_append_right _ (List.mem_of_getElem? (i := 737) (by decide +kernel)), by decide +kernel⟩), (List.mem_filter.mpr ⟨List.mem_append_left _ (List.mem_of_getElem? (i := 36) (by decide +kernel)), by decide +kernel⟩), (List.mem_filter.mpr ⟨List.mem_append_right _ (List.mem_of_getElem? (i := 9) (by decide +kernel)), by decide +kernel⟩), (List.mem_filter.mpr ⟨List.mem_append_right _ (List.mem_of_getElem? (i := 738) (by decide +kernel)), by decide +kernel⟩)⟩
theorem wf_X7_36 : (Cond.fieldLink "FlapDamperModel" 36 "FlapDamperModel" "isKept" "[Z") ∈ fd_T := (List.mem_filter.mpr ⟨List.mem_append_right _ (List.mem_of_getElem? (i := 590) (by decide +kernel)), by decide +kernel⟩)
theorem wf_X7_33 : (Cond.fieldLink "FlapDamperModel" 33 "FlapDamperModel" "images" "[I") ∈ fd_T := (List.mem_filter.mpr ⟨List.mem_append_right _ (List.mem_of_getElem? (i := 589) (by decide +kernel)), by decide +kernel⟩)
theorem wm_X6_33 : fd_wS "FlapDamper" 33 yX6_isWithin cX6_isWithin 3 (some .boolean) 3 := ⟨⟨by decide +kernel, by decide +kernel, by decide +kernel⟩, (List.mem_filter.mpr ⟨List.mem_append_right _ (List.mem_of_getElem? (i := 208) (by decide +kernel)), by decide +kernel⟩), (List.mem_filter.mpr ⟨List.mem_append_right _ (List.mem_of_getElem? (i := 209) (by decide +kernel)), by decide +kernel⟩), (List.mem_filter.mpr ⟨List.mem_append_right _ (List.mem_of_getElem? (i := 1) (by decide +kernel)), by decide +kernel⟩), (List.mem_filter.mpr ⟨List.mem_append_right _ (List.mem_of_getElem? (i := 210) (by decide +kernel)), by decide +kernel⟩)⟩
theorem wf_X0_18 : (Cond.fieldLink "FlapDamper$Bounds" 18 "FlapDamper$Bounds" "values" "[I") ∈ fd_T := (List.mem_filter.mpr ⟨List.mem_append_right _ (List.mem_of_getElem? (i := 60) (by decide +kernel)), by decide +kernel⟩)
theorem wc_X0_26 : (Cond.constantLong "FlapDamper$Bounds" 26 65536) ∈ fd_T := (List.mem_filter.mpr ⟨List.mem_append_right _ (List.mem_of_getElem? (i := 394) (by decide +kernel)), by decide +kernel⟩)
theorem wl_X0_28 : (Cond.methodLink "FlapDamper$Bounds" 28 ⟨"java/lang/System", "arraycopy", "(Ljava/lang/Object;ILjava/lang/Object;II)V"⟩) ∈ fd_T := (List.mem_filter.mpr ⟨List.mem_append_right _ (List.mem_of_getElem? (i := 551) (by decide +kernel)), by decide +kernel⟩)
theorem wf_X3_15 : (Cond.fieldLink "FlapDamper$RouteRecord" 15 "FlapDamper$RouteRecord" "route" "I") ∈ fd_T := (List.mem_filter.mpr ⟨List.mem_append_right _ (List.mem_of_getElem? (i := 79) (by decide +kernel)), by decide +kernel⟩)
theorem wf_X3_19 : (Cond.fieldLink "FlapDamper$RouteRecord" 19 "FlapDamper$RouteRecord" "figure" "I") ∈ fd_T := (List.mem_filter.mpr ⟨List.mem_append_right _ (List.mem_of_getElem? (i := 83) (by decide +kernel)), by decide +kernel⟩)
theorem wf_X3_22 : (Cond.fieldLink "FlapDamper$RouteRecord" 22 "FlapDamper$RouteRecord" "told" "I") ∈ fd_T := (List.mem_filter.mpr ⟨List.mem_append_right _ (List.mem_of_getElem? (i := 85) (by decide +kernel)), by decide +kernel⟩)
theorem wf_X3_25 : (Cond.fieldLink "FlapDamper$RouteRecord" 25 "FlapDamper$RouteRecord" "held" "Z") ∈ fd_T := (List.mem_filter.mpr ⟨List.mem_append_right _ (List.mem_of_getElem? (i := 87) (by decide +kernel)), by decide +kernel⟩)
theorem wf_X3_29 : (Cond.fieldLink "FlapDamper$RouteRecord" 29 "FlapDamper$RouteRecord" "due" "I") ∈ fd_T := (List.mem_filter.mpr ⟨List.mem_append_right _ (List.mem_of_getElem? (i := 90) (by decide +kernel)), by decide +kernel⟩)
theorem wf_X3_32 : (Cond.fieldLink "FlapDamper$RouteRecord" 32 "FlapDamper$RouteRecord" "causeCount" "I") ∈ fd_T := (List.mem_filter.mpr ⟨List.mem_append_right _ (List.mem_of_getElem? (i := 93) (by decide +kernel)), by decide +kernel⟩)
theorem wf_X3_9 : (Cond.fieldLink "FlapDamper$RouteRecord" 9 "FlapDamper$RouteRecord" "causes" "[I") ∈ fd_T := (List.mem_filter.mpr ⟨List.mem_append_right _ (List.mem_of_getElem? (i := 92) (by decide +kernel)), by decide +kernel⟩)
theorem wl_X3_35 : (Cond.methodLink "FlapDamper$RouteRecord" 35 ⟨"java/lang/System", "arraycopy", "(Ljava/lang/Object;ILjava/lang/Object;II)V"⟩) ∈ fd_T := (List.mem_filter.mpr ⟨List.mem_append_right _ (List.mem_of_getElem? (i := 402) (by decide +kernel)), by decide +kernel⟩)
theorem wf_X2_18 : (Cond.fieldLink "FlapDamper$RecordList" 18 "FlapDamper$RecordList" "size" "I") ∈ fd_T := (List.mem_filter.mpr ⟨List.mem_append_right _ (List.mem_of_getElem? (i := 113) (by decide +kernel)), by decide +kernel⟩)
theorem wf_X2_11 : (Cond.fieldLink "FlapDamper$RecordList" 11 "FlapDamper$RecordList" "rows" "[LFlapDamper$RouteRecord;") ∈ fd_T := (List.mem_filter.mpr ⟨List.mem_append_right _ (List.mem_of_getElem? (i := 110) (by decide +kernel)), by decide +kernel⟩)
theorem wf_X2_22 : (Cond.fieldLink "FlapDamper$RecordList" 22 "FlapDamper$RouteRecord" "route" "I") ∈ fd_T := (List.mem_filter.mpr ⟨List.mem_append_right _ (List.mem_of_getElem? (i := 80) (by decide +kernel)), by decide +kernel⟩)
theorem wm_X2_41 : fd_wN yX6_isWithin cX6_isWithin 3 (some .boolean) 3 := ⟨⟨by decide +kernel, by decide +kernel, by decide +kernel⟩, (List.mem_filter.mpr ⟨List.mem_append_right _ (List.mem_of_getElem? (i := 209) (by decide +kernel)), by decide +kernel⟩), (List.mem_filter.mpr ⟨List.mem_append_right _ (List.mem_of_getElem? (i := 1) (by decide +kernel)), by decide +kernel⟩), (List.mem_filter.mpr ⟨List.mem_append_right _ (List.mem_of_getElem? (i := 210) (by decide +kernel)), by decide +kernel⟩)⟩
theorem wf_X2_45 : (Cond.fieldLink "FlapDamper$RecordList" 45 "FlapDamper$RecordList" "dropped" "I") ∈ fd_T := (List.mem_filter.mpr ⟨List.mem_append_right _ (List.mem_of_getElem? (i := 116) (by decide +kernel)), by decide +kernel⟩)
theorem wf_X2_33 : (Cond.fieldLink "FlapDamper$RecordList" 33 "FlapDamper$RouteRecord" "held" "Z") ∈ fd_T := (List.mem_filter.mpr ⟨List.mem_append_right _ (List.mem_of_getElem? (i := 88) (by decide +kernel)), by decide +kernel⟩)
theorem wm_X2_37 : fd_wV "FlapDamper$RecordList" 37 yX2_drop cX2_drop 4 none 1 := ⟨⟨by decide +kernel, by decide +kernel, by decide +kernel⟩, (List.mem_filter.mpr ⟨List.mem_append_right _ (List.mem_of_getElem? (i := 371) (by decide +kernel)), by decide +kernel⟩), (List.mem_filter.mpr ⟨List.mem_append_right _ (List.mem_of_getElem? (i := 372) (by decide +kernel)), by decide +kernel⟩), (List.mem_filter.mpr ⟨List.mem_append_right _ (List.mem_of_getElem? (i := 373) (by decide +kernel)), by decide +kernel⟩), (List.mem_filter.mpr ⟨List.mem_append_right _ (List.mem_of_getElem? (i := 5) (by decide +kernel)), by decide +kernel⟩), (List.mem_filter.mpr ⟨List.mem_append_right _ (List.mem_of_getElem? (i := 374) (by decide +kernel)), by decide +kernel⟩)⟩
theorem wm_X2_29 : fd_wV "FlapDamper$RecordList" 29 yX3_begin cX3_begin 3 none 2 := ⟨⟨by decide +kernel, by decide +kernel, by decide +kernel⟩, (List.mem_filter.mpr ⟨List.mem_append_right _ (List.mem_of_getElem? (i := 376) (by decide +kernel)), by decide +kernel⟩), (List.mem_filter.mpr ⟨List.mem_append_right _ (List.mem_of_getElem? (i := 377) (by decide +kernel)), by decide +kernel⟩), (List.mem_filter.mpr ⟨List.mem_append_right _ (List.mem_of_getElem? (i := 378) (by decide +kernel)), by decide +kernel⟩), (List.mem_filter.mpr ⟨List.mem_append_right _ (List.mem_of_getElem? (i := 6) (by decide +kernel)), by decide +kernel⟩), (List.mem_filter.mpr ⟨List.mem_append_right _ (List.mem_of_getElem? (i := 379) (by decide +kernel)), by decide +kernel⟩)⟩
theorem wm_X2_25 : fd_wV "FlapDamper$RecordList" 25 yX2_dropFirstFree cX2_dropFirstFree 2 (some .boolean) 0 := ⟨⟨by decide +kernel, by decide +kernel, by decide +kernel⟩, (List.mem_filter.mpr ⟨List.mem_append_right _ (List.mem_of_getElem? (i := 367) (by decide +kernel)), by decide +kernel⟩), (List.mem_filter.mpr ⟨List.mem_append_right _ (List.mem_of_getElem? (i := 369) (by decide +kernel)), by decide +kernel⟩), (List.mem_filter.mpr ⟨List.mem_append_left _ (List.mem_of_getElem? (i := 5) (by decide +kernel)), by decide +kernel⟩), (List.mem_filter.mpr ⟨List.mem_append_right _ (List.mem_of_getElem? (i := 5) (by decide +kernel)), by decide +kernel⟩), (List.mem_filter.mpr ⟨List.mem_append_right _ (List.mem_of_getElem? (i := 370) (by decide +kernel)), by decide +kernel⟩)⟩
theorem wm_X2_48 : fd_wV "FlapDamper$RecordList" 48 yX3_copyFrom cX3_copyFrom 2 none 1 := ⟨⟨by decide +kernel, by decide +kernel, by decide +kernel⟩, (List.mem_filter.mpr ⟨List.mem_append_right _ (List.mem_of_getElem? (i := 556) (by decide +kernel)), by decide +kernel⟩), (List.mem_filter.mpr ⟨List.mem_append_right _ (List.mem_of_getElem? (i := 557) (by decide +kernel)), by decide +kernel⟩), (List.mem_filter.mpr ⟨List.mem_append_right _ (List.mem_of_getElem? (i := 558) (by decide +kernel)), by decide +kernel⟩), (List.mem_filter.mpr ⟨List.mem_append_right _ (List.mem_of_getElem? (i := 6) (by decide +kernel)), by decide +kernel⟩), (List.mem_filter.mpr ⟨List.mem_append_right _ (List.mem_of_getElem? (i := 559) (by decide +kernel)), by decide +kernel⟩)⟩
theorem wf_X1_15 : (Cond.fieldLink "FlapDamper$Lines" 15 "FlapDamper$Lines" "lengths" "[I") ∈ fd_T := (List.mem_filter.mpr ⟨List.mem_append_right _ (List.mem_of_getElem? (i := 132) (by decide +kernel)), by decide +kernel⟩)
theorem wf_X1_18 : (Cond.fieldLink "FlapDamper$Lines" 18 "FlapDamper$Lines" "newest" "I") ∈ fd_T := (List.mem_filter.mpr ⟨List.mem_append_right _ (List.mem_of_getElem? (i := 133) (by decide +kernel)), by decide +kernel⟩)
theorem wf_X1_9 : (Cond.fieldLink "FlapDamper$Lines" 9 "FlapDamper$Lines" "signs" "[I") ∈ fd_T := (List.mem_filter.mpr ⟨List.mem_append_right _ (List.mem_of_getElem? (i := 131) (by decide +kernel)), by decide +kernel⟩)
theorem wm_X1_25 : fd_wV "FlapDamper$Lines" 25 yX1_put cX1_put 3 none 1 := ⟨⟨by decide +kernel, by decide +kernel, by decide +kernel⟩, (List.mem_filter.mpr ⟨List.mem_append_right _ (List.mem_of_getElem? (i := 422) (by decide +kernel)), by decide +kernel⟩), (List.mem_filter.mpr ⟨List.mem_append_right _ (List.mem_of_getElem? (i := 423) (by decide +kernel)), by decide +kernel⟩), (List.mem_filter.mpr ⟨List.mem_append_right _ (List.mem_of_getElem? (i := 424) (by decide +kernel)), by decide +kernel⟩), (List.mem_filter.mpr ⟨List.mem_append_right _ (List.mem_of_getElem? (i := 7) (by decide +kernel)), by decide +kernel⟩), (List.mem_filter.mpr ⟨List.mem_append_right _ (List.mem_of_getElem? (i := 425) (by decide +kernel)), by decide +kernel⟩)⟩
theorem wf_X1_22 : (Cond.fieldLink "FlapDamper$Lines" 22 "FlapDamper$Lines" "written" "I") ∈ fd_T := (List.mem_filter.mpr ⟨List.mem_append_right _ (List.mem_of_getElem? (i := 134) (by decide +kernel)), by decide +kernel⟩)
theorem wm_X1_29 : fd_wV "FlapDamper$Lines" 29 yX1_putNumber cX1_putNumber 4 none 1 := ⟨⟨by decide +kernel, by decide +kernel, by decide +kernel⟩, (List.mem_filter.mpr ⟨List.mem_append_right _ (List.mem_of_getElem? (i := 426) (by decide +kernel)), by decide +kernel⟩), (List.mem_filter.mpr ⟨List.mem_append_right _ (List.mem_of_getElem? (i := 427) (by decide +kernel)), by decide +kernel⟩), (List.mem_filter.mpr ⟨List.mem_append_right _ (List.mem_of_getElem? (i := 428) (by decide +kernel)), by decide +kernel⟩), (List.mem_filter.mpr ⟨List.mem_append_right _ (List.mem_of_getElem? (i := 7) (by decide +kernel)), by decide +kernel⟩), (List.mem_filter.mpr ⟨List.mem_append_right _ (List.mem_of_getElem? (i := 429) (by decide +kernel)), by decide +kernel⟩)⟩
theorem wl_X1_32 : (Cond.methodLink "FlapDamper$Lines" 32 ⟨"java/lang/Math", "min", "(II)I"⟩) ∈ fd_T := (List.mem_filter.mpr ⟨List.mem_append_right _ (List.mem_of_getElem? (i := 520) (by decide +kernel)), by decide +kernel⟩)
theorem wm_X1_38 : fd_wN yX6_isWithin cX6_isWithin 3 (some .boolean) 3 := ⟨⟨by decide +kernel, by decide +kernel, by decide +kernel⟩, (List.mem_filter.mpr ⟨List.mem_append_right _ (List.mem_of_getElem? (i := 209) (by decide +kernel)), by decide +kernel⟩), (List.mem_filter.mpr ⟨List.mem_append_right _ (List.mem_of_getElem? (i := 1) (by decide +kernel)), by decide +kernel⟩), (List.mem_filter.mpr ⟨List.mem_append_right _ (List.mem_of_getElem? (i := 210) (by decide +kernel)), by decide +kernel⟩)⟩
theorem wl_X1_42 : (Cond.methodLink "FlapDamper$Lines" 42 ⟨"java/lang/System", "arraycopy", "(Ljava/lang/Object;ILjava/lang/Object;II)V"⟩) ∈ fd_T := (List.mem_filter.mpr ⟨List.mem_append_right _ (List.mem_of_getElem? (i := 564) (by decide +kernel)), by decide +kernel⟩)
theorem wf_X4_12 : (Cond.fieldLink "FlapDamper$State" 12 "FlapDamper$State" "bounds" "LFlapDamper$Bounds;") ∈ fd_T := (List.mem_filter.mpr ⟨List.mem_append_right _ (List.mem_of_getElem? (i := 148) (by decide +kernel)), by decide +kernel⟩)
theorem wf_X4_68 : (Cond.fieldLink "FlapDamper$State" 68 "FlapDamper$Bounds" "values" "[I") ∈ fd_T := (List.mem_filter.mpr ⟨List.mem_append_right _ (List.mem_of_getElem? (i := 61) (by decide +kernel)), by decide +kernel⟩)
theorem wf_X4_107 : (Cond.fieldLink "FlapDamper$State" 107 "FlapDamper$RouteRecord" "figure" "I") ∈ fd_T := (List.mem_filter.mpr ⟨List.mem_append_right _ (List.mem_of_getElem? (i := 84) (by decide +kernel)), by decide +kernel⟩)
theorem wf_X4_110 : (Cond.fieldLink "FlapDamper$State" 110 "FlapDamper$RouteRecord" "told" "I") ∈ fd_T := (List.mem_filter.mpr ⟨List.mem_append_right _ (List.mem_of_getElem? (i := 86) (by decide +kernel)), by decide +kernel⟩)
theorem wm_X4_136 : fd_wV "FlapDamper$State" 136 yX0_lessened cX0_lessened 8 (some .int) 2 := ⟨⟨by decide +kernel, by decide +kernel, by decide +kernel⟩, (List.mem_filter.mpr ⟨List.mem_append_right _ (List.mem_of_getElem? (i := 388) (by decide +kernel)), by decide +kernel⟩), (List.mem_filter.mpr ⟨List.mem_append_right _ (List.mem_of_getElem? (i := 389) (by decide +kernel)), by decide +kernel⟩), (List.mem_filter.mpr ⟨List.mem_append_right _ (List.mem_of_getElem? (i := 390) (by decide +kernel)), by decide +kernel⟩), (List.mem_filter.mpr ⟨List.mem_append_right _ (List.mem_of_getElem? (i := 4) (by decide +kernel)), by decide +kernel⟩), (List.mem_filter.mpr ⟨List.mem_append_right _ (List.mem_of_getElem? (i := 391) (by decide +kernel)), by decide +kernel⟩)⟩
theorem wl_X4_139 : (Cond.methodLink "FlapDamper$State" 139 ⟨"java/lang/Math", "max", "(II)I"⟩) ∈ fd_T := (List.mem_filter.mpr ⟨List.mem_append_right _ (List.mem_of_getElem? (i := 409) (by decide +kernel)), by decide +kernel⟩)
theorem wm_X4_142 : fd_wV "FlapDamper$State" 142 yX4_isBelowBack cX4_isBelowBack 3 (some .boolean) 2 := ⟨⟨by decide +kernel, by decide +kernel, by decide +kernel⟩, (List.mem_filter.mpr ⟨List.mem_append_right _ (List.mem_of_getElem? (i := 410) (by decide +kernel)), by decide +kernel⟩), (List.mem_filter.mpr ⟨List.mem_append_right _ (List.mem_of_getElem? (i := 412) (by decide +kernel)), by decide +kernel⟩), (List.mem_filter.mpr ⟨List.mem_append_left _ (List.mem_of_getElem? (i := 8) (by decide +kernel)), by decide +kernel⟩), (List.mem_filter.mpr ⟨List.mem_append_right _ (List.mem_of_getElem? (i := 3) (by decide +kernel)), by decide +kernel⟩), (List.mem_filter.mpr ⟨List.mem_append_right _ (List.mem_of_getElem? (i := 413) (by decide +kernel)), by decide +kernel⟩)⟩
theorem wf_X4_84 : (Cond.fieldLink "FlapDamper$State" 84 "FlapDamper$State" "tick" "I") ∈ fd_T := (List.mem_filter.mpr ⟨List.mem_append_right _ (List.mem_of_getElem? (i := 158) (by decide +kernel)), by decide +kernel⟩)
theorem wm_X4_98 : fd_wV "FlapDamper$State" 98 yX4_penaltyAt cX4_penaltyAt 3 (some .int) 2 := ⟨⟨by decide +kernel, by decide +kernel, by decide +kernel⟩, (List.mem_filter.mpr ⟨List.mem_append_right _ (List.mem_of_getElem? (i := 384) (by decide +kernel)), by decide +kernel⟩), (List.mem_filter.mpr ⟨List.mem_append_right _ (List.mem_of_getElem? (i := 385) (by decide +kernel)), by decide +kernel⟩), (List.mem_filter.mpr ⟨List.mem_append_right _ (List.mem_of_getElem? (i := 386) (by decide +kernel)), by decide +kernel⟩), (List.mem_filter.mpr ⟨List.mem_append_right _ (List.mem_of_getElem? (i := 3) (by decide +kernel)), by decide +kernel⟩), (List.mem_filter.mpr ⟨List.mem_append_right _ (List.mem_of_getElem? (i := 387) (by decide +kernel)), by decide +kernel⟩)⟩
theorem wl_X4_102 : (Cond.methodLink "FlapDamper$State" 102 ⟨"java/lang/Math", "min", "(II)I"⟩) ∈ fd_T := (List.mem_filter.mpr ⟨List.mem_append_right _ (List.mem_of_getElem? (i := 395) (by decide +kernel)), by decide +kernel⟩)
theorem wf_X4_116 : (Cond.fieldLink "FlapDamper$State" 116 "FlapDamper$RouteRecord" "held" "Z") ∈ fd_T := (List.mem_filter.mpr ⟨List.mem_append_right _ (List.mem_of_getElem? (i := 89) (by decide +kernel)), by decide +kernel⟩)
theorem wm_X4_120 : fd_wV "FlapDamper$State" 120 yX4_dueAfter cX4_dueAfter 6 (some .int) 2 := ⟨⟨by decide +kernel, by decide +kernel, by decide +kernel⟩, (List.mem_filter.mpr ⟨List.mem_append_right _ (List.mem_of_getElem? (i := 405) (by decide +kernel)), by decide +kernel⟩), (List.mem_filter.mpr ⟨List.mem_append_right _ (List.mem_of_getElem? (i := 407) (by decide +kernel)), by decide +kernel⟩), (List.mem_filter.mpr ⟨List.mem_append_left _ (List.mem_of_getElem? (i := 7) (by decide +kernel)), by decide +kernel⟩), (List.mem_filter.mpr ⟨List.mem_append_right _ (List.mem_of_getElem? (i := 3) (by decide +kernel)), by decide +kernel⟩), (List.mem_filter.mpr ⟨List.mem_append_right _ (List.mem_of_getElem? (i := 408) (by decide +kernel)), by decide +kernel⟩)⟩
theorem wf_X4_123 : (Cond.fieldLink "FlapDamper$State" 123 "FlapDamper$RouteRecord" "due" "I") ∈ fd_T := (List.mem_filter.mpr ⟨List.mem_append_right _ (List.mem_of_getElem? (i := 91) (by decide +kernel)), by decide +kernel⟩)
theorem wm_X4_113 : fd_wV "FlapDamper$State" 113 yX3_addCause cX3_addCause 2 none 1 := ⟨⟨by decide +kernel, by decide +kernel, by decide +kernel⟩, (List.mem_filter.mpr ⟨List.mem_append_right _ (List.mem_of_getElem? (i := 398) (by decide +kernel)), by decide +kernel⟩), (List.mem_filter.mpr ⟨List.mem_append_right _ (List.mem_of_getElem? (i := 399) (by decide +kernel)), by decide +kernel⟩), (List.mem_filter.mpr ⟨List.mem_append_right _ (List.mem_of_getElem? (i := 400) (by decide +kernel)), by decide +kernel⟩), (List.mem_filter.mpr ⟨List.mem_append_right _ (List.mem_of_getElem? (i := 6) (by decide +kernel)), by decide +kernel⟩), (List.mem_filter.mpr ⟨List.mem_append_right _ (List.mem_of_getElem? (i := 401) (by decide +kernel)), by decide +kernel⟩)⟩
theorem wf_X4_21 : (Cond.fieldLink "FlapDamper$State" 21 "FlapDamper$State" "records" "LFlapDamper$RecordList;") ∈ fd_T := (List.mem_filter.mpr ⟨List.mem_append_right _ (List.mem_of_getElem? (i := 150) (by decide +kernel)), by decide +kernel⟩)
theorem wm_X4_71 : fd_wV "FlapDamper$State" 71 yX2_find cX2_find 3 (some (.object "FlapDamper$RouteRecord")) 1 := ⟨⟨by decide +kernel, by decide +kernel, by decide +kernel⟩, (List.mem_filter.mpr ⟨List.mem_append_right _ (List.mem_of_getElem? (i := 355) (by decide +kernel)), by decide +kernel⟩), (List.mem_filter.mpr ⟨List.mem_append_right _ (List.mem_of_getElem? (i := 356) (by decide +kernel)), by decide +kernel⟩), (List.mem_filter.mpr ⟨List.mem_append_right _ (List.mem_of_getElem? (i := 357) (by decide +kernel)), by decide +kernel⟩), (List.mem_filter.mpr ⟨List.mem_append_right _ (List.mem_of_getElem? (i := 5) (by decide +kernel)), by decide +kernel⟩), (List.mem_filter.mpr ⟨List.mem_append_right _ (List.mem_of_getElem? (i := 358) (by decide +kernel)), by decide +kernel⟩)⟩
theorem wm_X4_87 : fd_wV "FlapDamper$State" 87 yX2_make cX2_make 4 (some (.object "FlapDamper$RouteRecord")) 2 := ⟨⟨by decide +kernel, by decide +kernel, by decide +kernel⟩, (List.mem_filter.mpr ⟨List.mem_append_right _ (List.mem_of_getElem? (i := 363) (by decide +kernel)), by decide +kernel⟩), (List.mem_filter.mpr ⟨List.mem_append_right _ (List.mem_of_getElem? (i := 364) (by decide +kernel)), by decide +kernel⟩), (List.mem_filter.mpr ⟨List.mem_append_right _ (List.mem_of_getElem? (i := 365) (by decide +kernel)), by decide +kernel⟩), (List.mem_filter.mpr ⟨List.mem_append_right _ (List.mem_of_getElem? (i := 5) (by decide +kernel)), by decide +kernel⟩), (List.mem_filter.mpr ⟨List.mem_append_right _ (List.mem_of_getElem? (i := 366) (by decide +kernel)), by decide +kernel⟩)⟩
theorem wf_X4_91 : (Cond.fieldLink "FlapDamper$State" 91 "FlapDamper$State" "lost" "I") ∈ fd_T := (List.mem_filter.mpr ⟨List.mem_append_right _ (List.mem_of_getElem? (i := 162) (by decide +kernel)), by decide +kernel⟩)
theorem wm_X4_94 : fd_wV "FlapDamper$State" 94 yX4_addTo cX4_addTo 4 (some .int) 3 := ⟨⟨by decide +kernel, by decide +kernel, by decide +kernel⟩, (List.mem_filter.mpr ⟨List.mem_append_right _ (List.mem_of_getElem? (i := 380) (by decide +kernel)), by decide +kernel⟩), (List.mem_filter.mpr ⟨List.mem_append_right _ (List.mem_of_getElem? (i := 382) (by decide +kernel)), by decide +kernel⟩), (List.mem_filter.mpr ⟨List.mem_append_left _ (List.mem_of_getElem? (i := 6) (by decide +kernel)), by decide +kernel⟩), (List.mem_filter.mpr ⟨List.mem_append_right _ (List.mem_of_getElem? (i := 3) (by decide +kernel)), by decide +kernel⟩), (List.mem_filter.mpr ⟨List.mem_append_right _ (List.mem_of_getElem? (i := 383) (by decide +kernel)), by decide +kernel⟩)⟩
theorem wm_X4_75 : fd_wV "FlapDamper$State" 75 yX3_hasCause cX3_hasCause 3 (some .boolean) 1 := ⟨⟨by decide +kernel, by decide +kernel, by decide +kernel⟩, (List.mem_filter.mpr ⟨List.mem_append_right _ (List.mem_of_getElem? (i := 359) (by decide +kernel)), by decide +kernel⟩), (List.mem_filter.mpr ⟨List.mem_append_right _ (List.mem_of_getElem? (i := 360) (by decide +kernel)), by decide +kernel⟩), (List.mem_filter.mpr ⟨List.mem_append_right _ (List.mem_of_getElem? (i := 361) (by decide +kernel)), by decide +kernel⟩), (List.mem_filter.mpr ⟨List.mem_append_right _ (List.mem_of_getElem? (i := 6) (by decide +kernel)), by decide +kernel⟩), (List.mem_filter.mpr ⟨List.mem_append_right _ (List.mem_of_getElem? (i := 362) (by decide +kernel)), by decide +kernel⟩)⟩
theorem wf_X4_81 : (Cond.fieldLink "FlapDamper$State" 81 "FlapDamper$State" "echoes" "I") ∈ fd_T := (List.mem_filter.mpr ⟨List.mem_append_right _ (List.mem_of_getElem? (i := 161) (by decide +kernel)), by decide +kernel⟩)
theorem wf_X4_32 : (Cond.fieldLink "FlapDamper$State" 32 "FlapDamper$State" "paths" "[I") ∈ fd_T := (List.mem_filter.mpr ⟨List.mem_append_right _ (List.mem_of_getElem? (i := 154) (by decide +kernel)), by decide +kernel⟩)
theorem wf_X4_28 : (Cond.fieldLink "FlapDamper$State" 28 "FlapDamper$State" "lines" "LFlapDamper$Lines;") ∈ fd_T := (List.mem_filter.mpr ⟨List.mem_append_right _ (List.mem_of_getElem? (i := 152) (by decide +kernel)), by decide +kernel⟩)
theorem wm_X4_126 : fd_wV "FlapDamper$State" 126 yX1_begin cX1_begin 3 none 2 := ⟨⟨by decide +kernel, by decide +kernel, by decide +kernel⟩, (List.mem_filter.mpr ⟨List.mem_append_right _ (List.mem_of_getElem? (i := 418) (by decide +kernel)), by decide +kernel⟩), (List.mem_filter.mpr ⟨List.mem_append_right _ (List.mem_of_getElem? (i := 419) (by decide +kernel)), by decide +kernel⟩), (List.mem_filter.mpr ⟨List.mem_append_right _ (List.mem_of_getElem? (i := 420) (by decide +kernel)), by decide +kernel⟩), (List.mem_filter.mpr ⟨List.mem_append_right _ (List.mem_of_getElem? (i := 7) (by decide +kernel)), by decide +kernel⟩), (List.mem_filter.mpr ⟨List.mem_append_right _ (List.mem_of_getElem? (i := 421) (by decide +kernel)), by decide +kernel⟩)⟩
theorem wm_X4_130 : fd_wV "FlapDamper$State" 130 yX1_put cX1_put 3 none 1 := ⟨⟨by decide +kernel, by decide +kernel, by decide +kernel⟩, (List.mem_filter.mpr ⟨List.mem_append_right _ (List.mem_of_getElem? (i := 430) (by decide +kernel)), by decide +kernel⟩), (List.mem_filter.mpr ⟨List.mem_append_right _ (List.mem_of_getElem? (i := 423) (by decide +kernel)), by decide +kernel⟩), (List.mem_filter.mpr ⟨List.mem_append_right _ (List.mem_of_getElem? (i := 424) (by decide +kernel)), by decide +kernel⟩), (List.mem_filter.mpr ⟨List.mem_append_right _ (List.mem_of_getElem? (i := 7) (by decide +kernel)), by decide +kernel⟩), (List.mem_filter.mpr ⟨List.mem_append_right _ (List.mem_of_getElem? (i := 425) (by decide +kernel)), by decide +kernel⟩)⟩
theorem wm_X4_133 : fd_wV "FlapDamper$State" 133 yX1_putNumber cX1_putNumber 4 none 1 := ⟨⟨by decide +kernel, by decide +kernel, by decide +kernel⟩, (List.mem_filter.mpr ⟨List.mem_append_right _ (List.mem_of_getElem? (i := 431) (by decide +kernel)), by decide +kernel⟩), (List.mem_filter.mpr ⟨List.mem_append_right _ (List.mem_of_getElem? (i := 427) (by decide +kernel)), by decide +kernel⟩), (List.mem_filter.mpr ⟨List.mem_append_right _ (List.mem_of_getElem? (i := 428) (by decide +kernel)), by decide +kernel⟩), (List.mem_filter.mpr ⟨List.mem_append_right _ (List.mem_of_getElem? (i := 7) (by decide +kernel)), by decide +kernel⟩), (List.mem_filter.mpr ⟨List.mem_append_right _ (List.mem_of_getElem? (i := 429) (by decide +kernel)), by decide +kernel⟩)⟩
theorem wm_X4_176 : fd_wN yX6_routeOf cX6_routeOf 2 (some .int) 2 := ⟨⟨by decide +kernel, by decide +kernel, by decide +kernel⟩, (List.mem_filter.mpr ⟨List.mem_append_right _ (List.mem_of_getElem? (i := 341) (by decide +kernel)), by decide +kernel⟩), (List.mem_filter.mpr ⟨List.mem_append_right _ (List.mem_of_getElem? (i := 1) (by decide +kernel)), by decide +kernel⟩), (List.mem_filter.mpr ⟨List.mem_append_right _ (List.mem_of_getElem? (i := 342) (by decide +kernel)), by decide +kernel⟩)⟩
theorem wm_X4_179 : fd_wS "FlapDamper$State" 179 yX4_isHeld cX4_isHeld 1 (some .boolean) 1 := ⟨⟨by decide +kernel, by decide +kernel, by decide +kernel⟩, (List.mem_filter.mpr ⟨List.mem_append_right _ (List.mem_of_getElem? (i := 441) (by decide +kernel)), by decide +kernel⟩), (List.mem_filter.mpr ⟨List.mem_append_right _ (List.mem_of_getElem? (i := 442) (by decide +kernel)), by decide +kernel⟩), (List.mem_filter.mpr ⟨List.mem_append_right _ (List.mem_of_getElem? (i := 3) (by decide +kernel)), by decide +kernel⟩), (List.mem_filter.mpr ⟨List.mem_append_right _ (List.mem_of_getElem? (i := 443) (by decide +kernel)), by decide +kernel⟩)⟩
theorem wm_X4_172 : fd_wV "FlapDamper$State" 172 yX4_findBest cX4_findBest 7 (some .int) 1 := ⟨⟨by decide +kernel, by decide +kernel, by decide +kernel⟩, (List.mem_filter.mpr ⟨List.mem_append_right _ (List.mem_of_getElem? (i := 436) (by decide +kernel)), by decide +kernel⟩), (List.mem_filter.mpr ⟨List.mem_append_right _ (List.mem_of_getElem? (i := 438) (by decide +kernel)), by decide +kernel⟩), (List.mem_filter.mpr ⟨List.mem_append_left _ (List.mem_of_getElem? (i := 11) (by decide +kernel)), by decide +kernel⟩), (List.mem_filter.mpr ⟨List.mem_append_right _ (List.mem_of_getElem? (i := 3) (by decide +kernel)), by decide +kernel⟩), (List.mem_filter.mpr ⟨List.mem_append_right _ (List.mem_of_getElem? (i := 439) (by decide +kernel)), by decide +kernel⟩)⟩
theorem wf_X4_36 : (Cond.fieldLink "FlapDamper$State" 36 "FlapDamper$State" "bests" "[I") ∈ fd_T := (List.mem_filter.mpr ⟨List.mem_append_right _ (List.mem_of_getElem? (i := 156) (by decide +kernel)), by decide +kernel⟩)
theorem wf_X4_39 : (Cond.fieldLink "FlapDamper$State" 39 "FlapDamper$State" "changes" "[I") ∈ fd_T := (List.mem_filter.mpr ⟨List.mem_append_right _ (List.mem_of_getElem? (i := 157) (by decide +kernel)), by decide +kernel⟩)
theorem wm_X4_48 : fd_wV "FlapDamper$State" 48 yX4_weigh cX4_weigh 3 (some .int) 2 := ⟨⟨by decide +kernel, by decide +kernel, by decide +kernel⟩, (List.mem_filter.mpr ⟨List.mem_append_right _ (List.mem_of_getElem? (i := 347) (by decide +kernel)), by decide +kernel⟩), (List.mem_filter.mpr ⟨List.mem_append_right _ (List.mem_of_getElem? (i := 349) (by decide +kernel)), by decide +kernel⟩), (List.mem_filter.mpr ⟨List.mem_append_left _ (List.mem_of_getElem? (i := 3) (by decide +kernel)), by decide +kernel⟩), (List.mem_filter.mpr ⟨List.mem_append_right _ (List.mem_of_getElem? (i := 3) (by decide +kernel)), by decide +kernel⟩), (List.mem_filter.mpr ⟨List.mem_append_right _ (List.mem_of_getElem? (i := 350) (by decide +kernel)), by decide +kernel⟩)⟩
theorem wf_X4_52 : (Cond.fieldLink "FlapDamper$State" 52 "FlapDamper$State" "events" "I") ∈ fd_T := (List.mem_filter.mpr ⟨List.mem_append_right _ (List.mem_of_getElem? (i := 160) (by decide +kernel)), by decide +kernel⟩)
theorem wm_X4_56 : fd_wV "FlapDamper$State" 56 yX4_judge cX4_judge 5 (some .int) 3 := ⟨⟨by decide +kernel, by decide +kernel, by decide +kernel⟩, (List.mem_filter.mpr ⟨List.mem_append_right _ (List.mem_of_getElem? (i := 351) (by decide +kernel)), by decide +kernel⟩), (List.mem_filter.mpr ⟨List.mem_append_right _ (List.mem_of_getElem? (i := 353) (by decide +kernel)), by decide +kernel⟩), (List.mem_filter.mpr ⟨List.mem_append_left _ (List.mem_of_getElem? (i := 4) (by decide +kernel)), by decide +kernel⟩), (List.mem_filter.mpr ⟨List.mem_append_right _ (List.mem_of_getElem? (i := 3) (by decide +kernel)), by decide +kernel⟩), (List.mem_filter.mpr ⟨List.mem_append_right _ (List.mem_of_getElem? (i := 354) (by decide +kernel)), by decide +kernel⟩)⟩
theorem wm_X4_60 : fd_wV "FlapDamper$State" 60 yX4_writeEvent cX4_writeEvent 6 none 3 := ⟨⟨by decide +kernel, by decide +kernel, by decide +kernel⟩, (List.mem_filter.mpr ⟨List.mem_append_right _ (List.mem_of_getElem? (i := 414) (by decide +kernel)), by decide +kernel⟩), (List.mem_filter.mpr ⟨List.mem_append_right _ (List.mem_of_getElem? (i := 416) (by decide +kernel)), by decide +kernel⟩), (List.mem_filter.mpr ⟨List.mem_append_left _ (List.mem_of_getElem? (i := 9) (by decide +kernel)), by decide +kernel⟩), (List.mem_filter.mpr ⟨List.mem_append_right _ (List.mem_of_getElem? (i := 3) (by decide +kernel)), by decide +kernel⟩), (List.mem_filter.mpr ⟨List.mem_append_right _ (List.mem_of_getElem? (i := 417) (by decide +kernel)), by decide +kernel⟩)⟩
theorem wm_X4_64 : fd_wV "FlapDamper$State" 64 yX4_refreshBest cX4_refreshBest 3 none 1 := ⟨⟨by decide +kernel, by decide +kernel, by decide +kernel⟩, (List.mem_filter.mpr ⟨List.mem_append_right _ (List.mem_of_getElem? (i := 432) (by decide +kernel)), by decide +kernel⟩), (List.mem_filter.mpr ⟨List.mem_append_right _ (List.mem_of_getElem? (i := 434) (by decide +kernel)), by decide +kernel⟩), (List.mem_filter.mpr ⟨List.mem_append_left _ (List.mem_of_getElem? (i := 10) (by decide +kernel)), by decide +kernel⟩), (List.mem_filter.mpr ⟨List.mem_append_right _ (List.mem_of_getElem? (i := 3) (by decide +kernel)), by decide +kernel⟩), (List.mem_filter.mpr ⟨List.mem_append_right _ (List.mem_of_getElem? (i := 435) (by decide +kernel)), by decide +kernel⟩)⟩
theorem wf_X4_149 : (Cond.fieldLink "FlapDamper$State" 149 "FlapDamper$State" "letGo" "I") ∈ fd_T := (List.mem_filter.mpr ⟨List.mem_append_right _ (List.mem_of_getElem? (i := 163) (by decide +kernel)), by decide +kernel⟩)
theorem wf_X4_166 : (Cond.fieldLink "FlapDamper$State" 166 "FlapDamper$RouteRecord" "route" "I") ∈ fd_T := (List.mem_filter.mpr ⟨List.mem_append_right _ (List.mem_of_getElem? (i := 81) (by decide +kernel)), by decide +kernel⟩)
theorem wf_X4_152 : (Cond.fieldLink "FlapDamper$State" 152 "FlapDamper$RecordList" "size" "I") ∈ fd_T := (List.mem_filter.mpr ⟨List.mem_append_right _ (List.mem_of_getElem? (i := 114) (by decide +kernel)), by decide +kernel⟩)
theorem wf_X4_155 : (Cond.fieldLink "FlapDamper$State" 155 "FlapDamper$RecordList" "rows" "[LFlapDamper$RouteRecord;") ∈ fd_T := (List.mem_filter.mpr ⟨List.mem_append_right _ (List.mem_of_getElem? (i := 111) (by decide +kernel)), by decide +kernel⟩)
theorem wm_X4_169 : fd_wV "FlapDamper$State" 169 yX2_drop cX2_drop 4 none 1 := ⟨⟨by decide +kernel, by decide +kernel, by decide +kernel⟩, (List.mem_filter.mpr ⟨List.mem_append_right _ (List.mem_of_getElem? (i := 468) (by decide +kernel)), by decide +kernel⟩), (List.mem_filter.mpr ⟨List.mem_append_right _ (List.mem_of_getElem? (i := 372) (by decide +kernel)), by decide +kernel⟩), (List.mem_filter.mpr ⟨List.mem_append_right _ (List.mem_of_getElem? (i := 373) (by decide +kernel)), by decide +kernel⟩), (List.mem_filter.mpr ⟨List.mem_append_right _ (List.mem_of_getElem? (i := 5) (by decide +kernel)), by decide +kernel⟩), (List.mem_filter.mpr ⟨List.mem_append_right _ (List.mem_of_getElem? (i := 374) (by decide +kernel)), by decide +kernel⟩)⟩
theorem wm_X4_146 : fd_wV "FlapDamper$State" 146 yX4_isLookedAt cX4_isLookedAt 2 (some .boolean) 1 := ⟨⟨by decide +kernel, by decide +kernel, by decide +kernel⟩, (List.mem_filter.mpr ⟨List.mem_append_right _ (List.mem_of_getElem? (i := 456) (by decide +kernel)), by decide +kernel⟩), (List.mem_filter.mpr ⟨List.mem_append_right _ (List.mem_of_getElem? (i := 458) (by decide +kernel)), by decide +kernel⟩), (List.mem_filter.mpr ⟨List.mem_append_left _ (List.mem_of_getElem? (i := 12) (by decide +kernel)), by decide +kernel⟩), (List.mem_filter.mpr ⟨List.mem_append_right _ (List.mem_of_getElem? (i := 3) (by decide +kernel)), by decide +kernel⟩), (List.mem_filter.mpr ⟨List.mem_append_right _ (List.mem_of_getElem? (i := 459) (by decide +kernel)), by decide +kernel⟩)⟩
theorem wm_X4_163 : fd_wV "FlapDamper$State" 163 yX4_dropSmallOnes cX4_dropSmallOnes 3 none 0 := ⟨⟨by decide +kernel, by decide +kernel, by decide +kernel⟩, (List.mem_filter.mpr ⟨List.mem_append_right _ (List.mem_of_getElem? (i := 464) (by decide +kernel)), by decide +kernel⟩), (List.mem_filter.mpr ⟨List.mem_append_right _ (List.mem_of_getElem? (i := 466) (by decide +kernel)), by decide +kernel⟩), (List.mem_filter.mpr ⟨List.mem_append_left _ (List.mem_of_getElem? (i := 14) (by decide +kernel)), by decide +kernel⟩), (List.mem_filter.mpr ⟨List.mem_append_right _ (List.mem_of_getElem? (i := 3) (by decide +kernel)), by decide +kernel⟩), (List.mem_filter.mpr ⟨List.mem_append_right _ (List.mem_of_getElem? (i := 467) (by decide +kernel)), by decide +kernel⟩)⟩
theorem wm_X4_159 : fd_wV "FlapDamper$State" 159 yX4_lookAt cX4_lookAt 2 none 1 := ⟨⟨by decide +kernel, by decide +kernel, by decide +kernel⟩, (List.mem_filter.mpr ⟨List.mem_append_right _ (List.mem_of_getElem? (i := 460) (by decide +kernel)), by decide +kernel⟩), (List.mem_filter.mpr ⟨List.mem_append_right _ (List.mem_of_getElem? (i := 462) (by decide +kernel)), by decide +kernel⟩), (List.mem_filter.mpr ⟨List.mem_append_left _ (List.mem_of_getElem? (i := 13) (by decide +kernel)), by decide +kernel⟩), (List.mem_filter.mpr ⟨List.mem_append_right _ (List.mem_of_getElem? (i := 3) (by decide +kernel)), by decide +kernel⟩), (List.mem_filter.mpr ⟨List.mem_append_right _ (List.mem_of_getElem? (i := 463) (by decide +kernel)), by decide +kernel⟩)⟩
theorem wf_X4_183 : (Cond.fieldLink "FlapDamper$State" 183 "FlapDamper$RouteRecord" "causeCount" "I") ∈ fd_T := (List.mem_filter.mpr ⟨List.mem_append_right _ (List.mem_of_getElem? (i := 94) (by decide +kernel)), by decide +kernel⟩)
theorem wm_X4_186 : fd_wV "FlapDamper$State" 186 yX2_heldOnes cX2_heldOnes 3 (some .int) 0 := ⟨⟨by decide +kernel, by decide +kernel, by decide +kernel⟩, (List.mem_filter.mpr ⟨List.mem_append_right _ (List.mem_of_getElem? (i := 534) (by decide +kernel)), by decide +kernel⟩), (List.mem_filter.mpr ⟨List.mem_append_right _ (List.mem_of_getElem? (i := 470) (by decide +kernel)), by decide +kernel⟩), (List.mem_filter.mpr ⟨List.mem_append_right _ (List.mem_of_getElem? (i := 471) (by decide +kernel)), by decide +kernel⟩), (List.mem_filter.mpr ⟨List.mem_append_right _ (List.mem_of_getElem? (i := 5) (by decide +kernel)), by decide +kernel⟩), (List.mem_filter.mpr ⟨List.mem_append_right _ (List.mem_of_getElem? (i := 472) (by decide +kernel)), by decide +kernel⟩)⟩
theorem wf_X4_190 : (Cond.fieldLink "FlapDamper$State" 190 "FlapDamper$RecordList" "dropped" "I") ∈ fd_T := (List.mem_filter.mpr ⟨List.mem_append_right _ (List.mem_of_getElem? (i := 117) (by decide +kernel)), by decide +kernel⟩)
theorem wf_X4_193 : (Cond.fieldLink "FlapDamper$State" 193 "FlapDamper$Lines" "written" "I") ∈ fd_T := (List.mem_filter.mpr ⟨List.mem_append_right _ (List.mem_of_getElem? (i := 135) (by decide +kernel)), by decide +kernel⟩)
theorem wm_X4_196 : fd_wV "FlapDamper$State" 196 yX0_copyFrom cX0_copyFrom 2 none 1 := ⟨⟨by decide +kernel, by decide +kernel, by decide +kernel⟩, (List.mem_filter.mpr ⟨List.mem_append_right _ (List.mem_of_getElem? (i := 547) (by decide +kernel)), by decide +kernel⟩), (List.mem_filter.mpr ⟨List.mem_append_right _ (List.mem_of_getElem? (i := 548) (by decide +kernel)), by decide +kernel⟩), (List.mem_filter.mpr ⟨List.mem_append_right _ (List.mem_of_getElem? (i := 549) (by decide +kernel)), by decide +kernel⟩), (List.mem_filter.mpr ⟨List.mem_append_right _ (List.mem_of_getElem? (i := 4) (by decide +kernel)), by decide +kernel⟩), (List.mem_filter.mpr ⟨List.mem_append_right _ (List.mem_of_getElem? (i := 550) (by decide +kernel)), by decide +kernel⟩)⟩
theorem wm_X4_200 : fd_wV "FlapDamper$State" 200 yX2_copyFrom cX2_copyFrom 3 none 1 := ⟨⟨by decide +kernel, by decide +kernel, by decide +kernel⟩, (List.mem_filter.mpr ⟨List.mem_append_right _ (List.mem_of_getElem? (i := 552) (by decide +kernel)), by decide +kernel⟩), (List.mem_filter.mpr ⟨List.mem_append_right _ (List.mem_of_getElem? (i := 553) (by decide +kernel)), by decide +kernel⟩), (List.mem_filter.mpr ⟨List.mem_append_right _ (List.mem_of_getElem? (i := 554) (by decide +kernel)), by decide +kernel⟩), (List.mem_filter.mpr ⟨List.mem_append_right _ (List.mem_of_getElem? (i := 5) (by decide +kernel)), by decide +kernel⟩), (List.mem_filter.mpr ⟨List.mem_append_right _ (List.mem_of_getElem? (i := 555) (by decide +kernel)), by decide +kernel⟩)⟩
theorem wm_X4_203 : fd_wV "FlapDamper$State" 203 yX1_copyFrom cX1_copyFrom 2 none 1 := ⟨⟨by decide +kernel, by decide +kernel, by decide +kernel⟩, (List.mem_filter.mpr ⟨List.mem_append_right _ (List.mem_of_getElem? (i := 560) (by decide +kernel)), by decide +kernel⟩), (List.mem_filter.mpr ⟨List.mem_append_right _ (List.mem_of_getElem? (i := 561) (by decide +kernel)), by decide +kernel⟩), (List.mem_filter.mpr ⟨List.mem_append_right _ (List.mem_of_getElem? (i := 562) (by decide +kernel)), by decide +kernel⟩), (List.mem_filter.mpr ⟨List.mem_append_right _ (List.mem_of_getElem? (i := 7) (by decide +kernel)), by decide +kernel⟩), (List.mem_filter.mpr ⟨List.mem_append_right _ (List.mem_of_getElem? (i := 563) (by decide +kernel)), by decide +kernel⟩)⟩
theorem wl_X4_206 : (Cond.methodLink "FlapDamper$State" 206 ⟨"java/lang/System", "arraycopy", "(Ljava/lang/Object;ILjava/lang/Object;II)V"⟩) ∈ fd_T := (List.mem_filter.mpr ⟨List.mem_append_right _ (List.mem_of_getElem? (i := 565) (by decide +kernel)), by decide +kernel⟩)
theorem wf_X5_15 : (Cond.fieldLink "FlapDamper$Text" 15 "FlapDamper$Text" "length" "I") ∈ fd_T := (List.mem_filter.mpr ⟨List.mem_append_right _ (List.mem_of_getElem? (i := 31) (by decide +kernel)), by decide +kernel⟩)
theorem wf_X5_9 : (Cond.fieldLink "FlapDamper$Text" 9 "FlapDamper$Text" "signs" "[I") ∈ fd_T := (List.mem_filter.mpr ⟨List.mem_append_right _ (List.mem_of_getElem? (i := 30) (by decide +kernel)), by decide +kernel⟩)
theorem wm_X5_45 : fd_wV "FlapDamper$Text" 45 yJ0_length_8abf5 cJ0_length_8abf5 1 (some .int) 0 := ⟨⟨by decide +kernel, by decide +kernel, by decide +kernel⟩, (List.mem_filter.mpr ⟨List.mem_append_right _ (List.mem_of_getElem? (i := 249) (by decide +kernel)), by decide +kernel⟩), (List.mem_filter.mpr ⟨List.mem_append_right _ (List.mem_of_getElem? (i := 250) (by decide +kernel)), by decide +kernel⟩), (List.mem_filter.mpr ⟨List.mem_append_right _ (List.mem_of_getElem? (i := 251) (by decide +kernel)), by decide +kernel⟩), (List.mem_filter.mpr ⟨List.mem_append_right _ (List.mem_of_getElem? (i := 10) (by decide +kernel)), by decide +kernel⟩), (List.mem_filter.mpr ⟨List.mem_append_right _ (List.mem_of_getElem? (i := 252) (by decide +kernel)), by decide +kernel⟩)⟩
theorem wm_X5_41 : fd_wS "FlapDamper$Text" 41 yX5_isFigure cX5_isFigure 1 (some .boolean) 1 := ⟨⟨by decide +kernel, by decide +kernel, by decide +kernel⟩, (List.mem_filter.mpr ⟨List.mem_append_right _ (List.mem_of_getElem? (i := 305) (by decide +kernel)), by decide +kernel⟩), (List.mem_filter.mpr ⟨List.mem_append_right _ (List.mem_of_getElem? (i := 306) (by decide +kernel)), by decide +kernel⟩), (List.mem_filter.mpr ⟨List.mem_append_right _ (List.mem_of_getElem? (i := 2) (by decide +kernel)), by decide +kernel⟩), (List.mem_filter.mpr ⟨List.mem_append_right _ (List.mem_of_getElem? (i := 307) (by decide +kernel)), by decide +kernel⟩)⟩
theorem wm_X5_53 : fd_wV "FlapDamper$Text" 53 yJ0_charAt_5068e cJ0_charAt_5068e 2 (some .char) 1 := ⟨⟨by decide +kernel, by decide +kernel, by decide +kernel⟩, (List.mem_filter.mpr ⟨List.mem_append_right _ (List.mem_of_getElem? (i := 267) (by decide +kernel)), by decide +kernel⟩), (List.mem_filter.mpr ⟨List.mem_append_right _ (List.mem_of_getElem? (i := 268) (by decide +kernel)), by decide +kernel⟩), (List.mem_filter.mpr ⟨List.mem_append_right _ (List.mem_of_getElem? (i := 269) (by decide +kernel)), by decide +kernel⟩), (List.mem_filter.mpr ⟨List.mem_append_right _ (List.mem_of_getElem? (i := 10) (by decide +kernel)), by decide +kernel⟩), (List.mem_filter.mpr ⟨List.mem_append_right _ (List.mem_of_getElem? (i := 270) (by decide +kernel)), by decide +kernel⟩)⟩
theorem wm_X5_49 : fd_wV "FlapDamper$Text" 49 yX5_fits cX5_fits 3 (some .boolean) 2 := ⟨⟨by decide +kernel, by decide +kernel, by decide +kernel⟩, (List.mem_filter.mpr ⟨List.mem_append_right _ (List.mem_of_getElem? (i := 263) (by decide +kernel)), by decide +kernel⟩), (List.mem_filter.mpr ⟨List.mem_append_right _ (List.mem_of_getElem? (i := 265) (by decide +kernel)), by decide +kernel⟩), (List.mem_filter.mpr ⟨List.mem_append_left _ (List.mem_of_getElem? (i := 2) (by decide +kernel)), by decide +kernel⟩), (List.mem_filter.mpr ⟨List.mem_append_right _ (List.mem_of_getElem? (i := 2) (by decide +kernel)), by decide +kernel⟩), (List.mem_filter.mpr ⟨List.mem_append_right _ (List.mem_of_getElem? (i := 266) (by decide +kernel)), by decide +kernel⟩)⟩
theorem wm_X5_27 : fd_wV "FlapDamper$Text" 27 yX5_fittingSigns cX5_fittingSigns 3 (some .int) 1 := ⟨⟨by decide +kernel, by decide +kernel, by decide +kernel⟩, (List.mem_filter.mpr ⟨List.mem_append_right _ (List.mem_of_getElem? (i := 259) (by decide +kernel)), by decide +kernel⟩), (List.mem_filter.mpr ⟨List.mem_append_right _ (List.mem_of_getElem? (i := 261) (by decide +kernel)), by decide +kernel⟩), (List.mem_filter.mpr ⟨List.mem_append_left _ (List.mem_of_getElem? (i := 1) (by decide +kernel)), by decide +kernel⟩), (List.mem_filter.mpr ⟨List.mem_append_right _ (List.mem_of_getElem? (i := 2) (by decide +kernel)), by decide +kernel⟩), (List.mem_filter.mpr ⟨List.mem_append_right _ (List.mem_of_getElem? (i := 262) (by decide +kernel)), by decide +kernel⟩)⟩
theorem wm_X5_23 : fd_wS "FlapDamper$Text" 23 yX5_nameOf cX5_nameOf 1 (some (.object "java/lang/String")) 1 := ⟨⟨by decide +kernel, by decide +kernel, by decide +kernel⟩, (List.mem_filter.mpr ⟨List.mem_append_right _ (List.mem_of_getElem? (i := 235) (by decide +kernel)), by decide +kernel⟩), (List.mem_filter.mpr ⟨List.mem_append_right _ (List.mem_of_getElem? (i := 236) (by decide +kernel)), by decide +kernel⟩), (List.mem_filter.mpr ⟨List.mem_append_right _ (List.mem_of_getElem? (i := 2) (by decide +kernel)), by decide +kernel⟩), (List.mem_filter.mpr ⟨List.mem_append_right _ (List.mem_of_getElem? (i := 237) (by decide +kernel)), by decide +kernel⟩)⟩
theorem wm_X5_37 : fd_wV "FlapDamper$Text" 37 yX5_tells cX5_tells 2 (some .boolean) 1 := ⟨⟨by decide +kernel, by decide +kernel, by decide +kernel⟩, (List.mem_filter.mpr ⟨List.mem_append_right _ (List.mem_of_getElem? (i := 245) (by decide +kernel)), by decide +kernel⟩), (List.mem_filter.mpr ⟨List.mem_append_right _ (List.mem_of_getElem? (i := 247) (by decide +kernel)), by decide +kernel⟩), (List.mem_filter.mpr ⟨List.mem_append_left _ (List.mem_of_getElem? (i := 0) (by decide +kernel)), by decide +kernel⟩), (List.mem_filter.mpr ⟨List.mem_append_right _ (List.mem_of_getElem? (i := 2) (by decide +kernel)), by decide +kernel⟩), (List.mem_filter.mpr ⟨List.mem_append_right _ (List.mem_of_getElem? (i := 248) (by decide +kernel)), by decide +kernel⟩)⟩
theorem wm_X5_19 : fd_wV "FlapDamper$Text" 19 yX5_toldBound cX5_toldBound 2 (some .int) 0 := ⟨⟨by decide +kernel, by decide +kernel, by decide +kernel⟩, (List.mem_filter.mpr ⟨List.mem_append_right _ (List.mem_of_getElem? (i := 231) (by decide +kernel)), by decide +kernel⟩), (List.mem_filter.mpr ⟨List.mem_append_right _ (List.mem_of_getElem? (i := 232) (by decide +kernel)), by decide +kernel⟩), (List.mem_filter.mpr ⟨List.mem_append_right _ (List.mem_of_getElem? (i := 233) (by decide +kernel)), by decide +kernel⟩), (List.mem_filter.mpr ⟨List.mem_append_right _ (List.mem_of_getElem? (i := 2) (by decide +kernel)), by decide +kernel⟩), (List.mem_filter.mpr ⟨List.mem_append_right _ (List.mem_of_getElem? (i := 234) (by decide +kernel)), by decide +kernel⟩)⟩
theorem wl_X5_31 : (Cond.methodLink "FlapDamper$Text" 31 ⟨"java/lang/Math", "max", "(II)I"⟩) ∈ fd_T := (List.mem_filter.mpr ⟨List.mem_append_right _ (List.mem_of_getElem? (i := 308) (by decide +kernel)), by decide +kernel⟩)
theorem wf_X6_12 : (Cond.fieldLink "FlapDamper" 12 "FlapDamper" "text" "LFlapDamper$Text;") ∈ fd_T := (List.mem_filter.mpr ⟨List.mem_append_right _ (List.mem_of_getElem? (i := 187) (by decide +kernel)), by decide +kernel⟩)
theorem wm_X6_37 : fd_wV "FlapDamper" 37 yX5_append cX5_append 2 (some .boolean) 1 := ⟨⟨by decide +kernel, by decide +kernel, by decide +kernel⟩, (List.mem_filter.mpr ⟨List.mem_append_right _ (List.mem_of_getElem? (i := 211) (by decide +kernel)), by decide +kernel⟩), (List.mem_filter.mpr ⟨List.mem_append_right _ (List.mem_of_getElem? (i := 212) (by decide +kernel)), by decide +kernel⟩), (List.mem_filter.mpr ⟨List.mem_append_right _ (List.mem_of_getElem? (i := 213) (by decide +kernel)), by decide +kernel⟩), (List.mem_filter.mpr ⟨List.mem_append_right _ (List.mem_of_getElem? (i := 2) (by decide +kernel)), by decide +kernel⟩), (List.mem_filter.mpr ⟨List.mem_append_right _ (List.mem_of_getElem? (i := 214) (by decide +kernel)), by decide +kernel⟩)⟩
theorem wf_X6_41 : (Cond.fieldLink "FlapDamper" 41 "FlapDamper$Text" "length" "I") ∈ fd_T := (List.mem_filter.mpr ⟨List.mem_append_right _ (List.mem_of_getElem? (i := 32) (by decide +kernel)), by decide +kernel⟩)
theorem wm_X6_45 : fd_wV "FlapDamper" 45 yX5_clear cX5_clear 2 (some .int) 0 := ⟨⟨by decide +kernel, by decide +kernel, by decide +kernel⟩, (List.mem_filter.mpr ⟨List.mem_append_right _ (List.mem_of_getElem? (i := 219) (by decide +kernel)), by decide +kernel⟩), (List.mem_filter.mpr ⟨List.mem_append_right _ (List.mem_of_getElem? (i := 220) (by decide +kernel)), by decide +kernel⟩), (List.mem_filter.mpr ⟨List.mem_append_right _ (List.mem_of_getElem? (i := 221) (by decide +kernel)), by decide +kernel⟩), (List.mem_filter.mpr ⟨List.mem_append_right _ (List.mem_of_getElem? (i := 2) (by decide +kernel)), by decide +kernel⟩), (List.mem_filter.mpr ⟨List.mem_append_right _ (List.mem_of_getElem? (i := 222) (by decide +kernel)), by decide +kernel⟩)⟩
theorem wm_X6_49 : fd_wV "FlapDamper" 49 yX5_findFault cX5_findFault 3 (some .int) 0 := ⟨⟨by decide +kernel, by decide +kernel, by decide +kernel⟩, (List.mem_filter.mpr ⟨List.mem_append_right _ (List.mem_of_getElem? (i := 227) (by decide +kernel)), by decide +kernel⟩), (List.mem_filter.mpr ⟨List.mem_append_right _ (List.mem_of_getElem? (i := 228) (by decide +kernel)), by decide +kernel⟩), (List.mem_filter.mpr ⟨List.mem_append_right _ (List.mem_of_getElem? (i := 229) (by decide +kernel)), by decide +kernel⟩), (List.mem_filter.mpr ⟨List.mem_append_right _ (List.mem_of_getElem? (i := 2) (by decide +kernel)), by decide +kernel⟩), (List.mem_filter.mpr ⟨List.mem_append_right _ (List.mem_of_getElem? (i := 230) (by decide +kernel)), by decide +kernel⟩)⟩
theorem wm_X6_52 : fd_wV "FlapDamper" 52 yX5_toldBound cX5_toldBound 2 (some .int) 0 := ⟨⟨by decide +kernel, by decide +kernel, by decide +kernel⟩, (List.mem_filter.mpr ⟨List.mem_append_right _ (List.mem_of_getElem? (i := 316) (by decide +kernel)), by decide +kernel⟩), (List.mem_filter.mpr ⟨List.mem_append_right _ (List.mem_of_getElem? (i := 232) (by decide +kernel)), by decide +kernel⟩), (List.mem_filter.mpr ⟨List.mem_append_right _ (List.mem_of_getElem? (i := 233) (by decide +kernel)), by decide +kernel⟩), (List.mem_filter.mpr ⟨List.mem_append_right _ (List.mem_of_getElem? (i := 2) (by decide +kernel)), by decide +kernel⟩), (List.mem_filter.mpr ⟨List.mem_append_right _ (List.mem_of_getElem? (i := 234) (by decide +kernel)), by decide +kernel⟩)⟩
theorem wm_X6_55 : fd_wV "FlapDamper" 55 yX5_toldNumber cX5_toldNumber 3 (some .int) 0 := ⟨⟨by decide +kernel, by decide +kernel, by decide +kernel⟩, (List.mem_filter.mpr ⟨List.mem_append_right _ (List.mem_of_getElem? (i := 317) (by decide +kernel)), by decide +kernel⟩), (List.mem_filter.mpr ⟨List.mem_append_right _ (List.mem_of_getElem? (i := 318) (by decide +kernel)), by decide +kernel⟩), (List.mem_filter.mpr ⟨List.mem_append_right _ (List.mem_of_getElem? (i := 319) (by decide +kernel)), by decide +kernel⟩), (List.mem_filter.mpr ⟨List.mem_append_right _ (List.mem_of_getElem? (i := 2) (by decide +kernel)), by decide +kernel⟩), (List.mem_filter.mpr ⟨List.mem_append_right _ (List.mem_of_getElem? (i := 320) (by decide +kernel)), by decide +kernel⟩)⟩
theorem wf_X6_58 : (Cond.fieldLink "FlapDamper" 58 "FlapDamper" "LEAST" "[I") ∈ fd_T := (List.mem_filter.mpr ⟨List.mem_append_right _ (List.mem_of_getElem? (i := 321) (by decide +kernel)), by decide +kernel⟩)
theorem wf_X6_62 : (Cond.fieldLink "FlapDamper" 62 "FlapDamper" "MOST" "[I") ∈ fd_T := (List.mem_filter.mpr ⟨List.mem_append_right _ (List.mem_of_getElem? (i := 323) (by decide +kernel)), by decide +kernel⟩)
theorem wf_X6_19 : (Cond.fieldLink "FlapDamper" 19 "FlapDamper" "now" "LFlapDamper$State;") ∈ fd_T := (List.mem_filter.mpr ⟨List.mem_append_right _ (List.mem_of_getElem? (i := 188) (by decide +kernel)), by decide +kernel⟩)
theorem wf_X6_65 : (Cond.fieldLink "FlapDamper" 65 "FlapDamper$State" "bounds" "LFlapDamper$Bounds;") ∈ fd_T := (List.mem_filter.mpr ⟨List.mem_append_right _ (List.mem_of_getElem? (i := 149) (by decide +kernel)), by decide +kernel⟩)
theorem wm_X6_69 : fd_wV "FlapDamper" 69 yX0_replace cX0_replace 4 (some .int) 2 := ⟨⟨by decide +kernel, by decide +kernel, by decide +kernel⟩, (List.mem_filter.mpr ⟨List.mem_append_right _ (List.mem_of_getElem? (i := 325) (by decide +kernel)), by decide +kernel⟩), (List.mem_filter.mpr ⟨List.mem_append_right _ (List.mem_of_getElem? (i := 326) (by decide +kernel)), by decide +kernel⟩), (List.mem_filter.mpr ⟨List.mem_append_right _ (List.mem_of_getElem? (i := 327) (by decide +kernel)), by decide +kernel⟩), (List.mem_filter.mpr ⟨List.mem_append_right _ (List.mem_of_getElem? (i := 4) (by decide +kernel)), by decide +kernel⟩), (List.mem_filter.mpr ⟨List.mem_append_right _ (List.mem_of_getElem? (i := 328) (by decide +kernel)), by decide +kernel⟩)⟩
theorem wf_X6_75 : (Cond.fieldLink "FlapDamper" 75 "FlapDamper$Bounds" "values" "[I") ∈ fd_T := (List.mem_filter.mpr ⟨List.mem_append_right _ (List.mem_of_getElem? (i := 62) (by decide +kernel)), by decide +kernel⟩)
theorem wm_X6_78 : fd_wS "FlapDamper" 78 yX6_isRoute cX6_isRoute 2 (some .boolean) 2 := ⟨⟨by decide +kernel, by decide +kernel, by decide +kernel⟩, (List.mem_filter.mpr ⟨List.mem_append_right _ (List.mem_of_getElem? (i := 337) (by decide +kernel)), by decide +kernel⟩), (List.mem_filter.mpr ⟨List.mem_append_right _ (List.mem_of_getElem? (i := 338) (by decide +kernel)), by decide +kernel⟩), (List.mem_filter.mpr ⟨List.mem_append_right _ (List.mem_of_getElem? (i := 1) (by decide +kernel)), by decide +kernel⟩), (List.mem_filter.mpr ⟨List.mem_append_right _ (List.mem_of_getElem? (i := 339) (by decide +kernel)), by decide +kernel⟩)⟩
theorem wm_X6_82 : fd_wS "FlapDamper" 82 yX6_routeOf cX6_routeOf 2 (some .int) 2 := ⟨⟨by decide +kernel, by decide +kernel, by decide +kernel⟩, (List.mem_filter.mpr ⟨List.mem_append_right _ (List.mem_of_getElem? (i := 340) (by decide +kernel)), by decide +kernel⟩), (List.mem_filter.mpr ⟨List.mem_append_right _ (List.mem_of_getElem? (i := 341) (by decide +kernel)), by decide +kernel⟩), (List.mem_filter.mpr ⟨List.mem_append_right _ (List.mem_of_getElem? (i := 1) (by decide +kernel)), by decide +kernel⟩), (List.mem_filter.mpr ⟨List.mem_append_right _ (List.mem_of_getElem? (i := 342) (by decide +kernel)), by decide +kernel⟩)⟩
theorem wf_X6_85 : (Cond.fieldLink "FlapDamper" 85 "FlapDamper$State" "paths" "[I") ∈ fd_T := (List.mem_filter.mpr ⟨List.mem_append_right _ (List.mem_of_getElem? (i := 155) (by decide +kernel)), by decide +kernel⟩)
theorem wm_X6_88 : fd_wV "FlapDamper" 88 yX4_happen cX4_happen 6 (some .int) 3 := ⟨⟨by decide +kernel, by decide +kernel, by decide +kernel⟩, (List.mem_filter.mpr ⟨List.mem_append_right _ (List.mem_of_getElem? (i := 343) (by decide +kernel)), by decide +kernel⟩), (List.mem_filter.mpr ⟨List.mem_append_right _ (List.mem_of_getElem? (i := 344) (by decide +kernel)), by decide +kernel⟩), (List.mem_filter.mpr ⟨List.mem_append_right _ (List.mem_of_getElem? (i := 345) (by decide +kernel)), by decide +kernel⟩), (List.mem_filter.mpr ⟨List.mem_append_right _ (List.mem_of_getElem? (i := 3) (by decide +kernel)), by decide +kernel⟩), (List.mem_filter.mpr ⟨List.mem_append_right _ (List.mem_of_getElem? (i := 346) (by decide +kernel)), by decide +kernel⟩)⟩
theorem wf_X6_95 : (Cond.fieldLink "FlapDamper" 95 "FlapDamper$State" "records" "LFlapDamper$RecordList;") ∈ fd_T := (List.mem_filter.mpr ⟨List.mem_append_right _ (List.mem_of_getElem? (i := 151) (by decide +kernel)), by decide +kernel⟩)
theorem wm_X6_99 : fd_wV "FlapDamper" 99 yX2_heldOnes cX2_heldOnes 3 (some .int) 0 := ⟨⟨by decide +kernel, by decide +kernel, by decide +kernel⟩, (List.mem_filter.mpr ⟨List.mem_append_right _ (List.mem_of_getElem? (i := 469) (by decide +kernel)), by decide +kernel⟩), (List.mem_filter.mpr ⟨List.mem_append_right _ (List.mem_of_getElem? (i := 470) (by decide +kernel)), by decide +kernel⟩), (List.mem_filter.mpr ⟨List.mem_append_right _ (List.mem_of_getElem? (i := 471) (by decide +kernel)), by decide +kernel⟩), (List.mem_filter.mpr ⟨List.mem_append_right _ (List.mem_of_getElem? (i := 5) (by decide +kernel)), by decide +kernel⟩), (List.mem_filter.mpr ⟨List.mem_append_right _ (List.mem_of_getElem? (i := 472) (by decide +kernel)), by decide +kernel⟩)⟩
theorem wm_X6_92 : fd_wV "FlapDamper" 92 yX4_nextTick cX4_nextTick 3 none 0 := ⟨⟨by decide +kernel, by decide +kernel, by decide +kernel⟩, (List.mem_filter.mpr ⟨List.mem_append_right _ (List.mem_of_getElem? (i := 452) (by decide +kernel)), by decide +kernel⟩), (List.mem_filter.mpr ⟨List.mem_append_right _ (List.mem_of_getElem? (i := 453) (by decide +kernel)), by decide +kernel⟩), (List.mem_filter.mpr ⟨List.mem_append_right _ (List.mem_of_getElem? (i := 454) (by decide +kernel)), by decide +kernel⟩), (List.mem_filter.mpr ⟨List.mem_append_right _ (List.mem_of_getElem? (i := 3) (by decide +kernel)), by decide +kernel⟩), (List.mem_filter.mpr ⟨List.mem_append_right _ (List.mem_of_getElem? (i := 455) (by decide +kernel)), by decide +kernel⟩)⟩
theorem wm_X6_104 : fd_wV "FlapDamper" 104 yX2_find cX2_find 3 (some (.object "FlapDamper$RouteRecord")) 1 := ⟨⟨by decide +kernel, by decide +kernel, by decide +kernel⟩, (List.mem_filter.mpr ⟨List.mem_append_right _ (List.mem_of_getElem? (i := 477) (by decide +kernel)), by decide +kernel⟩), (List.mem_filter.mpr ⟨List.mem_append_right _ (List.mem_of_getElem? (i := 356) (by decide +kernel)), by decide +kernel⟩), (List.mem_filter.mpr ⟨List.mem_append_right _ (List.mem_of_getElem? (i := 357) (by decide +kernel)), by decide +kernel⟩), (List.mem_filter.mpr ⟨List.mem_append_right _ (List.mem_of_getElem? (i := 5) (by decide +kernel)), by decide +kernel⟩), (List.mem_filter.mpr ⟨List.mem_append_right _ (List.mem_of_getElem? (i := 358) (by decide +kernel)), by decide +kernel⟩)⟩
theorem wm_X6_108 : fd_wV "FlapDamper" 108 yX4_tellRecord cX4_tellRecord 3 (some .int) 2 := ⟨⟨by decide +kernel, by decide +kernel, by decide +kernel⟩, (List.mem_filter.mpr ⟨List.mem_append_right _ (List.mem_of_getElem? (i := 478) (by decide +kernel)), by decide +kernel⟩), (List.mem_filter.mpr ⟨List.mem_append_right _ (List.mem_of_getElem? (i := 479) (by decide +kernel)), by decide +kernel⟩), (List.mem_filter.mpr ⟨List.mem_append_right _ (List.mem_of_getElem? (i := 480) (by decide +kernel)), by decide +kernel⟩), (List.mem_filter.mpr ⟨List.mem_append_right _ (List.mem_of_getElem? (i := 3) (by decide +kernel)), by decide +kernel⟩), (List.mem_filter.mpr ⟨List.mem_append_right _ (List.mem_of_getElem? (i := 481) (by decide +kernel)), by decide +kernel⟩)⟩
theorem wf_X6_112 : (Cond.fieldLink "FlapDamper" 112 "FlapDamper$State" "tick" "I") ∈ fd_T := (List.mem_filter.mpr ⟨List.mem_append_right _ (List.mem_of_getElem? (i := 159) (by decide +kernel)), by decide +kernel⟩)
theorem wm_X6_115 : fd_wV "FlapDamper" 115 yX4_penaltyAt cX4_penaltyAt 3 (some .int) 2 := ⟨⟨by decide +kernel, by decide +kernel, by decide +kernel⟩, (List.mem_filter.mpr ⟨List.mem_append_right _ (List.mem_of_getElem? (i := 486) (by decide +kernel)), by decide +kernel⟩), (List.mem_filter.mpr ⟨List.mem_append_right _ (List.mem_of_getElem? (i := 385) (by decide +kernel)), by decide +kernel⟩), (List.mem_filter.mpr ⟨List.mem_append_right _ (List.mem_of_getElem? (i := 386) (by decide +kernel)), by decide +kernel⟩), (List.mem_filter.mpr ⟨List.mem_append_right _ (List.mem_of_getElem? (i := 3) (by decide +kernel)), by decide +kernel⟩), (List.mem_filter.mpr ⟨List.mem_append_right _ (List.mem_of_getElem? (i := 387) (by decide +kernel)), by decide +kernel⟩)⟩
theorem wm_X6_118 : fd_wV "FlapDamper" 118 yX4_letGoAt cX4_letGoAt 5 (some .int) 1 := ⟨⟨by decide +kernel, by decide +kernel, by decide +kernel⟩, (List.mem_filter.mpr ⟨List.mem_append_right _ (List.mem_of_getElem? (i := 491) (by decide +kernel)), by decide +kernel⟩), (List.mem_filter.mpr ⟨List.mem_append_right _ (List.mem_of_getElem? (i := 492) (by decide +kernel)), by decide +kernel⟩), (List.mem_filter.mpr ⟨List.mem_append_right _ (List.mem_of_getElem? (i := 493) (by decide +kernel)), by decide +kernel⟩), (List.mem_filter.mpr ⟨List.mem_append_right _ (List.mem_of_getElem? (i := 3) (by decide +kernel)), by decide +kernel⟩), (List.mem_filter.mpr ⟨List.mem_append_right _ (List.mem_of_getElem? (i := 494) (by decide +kernel)), by decide +kernel⟩)⟩
theorem wm_X6_122 : fd_wV "FlapDamper" 122 yX0_lessened cX0_lessened 8 (some .int) 2 := ⟨⟨by decide +kernel, by decide +kernel, by decide +kernel⟩, (List.mem_filter.mpr ⟨List.mem_append_right _ (List.mem_of_getElem? (i := 499) (by decide +kernel)), by decide +kernel⟩), (List.mem_filter.mpr ⟨List.mem_append_right _ (List.mem_of_getElem? (i := 389) (by decide +kernel)), by decide +kernel⟩), (List.mem_filter.mpr ⟨List.mem_append_right _ (List.mem_of_getElem? (i := 390) (by decide +kernel)), by decide +kernel⟩), (List.mem_filter.mpr ⟨List.mem_append_right _ (List.mem_of_getElem? (i := 4) (by decide +kernel)), by decide +kernel⟩), (List.mem_filter.mpr ⟨List.mem_append_right _ (List.mem_of_getElem? (i := 391) (by decide +kernel)), by decide +kernel⟩)⟩
theorem wm_X6_125 : fd_wV "FlapDamper" 125 yX4_tellBest cX4_tellBest 3 (some .int) 2 := ⟨⟨by decide +kernel, by decide +kernel, by decide +kernel⟩, (List.mem_filter.mpr ⟨List.mem_append_right _ (List.mem_of_getElem? (i := 504) (by decide +kernel)), by decide +kernel⟩), (List.mem_filter.mpr ⟨List.mem_append_right _ (List.mem_of_getElem? (i := 505) (by decide +kernel)), by decide +kernel⟩), (List.mem_filter.mpr ⟨List.mem_append_right _ (List.mem_of_getElem? (i := 506) (by decide +kernel)), by decide +kernel⟩), (List.mem_filter.mpr ⟨List.mem_append_right _ (List.mem_of_getElem? (i := 3) (by decide +kernel)), by decide +kernel⟩), (List.mem_filter.mpr ⟨List.mem_append_right _ (List.mem_of_getElem? (i := 507) (by decide +kernel)), by decide +kernel⟩)⟩
theorem wf_X6_128 : (Cond.fieldLink "FlapDamper" 128 "FlapDamper$RecordList" "size" "I") ∈ fd_T := (List.mem_filter.mpr ⟨List.mem_append_right _ (List.mem_of_getElem? (i := 115) (by decide +kernel)), by decide +kernel⟩)
theorem wf_X6_131 : (Cond.fieldLink "FlapDamper" 131 "FlapDamper$RecordList" "rows" "[LFlapDamper$RouteRecord;") ∈ fd_T := (List.mem_filter.mpr ⟨List.mem_append_right _ (List.mem_of_getElem? (i := 112) (by decide +kernel)), by decide +kernel⟩)
theorem wf_X6_135 : (Cond.fieldLink "FlapDamper" 135 "FlapDamper$RouteRecord" "route" "I") ∈ fd_T := (List.mem_filter.mpr ⟨List.mem_append_right _ (List.mem_of_getElem? (i := 82) (by decide +kernel)), by decide +kernel⟩)
theorem wf_X6_140 : (Cond.fieldLink "FlapDamper" 140 "FlapDamper$State" "lines" "LFlapDamper$Lines;") ∈ fd_T := (List.mem_filter.mpr ⟨List.mem_append_right _ (List.mem_of_getElem? (i := 153) (by decide +kernel)), by decide +kernel⟩)
theorem wm_X6_144 : fd_wV "FlapDamper" 144 yX1_tell cX1_tell 4 (some .int) 2 := ⟨⟨by decide +kernel, by decide +kernel, by decide +kernel⟩, (List.mem_filter.mpr ⟨List.mem_append_right _ (List.mem_of_getElem? (i := 516) (by decide +kernel)), by decide +kernel⟩), (List.mem_filter.mpr ⟨List.mem_append_right _ (List.mem_of_getElem? (i := 517) (by decide +kernel)), by decide +kernel⟩), (List.mem_filter.mpr ⟨List.mem_append_right _ (List.mem_of_getElem? (i := 518) (by decide +kernel)), by decide +kernel⟩), (List.mem_filter.mpr ⟨List.mem_append_right _ (List.mem_of_getElem? (i := 7) (by decide +kernel)), by decide +kernel⟩), (List.mem_filter.mpr ⟨List.mem_append_right _ (List.mem_of_getElem? (i := 519) (by decide +kernel)), by decide +kernel⟩)⟩
theorem wf_X6_26 : (Cond.fieldLink "FlapDamper" 26 "FlapDamper" "secondImage" "LFlapDamper$State;") ∈ fd_T := (List.mem_filter.mpr ⟨List.mem_append_right _ (List.mem_of_getElem? (i := 190) (by decide +kernel)), by decide +kernel⟩)
theorem wf_X6_23 : (Cond.fieldLink "FlapDamper" 23 "FlapDamper" "firstImage" "LFlapDamper$State;") ∈ fd_T := (List.mem_filter.mpr ⟨List.mem_append_right _ (List.mem_of_getElem? (i := 189) (by decide +kernel)), by decide +kernel⟩)
theorem wf_X6_29 : (Cond.fieldLink "FlapDamper" 29 "FlapDamper" "kept" "[Z") ∈ fd_T := (List.mem_filter.mpr ⟨List.mem_append_right _ (List.mem_of_getElem? (i := 191) (by decide +kernel)), by decide +kernel⟩)
theorem wm_X6_152 : fd_wV "FlapDamper" 152 yX4_tellCount cX4_tellCount 2 (some .int) 1 := ⟨⟨by decide +kernel, by decide +kernel, by decide +kernel⟩, (List.mem_filter.mpr ⟨List.mem_append_right _ (List.mem_of_getElem? (i := 530) (by decide +kernel)), by decide +kernel⟩), (List.mem_filter.mpr ⟨List.mem_append_right _ (List.mem_of_getElem? (i := 531) (by decide +kernel)), by decide +kernel⟩), (List.mem_filter.mpr ⟨List.mem_append_right _ (List.mem_of_getElem? (i := 532) (by decide +kernel)), by decide +kernel⟩), (List.mem_filter.mpr ⟨List.mem_append_right _ (List.mem_of_getElem? (i := 3) (by decide +kernel)), by decide +kernel⟩), (List.mem_filter.mpr ⟨List.mem_append_right _ (List.mem_of_getElem? (i := 533) (by decide +kernel)), by decide +kernel⟩)⟩
theorem wm_X6_149 : fd_wV "FlapDamper" 149 yX6_keptImages cX6_keptImages 1 (some .int) 0 := ⟨⟨by decide +kernel, by decide +kernel, by decide +kernel⟩, (List.mem_filter.mpr ⟨List.mem_append_right _ (List.mem_of_getElem? (i := 526) (by decide +kernel)), by decide +kernel⟩), (List.mem_filter.mpr ⟨List.mem_append_right _ (List.mem_of_getElem? (i := 528) (by decide +kernel)), by decide +kernel⟩), (List.mem_filter.mpr ⟨List.mem_append_left _ (List.mem_of_getElem? (i := 15) (by decide +kernel)), by decide +kernel⟩), (List.mem_filter.mpr ⟨List.mem_append_right _ (List.mem_of_getElem? (i := 1) (by decide +kernel)), by decide +kernel⟩), (List.mem_filter.mpr ⟨List.mem_append_right _ (List.mem_of_getElem? (i := 529) (by decide +kernel)), by decide +kernel⟩)⟩
theorem wm_X6_156 : fd_wV "FlapDamper" 156 yX6_imageOf cX6_imageOf 2 (some (.object "FlapDamper$State")) 1 := ⟨⟨by decide +kernel, by decide +kernel, by decide +kernel⟩, (List.mem_filter.mpr ⟨List.mem_append_right _ (List.mem_of_getElem? (i := 539) (by decide +kernel)), by decide +kernel⟩), (List.mem_filter.mpr ⟨List.mem_append_right _ (List.mem_of_getElem? (i := 541) (by decide +kernel)), by decide +kernel⟩), (List.mem_filter.mpr ⟨List.mem_append_left _ (List.mem_of_getElem? (i := 16) (by decide +kernel)), by decide +kernel⟩), (List.mem_filter.mpr ⟨List.mem_append_right _ (List.mem_of_getElem? (i := 1) (by decide +kernel)), by decide +kernel⟩), (List.mem_filter.mpr ⟨List.mem_append_right _ (List.mem_of_getElem? (i := 542) (by decide +kernel)), by decide +kernel⟩)⟩
theorem wm_X6_160 : fd_wV "FlapDamper" 160 yX4_copyFrom cX4_copyFrom 2 none 1 := ⟨⟨by decide +kernel, by decide +kernel, by decide +kernel⟩, (List.mem_filter.mpr ⟨List.mem_append_right _ (List.mem_of_getElem? (i := 543) (by decide +kernel)), by decide +kernel⟩), (List.mem_filter.mpr ⟨List.mem_append_right _ (List.mem_of_getElem? (i := 544) (by decide +kernel)), by decide +kernel⟩), (List.mem_filter.mpr ⟨List.mem_append_right _ (List.mem_of_getElem? (i := 545) (by decide +kernel)), by decide +kernel⟩), (List.mem_filter.mpr ⟨List.mem_append_right _ (List.mem_of_getElem? (i := 3) (by decide +kernel)), by decide +kernel⟩), (List.mem_filter.mpr ⟨List.mem_append_right _ (List.mem_of_getElem? (i := 546) (by decide +kernel)), by decide +kernel⟩)⟩
theorem fd_acw : Cond.native arraycopyName ∈ fd_T ∧ Cond.static arraycopyName ∈ fd_T ∧ Cond.initialized "java/lang/System" ∈ fd_T := ⟨(List.mem_filter.mpr ⟨List.mem_append_right _ (List.mem_of_getElem? (i := 404) (by decide +kernel)), by decide +kernel⟩), (List.mem_filter.mpr ⟨List.mem_append_right _ (List.mem_of_getElem? (i := 403) (by decide +kernel)), by decide +kernel⟩), (List.mem_filter.mpr ⟨List.mem_append_right _ (List.mem_of_getElem? (i := 15) (by decide +kernel)), by decide +kernel⟩)⟩
theorem fd_wmax : fd_wM Lib.Math.max.name Lib.Math.max.code := ⟨(List.mem_filter.mpr ⟨List.mem_append_right _ (List.mem_of_getElem? (i := 309) (by decide +kernel)), by decide +kernel⟩), (List.mem_filter.mpr ⟨List.mem_append_right _ (List.mem_of_getElem? (i := 14) (by decide +kernel)), by decide +kernel⟩), (List.mem_filter.mpr ⟨List.mem_append_right _ (List.mem_of_getElem? (i := 310) (by decide +kernel)), by decide +kernel⟩)⟩
theorem fd_wmin : fd_wM Lib.Math.min.name Lib.Math.min.code := ⟨(List.mem_filter.mpr ⟨List.mem_append_right _ (List.mem_of_getElem? (i := 396) (by decide +kernel)), by decide +kernel⟩), (List.mem_filter.mpr ⟨List.mem_append_right _ (List.mem_of_getElem? (i := 14) (by decide +kernel)), by decide +kernel⟩), (List.mem_filter.mpr ⟨List.mem_append_right _ (List.mem_of_getElem? (i := 397) (by decide +kernel)), by decide +kernel⟩)⟩
end
section
theorem dJ0_length_8abf5_0 : decode cJ0_length_8abf5 0 = .ok (.aload_n 0, 1) := by decide +kernel
theorem dJ0_length_8abf5_1 : decode cJ0_length_8abf5 1 = .ok (.getfield 9, 3) := by decide +kernel
theorem dJ0_length_8abf5_4 : decode cJ0_length_8abf5 4 = .ok (.arraylength, 1) := by decide +kernel
theorem dJ0_length_8abf5_5 : decode cJ0_length_8abf5 5 = .ok (.aload_n 0, 1) := by decide +kernel
theorem dJ0_length_8abf5_6 : decode cJ0_length_8abf5 6 = .ok (.invokevirtual 335, 3) := by decide +kernel
theorem dJ0_length_8abf5_9 : decode cJ0_length_8abf5 9 = .ok (.ishr, 1) := by decide +kernel
theorem dJ0_length_8abf5_10 : decode cJ0_length_8abf5 10 = .ok (.ireturn, 1) := by decide +kernel
theorem dJ0_charAt_5068e_0 : decode cJ0_charAt_5068e 0 = .ok (.aload_n 0, 1) := by decide +kernel
theorem dJ0_charAt_5068e_1 : decode cJ0_charAt_5068e 1 = .ok (.invokevirtual 492, 3) := by decide +kernel
theorem dJ0_charAt_5068e_4 : decode cJ0_charAt_5068e 4 = .ok (.ifCond .eq 12, 3) := by decide +kernel
theorem dJ0_charAt_5068e_7 : decode cJ0_charAt_5068e 7 = .ok (.aload_n 0, 1) := by decide +kernel
theorem dJ0_charAt_5068e_8 : decode cJ0_charAt_5068e 8 = .ok (.getfield 9, 3) := by decide +kernel
theorem dJ0_charAt_5068e_11 : decode cJ0_charAt_5068e 11 = .ok (.iload_n 1, 1) := by decide +kernel
theorem dJ0_charAt_5068e_12 : decode cJ0_charAt_5068e 12 = .ok (.invokestatic 495, 3) := by decide +kernel
theorem dJ0_charAt_5068e_15 : decode cJ0_charAt_5068e 15 = .ok (.ireturn, 1) := by decide +kernel
theorem dJ0_charAt_5068e_16 : decode cJ0_charAt_5068e 16 = .ok (.aload_n 0, 1) := by decide +kernel
theorem dJ0_charAt_5068e_17 : decode cJ0_charAt_5068e 17 = .ok (.getfield 9, 3) := by decide +kernel
theorem dJ0_charAt_5068e_20 : decode cJ0_charAt_5068e 20 = .ok (.iload_n 1, 1) := by decide +kernel
theorem dJ0_charAt_5068e_21 : decode cJ0_charAt_5068e 21 = .ok (.invokestatic 498, 3) := by decide +kernel
theorem dJ0_charAt_5068e_24 : decode cJ0_charAt_5068e 24 = .ok (.ireturn, 1) := by decide +kernel
theorem dJ0_coder_7d493_0 : decode cJ0_coder_7d493 0 = .ok (.getstatic 38, 3) := by decide +kernel
theorem dJ0_coder_7d493_3 : decode cJ0_coder_7d493 3 = .ok (.ifCond .eq 10, 3) := by decide +kernel
theorem dJ0_coder_7d493_6 : decode cJ0_coder_7d493 6 = .ok (.aload_n 0, 1) := by decide +kernel
theorem dJ0_coder_7d493_7 : decode cJ0_coder_7d493 7 = .ok (.getfield 15, 3) := by decide +kernel
theorem dJ0_coder_7d493_10 : decode cJ0_coder_7d493 10 = .ok (.goto 4, 3) := by decide +kernel
theorem dJ0_coder_7d493_13 : decode cJ0_coder_7d493 13 = .ok (.iconst 1, 1) := by decide +kernel
theorem dJ0_coder_7d493_14 : decode cJ0_coder_7d493 14 = .ok (.ireturn, 1) := by decide +kernel
theorem dJ0_isLatin1_aae02_0 : decode cJ0_isLatin1_aae02 0 = .ok (.getstatic 38, 3) := by decide +kernel
theorem dJ0_isLatin1_aae02_3 : decode cJ0_isLatin1_aae02 3 = .ok (.ifCond .eq 14, 3) := by decide +kernel
theorem dJ0_isLatin1_aae02_6 : decode cJ0_isLatin1_aae02 6 = .ok (.aload_n 0, 1) := by decide +kernel
theorem dJ0_isLatin1_aae02_7 : decode cJ0_isLatin1_aae02 7 = .ok (.getfield 15, 3) := by decide +kernel
theorem dJ0_isLatin1_aae02_10 : decode cJ0_isLatin1_aae02 10 = .ok (.ifCond .ne 7, 3) := by decide +kernel
theorem dJ0_isLatin1_aae02_13 : decode cJ0_isLatin1_aae02 13 = .ok (.iconst 1, 1) := by decide +kernel
theorem dJ0_isLatin1_aae02_14 : decode cJ0_isLatin1_aae02 14 = .ok (.goto 4, 3) := by decide +kernel
theorem dJ0_isLatin1_aae02_17 : decode cJ0_isLatin1_aae02 17 = .ok (.iconst 0, 1) := by decide +kernel
theorem dJ0_isLatin1_aae02_18 : decode cJ0_isLatin1_aae02 18 = .ok (.ireturn, 1) := by decide +kernel
theorem dJ0_checkIndex_df160_0 : decode cJ0_checkIndex_df160 0 = .ok (.iload_n 0, 1) := by decide +kernel
theorem dJ0_checkIndex_df160_1 : decode cJ0_checkIndex_df160 1 = .ok (.iload_n 1, 1) := by decide +kernel
theorem dJ0_checkIndex_df160_2 : decode cJ0_checkIndex_df160 2 = .ok (.getstatic 1053, 3) := by decide +kernel
theorem dJ0_checkIndex_df160_5 : decode cJ0_checkIndex_df160 5 = .ok (.invokestatic 1059, 3) := by decide +kernel
theorem dJ0_checkIndex_df160_8 : decode cJ0_checkIndex_df160 8 = .ok (.pop, 1) := by decide +kernel
theorem dJ0_checkIndex_df160_9 : decode cJ0_checkIndex_df160 9 = .ok (.return_, 1) := by decide +kernel
theorem dJ1_charAt_3b067_0 : decode cJ1_charAt_3b067 0 = .ok (.iload_n 1, 1) := by decide +kernel
theorem dJ1_charAt_3b067_1 : decode cJ1_charAt_3b067 1 = .ok (.aload_n 0, 1) := by decide +kernel
theorem dJ1_charAt_3b067_2 : decode cJ1_charAt_3b067 2 = .ok (.arraylength, 1) := by decide +kernel
theorem dJ1_charAt_3b067_3 : decode cJ1_charAt_3b067 3 = .ok (.invokestatic 9, 3) := by decide +kernel
theorem dJ1_charAt_3b067_6 : decode cJ1_charAt_3b067 6 = .ok (.aload_n 0, 1) := by decide +kernel
theorem dJ1_charAt_3b067_7 : decode cJ1_charAt_3b067 7 = .ok (.iload_n 1, 1) := by decide +kernel
theorem dJ1_charAt_3b067_8 : decode cJ1_charAt_3b067 8 = .ok (.baload, 1) := by decide +kernel
theorem dJ1_charAt_3b067_9 : decode cJ1_charAt_3b067 9 = .ok (.sipush 255, 3) := by decide +kernel
theorem dJ1_charAt_3b067_12 : decode cJ1_charAt_3b067 12 = .ok (.iand, 1) := by decide +kernel
theorem dJ1_charAt_3b067_13 : decode cJ1_charAt_3b067 13 = .ok (.i2c, 1) := by decide +kernel
theorem dJ1_charAt_3b067_14 : decode cJ1_charAt_3b067 14 = .ok (.ireturn, 1) := by decide +kernel
theorem dJ3_checkIndex_8e157_0 : decode cJ3_checkIndex_8e157 0 = .ok (.iload_n 0, 1) := by decide +kernel
theorem dJ3_checkIndex_8e157_1 : decode cJ3_checkIndex_8e157 1 = .ok (.ifCond .lt 8, 3) := by decide +kernel
theorem dJ3_checkIndex_8e157_4 : decode cJ3_checkIndex_8e157 4 = .ok (.iload_n 0, 1) := by decide +kernel
theorem dJ3_checkIndex_8e157_5 : decode cJ3_checkIndex_8e157 5 = .ok (.iload_n 1, 1) := by decide +kernel
theorem dJ3_checkIndex_8e157_6 : decode cJ3_checkIndex_8e157 6 = .ok (.if_icmp .lt 10, 3) := by decide +kernel
theorem dJ3_checkIndex_8e157_9 : decode cJ3_checkIndex_8e157 9 = .ok (.aload_n 2, 1) := by decide +kernel
theorem dJ3_checkIndex_8e157_10 : decode cJ3_checkIndex_8e157 10 = .ok (.iload_n 0, 1) := by decide +kernel
theorem dJ3_checkIndex_8e157_11 : decode cJ3_checkIndex_8e157 11 = .ok (.iload_n 1, 1) := by decide +kernel
theorem dJ3_checkIndex_8e157_12 : decode cJ3_checkIndex_8e157 12 = .ok (.invokestatic 95, 3) := by decide +kernel
theorem dJ3_checkIndex_8e157_15 : decode cJ3_checkIndex_8e157 15 = .ok (.athrow, 1) := by decide +kernel
theorem dJ3_checkIndex_8e157_16 : decode cJ3_checkIndex_8e157 16 = .ok (.iload_n 0, 1) := by decide +kernel
theorem dJ3_checkIndex_8e157_17 : decode cJ3_checkIndex_8e157 17 = .ok (.ireturn, 1) := by decide +kernel
theorem wj_38 : (Cond.fieldLink "java/lang/String" 38 "java/lang/String" "COMPACT_STRINGS" "Z") ∈ fd_T := (List.mem_filter.mpr ⟨List.mem_append_right _ (List.mem_of_getElem? (i := 257) (by decide +kernel)), by decide +kernel⟩)
theorem wj_15 : (Cond.fieldLink "java/lang/String" 15 "java/lang/String" "coder" "B") ∈ fd_T := (List.mem_filter.mpr ⟨List.mem_append_right _ (List.mem_of_getElem? (i := 784) (by decide +kernel)), by decide +kernel⟩)
theorem wj_9 : (Cond.fieldLink "java/lang/String" 9 "java/lang/String" "value" "[B") ∈ fd_T := (List.mem_filter.mpr ⟨List.mem_append_right _ (List.mem_of_getElem? (i := 783) (by decide +kernel)), by decide +kernel⟩)
theorem wj_1053 : (Cond.fieldLink "java/lang/String" 1053 "jdk/internal/util/Preconditions" "SIOOBE_FORMATTER" "Ljava/util/function/BiFunction;") ∈ fd_T := (List.mem_filter.mpr ⟨List.mem_append_right _ (List.mem_of_getElem? (i := 281) (by decide +kernel)), by decide +kernel⟩)
theorem wj_335 : fd_wV "java/lang/String" 335 yJ0_coder_7d493 cJ0_coder_7d493 1 (some .byte) 0 := ⟨⟨by decide +kernel, by decide +kernel, by decide +kernel⟩, (List.mem_filter.mpr ⟨List.mem_append_right _ (List.mem_of_getElem? (i := 253) (by decide +kernel)), by decide +kernel⟩), (List.mem_filter.mpr ⟨List.mem_append_right _ (List.mem_of_getElem? (i := 254) (by decide +kernel)), by decide +kernel⟩), (List.mem_filter.mpr ⟨List.mem_append_right _ (List.mem_of_getElem? (i := 255) (by decide +kernel)), by decide +kernel⟩), (List.mem_filter.mpr ⟨List.mem_append_right _ (List.mem_of_getElem? (i := 10) (by decide +kernel)), by decide +kernel⟩), (List.mem_filter.mpr ⟨List.mem_append_right _ (List.mem_of_getElem? (i := 256) (by decide +kernel)), by decide +kernel⟩)⟩
theorem wj_492 : fd_wV "java/lang/String" 492 yJ0_isLatin1_aae02 cJ0_isLatin1_aae02 1 (some .boolean) 0 := ⟨⟨by decide +kernel, by decide +kernel, by decide +kernel⟩, (List.mem_filter.mpr ⟨List.mem_append_right _ (List.mem_of_getElem? (i := 271) (by decide +kernel)), by decide +kernel⟩), (List.mem_filter.mpr ⟨List.mem_append_right _ (List.mem_of_getElem? (i := 272) (by decide +kernel)), by decide +kernel⟩), (List.mem_filter.mpr ⟨List.mem_append_right _ (List.mem_of_getElem? (i := 273) (by decide +kernel)), by decide +kernel⟩), (List.mem_filter.mpr ⟨List.mem_append_right _ (List.mem_of_getElem? (i := 10) (by decide +kernel)), by decide +kernel⟩), (List.mem_filter.mpr ⟨List.mem_append_right _ (List.mem_of_getElem? (i := 274) (by decide +kernel)), by decide +kernel⟩)⟩
theorem wj_495 : fd_wS "java/lang/String" 495 yJ1_charAt_3b067 cJ1_charAt_3b067 2 (some .char) 2 := ⟨⟨by decide +kernel, by decide +kernel, by decide +kernel⟩, (List.mem_filter.mpr ⟨List.mem_append_right _ (List.mem_of_getElem? (i := 275) (by decide +kernel)), by decide +kernel⟩), (List.mem_filter.mpr ⟨List.mem_append_right _ (List.mem_of_getElem? (i := 276) (by decide +kernel)), by decide +kernel⟩), (List.mem_filter.mpr ⟨List.mem_append_right _ (List.mem_of_getElem? (i := 11) (by decide +kernel)), by decide +kernel⟩), (List.mem_filter.mpr ⟨List.mem_append_right _ (List.mem_of_getElem? (i := 277) (by decide +kernel)), by decide +kernel⟩)⟩
theorem wj_l9 : fd_wS "java/lang/StringLatin1" 9 yJ0_checkIndex_df160 cJ0_checkIndex_df160 2 none 2 := ⟨⟨by decide +kernel, by decide +kernel, by decide +kernel⟩, (List.mem_filter.mpr ⟨List.mem_append_right _ (List.mem_of_getElem? (i := 278) (by decide +kernel)), by decide +kernel⟩), (List.mem_filter.mpr ⟨List.mem_append_right _ (List.mem_of_getElem? (i := 279) (by decide +kernel)), by decide +kernel⟩), (List.mem_filter.mpr ⟨List.mem_append_right _ (List.mem_of_getElem? (i := 10) (by decide +kernel)), by decide +kernel⟩), (List.mem_filter.mpr ⟨List.mem_append_right _ (List.mem_of_getElem? (i := 280) (by decide +kernel)), by decide +kernel⟩)⟩
theorem wj_1059 : fd_wS "java/lang/String" 1059 yJ3_checkIndex_8e157 cJ3_checkIndex_8e157 3 (some .int) 3 := ⟨⟨by decide +kernel, by decide +kernel, by decide +kernel⟩, (List.mem_filter.mpr ⟨List.mem_append_right _ (List.mem_of_getElem? (i := 283) (by decide +kernel)), by decide +kernel⟩), (List.mem_filter.mpr ⟨List.mem_append_right _ (List.mem_of_getElem? (i := 284) (by decide +kernel)), by decide +kernel⟩), (List.mem_filter.mpr ⟨List.mem_append_right _ (List.mem_of_getElem? (i := 12) (by decide +kernel)), by decide +kernel⟩), (List.mem_filter.mpr ⟨List.mem_append_right _ (List.mem_of_getElem? (i := 285) (by decide +kernel)), by decide +kernel⟩)⟩
set_option maxHeartbeats 4000000 in
set_option maxRecDepth 100000 in
theorem cJ_coder (l : Launch) (E : fd_E) (S : fd_S) (i : Nat) (hi : i < 7) : fd_Ct l yJ0_coder_7d493 cJ0_coder_7d493 1 (some .byte) (fd_rm 0 0) E S [.ref (E.2.2 (110 + i))] (some (.int 0)) S := by
  refine fd_Ct_of (by decide +kernel) (Nat.le_of_ble_eq_true rfl) ?_
  intro p e s m below meth c ls C hr hlk hH hl
  have hx := C.1
  have hb := C.2.1
  have hown := C.2.2.2.1
  have hts := C.2.2.2.2.1
  have hZ := C.2.2.2.2.2.2
  have hl : lv_has ls 1 [(0, .ref (E.2.2 (110 + i)))] := hl
  refine va_gets hx hb hZ.2.2.2.2.2.1 hH.2.2 hown (hts _ wj_38) (fun _ h => h) dJ0_coder_7d493_0 ?_
  refine lv_if_eq (tgt := 13) hx hb dJ0_coder_7d493_3 (by decide) (fun c1 => absurd c1 (by decide)) (fun _ => ?_)
  refine lv_aload_n hx hb dJ0_coder_7d493_6 rfl (lv_at hl 0 rfl) ?_
  refine vk_getf hx hb (hZ.2.2.2.2.1.1.1 i hi).2.1 hH.2.2 hown (hts _ wj_15) (fun _ h => h) dJ0_coder_7d493_7 ?_
  refine lv_goto (tgt := 14) hx hb dJ0_coder_7d493_10 (by decide) ?_
  exact fd_zret .byte C hr hlk hH rfl dJ0_coder_7d493_14
set_option maxHeartbeats 4000000 in
set_option maxRecDepth 100000 in
theorem cJ_isLatin1 (l : Launch) (E : fd_E) (S : fd_S) (i : Nat) (hi : i < 7) : fd_Ct l yJ0_isLatin1_aae02 cJ0_isLatin1_aae02 1 (some .boolean) (fd_rm 0 0) E S [.ref (E.2.2 (110 + i))] (some (.int 1)) S := by
  refine fd_Ct_of (by decide +kernel) (Nat.le_of_ble_eq_true rfl) ?_
  intro p e s m below meth c ls C hr hlk hH hl
  have hx := C.1
  have hb := C.2.1
  have hown := C.2.2.2.1
  have hts := C.2.2.2.2.1
  have hZ := C.2.2.2.2.2.2
  have hl : lv_has ls 1 [(0, .ref (E.2.2 (110 + i)))] := hl
  refine va_gets hx hb hZ.2.2.2.2.2.1 hH.2.2 hown (hts _ wj_38) (fun _ h => h) dJ0_isLatin1_aae02_0 ?_
  refine lv_if_eq (tgt := 17) hx hb dJ0_isLatin1_aae02_3 (by decide) (fun c1 => absurd c1 (by decide)) (fun _ => ?_)
  refine lv_aload_n hx hb dJ0_isLatin1_aae02_6 rfl (lv_at hl 0 rfl) ?_
  refine vk_getf hx hb (hZ.2.2.2.2.1.1.1 i hi).2.1 hH.2.2 hown (hts _ wj_15) (fun _ h => h) dJ0_isLatin1_aae02_7 ?_
  refine lv_if_ne (tgt := 17) hx hb dJ0_isLatin1_aae02_10 (by decide) (fun c1 => absurd rfl c1) (fun _ => ?_)
  refine lv_iconst (v := 1) hx hb dJ0_isLatin1_aae02_13 (by decide) ?_
  refine lv_goto (tgt := 18) hx hb dJ0_isLatin1_aae02_14 (by decide) ?_
  exact fd_zret .boolean C hr hlk hH rfl dJ0_isLatin1_aae02_18
set_option maxHeartbeats 4000000 in
set_option maxRecDepth 100000 in
theorem cJ_length (l : Launch) (E : fd_E) (S : fd_S) (i : Nat) (hi : i < 7) : fd_Ct l yJ0_length_8abf5 cJ0_length_8abf5 1 (some .int) (fd_rm 1 20) E S [.ref (E.2.2 (110 + i))] (some (.int (fd_sl i))) S := by
  refine fd_Ct_of (by decide +kernel) (Nat.le_of_ble_eq_true rfl) ?_
  intro p e s m below meth c ls C hr hlk hH hl
  have hx := C.1
  have hb := C.2.1
  have hown := C.2.2.2.1
  have hts := C.2.2.2.2.1
  have hZ := C.2.2.2.2.2.2
  have hl : lv_has ls 1 [(0, .ref (E.2.2 (110 + i)))] := hl
  refine lv_aload_n hx hb dJ0_length_8abf5_0 rfl (lv_at hl 0 rfl) ?_
  refine vk_getf hx hb (hZ.2.2.2.2.1.1.1 i hi).2.2.1 hH.2.2 hown (hts _ wj_9) (fun _ h => h) dJ0_length_8abf5_1 ?_
  refine va_tlen (v := fd_sl i) hx hb (hZ.2.2.2.2.1.1.1 i hi).2.2.2 hH.2.2 rfl dJ0_length_8abf5_4 ?_
  refine lv_aload_n hx hb dJ0_length_8abf5_5 rfl (lv_at hl 0 rfl) ?_
  refine fd_callR1 [] C hl.1 hH (cJ_coder l E S i hi) wj_335 (fd_srecv hi C hH) ⟨rfl, rfl, Nat.le_of_ble_eq_true rfl, Nat.le_of_ble_eq_true rfl⟩ rfl rfl (Nat.le_of_ble_eq_true rfl) ⟨Nat.le_refl _, Nat.le_refl _⟩ dJ0_length_8abf5_6 (fun H locs hH => ?_)
  refine lv_ishr hx hb dJ0_length_8abf5_9 ?_
  rw [sb_shr0]
  exact fd_iret C hr hlk hH dJ0_length_8abf5_10
set_option maxHeartbeats 4000000 in
set_option maxRecDepth 100000 in
theorem cJ_pre (l : Launch) (E : fd_E) (S : fd_S) (x n : Int32) (o : Option Nat) (h : 0 ≤ x ∧ x < n) : fd_Ct l yJ3_checkIndex_8e157 cJ3_checkIndex_8e157 3 (some .int) (fd_rm 0 0) E S [.int x, .int n, va_rf o] (some (.int x)) S := by
  cases o
  all_goals
    refine fd_Ct_of (by decide +kernel) (Nat.le_of_ble_eq_true rfl) ?_
    intro p e s m below meth c ls C hr hlk hH hl
    have hx := C.1
    have hb := C.2.1
    have hown := C.2.2.2.1
    have hts := C.2.2.2.2.1
    have hZ := C.2.2.2.2.2.2
    have hl : lv_has ls 3 [(0, .int x), (1, .int n), (2, va_rf _)] := hl
    refine lv_iload_n hx hb dJ3_checkIndex_8e157_0 rfl (lv_at hl 0 rfl) ?_
    refine lv_if_lt (tgt := 9) hx hb dJ3_checkIndex_8e157_1 (by decide) (fun c1 => absurd c1 (Int32.not_lt.mpr h.1)) (fun _ => ?_)
    refine lv_iload_n hx hb dJ3_checkIndex_8e157_4 rfl (lv_at hl 0 rfl) ?_
    refine lv_iload_n hx hb dJ3_checkIndex_8e157_5 rfl (lv_at hl 1 rfl) ?_
    refine lv_icmp_lt (tgt := 16) hx hb dJ3_checkIndex_8e157_6 (by decide) (fun _ => ?_) (fun c1 => absurd h.2 c1)
    refine lv_iload_n hx hb dJ3_checkIndex_8e157_16 rfl (lv_at hl 0 rfl) ?_
    exact fd_iret C hr hlk hH dJ3_checkIndex_8e157_17
set_option maxHeartbeats 4000000 in
set_option maxRecDepth 100000 in
theorem cJ_check (l : Launch) (E : fd_E) (S : fd_S) (x n : Int32) (h : 0 ≤ x ∧ x < n) : fd_Ct l yJ0_checkIndex_df160 cJ0_checkIndex_df160 2 none (fd_rm 1 22) E S [.int x, .int n] none S := by
  refine fd_Ct_of (by decide +kernel) (Nat.le_of_ble_eq_true rfl) ?_
  intro p e s m below meth c ls C hr hlk hH hl
  have hx := C.1
  have hb := C.2.1
  have hown := C.2.2.2.1
  have hts := C.2.2.2.2.1
  have hZ := C.2.2.2.2.2.2
  have hl : lv_has ls 2 [(0, .int x), (1, .int n)] := hl
  refine lv_iload_n hx hb dJ0_checkIndex_df160_0 rfl (lv_at hl 0 rfl) ?_
  refine lv_iload_n hx hb dJ0_checkIndex_df160_1 rfl (lv_at hl 1 rfl) ?_
  rcases hZ.2.2.2.2.2.2 with hq | ⟨t, hq⟩
  · refine va_gets hx hb hq hH.2.2 hown (hts _ wj_1053) (fun _ h => h) dJ0_checkIndex_df160_2 ?_
    refine fd_callS1 [.int x, .int n, .null] C hl.1 hH (cJ_pre l E S x n none h) wj_1059 ⟨rfl, rfl, Nat.le_of_ble_eq_true rfl, Nat.le_of_ble_eq_true rfl⟩ rfl rfl (Nat.le_of_ble_eq_true rfl) ⟨Nat.le_refl _, Nat.le_refl _⟩ dJ0_checkIndex_df160_5 (fun H locs hH => ?_)
    refine lv_pop hx hb dJ0_checkIndex_df160_8 rfl ?_
    exact fd_vret C hr hlk hH dJ0_checkIndex_df160_9
  · refine va_gets hx hb hq hH.2.2 hown (hts _ wj_1053) (fun _ h => h) dJ0_checkIndex_df160_2 ?_
    refine fd_callS1 [.int x, .int n, .ref t] C hl.1 hH (cJ_pre l E S x n (some t) h) wj_1059 ⟨rfl, rfl, Nat.le_of_ble_eq_true rfl, Nat.le_of_ble_eq_true rfl⟩ rfl rfl (Nat.le_of_ble_eq_true rfl) ⟨Nat.le_refl _, Nat.le_refl _⟩ dJ0_checkIndex_df160_5 (fun H locs hH => ?_)
    refine lv_pop hx hb dJ0_checkIndex_df160_8 rfl ?_
    exact fd_vret C hr hlk hH dJ0_checkIndex_df160_9
theorem fd_chr : ∀ i, i < 7 → ∀ j, j < fd_slen.getD i 0 → (((fd_sbyt.getD i []).getD j 0 &&& 255).toUInt32 % 65536).toInt32 = (fd_sbyt.getD i []).getD j 0 ∧ narrow .char (.int ((fd_sbyt.getD i []).getD j 0)) = .int ((fd_sbyt.getD i []).getD j 0) := by
  have h : ∀ i, i < 7 → ∀ j, j < 4 → (((fd_sbyt.getD i []).getD j 0 &&& 255).toUInt32 % 65536).toInt32 = (fd_sbyt.getD i []).getD j 0 ∧ narrow .char (.int ((fd_sbyt.getD i []).getD j 0)) = .int ((fd_sbyt.getD i []).getD j 0) := by decide +kernel
  have h4 : ∀ i, i < 7 → fd_slen.getD i 0 ≤ 4 := by decide
  exact fun i hi j hj => h i hi j (Nat.lt_of_lt_of_le hj (h4 i hi))
theorem fd_slen_lt : ∀ i, i < 7 → fd_slen.getD i 0 < 2 ^ 31 := by decide
set_option maxHeartbeats 4000000 in
set_option maxRecDepth 100000 in
theorem cJ_charAtL (l : Launch) (E : fd_E) (S : fd_S) (i : Nat) (j : Int32) (hi : i < 7) (hj : 0 ≤ j ∧ j < fd_sl i) : fd_Ct l yJ1_charAt_3b067 cJ1_charAt_3b067 2 (some .char) (fd_rm 2 43) E S [.ref (E.2.2 (120 + i)), .int j] (some (.int (fd_sc i j))) S := by
  refine fd_Ct_of (by decide +kernel) (Nat.le_of_ble_eq_true rfl) ?_
  intro p e s m below meth c ls C hr hlk hH hl
  have hx := C.1
  have hb := C.2.1
  have hown := C.2.2.2.1
  have hts := C.2.2.2.2.1
  have hZ := C.2.2.2.2.2.2
  have hl : lv_has ls 2 [(0, .ref (E.2.2 (120 + i))), (1, .int j)] := hl
  have hin := fd_in (fd_slen_lt i hi) hj
  have hjn : j.toNatClampNeg < fd_slen.getD i 0 := Nat.not_le.mp fun q => hin (Or.inr q)
  have hcc := fd_chr i hi j.toNatClampNeg hjn
  refine lv_iload_n hx hb dJ1_charAt_3b067_0 rfl (lv_at hl 1 rfl) ?_
  refine lv_aload_n hx hb dJ1_charAt_3b067_1 rfl (lv_at hl 0 rfl) ?_
  refine va_tlen (v := fd_sl i) hx hb (hZ.2.2.2.2.1.1.1 i hi).2.2.2 hH.2.2 rfl dJ1_charAt_3b067_2 ?_
  refine fd_callS0 [.int j, .int (fd_sl i)] C hl.1 hH (cJ_check l E S j (fd_sl i) hj) wj_l9 ⟨rfl, rfl, Nat.le_of_ble_eq_true rfl, Nat.le_of_ble_eq_true rfl⟩ rfl rfl (Nat.le_of_ble_eq_true rfl) ⟨Nat.le_refl _, Nat.le_refl _⟩ dJ1_charAt_3b067_3 (fun H locs hH => ?_)
  refine lv_aload_n hx hb dJ1_charAt_3b067_6 rfl (lv_at hl 0 rfl) ?_
  refine lv_iload_n hx hb dJ1_charAt_3b067_7 rfl (lv_at hl 1 rfl) ?_
  refine va_tb (v := .int (fd_sc i j)) hx hb (hZ.2.2.2.2.1.1.1 i hi).2.2.2 hH.2.2 hin rfl dJ1_charAt_3b067_8 ?_
  refine lv_sipush (v := 255) hx hb dJ1_charAt_3b067_9 (by decide) ?_
  refine lv_iand hx hb dJ1_charAt_3b067_12 ?_
  refine lv_i2c (v := fd_sc i j) hx hb dJ1_charAt_3b067_13 hcc.1 ?_
  exact fd_zret .char C hr hlk hH hcc.2 dJ1_charAt_3b067_14
set_option maxHeartbeats 4000000 in
set_option maxRecDepth 100000 in
theorem cJ_charAt (l : Launch) (E : fd_E) (S : fd_S) (i : Nat) (j : Int32) (hi : i < 7) (hj : 0 ≤ j ∧ j < fd_sl i) : fd_Ct l yJ0_charAt_5068e cJ0_charAt_5068e 2 (some .char) (fd_rm 3 64) E S [.ref (E.2.2 (110 + i)), .int j] (some (.int (fd_sc i j))) S := by
  refine fd_Ct_of (by decide +kernel) (Nat.le_of_ble_eq_true rfl) ?_
  intro p e s m below meth c ls C hr hlk hH hl
  have hx := C.1
  have hb := C.2.1
  have hown := C.2.2.2.1
  have hts := C.2.2.2.2.1
  have hZ := C.2.2.2.2.2.2
  have hl : lv_has ls 2 [(0, .ref (E.2.2 (110 + i))), (1, .int j)] := hl
  have hin := fd_in (fd_slen_lt i hi) hj
  have hjn : j.toNatClampNeg < fd_slen.getD i 0 := Nat.not_le.mp fun q => hin (Or.inr q)
  have hcc := fd_chr i hi j.toNatClampNeg hjn
  refine lv_aload_n hx hb dJ0_charAt_5068e_0 rfl (lv_at hl 0 rfl) ?_
  refine fd_callR1 [] C hl.1 hH (cJ_isLatin1 l E S i hi) wj_492 (fd_srecv hi C hH) ⟨rfl, rfl, Nat.le_of_ble_eq_true rfl, Nat.le_of_ble_eq_true rfl⟩ rfl rfl (Nat.le_of_ble_eq_true rfl) ⟨Nat.le_refl _, Nat.le_refl _⟩ dJ0_charAt_5068e_1 (fun H locs hH => ?_)
  refine lv_if_eq (tgt := 16) hx hb dJ0_charAt_5068e_4 (by decide) (fun c1 => absurd c1 (by decide)) (fun _ => ?_)
  refine lv_aload_n hx hb dJ0_charAt_5068e_7 rfl (lv_at hl 0 rfl) ?_
  refine vk_getf hx hb (hZ.2.2.2.2.1.1.1 i hi).2.2.1 hH.2.2 hown (hts _ wj_9) (fun _ h => h) dJ0_charAt_5068e_8 ?_
  refine lv_iload_n hx hb dJ0_charAt_5068e_11 rfl (lv_at hl 1 rfl) ?_
  refine fd_callS1 [.ref (E.2.2 (120 + i)), .int j] C hl.1 hH (cJ_charAtL l E S i j hi hj) wj_495 ⟨rfl, rfl, Nat.le_of_ble_eq_true rfl, Nat.le_of_ble_eq_true rfl⟩ rfl rfl (Nat.le_of_ble_eq_true rfl) ⟨Nat.le_refl _, Nat.le_refl _⟩ dJ0_charAt_5068e_12 (fun H locs hH => ?_)
  exact fd_zret .char C hr hlk hH hcc.2 dJ0_charAt_5068e_15
end
section
def zM_in (x0 : Int32) (x1 : Int32) (x2 : Int32) : Int32 := (if x0 < x1 then (0 : Int32) else (if x2 < x0 then (0 : Int32) else (1 : Int32)))
theorem zM_in_b (a b c : Int32) : zM_in a b c = 0 ∨ zM_in a b c = 1 := by
  unfold zM_in
  split
  · exact Or.inl rfl
  · split
    · exact Or.inl rfl
    · exact Or.inr rfl
def zM_bounded (S : fd_S) (x1 : Int32) : Option Int32 := (if (0 : Int32) ≤ ((32 : Int32) + x1) ∧ ((32 : Int32) + x1) < (275 : Int32) then (some (S 78 ((32 : Int32) + x1))) else none)
def zM_say (S : fd_S) (x1 : Int32) : Option (Int32 × fd_S) := (if (zM_in x1 (33 : Int32) (126 : Int32)) = (0 : Int32) then (some ((-2 : Int32), S)) else (if (S 73 (8 : Int32)) = (12 : Int32) then (some ((-4 : Int32), S)) else (if (0 : Int32) ≤ (S 73 (8 : Int32)) ∧ (S 73 (8 : Int32)) < (12 : Int32) then (fd_lt (fd_up S 81 (S 73 (8 : Int32)) x1) fun S4 => (fd_lt (fd_up S4 73 (8 : Int32) ((S4 73 (8 : Int32)) + (1 : Int32))) fun S5 => (some ((S5 73 (8 : Int32)), S5)))) else none)))
def zM_wipe (S : fd_S) : Option (Int32 × fd_S) := (fd_lt ((S 73 (8 : Int32))) fun y1 => (fd_lt (fd_up S 73 (8 : Int32) (0 : Int32)) fun S2 => (some (y1, S2))))
def zM_size (x0 : Int32) : Int32 := (if x0 = (6 : Int32) then (3 : Int32) else (4 : Int32))
def zM_isFigure (x0 : Int32) : Int32 := (zM_in x0 (48 : Int32) (57 : Int32))
def zM_fitting_72 (fu : Nat) : Nat → fd_S → Int32 → Int32 → Option Int32
  | 0, _, _, _ => none
  | n + 1, S, x2, x3 => (if (S 73 (8 : Int32)) ≤ x3 then (some x3) else (if (x2 + (6 : Int32)) ≤ x3 then (some x3) else (if (0 : Int32) ≤ x3 ∧ x3 < (12 : Int32) then (if (zM_isFigure (S 81 x3)) = (0 : Int32) then (some x3) else (fd_lt ((x3 + (1 : Int32))) fun y12 => (zM_fitting_72 fu n S x2 y12))) else none)))
def zM_fitting_45 (fu : Nat) (S : fd_S) (x2 : Int32) (x3 : Int32) : Option Int32 := (if x3 = x2 then (if (S 73 (8 : Int32)) ≤ x3 then (some x3) else (if (0 : Int32) ≤ x3 ∧ x3 < (12 : Int32) then (if (S 81 x3) = (61 : Int32) then (fd_lt ((x3 + (1 : Int32))) fun y7 => (zM_fitting_72 fu fu S x2 y7)) else (some x3)) else none)) else (some x3))
def zM_fitting_7 (fu : Nat) : Nat → fd_S → Int32 → Int32 → Int32 → Option Int32
  | 0, _, _, _, _ => none
  | n + 1, S, x1, x2, x3 => (if (S 73 (8 : Int32)) ≤ x3 then (zM_fitting_45 fu S x2 x3) else (if x2 ≤ x3 then (zM_fitting_45 fu S x2 x3) else (if (0 : Int32) ≤ x3 ∧ x3 < (12 : Int32) then (if (0 : Int32) ≤ (((4 : Int32) * x1) + x3) ∧ (((4 : Int32) * x1) + x3) < (28 : Int32) then (if (S 81 x3) = (S 75 (((4 : Int32) * x1) + x3)) then (fd_lt ((x3 + (1 : Int32))) fun y17 => (zM_fitting_7 fu n S x1 x2 y17)) else (zM_fitting_45 fu S x2 x3)) else none) else none)))
def zM_fitting (fu : Nat) (S : fd_S) (x1 : Int32) : Option Int32 := (fd_lt ((zM_size x1)) fun y1 => (zM_fitting_7 fu fu S x1 y1 (0 : Int32)))
def zM_told_5 (fu : Nat) : Nat → fd_S → Int32 → Int32 → Option Int32
  | 0, _, _, _ => none
  | n + 1, S, x1, x2 => (if (7 : Int32) ≤ x2 then (some x1) else (if (S 73 (8 : Int32)) ≤ ((zM_size x2) + (1 : Int32)) then (fd_lt ((x2 + (1 : Int32))) fun y3 => (zM_told_5 fu n S x1 y3)) else ((zM_fitting fu S x2).bind fun r4 => (if r4 = (S 73 (8 : Int32)) then (fd_lt ((x2 + (1 : Int32))) fun y8 => (zM_told_5 fu n S x2 y8)) else (fd_lt ((x2 + (1 : Int32))) fun y7 => (zM_told_5 fu n S x1 y7))))))
def zM_told (fu : Nat) (S : fd_S) : Option Int32 := (zM_told_5 fu fu S (-6 : Int32) (0 : Int32))
def zM_faultNow_4 (fu : Nat) : Nat → fd_S → Int32 → Int32 → Option Int32
  | 0, _, _, _ => none
  | n + 1, S, x1, x2 => (if (7 : Int32) ≤ x2 then ((zM_told fu S).bind fun r2 => (if r2 < (0 : Int32) then (some x1) else (some (-6 : Int32)))) else ((zM_fitting fu S x2).bind fun r5 => (if r5 ≤ x1 then (fd_lt ((x2 + (1 : Int32))) fun y8 => (zM_faultNow_4 fu n S x1 y8)) else ((zM_fitting fu S x2).bind fun r9 => (fd_lt ((x2 + (1 : Int32))) fun y11 => (zM_faultNow_4 fu n S r9 y11))))))
def zM_faultNow (fu : Nat) (S : fd_S) : Option Int32 := (zM_faultNow_4 fu fu S (0 : Int32) (0 : Int32))
def zM_fault (fu : Nat) (S : fd_S) : Option Int32 := ((zM_faultNow fu S).bind fun r1 => (some r1))
def zM_set_21 (fu : Nat) : Nat → fd_S → Int32 → Int32 → Int32 → Option (Int32 × fd_S)
  | 0, _, _, _, _ => none
  | n + 1, S, x1, x2, x3 => (if (S 73 (8 : Int32)) ≤ x3 then (if (0 : Int32) ≤ x1 ∧ x1 < (7 : Int32) then (if (0 : Int32) ≤ x1 ∧ x1 < (7 : Int32) then (if (zM_in x2 (S 76 x1) (S 77 x1)) = (0 : Int32) then (some ((-2 : Int32), S)) else ((zM_bounded S x1).bind fun r9 => (if (0 : Int32) ≤ ((32 : Int32) + x1) ∧ ((32 : Int32) + x1) < (275 : Int32) then (fd_lt (fd_up S 78 ((32 : Int32) + x1) x2) fun S12 => (fd_lt (fd_up S12 73 (8 : Int32) (0 : Int32)) fun S13 => (some (r9, S13)))) else none))) else none) else none) else (if (0 : Int32) ≤ x3 ∧ x3 < (12 : Int32) then (fd_lt (((((10 : Int32) * x2) + (S 81 x3)) - (48 : Int32))) fun y15 => (fd_lt ((x3 + (1 : Int32))) fun y16 => (zM_set_21 fu n S x1 y15 y16))) else none))
def zM_set (fu : Nat) (S : fd_S) : Option (Int32 × fd_S) := ((zM_told fu S).bind fun r1 => (if (0 : Int32) ≤ r1 then (fd_lt (((zM_size r1) + (1 : Int32))) fun y4 => (zM_set_21 fu fu S r1 (0 : Int32) y4)) else (some ((-7 : Int32), S))))
def zM_bound (S : fd_S) (x1 : Int32) : Option Int32 := (if (zM_in x1 (0 : Int32) (6 : Int32)) = (0 : Int32) then (some (-2 : Int32)) else ((zM_bounded S x1).bind fun r2 => (some r2)))
def zM_at (x0 : Int32) (x1 : Int32) : Int32 := (((71 : Int32) + ((10 : Int32) * x0)) + x1)
def zM_recordOf_5 (fu : Nat) : Nat → fd_S → Int32 → Int32 → Int32 → Option Int32
  | 0, _, _, _, _ => none
  | n + 1, S, x1, x2, x3 => (if (S 78 (64 : Int32)) ≤ x3 then (some x2) else (if (0 : Int32) ≤ (zM_at x3 (0 : Int32)) ∧ (zM_at x3 (0 : Int32)) < (275 : Int32) then (if (S 78 (zM_at x3 (0 : Int32))) = x1 then (fd_lt ((x3 + (1 : Int32))) fun y5 => (zM_recordOf_5 fu n S x1 x3 y5)) else (fd_lt ((x3 + (1 : Int32))) fun y4 => (zM_recordOf_5 fu n S x1 x2 y4))) else none))
def zM_recordOf (fu : Nat) (S : fd_S) (x1 : Int32) : Option Int32 := (zM_recordOf_5 fu fu S x1 (-6 : Int32) (0 : Int32))
def zM_isHeld (S : fd_S) (x1 : Int32) : Option Int32 := (if (0 : Int32) ≤ (zM_at x1 (3 : Int32)) ∧ (zM_at x1 (3 : Int32)) < (275 : Int32) then (if (S 78 (zM_at x1 (3 : Int32))) = (1 : Int32) then (some (1 : Int32)) else (some (0 : Int32))) else none)
def zM_lessened_37 (fu : Nat) (S : fd_S) (x2 : Int32) (x3 : Int32) (x4 : Int32) : Option Int32 := (if ¬ x3 = (0 : Int32) then (if ¬ x3 = (0 : Int32) then (if (0 : Int32) ≤ (((8 : Int32) * (fd_rem x2 x3)) / x3) ∧ (((8 : Int32) * (fd_rem x2 x3)) / x3) < (8 : Int32) then (some ((x4 * (S 74 (((8 : Int32) * (fd_rem x2 x3)) / x3))) / (65536 : Int32))) else none) else none) else none)
def zM_lessened_12 (fu : Nat) : Nat → fd_S → Int32 → Int32 → Int32 → Int32 → Option Int32
  | 0, _, _, _, _, _ => none
  | n + 1, S, x2, x3, x4, x5 => (if ¬ x3 = (0 : Int32) then (if (x2 / x3) ≤ x5 then (zM_lessened_37 fu S x2 x3 x4) else (if x4 ≤ (0 : Int32) then (zM_lessened_37 fu S x2 x3 x4) else (fd_lt ((x4 / (2 : Int32))) fun y9 => (fd_lt ((x5 + (1 : Int32))) fun y10 => (zM_lessened_12 fu n S x2 x3 y9 y10))))) else none)
def zM_lessened (fu : Nat) (S : fd_S) (x1 : Int32) (x2 : Int32) : Option Int32 := ((zM_bounded S (0 : Int32)).bind fun r1 => (zM_lessened_12 fu fu S x2 r1 x1 (0 : Int32)))
def zM_penaltyAt (fu : Nat) (S : fd_S) (x1 : Int32) (x2 : Int32) : Option Int32 := (if (0 : Int32) ≤ (zM_at x1 (1 : Int32)) ∧ (zM_at x1 (1 : Int32)) < (275 : Int32) then (if (0 : Int32) ≤ (zM_at x1 (2 : Int32)) ∧ (zM_at x1 (2 : Int32)) < (275 : Int32) then ((zM_lessened fu S (S 78 (zM_at x1 (1 : Int32))) (x2 - (S 78 (zM_at x1 (2 : Int32))))).bind fun r3 => (some r3)) else none) else none)
def zM_dueAfter_18 (fu : Nat) : Nat → fd_S → Int32 → Int32 → Int32 → Int32 → Option Int32
  | 0, _, _, _, _, _ => none
  | n + 1, S, x1, x3, x4, x5 => (if (7 : Int32) ≤ x5 then (some x4) else ((zM_penaltyAt fu S x1 x4).bind fun r6 => ((zM_bounded S (5 : Int32)).bind fun r8 => (if r6 < r8 then (some x4) else (fd_lt ((x4 + x3)) fun y11 => (fd_lt ((x5 + (1 : Int32))) fun y12 => (zM_dueAfter_18 fu n S x1 x3 y11 y12)))))))
def zM_dueAfter (fu : Nat) (S : fd_S) (x1 : Int32) (x2 : Int32) : Option Int32 := ((zM_bounded S (1 : Int32)).bind fun r1 => (if ¬ r1 = (0 : Int32) then (fd_lt ((((x2 / r1) * r1) + r1)) fun y4 => (zM_dueAfter_18 fu fu S x1 r1 y4 (0 : Int32))) else none))
def zM_remove_28 (fu : Nat) : Nat → fd_S → Int32 → Option fd_S
  | 0, _, _ => none
  | n + 1, S, x2 => (if (zM_at (S 78 (64 : Int32)) (0 : Int32)) ≤ x2 then (some S) else (if (0 : Int32) ≤ (x2 + (10 : Int32)) ∧ (x2 + (10 : Int32)) < (275 : Int32) then (if (0 : Int32) ≤ x2 ∧ x2 < (275 : Int32) then (fd_lt (fd_up S 78 x2 (S 78 (x2 + (10 : Int32)))) fun S7 => (fd_lt ((x2 + (1 : Int32))) fun y8 => (zM_remove_28 fu n S7 y8))) else none) else none))
def zM_remove (fu : Nat) (S : fd_S) (x1 : Int32) : Option fd_S := (fd_lt (fd_up S 78 (64 : Int32) ((S 78 (64 : Int32)) - (1 : Int32))) fun S1 => (fd_lt (fd_up S1 78 (68 : Int32) ((S1 78 (68 : Int32)) + (1 : Int32))) fun S2 => (fd_lt ((zM_at x1 (0 : Int32))) fun y3 => (zM_remove_28 fu fu S2 y3))))
def zM_makeRecord_81 (fu : Nat) : Nat → fd_S → Int32 → Int32 → Int32 → Option (Int32 × fd_S)
  | 0, _, _, _, _ => none
  | n + 1, S, x1, x2, x3 => (if (10 : Int32) ≤ x3 then (if (0 : Int32) ≤ (zM_at x2 (0 : Int32)) ∧ (zM_at x2 (0 : Int32)) < (275 : Int32) then (fd_lt (fd_up S 78 (zM_at x2 (0 : Int32)) x1) fun S9 => (if (0 : Int32) ≤ (zM_at x2 (2 : Int32)) ∧ (zM_at x2 (2 : Int32)) < (275 : Int32) then (fd_lt (fd_up S9 78 (zM_at x2 (2 : Int32)) (S9 78 (63 : Int32))) fun S11 => (some (x2, S11))) else none)) else none) else (if (0 : Int32) ≤ (zM_at x2 x3) ∧ (zM_at x2 x3) < (275 : Int32) then (fd_lt (fd_up S 78 (zM_at x2 x3) (0 : Int32)) fun S13 => (fd_lt ((x3 + (1 : Int32))) fun y14 => (zM_makeRecord_81 fu n S13 x1 x2 y14))) else none))
def zM_makeRecord_60 (fu : Nat) (S : fd_S) (x1 : Int32) : Option (Int32 × fd_S) := (fd_lt ((S 78 (64 : Int32))) fun y5 => (fd_lt (fd_up S 78 (64 : Int32) ((S 78 (64 : Int32)) + (1 : Int32))) fun S6 => (zM_makeRecord_81 fu fu S6 x1 y5 (0 : Int32))))
def zM_makeRecord_26 (fu : Nat) : Nat → fd_S → Int32 → Int32 → Option (Int32 × fd_S)
  | 0, _, _, _ => none
  | n + 1, S, x1, x3 => (if (6 : Int32) ≤ x3 then (if x3 = (6 : Int32) then (some ((-6 : Int32), S)) else ((zM_remove fu S x3).bind fun S17 => (zM_makeRecord_60 fu S17 x1))) else ((zM_isHeld S x3).bind fun r19 => (if r19 = (0 : Int32) then (if x3 = (6 : Int32) then (some ((-6 : Int32), S)) else ((zM_remove fu S x3).bind fun S23 => (zM_makeRecord_60 fu S23 x1))) else (fd_lt ((x3 + (1 : Int32))) fun y25 => (zM_makeRecord_26 fu n S x1 y25)))))
def zM_makeRecord (fu : Nat) (S : fd_S) (x1 : Int32) : Option (Int32 × fd_S) := ((zM_recordOf fu S x1).bind fun r1 => (if r1 < (0 : Int32) then (if (S 78 (64 : Int32)) = (6 : Int32) then (zM_makeRecord_26 fu fu S x1 (0 : Int32)) else (zM_makeRecord_60 fu S x1)) else (some (r1, S))))
def zM_isCounted_5 (fu : Nat) : Nat → fd_S → Int32 → Int32 → Int32 → Int32 → Option Int32
  | 0, _, _, _, _, _ => none
  | n + 1, S, x1, x2, x3, x4 => (if (0 : Int32) ≤ (zM_at x1 (5 : Int32)) ∧ (zM_at x1 (5 : Int32)) < (275 : Int32) then (if (S 78 (zM_at x1 (5 : Int32))) ≤ x4 then (if x3 = (0 : Int32) ∨ x3 = (1 : Int32) then (some x3) else none) else (if x3 = (0 : Int32) then (if (0 : Int32) ≤ (zM_at x1 ((6 : Int32) + x4)) ∧ (zM_at x1 ((6 : Int32) + x4)) < (275 : Int32) then (if (S 78 (zM_at x1 ((6 : Int32) + x4))) = x2 then (fd_lt ((x4 + (1 : Int32))) fun y9 => (zM_isCounted_5 fu n S x1 x2 (1 : Int32) y9)) else (fd_lt ((x4 + (1 : Int32))) fun y8 => (zM_isCounted_5 fu n S x1 x2 (0 : Int32) y8))) else none) else (fd_lt ((x4 + (1 : Int32))) fun y5 => (zM_isCounted_5 fu n S x1 x2 (1 : Int32) y5)))) else none)
def zM_isCounted (fu : Nat) (S : fd_S) (x1 : Int32) (x2 : Int32) : Option Int32 := (zM_isCounted_5 fu fu S x1 x2 (0 : Int32) (0 : Int32))
def zM_addCause_64 (fu : Nat) (S : fd_S) (x1 : Int32) (x2 : Int32) : Option fd_S := (if (0 : Int32) ≤ (zM_at x1 (5 : Int32)) ∧ (zM_at x1 (5 : Int32)) < (275 : Int32) then (if (0 : Int32) ≤ (zM_at x1 (5 : Int32)) ∧ (zM_at x1 (5 : Int32)) < (275 : Int32) then (fd_lt (fd_up S 78 (zM_at x1 (5 : Int32)) ((S 78 (zM_at x1 (5 : Int32))) + (1 : Int32))) fun S5 => (if (0 : Int32) ≤ (zM_at x1 (5 : Int32)) ∧ (zM_at x1 (5 : Int32)) < (275 : Int32) then (if (0 : Int32) ≤ (zM_at x1 ((5 : Int32) + (S5 78 (zM_at x1 (5 : Int32))))) ∧ (zM_at x1 ((5 : Int32) + (S5 78 (zM_at x1 (5 : Int32))))) < (275 : Int32) then (fd_lt (fd_up S5 78 (zM_at x1 ((5 : Int32) + (S5 78 (zM_at x1 (5 : Int32))))) x2) fun S8 => (some S8)) else none) else none)) else none) else none)
def zM_addCause_16 (fu : Nat) : Nat → fd_S → Int32 → Int32 → Int32 → Option fd_S
  | 0, _, _, _, _ => none
  | n + 1, S, x1, x2, x3 => (if (4 : Int32) ≤ x3 then (if (0 : Int32) ≤ (zM_at x1 (5 : Int32)) ∧ (zM_at x1 (5 : Int32)) < (275 : Int32) then (fd_lt (fd_up S 78 (zM_at x1 (5 : Int32)) (3 : Int32)) fun S11 => (zM_addCause_64 fu S11 x1 x2)) else none) else (if (0 : Int32) ≤ (zM_at x1 (((5 : Int32) + x3) + (1 : Int32))) ∧ (zM_at x1 (((5 : Int32) + x3) + (1 : Int32))) < (275 : Int32) then (if (0 : Int32) ≤ (zM_at x1 ((5 : Int32) + x3)) ∧ (zM_at x1 ((5 : Int32) + x3)) < (275 : Int32) then (fd_lt (fd_up S 78 (zM_at x1 ((5 : Int32) + x3)) (S 78 (zM_at x1 (((5 : Int32) + x3) + (1 : Int32))))) fun S14 => (fd_lt ((x3 + (1 : Int32))) fun y15 => (zM_addCause_16 fu n S14 x1 x2 y15))) else none) else none))
def zM_addCause (fu : Nat) (S : fd_S) (x1 : Int32) (x2 : Int32) : Option fd_S := (if (0 : Int32) ≤ (zM_at x1 (5 : Int32)) ∧ (zM_at x1 (5 : Int32)) < (275 : Int32) then (if (S 78 (zM_at x1 (5 : Int32))) = (4 : Int32) then (zM_addCause_16 fu fu S x1 x2 (1 : Int32)) else (zM_addCause_64 fu S x1 x2)) else none)
def zM_lineAt (x1 : Int32) (x2 : Int32) : Int32 := ((((131 : Int32) + ((24 : Int32) * x1)) + (1 : Int32)) + x2)
def zM_write (S : fd_S) (x1 : Int32) : Option fd_S := (if (0 : Int32) ≤ (zM_lineAt (0 : Int32) (S 78 (131 : Int32))) ∧ (zM_lineAt (0 : Int32) (S 78 (131 : Int32))) < (275 : Int32) then (fd_lt (fd_up S 78 (zM_lineAt (0 : Int32) (S 78 (131 : Int32))) x1) fun S2 => (fd_lt (fd_up S2 78 (131 : Int32) ((S2 78 (131 : Int32)) + (1 : Int32))) fun S3 => (some S3))) else none)
def zM_writeNumber_18 (fu : Nat) : Nat → fd_S → Int32 → Int32 → Option fd_S
  | 0, _, _, _ => none
  | n + 1, S, x1, x2 => (if x2 ≤ (0 : Int32) then (some S) else (if ¬ x2 = (0 : Int32) then ((zM_write S ((48 : Int32) + (fd_rem (x1 / x2) (10 : Int32)))).bind fun S5 => (fd_lt ((x2 / (10 : Int32))) fun y7 => (zM_writeNumber_18 fu n S5 x1 y7))) else none))
def zM_writeNumber_2 (fu : Nat) : Nat → fd_S → Int32 → Int32 → Option fd_S
  | 0, _, _, _ => none
  | n + 1, S, x1, x2 => (if ¬ x2 = (0 : Int32) then (if (x1 / x2) ≤ (9 : Int32) then (zM_writeNumber_18 fu fu S x1 x2) else (fd_lt ((x2 * (10 : Int32))) fun y8 => (zM_writeNumber_2 fu n S x1 y8))) else none)
def zM_writeNumber (fu : Nat) (S : fd_S) (x1 : Int32) : Option fd_S := (zM_writeNumber_2 fu fu S x1 (1 : Int32))
def zM_beginLine_4 (fu : Nat) : Nat → fd_S → Int32 → Int32 → Int32 → Option fd_S
  | 0, _, _, _, _ => none
  | n + 1, S, x1, x2, x3 => (if x3 < (24 : Int32) then (fd_lt (fd_up S 78 (131 : Int32) (0 : Int32)) fun S2 => (fd_lt (fd_up S2 78 (70 : Int32) ((S2 78 (70 : Int32)) + (1 : Int32))) fun S3 => ((zM_write S3 x1).bind fun S4 => ((zM_write S4 ((48 : Int32) + (x2 / (8 : Int32)))).bind fun S6 => ((zM_write S6 ((48 : Int32) + (fd_rem x2 (8 : Int32)))).bind fun S8 => (some S8)))))) else (if (0 : Int32) ≤ (((131 : Int32) + x3) - (24 : Int32)) ∧ (((131 : Int32) + x3) - (24 : Int32)) < (275 : Int32) then (if (0 : Int32) ≤ ((131 : Int32) + x3) ∧ ((131 : Int32) + x3) < (275 : Int32) then (fd_lt (fd_up S 78 ((131 : Int32) + x3) (S 78 (((131 : Int32) + x3) - (24 : Int32)))) fun S12 => (fd_lt ((x3 + (-1 : Int32))) fun y13 => (zM_beginLine_4 fu n S12 x1 x2 y13))) else none) else none))
def zM_beginLine (fu : Nat) (S : fd_S) (x1 : Int32) (x2 : Int32) : Option fd_S := (zM_beginLine_4 fu fu S x1 x2 (143 : Int32))
def zM_lookAtBest_13 (fu : Nat) : Nat → fd_S → Int32 → Int32 → Int32 → Option Int32
  | 0, _, _, _, _ => none
  | n + 1, S, x1, x2, x3 => (if (4 : Int32) ≤ x3 then (some x2) else (fd_lt ((((8 : Int32) * x3) + x1)) fun y3 => ((zM_recordOf fu S y3).bind fun r4 => (if (0 : Int32) ≤ ((0 : Int32) + y3) ∧ ((0 : Int32) + y3) < (275 : Int32) then (if (S 78 ((0 : Int32) + y3)) < (0 : Int32) then (if (0 : Int32) = (0 : Int32) then (fd_lt ((x3 + (1 : Int32))) fun y9 => (zM_lookAtBest_13 fu n S x1 x2 y9)) else (if x2 < (0 : Int32) then (fd_lt ((x3 + (1 : Int32))) fun y11 => (zM_lookAtBest_13 fu n S x1 x3 y11)) else (if (0 : Int32) ≤ ((0 : Int32) + y3) ∧ ((0 : Int32) + y3) < (275 : Int32) then (if (0 : Int32) ≤ (((0 : Int32) + ((8 : Int32) * x2)) + x1) ∧ (((0 : Int32) + ((8 : Int32) * x2)) + x1) < (275 : Int32) then (if (S 78 (((0 : Int32) + ((8 : Int32) * x2)) + x1)) ≤ (S 78 ((0 : Int32) + y3)) then (fd_lt ((x3 + (1 : Int32))) fun y15 => (zM_lookAtBest_13 fu n S x1 x2 y15)) else (fd_lt ((x3 + (1 : Int32))) fun y16 => (zM_lookAtBest_13 fu n S x1 x3 y16))) else none) else none))) else (if r4 < (0 : Int32) then (if (1 : Int32) = (0 : Int32) then (fd_lt ((x3 + (1 : Int32))) fun y19 => (zM_lookAtBest_13 fu n S x1 x2 y19)) else (if x2 < (0 : Int32) then (fd_lt ((x3 + (1 : Int32))) fun y21 => (zM_lookAtBest_13 fu n S x1 x3 y21)) else (if (0 : Int32) ≤ ((0 : Int32) + y3) ∧ ((0 : Int32) + y3) < (275 : Int32) then (if (0 : Int32) ≤ (((0 : Int32) + ((8 : Int32) * x2)) + x1) ∧ (((0 : Int32) + ((8 : Int32) * x2)) + x1) < (275 : Int32) then (if (S 78 (((0 : Int32) + ((8 : Int32) * x2)) + x1)) ≤ (S 78 ((0 : Int32) + y3)) then (fd_lt ((x3 + (1 : Int32))) fun y25 => (zM_lookAtBest_13 fu n S x1 x2 y25)) else (fd_lt ((x3 + (1 : Int32))) fun y26 => (zM_lookAtBest_13 fu n S x1 x3 y26))) else none) else none))) else ((zM_isHeld S r4).bind fun r27 => (if r27 = (0 : Int32) then (if (1 : Int32) = (0 : Int32) then (fd_lt ((x3 + (1 : Int32))) fun y40 => (zM_lookAtBest_13 fu n S x1 x2 y40)) else (if x2 < (0 : Int32) then (fd_lt ((x3 + (1 : Int32))) fun y42 => (zM_lookAtBest_13 fu n S x1 x3 y42)) else (if (0 : Int32) ≤ ((0 : Int32) + y3) ∧ ((0 : Int32) + y3) < (275 : Int32) then (if (0 : Int32) ≤ (((0 : Int32) + ((8 : Int32) * x2)) + x1) ∧ (((0 : Int32) + ((8 : Int32) * x2)) + x1) < (275 : Int32) then (if (S 78 (((0 : Int32) + ((8 : Int32) * x2)) + x1)) ≤ (S 78 ((0 : Int32) + y3)) then (fd_lt ((x3 + (1 : Int32))) fun y46 => (zM_lookAtBest_13 fu n S x1 x2 y46)) else (fd_lt ((x3 + (1 : Int32))) fun y47 => (zM_lookAtBest_13 fu n S x1 x3 y47))) else none) else none))) else (if (0 : Int32) = (0 : Int32) then (fd_lt ((x3 + (1 : Int32))) fun y31 => (zM_lookAtBest_13 fu n S x1 x2 y31)) else (if x2 < (0 : Int32) then (fd_lt ((x3 + (1 : Int32))) fun y33 => (zM_lookAtBest_13 fu n S x1 x3 y33)) else (if (0 : Int32) ≤ ((0 : Int32) + y3) ∧ ((0 : Int32) + y3) < (275 : Int32) then (if (0 : Int32) ≤ (((0 : Int32) + ((8 : Int32) * x2)) + x1) ∧ (((0 : Int32) + ((8 : Int32) * x2)) + x1) < (275 : Int32) then (if (S 78 (((0 : Int32) + ((8 : Int32) * x2)) + x1)) ≤ (S 78 ((0 : Int32) + y3)) then (fd_lt ((x3 + (1 : Int32))) fun y37 => (zM_lookAtBest_13 fu n S x1 x2 y37)) else (fd_lt ((x3 + (1 : Int32))) fun y38 => (zM_lookAtBest_13 fu n S x1 x3 y38))) else none) else none))))))) else none))))
def zM_lookAtBest_2 (fu : Nat) : Nat → fd_S → Int32 → Option fd_S
  | 0, _, _ => none
  | n + 1, S, x1 => (if (8 : Int32) ≤ x1 then (some S) else ((zM_lookAtBest_13 fu fu S x1 (-6 : Int32) (0 : Int32)).bind fun o48 => (if (0 : Int32) ≤ o48 then (if (0 : Int32) ≤ (((0 : Int32) + ((8 : Int32) * o48)) + x1) ∧ (((0 : Int32) + ((8 : Int32) * o48)) + x1) < (275 : Int32) then (fd_lt ((S 78 (((0 : Int32) + ((8 : Int32) * o48)) + x1))) fun y52 => (if (0 : Int32) ≤ ((39 : Int32) + ((3 : Int32) * x1)) ∧ ((39 : Int32) + ((3 : Int32) * x1)) < (275 : Int32) then (if o48 = (S 78 ((39 : Int32) + ((3 : Int32) * x1))) then (if (0 : Int32) ≤ (((39 : Int32) + ((3 : Int32) * x1)) + (1 : Int32)) ∧ (((39 : Int32) + ((3 : Int32) * x1)) + (1 : Int32)) < (275 : Int32) then (if y52 = (S 78 (((39 : Int32) + ((3 : Int32) * x1)) + (1 : Int32))) then (fd_lt ((x1 + (1 : Int32))) fun y65 => (zM_lookAtBest_2 fu n S y65)) else (if (0 : Int32) ≤ ((39 : Int32) + ((3 : Int32) * x1)) ∧ ((39 : Int32) + ((3 : Int32) * x1)) < (275 : Int32) then (fd_lt (fd_up S 78 ((39 : Int32) + ((3 : Int32) * x1)) o48) fun S67 => (if (0 : Int32) ≤ (((39 : Int32) + ((3 : Int32) * x1)) + (1 : Int32)) ∧ (((39 : Int32) + ((3 : Int32) * x1)) + (1 : Int32)) < (275 : Int32) then (fd_lt (fd_up S67 78 (((39 : Int32) + ((3 : Int32) * x1)) + (1 : Int32)) y52) fun S69 => (if (0 : Int32) ≤ (((39 : Int32) + ((3 : Int32) * x1)) + (2 : Int32)) ∧ (((39 : Int32) + ((3 : Int32) * x1)) + (2 : Int32)) < (275 : Int32) then (if (0 : Int32) ≤ (((39 : Int32) + ((3 : Int32) * x1)) + (2 : Int32)) ∧ (((39 : Int32) + ((3 : Int32) * x1)) + (2 : Int32)) < (275 : Int32) then (fd_lt (fd_up S69 78 (((39 : Int32) + ((3 : Int32) * x1)) + (2 : Int32)) ((S69 78 (((39 : Int32) + ((3 : Int32) * x1)) + (2 : Int32))) + (1 : Int32))) fun S72 => (fd_lt ((x1 + (1 : Int32))) fun y73 => (zM_lookAtBest_2 fu n S72 y73))) else none) else none)) else none)) else none)) else none) else (if (0 : Int32) ≤ ((39 : Int32) + ((3 : Int32) * x1)) ∧ ((39 : Int32) + ((3 : Int32) * x1)) < (275 : Int32) then (fd_lt (fd_up S 78 ((39 : Int32) + ((3 : Int32) * x1)) o48) fun S56 => (if (0 : Int32) ≤ (((39 : Int32) + ((3 : Int32) * x1)) + (1 : Int32)) ∧ (((39 : Int32) + ((3 : Int32) * x1)) + (1 : Int32)) < (275 : Int32) then (fd_lt (fd_up S56 78 (((39 : Int32) + ((3 : Int32) * x1)) + (1 : Int32)) y52) fun S58 => (if (0 : Int32) ≤ (((39 : Int32) + ((3 : Int32) * x1)) + (2 : Int32)) ∧ (((39 : Int32) + ((3 : Int32) * x1)) + (2 : Int32)) < (275 : Int32) then (if (0 : Int32) ≤ (((39 : Int32) + ((3 : Int32) * x1)) + (2 : Int32)) ∧ (((39 : Int32) + ((3 : Int32) * x1)) + (2 : Int32)) < (275 : Int32) then (fd_lt (fd_up S58 78 (((39 : Int32) + ((3 : Int32) * x1)) + (2 : Int32)) ((S58 78 (((39 : Int32) + ((3 : Int32) * x1)) + (2 : Int32))) + (1 : Int32))) fun S61 => (fd_lt ((x1 + (1 : Int32))) fun y62 => (zM_lookAtBest_2 fu n S61 y62))) else none) else none)) else none)) else none)) else none)) else none) else (if (0 : Int32) ≤ ((39 : Int32) + ((3 : Int32) * x1)) ∧ ((39 : Int32) + ((3 : Int32) * x1)) < (275 : Int32) then (if o48 = (S 78 ((39 : Int32) + ((3 : Int32) * x1))) then (if (0 : Int32) ≤ (((39 : Int32) + ((3 : Int32) * x1)) + (1 : Int32)) ∧ (((39 : Int32) + ((3 : Int32) * x1)) + (1 : Int32)) < (275 : Int32) then (if (-6 : Int32) = (S 78 (((39 : Int32) + ((3 : Int32) * x1)) + (1 : Int32))) then (fd_lt ((x1 + (1 : Int32))) fun y86 => (zM_lookAtBest_2 fu n S y86)) else (if (0 : Int32) ≤ ((39 : Int32) + ((3 : Int32) * x1)) ∧ ((39 : Int32) + ((3 : Int32) * x1)) < (275 : Int32) then (fd_lt (fd_up S 78 ((39 : Int32) + ((3 : Int32) * x1)) o48) fun S88 => (if (0 : Int32) ≤ (((39 : Int32) + ((3 : Int32) * x1)) + (1 : Int32)) ∧ (((39 : Int32) + ((3 : Int32) * x1)) + (1 : Int32)) < (275 : Int32) then (fd_lt (fd_up S88 78 (((39 : Int32) + ((3 : Int32) * x1)) + (1 : Int32)) (-6 : Int32)) fun S90 => (if (0 : Int32) ≤ (((39 : Int32) + ((3 : Int32) * x1)) + (2 : Int32)) ∧ (((39 : Int32) + ((3 : Int32) * x1)) + (2 : Int32)) < (275 : Int32) then (if (0 : Int32) ≤ (((39 : Int32) + ((3 : Int32) * x1)) + (2 : Int32)) ∧ (((39 : Int32) + ((3 : Int32) * x1)) + (2 : Int32)) < (275 : Int32) then (fd_lt (fd_up S90 78 (((39 : Int32) + ((3 : Int32) * x1)) + (2 : Int32)) ((S90 78 (((39 : Int32) + ((3 : Int32) * x1)) + (2 : Int32))) + (1 : Int32))) fun S93 => (fd_lt ((x1 + (1 : Int32))) fun y94 => (zM_lookAtBest_2 fu n S93 y94))) else none) else none)) else none)) else none)) else none) else (if (0 : Int32) ≤ ((39 : Int32) + ((3 : Int32) * x1)) ∧ ((39 : Int32) + ((3 : Int32) * x1)) < (275 : Int32) then (fd_lt (fd_up S 78 ((39 : Int32) + ((3 : Int32) * x1)) o48) fun S77 => (if (0 : Int32) ≤ (((39 : Int32) + ((3 : Int32) * x1)) + (1 : Int32)) ∧ (((39 : Int32) + ((3 : Int32) * x1)) + (1 : Int32)) < (275 : Int32) then (fd_lt (fd_up S77 78 (((39 : Int32) + ((3 : Int32) * x1)) + (1 : Int32)) (-6 : Int32)) fun S79 => (if (0 : Int32) ≤ (((39 : Int32) + ((3 : Int32) * x1)) + (2 : Int32)) ∧ (((39 : Int32) + ((3 : Int32) * x1)) + (2 : Int32)) < (275 : Int32) then (if (0 : Int32) ≤ (((39 : Int32) + ((3 : Int32) * x1)) + (2 : Int32)) ∧ (((39 : Int32) + ((3 : Int32) * x1)) + (2 : Int32)) < (275 : Int32) then (fd_lt (fd_up S79 78 (((39 : Int32) + ((3 : Int32) * x1)) + (2 : Int32)) ((S79 78 (((39 : Int32) + ((3 : Int32) * x1)) + (2 : Int32))) + (1 : Int32))) fun S82 => (fd_lt ((x1 + (1 : Int32))) fun y83 => (zM_lookAtBest_2 fu n S82 y83))) else none) else none)) else none)) else none)) else none))))
def zM_lookAtBest (fu : Nat) (S : fd_S) : Option fd_S := (zM_lookAtBest_2 fu fu S (0 : Int32))
def zM_meet_172 (fu : Nat) (S : fd_S) (x2 : Int32) (x4 : Int32) : Option (Int32 × fd_S) := ((zM_write S (43 : Int32)).bind fun S24 => ((zM_writeNumber fu S24 x2).bind fun S26 => ((zM_write S26 (61 : Int32)).bind fun S28 => (if (0 : Int32) ≤ (zM_at x4 (1 : Int32)) ∧ (zM_at x4 (1 : Int32)) < (275 : Int32) then ((zM_writeNumber fu S28 (S28 78 (zM_at x4 (1 : Int32)))).bind fun S31 => (if (0 : Int32) ≤ (zM_at x4 (1 : Int32)) ∧ (zM_at x4 (1 : Int32)) < (275 : Int32) then ((zM_bounded S31 (4 : Int32)).bind fun r34 => (if (S31 78 (zM_at x4 (1 : Int32))) ≤ r34 then (some ((3 : Int32), S31)) else ((zM_isHeld S31 x4).bind fun r37 => (if r37 = (0 : Int32) then (if (0 : Int32) ≤ (zM_at x4 (3 : Int32)) ∧ (zM_at x4 (3 : Int32)) < (275 : Int32) then (fd_lt (fd_up S31 78 (zM_at x4 (3 : Int32)) (1 : Int32)) fun S41 => ((zM_dueAfter fu S41 x4 (S41 78 (63 : Int32))).bind fun r42 => (if (0 : Int32) ≤ (zM_at x4 (4 : Int32)) ∧ (zM_at x4 (4 : Int32)) < (275 : Int32) then (fd_lt (fd_up S41 78 (zM_at x4 (4 : Int32)) r42) fun S45 => ((zM_write S45 (33 : Int32)).bind fun S46 => (some ((4 : Int32), S46)))) else none))) else none) else (some ((3 : Int32), S31)))))) else none)) else none))))
def zM_meet_142 (fu : Nat) (S : fd_S) (x2 : Int32) (x3 : Int32) (x4 : Int32) (t1 : Int32) (t2 : Int32) : Option (Int32 × fd_S) := (if (0 : Int32) ≤ t1 ∧ t1 < (275 : Int32) then (fd_lt (fd_up S 78 t1 t2) fun S20 => (if (0 : Int32) ≤ (zM_at x4 (2 : Int32)) ∧ (zM_at x4 (2 : Int32)) < (275 : Int32) then (fd_lt (fd_up S20 78 (zM_at x4 (2 : Int32)) (S20 78 (63 : Int32))) fun S22 => (if x3 ≤ (0 : Int32) then (zM_meet_172 fu S22 x2 x4) else ((zM_addCause fu S22 x4 x3).bind fun S48 => (zM_meet_172 fu S48 x2 x4)))) else none)) else none)
def zM_meet_62 (fu : Nat) (S : fd_S) (x1 : Int32) (x2 : Int32) (x3 : Int32) : Option (Int32 × fd_S) := ((zM_makeRecord fu S x1).bind fun q9 => (fd_pr q9 fun r8 S6 => (if (0 : Int32) ≤ r8 then ((zM_penaltyAt fu S6 r8 (S6 78 (63 : Int32))).bind fun r11 => (fd_lt ((r11 + x2)) fun y13 => ((zM_bounded S6 (6 : Int32)).bind fun r14 => (if r14 ≤ y13 then ((zM_bounded S6 (6 : Int32)).bind fun r17 => (zM_meet_142 fu S6 x2 x3 r8 (zM_at r8 (1 : Int32)) r17)) else (zM_meet_142 fu S6 x2 x3 r8 (zM_at r8 (1 : Int32)) y13))))) else (fd_lt (fd_up S6 78 (67 : Int32) ((S6 78 (67 : Int32)) + (1 : Int32))) fun S50 => ((zM_write S50 (63 : Int32)).bind fun S51 => (some ((2 : Int32), S51)))))))
def zM_meet (fu : Nat) (S : fd_S) (x1 : Int32) (x2 : Int32) (x3 : Int32) : Option (Int32 × fd_S) := (fd_lt (fd_up S 78 (65 : Int32) ((S 78 (65 : Int32)) + (1 : Int32))) fun S1 => ((zM_recordOf fu S1 x1).bind fun r2 => (if x2 = (0 : Int32) then (some ((0 : Int32), S1)) else (if r2 < (0 : Int32) then (zM_meet_62 fu S1 x1 x2 x3) else (if x3 ≤ (0 : Int32) then (zM_meet_62 fu S1 x1 x2 x3) else ((zM_isCounted fu S1 r2 x3).bind fun r54 => (if r54 = (0 : Int32) then (zM_meet_62 fu S1 x1 x2 x3) else (fd_lt (fd_up S1 78 (66 : Int32) ((S1 78 (66 : Int32)) + (1 : Int32))) fun S57 => ((zM_write S57 (126 : Int32)).bind fun S58 => (some ((1 : Int32), S58)))))))))))
def zM_isRoute (x0 : Int32) (x1 : Int32) : Int32 := (if (zM_in x0 (0 : Int32) (3 : Int32)) = (0 : Int32) then (0 : Int32) else (if (zM_in x1 (0 : Int32) (7 : Int32)) = (0 : Int32) then (0 : Int32) else (1 : Int32)))
def zM_announce (fu : Nat) (S : fd_S) (x1 : Int32) (x2 : Int32) (x3 : Int32) (x4 : Int32) : Option (Int32 × fd_S) := (if (zM_isRoute x1 x2) = (0 : Int32) then (some ((-1 : Int32), S)) else (if (zM_in x3 (0 : Int32) (9 : Int32)) = (0 : Int32) then (some ((-2 : Int32), S)) else (if (zM_in x4 (0 : Int32) (99 : Int32)) = (0 : Int32) then (some ((-2 : Int32), S)) else (fd_lt ((((8 : Int32) * x1) + x2)) fun y4 => (if (0 : Int32) ≤ ((0 : Int32) + y4) ∧ ((0 : Int32) + y4) < (275 : Int32) then (fd_lt ((S 78 ((0 : Int32) + y4))) fun y6 => (if y6 = x3 then (some ((-5 : Int32), S)) else (if (0 : Int32) ≤ ((0 : Int32) + y4) ∧ ((0 : Int32) + y4) < (275 : Int32) then (fd_lt (fd_up S 78 ((0 : Int32) + y4) x3) fun S9 => ((zM_beginLine fu S9 (65 : Int32) y4).bind fun S10 => ((zM_write S10 (58 : Int32)).bind fun S12 => ((zM_write S12 ((48 : Int32) + x3)).bind fun S14 => (if (0 : Int32) ≤ y6 then ((zM_bounded S14 (3 : Int32)).bind fun r17 => ((zM_meet fu S14 y4 r17 x4).bind fun q22 => (fd_pr q22 fun r21 S19 => ((zM_lookAtBest fu S19).bind fun S23 => (some (r21, S23)))))) else ((zM_meet fu S14 y4 (0 : Int32) x4).bind fun q28 => (fd_pr q28 fun r27 S25 => ((zM_lookAtBest fu S25).bind fun S29 => (some (r27, S29)))))))))) else none))) else none)))))
def zM_withdraw (fu : Nat) (S : fd_S) (x1 : Int32) (x2 : Int32) (x3 : Int32) : Option (Int32 × fd_S) := (if (zM_isRoute x1 x2) = (0 : Int32) then (some ((-1 : Int32), S)) else (if (zM_in x3 (0 : Int32) (99 : Int32)) = (0 : Int32) then (some ((-2 : Int32), S)) else (fd_lt ((((8 : Int32) * x1) + x2)) fun y3 => (if (0 : Int32) ≤ ((0 : Int32) + y3) ∧ ((0 : Int32) + y3) < (275 : Int32) then (if (0 : Int32) ≤ (S 78 ((0 : Int32) + y3)) then (if (0 : Int32) ≤ ((0 : Int32) + y3) ∧ ((0 : Int32) + y3) < (275 : Int32) then (fd_lt (fd_up S 78 ((0 : Int32) + y3) (-6 : Int32)) fun S7 => ((zM_beginLine fu S7 (87 : Int32) y3).bind fun S8 => ((zM_bounded S8 (2 : Int32)).bind fun r10 => ((zM_meet fu S8 y3 r10 x3).bind fun q15 => (fd_pr q15 fun r14 S12 => ((zM_lookAtBest fu S12).bind fun S16 => (some (r14, S16)))))))) else none) else (some ((-5 : Int32), S))) else none))))
def zM_lookAtRecords_157 (fu : Nat) : Nat → fd_S → Int32 → Option fd_S
  | 0, _, _ => none
  | n + 1, S, x1 => (if x1 < (0 : Int32) then (some S) else ((zM_isHeld S x1).bind fun r4 => (if r4 = (0 : Int32) then ((zM_penaltyAt fu S x1 (S 78 (63 : Int32))).bind fun r8 => ((zM_bounded S (5 : Int32)).bind fun r10 => (if r10 ≤ ((2 : Int32) * r8) then (fd_lt ((x1 + (-1 : Int32))) fun y13 => (zM_lookAtRecords_157 fu n S y13)) else ((zM_remove fu S x1).bind fun S14 => (fd_lt ((x1 + (-1 : Int32))) fun y16 => (zM_lookAtRecords_157 fu n S14 y16)))))) else (fd_lt ((x1 + (-1 : Int32))) fun y7 => (zM_lookAtRecords_157 fu n S y7)))))
def zM_lookAtRecords_2 (fu : Nat) : Nat → fd_S → Int32 → Option fd_S
  | 0, _, _ => none
  | n + 1, S, x1 => (if (S 78 (64 : Int32)) ≤ x1 then (fd_lt (((S 78 (64 : Int32)) - (1 : Int32))) fun y2 => (zM_lookAtRecords_157 fu fu S y2)) else ((zM_isHeld S x1).bind fun r17 => (if r17 = (0 : Int32) then (fd_lt ((x1 + (1 : Int32))) fun y20 => (zM_lookAtRecords_2 fu n S y20)) else (if (0 : Int32) ≤ (zM_at x1 (4 : Int32)) ∧ (zM_at x1 (4 : Int32)) < (275 : Int32) then (if (S 78 (63 : Int32)) < (S 78 (zM_at x1 (4 : Int32))) then (fd_lt ((x1 + (1 : Int32))) fun y23 => (zM_lookAtRecords_2 fu n S y23)) else ((zM_penaltyAt fu S x1 (S 78 (63 : Int32))).bind fun r24 => ((zM_bounded S (5 : Int32)).bind fun r26 => (if r26 ≤ r24 then ((zM_dueAfter fu S x1 (S 78 (63 : Int32))).bind fun r29 => (if (0 : Int32) ≤ (zM_at x1 (4 : Int32)) ∧ (zM_at x1 (4 : Int32)) < (275 : Int32) then (fd_lt (fd_up S 78 (zM_at x1 (4 : Int32)) r29) fun S32 => (fd_lt ((x1 + (1 : Int32))) fun y33 => (zM_lookAtRecords_2 fu n S32 y33))) else none)) else (if (0 : Int32) ≤ (zM_at x1 (3 : Int32)) ∧ (zM_at x1 (3 : Int32)) < (275 : Int32) then (fd_lt (fd_up S 78 (zM_at x1 (3 : Int32)) (0 : Int32)) fun S35 => (fd_lt (fd_up S35 78 (69 : Int32) ((S35 78 (69 : Int32)) + (1 : Int32))) fun S36 => (if (0 : Int32) ≤ (zM_at x1 (0 : Int32)) ∧ (zM_at x1 (0 : Int32)) < (275 : Int32) then ((zM_beginLine fu S36 (82 : Int32) (S36 78 (zM_at x1 (0 : Int32)))).bind fun S38 => ((zM_write S38 (64 : Int32)).bind fun S40 => ((zM_writeNumber fu S40 (S40 78 (63 : Int32))).bind fun S42 => (fd_lt ((x1 + (1 : Int32))) fun y44 => (zM_lookAtRecords_2 fu n S42 y44))))) else none))) else none))))) else none))))
def zM_lookAtRecords (fu : Nat) (S : fd_S) : Option fd_S := (zM_lookAtRecords_2 fu fu S (0 : Int32))
def zM_heldOnes_4 (fu : Nat) : Nat → fd_S → Int32 → Int32 → Option Int32
  | 0, _, _, _ => none
  | n + 1, S, x1, x2 => (if (S 78 (64 : Int32)) ≤ x2 then (some x1) else ((zM_isHeld S x2).bind fun r2 => (if r2 = (0 : Int32) then (fd_lt ((x1 + (0 : Int32))) fun y5 => (fd_lt ((x2 + (1 : Int32))) fun y6 => (zM_heldOnes_4 fu n S y5 y6))) else (fd_lt ((x1 + (1 : Int32))) fun y7 => (fd_lt ((x2 + (1 : Int32))) fun y8 => (zM_heldOnes_4 fu n S y7 y8))))))
def zM_heldOnes (fu : Nat) (S : fd_S) : Option Int32 := (zM_heldOnes_4 fu fu S (0 : Int32) (0 : Int32))
def zM_pass_16 (fu : Nat) : Nat → fd_S → Int32 → Int32 → Option (Int32 × fd_S)
  | 0, _, _, _ => none
  | n + 1, S, x1, x2 => (if x1 ≤ x2 then ((zM_heldOnes fu S).bind fun r3 => (some (r3, S))) else (fd_lt (fd_up S 78 (63 : Int32) ((S 78 (63 : Int32)) + (1 : Int32))) fun S5 => ((zM_bounded S5 (1 : Int32)).bind fun r6 => (if ¬ r6 = (0 : Int32) then (if (fd_rem (S5 78 (63 : Int32)) r6) = (0 : Int32) then ((zM_lookAtRecords fu S5).bind fun S11 => ((zM_lookAtBest fu S11).bind fun S13 => (fd_lt ((x2 + (1 : Int32))) fun y15 => (zM_pass_16 fu n S13 x1 y15)))) else (fd_lt ((x2 + (1 : Int32))) fun y10 => (zM_pass_16 fu n S5 x1 y10))) else none))))
def zM_pass (fu : Nat) (S : fd_S) (x1 : Int32) : Option (Int32 × fd_S) := (if (zM_in x1 (1 : Int32) (200 : Int32)) = (0 : Int32) then (some ((-2 : Int32), S)) else (zM_pass_16 fu fu S x1 (0 : Int32)))
def zM_route (fu : Nat) (S : fd_S) (x1 : Int32) (x2 : Int32) (x3 : Int32) : Option Int32 := (if (zM_isRoute x1 x2) = (0 : Int32) then (some (-1 : Int32)) else (if (zM_in x3 (0 : Int32) (6 : Int32)) = (0 : Int32) then (some (-2 : Int32)) else ((zM_recordOf fu S (((8 : Int32) * x1) + x2)).bind fun r3 => (if x3 = (0 : Int32) then (if (0 : Int32) ≤ (((0 : Int32) + ((8 : Int32) * x1)) + x2) ∧ (((0 : Int32) + ((8 : Int32) * x1)) + x2) < (275 : Int32) then (some (S 78 (((0 : Int32) + ((8 : Int32) * x1)) + x2))) else none) else (if x3 = (1 : Int32) then (if (0 : Int32) ≤ r3 then ((zM_penaltyAt fu S r3 (S 78 (63 : Int32))).bind fun r9 => (some r9)) else (some (0 : Int32))) else (if x3 = (2 : Int32) then (if r3 < (0 : Int32) then (some (0 : Int32)) else ((zM_isHeld S r3).bind fun r13 => (if r13 = (0 : Int32) then (some (0 : Int32)) else (some (1 : Int32))))) else (if x3 = (3 : Int32) then (if r3 < (0 : Int32) then (some (-6 : Int32)) else ((zM_isHeld S r3).bind fun r18 => (if r18 = (0 : Int32) then (some (-6 : Int32)) else (if (0 : Int32) ≤ (zM_at r3 (4 : Int32)) ∧ (zM_at r3 (4 : Int32)) < (275 : Int32) then (some (S 78 (zM_at r3 (4 : Int32)))) else none)))) else (if x3 = (4 : Int32) then (if (0 : Int32) ≤ r3 then (if (0 : Int32) ≤ (zM_at r3 (1 : Int32)) ∧ (zM_at r3 (1 : Int32)) < (275 : Int32) then (some (S 78 (zM_at r3 (1 : Int32)))) else none) else (some (-6 : Int32))) else (if x3 = (5 : Int32) then (if (0 : Int32) ≤ r3 then (if (0 : Int32) ≤ (zM_at r3 (2 : Int32)) ∧ (zM_at r3 (2 : Int32)) < (275 : Int32) then (some (S 78 (zM_at r3 (2 : Int32)))) else none) else (some (-6 : Int32))) else (if (0 : Int32) ≤ r3 then (if (0 : Int32) ≤ (zM_at r3 (5 : Int32)) ∧ (zM_at r3 (5 : Int32)) < (275 : Int32) then (some (S 78 (zM_at r3 (5 : Int32)))) else none) else (some (0 : Int32))))))))))))
def zM_later (fu : Nat) (S : fd_S) (x1 : Int32) (x2 : Int32) (x3 : Int32) : Option Int32 := (if (zM_isRoute x1 x2) = (0 : Int32) then (some (-1 : Int32)) else (if (zM_in x3 (0 : Int32) (2000 : Int32)) = (0 : Int32) then (some (-2 : Int32)) else ((zM_recordOf fu S (((8 : Int32) * x1) + x2)).bind fun r3 => (if (0 : Int32) ≤ r3 then ((zM_penaltyAt fu S r3 ((S 78 (63 : Int32)) + x3)).bind fun r6 => (some r6)) else (some (0 : Int32))))))
def zM_when_59 (fu : Nat) : Nat → fd_S → Int32 → Int32 → Int32 → Option Int32
  | 0, _, _, _, _ => none
  | n + 1, S, x3, x4, x5 => (if ((S 78 (63 : Int32)) + (5000 : Int32)) < x5 then (some (-6 : Int32)) else ((zM_bounded S (1 : Int32)).bind fun r12 => (if ¬ r12 = (0 : Int32) then (if (fd_rem x5 r12) = (0 : Int32) then (if x5 < x4 then (fd_lt ((x5 + (1 : Int32))) fun y18 => (zM_when_59 fu n S x3 x4 y18)) else ((zM_penaltyAt fu S x3 x5).bind fun r19 => ((zM_bounded S (5 : Int32)).bind fun r21 => (if r21 ≤ r19 then ((zM_dueAfter fu S x3 x5).bind fun r24 => (fd_lt ((x5 + (1 : Int32))) fun y26 => (zM_when_59 fu n S x3 r24 y26))) else (some x5))))) else (fd_lt ((x5 + (1 : Int32))) fun y16 => (zM_when_59 fu n S x3 x4 y16))) else none)))
def zM_when (fu : Nat) (S : fd_S) (x1 : Int32) (x2 : Int32) : Option Int32 := (if (zM_isRoute x1 x2) = (0 : Int32) then (some (-1 : Int32)) else ((zM_recordOf fu S (((8 : Int32) * x1) + x2)).bind fun r2 => (if r2 < (0 : Int32) then (some (-6 : Int32)) else ((zM_isHeld S r2).bind fun r5 => (if r5 = (0 : Int32) then (some (-6 : Int32)) else (if (0 : Int32) ≤ (zM_at r2 (4 : Int32)) ∧ (zM_at r2 (4 : Int32)) < (275 : Int32) then (fd_lt ((S 78 (zM_at r2 (4 : Int32)))) fun y9 => (fd_lt (((S 78 (63 : Int32)) + (1 : Int32))) fun y10 => (zM_when_59 fu fu S r2 y9 y10))) else none))))))
def zM_longest_2 (fu : Nat) : Nat → fd_S → Int32 → Option Int32
  | 0, _, _ => none
  | n + 1, S, x1 => (if (5000 : Int32) < x1 then (some (-6 : Int32)) else ((zM_bounded S (6 : Int32)).bind fun r2 => ((zM_lessened fu S r2 x1).bind fun r4 => ((zM_bounded S (5 : Int32)).bind fun r6 => (if r6 ≤ r4 then (fd_lt ((x1 + (1 : Int32))) fun y9 => (zM_longest_2 fu n S y9)) else (some x1))))))
def zM_longest (fu : Nat) (S : fd_S) : Option Int32 := (zM_longest_2 fu fu S (0 : Int32))
def zM_best (S : fd_S) (x1 : Int32) (x2 : Int32) : Option Int32 := (if (zM_in x1 (0 : Int32) (7 : Int32)) = (0 : Int32) then (some (-1 : Int32)) else (if (zM_in x2 (0 : Int32) (2 : Int32)) = (0 : Int32) then (some (-2 : Int32)) else (if (0 : Int32) ≤ (((39 : Int32) + ((3 : Int32) * x1)) + x2) ∧ (((39 : Int32) + ((3 : Int32) * x1)) + x2) < (275 : Int32) then (some (S 78 (((39 : Int32) + ((3 : Int32) * x1)) + x2))) else none)))
def zM_record (S : fd_S) (x1 : Int32) : Option Int32 := (if (zM_in x1 (0 : Int32) ((S 78 (64 : Int32)) - (1 : Int32))) = (0 : Int32) then (some (-6 : Int32)) else (if (0 : Int32) ≤ (zM_at x1 (0 : Int32)) ∧ (zM_at x1 (0 : Int32)) < (275 : Int32) then (some (S 78 (zM_at x1 (0 : Int32)))) else none))
def zM_line_24 (fu : Nat) (S : fd_S) (x1 : Int32) (x2 : Int32) (t0 : Int32) : Option Int32 := (if (zM_in x1 (0 : Int32) (t0 - (1 : Int32))) = (0 : Int32) then (some (-6 : Int32)) else (if (0 : Int32) ≤ ((131 : Int32) + ((24 : Int32) * x1)) ∧ ((131 : Int32) + ((24 : Int32) * x1)) < (275 : Int32) then (if (zM_in x2 (-1 : Int32) ((S 78 ((131 : Int32) + ((24 : Int32) * x1))) - (1 : Int32))) = (0 : Int32) then (some (-6 : Int32)) else (if (0 : Int32) ≤ (zM_lineAt x1 x2) ∧ (zM_lineAt x1 x2) < (275 : Int32) then (some (S 78 (zM_lineAt x1 x2))) else none)) else none))
def zM_line (fu : Nat) (S : fd_S) (x1 : Int32) (x2 : Int32) : Option Int32 := (if (6 : Int32) ≤ (S 78 (70 : Int32)) then (zM_line_24 fu S x1 x2 (6 : Int32)) else (zM_line_24 fu S x1 x2 (S 78 (70 : Int32))))
def zM_count (fu : Nat) (S : fd_S) (x1 : Int32) : Option Int32 := (if x1 = (0 : Int32) then (some (S 78 (63 : Int32))) else (if x1 = (1 : Int32) then (some (S 78 (64 : Int32))) else (if x1 = (2 : Int32) then ((zM_heldOnes fu S).bind fun r4 => (some r4)) else (if x1 = (3 : Int32) then (some (S 78 (65 : Int32))) else (if x1 = (4 : Int32) then (some (S 78 (66 : Int32))) else (if x1 = (5 : Int32) then (some (S 78 (67 : Int32))) else (if x1 = (6 : Int32) then (some (S 78 (68 : Int32))) else (if x1 = (7 : Int32) then (some (S 78 (69 : Int32))) else (if x1 = (8 : Int32) then (some (S 78 (70 : Int32))) else (if x1 = (9 : Int32) then (if (S 80 (0 : Int32)) = (0 : Int32) then (if (S 80 (1 : Int32)) = (0 : Int32) then (some ((0 : Int32) + (0 : Int32))) else (some ((0 : Int32) + (2 : Int32)))) else (if (S 80 (1 : Int32)) = (0 : Int32) then (some ((1 : Int32) + (0 : Int32))) else (some ((1 : Int32) + (2 : Int32))))) else (some (-2 : Int32))))))))))))
def zM_image_14 (fu : Nat) : Nat → fd_S → Int32 → Int32 → Option (Int32 × fd_S)
  | 0, _, _, _ => none
  | n + 1, S, x1, x2 => (if (275 : Int32) ≤ x2 then (if (0 : Int32) ≤ x1 ∧ x1 < (2 : Int32) then (fd_lt (fd_up S 80 x1 (1 : Int32)) fun S4 => (some ((1 : Int32), S4))) else none) else (if (0 : Int32) ≤ x2 ∧ x2 < (275 : Int32) then (if (0 : Int32) ≤ (((275 : Int32) * x1) + x2) ∧ (((275 : Int32) * x1) + x2) < (550 : Int32) then (fd_lt (fd_up S 79 (((275 : Int32) * x1) + x2) (S 78 x2)) fun S7 => (fd_lt ((x2 + (1 : Int32))) fun y8 => (zM_image_14 fu n S7 x1 y8))) else none) else none))
def zM_image (fu : Nat) (S : fd_S) (x1 : Int32) : Option (Int32 × fd_S) := (if (zM_in x1 (0 : Int32) (1 : Int32)) = (0 : Int32) then (some ((-2 : Int32), S)) else (zM_image_14 fu fu S x1 (0 : Int32)))
def zM_restore_26 (fu : Nat) : Nat → fd_S → Int32 → Int32 → Option (Int32 × fd_S)
  | 0, _, _, _ => none
  | n + 1, S, x1, x2 => (if (275 : Int32) ≤ x2 then (some ((1 : Int32), S)) else (if (0 : Int32) ≤ (((275 : Int32) * x1) + x2) ∧ (((275 : Int32) * x1) + x2) < (550 : Int32) then (if (0 : Int32) ≤ x2 ∧ x2 < (275 : Int32) then (fd_lt (fd_up S 78 x2 (S 79 (((275 : Int32) * x1) + x2))) fun S7 => (fd_lt ((x2 + (1 : Int32))) fun y8 => (zM_restore_26 fu n S7 x1 y8))) else none) else none))
def zM_restore (fu : Nat) (S : fd_S) (x1 : Int32) : Option (Int32 × fd_S) := (if (zM_in x1 (0 : Int32) (1 : Int32)) = (0 : Int32) then (some ((-2 : Int32), S)) else (if (0 : Int32) ≤ x1 ∧ x1 < (2 : Int32) then (if (S 80 x1) = (0 : Int32) then (some ((-3 : Int32), S)) else (zM_restore_26 fu fu S x1 (0 : Int32))) else none))
end
section
def zF_isWithin (x0 : Int32) (x1 : Int32) (x2 : Int32) : Int32 := (if x0 < x1 then (0 : Int32) else (if x2 < x0 then (0 : Int32) else (1 : Int32)))
def zF_isRoute (x0 : Int32) (x1 : Int32) : Int32 := (if (zF_isWithin x0 (0 : Int32) (3 : Int32)) = (0 : Int32) then (0 : Int32) else (if (zF_isWithin x1 (0 : Int32) (7 : Int32)) = (0 : Int32) then (0 : Int32) else (1 : Int32)))
def zF_routeOf (x0 : Int32) (x1 : Int32) : Int32 := ((x0 * (8 : Int32)) + x1)
def zB_replace (S : fd_S) (x1 : Int32) (x2 : Int32) : Option (Int32 × fd_S) := (if (0 : Int32) ≤ x1 ∧ x1 < (7 : Int32) then (fd_lt ((S 2 x1)) fun y2 => (if (0 : Int32) ≤ x1 ∧ x1 < (7 : Int32) then (fd_lt (fd_up S 2 x1 x2) fun S4 => (some (y2, S4))) else none)) else none)
def zB_lessened (S : fd_S) (x1 : Int32) (x2 : Int32) : Option Int32 := (fd_lt ((S 2 (0 : Int32))) fun y1 => (if y1 < (1 : Int32) then (some x1) else (if (0 : Int32) ≤ x2 then (if ¬ y1 = (0 : Int32) then (fd_lt ((x2 / y1)) fun y5 => (if y5 ≤ (30 : Int32) then (fd_lt ((x1 >>> (y5 &&& (31 : Int32))).toInt64) fun y7 => (if ¬ y1 = (0 : Int32) then (if ¬ y1 = (0 : Int32) then (fd_lt ((((8 : Int32) * (fd_rem x2 y1)) / y1)) fun y10 => (if (0 : Int32) ≤ y10 ∧ y10 < (8 : Int32) then (some ((y7 * (fd_tl fd_row y10).toInt64) / (65536 : Int64)).toInt32) else none)) else none) else none)) else (some (0 : Int32)))) else none) else (some x1))))
def zB_copyFrom (S : fd_S) (u : Nat) (v : Nat) : Option fd_S := (fd_lt (fd_cp S (v + 2) (u + 2) (0 : Int32) (0 : Int32) (7 : Int32)) fun S1 => (some S1))
def zR_begin (S : fd_S) (k0 : Nat) (x1 : Int32) (x2 : Int32) : Option fd_S := (if fd_rk k0 then (fd_lt (fd_up S k0 (0 : Int32) x1) fun S2 => (fd_lt (fd_up S2 k0 (1 : Int32) (0 : Int32)) fun S3 => (fd_lt (fd_up S3 k0 (2 : Int32) x2) fun S4 => (fd_lt (fd_up S4 k0 (3 : Int32) (0 : Int32)) fun S5 => (fd_lt (fd_up S5 k0 (4 : Int32) (0 : Int32)) fun S6 => (fd_lt (fd_up S6 k0 (6 : Int32) (0 : Int32)) fun S7 => (some S7))))))) else none)
def zR_hasCause_2 (fu : Nat) : Nat → fd_S → Nat → Int32 → Int32 → Option Int32
  | 0, _, _, _, _ => none
  | n + 1, S, k0, x1, x2 => (if fd_rk k0 then (if (S k0 (6 : Int32)) ≤ x2 then (some (0 : Int32)) else (if (0 : Int32) ≤ x2 ∧ x2 < (4 : Int32) then (if (S (k0 + 6) x2) = x1 then (some (1 : Int32)) else (fd_lt ((x2 + (1 : Int32))) fun y5 => (zR_hasCause_2 fu n S k0 x1 y5))) else none)) else none)
def zR_hasCause (fu : Nat) (S : fd_S) (k0 : Nat) (x1 : Int32) : Option Int32 := (zR_hasCause_2 fu fu S k0 x1 (0 : Int32))
def zR_addCause (S : fd_S) (k0 : Nat) (x1 : Int32) : Option fd_S := (if fd_rk k0 then (if (4 : Int32) ≤ (S k0 (6 : Int32)) then (fd_lt (fd_cp S (k0 + 6) (k0 + 6) (1 : Int32) (0 : Int32) (3 : Int32)) fun S3 => (fd_lt (fd_up S3 (k0 + 6) (3 : Int32) x1) fun S4 => (some S4))) else (if (0 : Int32) ≤ (S k0 (6 : Int32)) ∧ (S k0 (6 : Int32)) < (4 : Int32) then (fd_lt (fd_up S (k0 + 6) (S k0 (6 : Int32)) x1) fun S6 => (fd_lt (fd_up S6 k0 (6 : Int32) ((S6 k0 (6 : Int32)) + (1 : Int32))) fun S7 => (some S7))) else none)) else none)
def zR_copyFrom (S : fd_S) (k0 : Nat) (k1 : Nat) : Option fd_S := (if fd_rk k1 then (if fd_rk k0 then (fd_lt (fd_up S k0 (0 : Int32) (S k1 (0 : Int32))) fun S3 => (fd_lt (fd_up S3 k0 (1 : Int32) (S3 k1 (1 : Int32))) fun S4 => (fd_lt (fd_up S4 k0 (2 : Int32) (S4 k1 (2 : Int32))) fun S5 => (if (S5 k1 (3 : Int32)) = (0 : Int32) ∨ (S5 k1 (3 : Int32)) = (1 : Int32) then (fd_lt (fd_up S5 k0 (3 : Int32) (S5 k1 (3 : Int32))) fun S7 => (fd_lt (fd_up S7 k0 (4 : Int32) (S7 k1 (4 : Int32))) fun S8 => (fd_lt (fd_cp S8 (k1 + 6) (k0 + 6) (0 : Int32) (0 : Int32) (4 : Int32)) fun S9 => (fd_lt (fd_up S9 k0 (6 : Int32) (S9 k1 (6 : Int32))) fun S10 => (some S10))))) else none)))) else none) else none)
def zQ_find_2 (fu : Nat) : Nat → fd_S → Int32 → Int32 → Option (Option Nat)
  | 0, _, _, _ => none
  | n + 1, S, x1, x2 => (if (S 3 (1 : Int32)) ≤ x2 then (some none) else (if (0 : Int32) ≤ x2 ∧ x2 < (6 : Int32) then (fd_lt (fd_rc 4 (S 4 x2)) fun k3 => (if fd_rk k3 then (if (S k3 (0 : Int32)) = x1 then (if (0 : Int32) ≤ x2 ∧ x2 < (6 : Int32) then (fd_lt (fd_rc 4 (S 4 x2)) fun k8 => (some (some k8))) else none) else (fd_lt ((x2 + (1 : Int32))) fun y6 => (zQ_find_2 fu n S x1 y6))) else none)) else none))
def zQ_find (fu : Nat) (S : fd_S) (x1 : Int32) : Option (Option Nat) := (zQ_find_2 fu fu S x1 (0 : Int32))
def zQ_drop_24 (fu : Nat) : Nat → fd_S → Nat → Int32 → Option fd_S
  | 0, _, _, _ => none
  | n + 1, S, k2, x3 => (if ((S 3 (1 : Int32)) - (1 : Int32)) ≤ x3 then (fd_lt (fd_up S 3 (1 : Int32) ((S 3 (1 : Int32)) - (1 : Int32))) fun S5 => (if (0 : Int32) ≤ (S5 3 (1 : Int32)) ∧ (S5 3 (1 : Int32)) < (6 : Int32) then (if 8 ≤ k2 ∧ k2 < 14 then (fd_lt (fd_up S5 4 (S5 3 (1 : Int32)) (nI (k2 - 8))) fun S8 => (fd_lt (fd_up S8 3 (2 : Int32) ((S8 3 (2 : Int32)) + (1 : Int32))) fun S9 => (some S9))) else none) else none)) else (if (0 : Int32) ≤ (x3 + (1 : Int32)) ∧ (x3 + (1 : Int32)) < (6 : Int32) then (fd_lt (fd_rc 4 (S 4 (x3 + (1 : Int32)))) fun k11 => (if (0 : Int32) ≤ x3 ∧ x3 < (6 : Int32) then (if 8 ≤ k11 ∧ k11 < 14 then (fd_lt (fd_up S 4 x3 (nI (k11 - 8))) fun S14 => (fd_lt ((x3 + (1 : Int32))) fun y15 => (zQ_drop_24 fu n S14 k2 y15))) else none) else none)) else none))
def zQ_drop (fu : Nat) (S : fd_S) (x1 : Int32) : Option fd_S := (if (zF_isWithin x1 (0 : Int32) ((S 3 (1 : Int32)) - (1 : Int32))) = (0 : Int32) then (some S) else (if (0 : Int32) ≤ x1 ∧ x1 < (6 : Int32) then (fd_lt (fd_rc 4 (S 4 x1)) fun k3 => (zQ_drop_24 fu fu S k3 x1)) else none))
def zQ_dropFirstFree_2 (fu : Nat) : Nat → fd_S → Int32 → Option (Int32 × fd_S)
  | 0, _, _ => none
  | n + 1, S, x1 => (if (S 3 (1 : Int32)) ≤ x1 then (some ((0 : Int32), S)) else (if (0 : Int32) ≤ x1 ∧ x1 < (6 : Int32) then (fd_lt (fd_rc 4 (S 4 x1)) fun k3 => (if fd_rk k3 then (if (S k3 (3 : Int32)) = (0 : Int32) then ((zQ_drop fu S x1).bind fun S7 => (some ((1 : Int32), S7))) else (fd_lt ((x1 + (1 : Int32))) fun y6 => (zQ_dropFirstFree_2 fu n S y6))) else none)) else none))
def zQ_dropFirstFree (fu : Nat) (S : fd_S) : Option (Int32 × fd_S) := (zQ_dropFirstFree_2 fu fu S (0 : Int32))
def zQ_make_18 (fu : Nat) (S : fd_S) (x1 : Int32) (x2 : Int32) : Option ((Option Nat) × fd_S) := (if (0 : Int32) ≤ (S 3 (1 : Int32)) ∧ (S 3 (1 : Int32)) < (6 : Int32) then (fd_lt (fd_rc 4 (S 4 (S 3 (1 : Int32)))) fun k3 => (fd_lt (fd_up S 3 (1 : Int32) ((S 3 (1 : Int32)) + (1 : Int32))) fun S4 => (if fd_rk k3 then ((zR_begin S4 k3 x1 x2).bind fun S6 => (some ((some k3), S6))) else none))) else none)
def zQ_make (fu : Nat) (S : fd_S) (x1 : Int32) (x2 : Int32) : Option ((Option Nat) × fd_S) := (if (S 3 (1 : Int32)) < (6 : Int32) then (zQ_make_18 fu S x1 x2) else ((zQ_dropFirstFree fu S).bind fun q11 => (fd_pr q11 fun r10 S8 => (if r10 = (0 : Int32) then (some (none, S8)) else (zQ_make_18 fu S8 x1 x2)))))
def zQ_heldOnes_4 (fu : Nat) : Nat → fd_S → Int32 → Int32 → Option Int32
  | 0, _, _, _ => none
  | n + 1, S, x1, x2 => (if (S 3 (1 : Int32)) ≤ x2 then (some x1) else (if (0 : Int32) ≤ x2 ∧ x2 < (6 : Int32) then (fd_lt (fd_rc 4 (S 4 x2)) fun k3 => (if fd_rk k3 then (if (S k3 (3 : Int32)) = (0 : Int32) then (fd_lt ((x2 + (1 : Int32))) fun y6 => (zQ_heldOnes_4 fu n S x1 y6)) else (fd_lt ((x1 + (1 : Int32))) fun y7 => (fd_lt ((x2 + (1 : Int32))) fun y8 => (zQ_heldOnes_4 fu n S y7 y8)))) else none)) else none))
def zQ_heldOnes (fu : Nat) (S : fd_S) : Option Int32 := (zQ_heldOnes_4 fu fu S (0 : Int32) (0 : Int32))
def zQ_copyFrom_2 (u : Nat) (v : Nat) (fu : Nat) : Nat → fd_S → Int32 → Option fd_S
  | 0, _, _ => none
  | n + 1, S, x2 => (if (6 : Int32) ≤ x2 then (fd_lt (fd_up S (u + 3) (1 : Int32) (S (v + 3) (1 : Int32))) fun S2 => (fd_lt (fd_up S2 (u + 3) (2 : Int32) (S2 (v + 3) (2 : Int32))) fun S3 => (some S3))) else (if (0 : Int32) ≤ x2 ∧ x2 < (6 : Int32) then (fd_lt (fd_rc (u + 4) (S (u + 4) x2)) fun k5 => (if (0 : Int32) ≤ x2 ∧ x2 < (6 : Int32) then (fd_lt (fd_rc (v + 4) (S (v + 4) x2)) fun k7 => (if fd_rk k5 then ((zR_copyFrom S k5 k7).bind fun S9 => (fd_lt ((x2 + (1 : Int32))) fun y11 => (zQ_copyFrom_2 u v fu n S9 y11))) else none)) else none)) else none))
def zQ_copyFrom (fu : Nat) (S : fd_S) (u : Nat) (v : Nat) : Option fd_S := (zQ_copyFrom_2 u v fu fu S (0 : Int32))
def zL_put (S : fd_S) (x1 : Int32) : Option fd_S := (if (0 : Int32) ≤ (S 5 (2 : Int32)) ∧ (S 5 (2 : Int32)) < (6 : Int32) then (fd_lt ((S 7 (S 5 (2 : Int32)))) fun y2 => (if (20 : Int32) ≤ y2 then (some S) else (if (0 : Int32) ≤ (((S 5 (2 : Int32)) * (20 : Int32)) + y2) ∧ (((S 5 (2 : Int32)) * (20 : Int32)) + y2) < (120 : Int32) then (fd_lt (fd_up S 6 (((S 5 (2 : Int32)) * (20 : Int32)) + y2) x1) fun S5 => (if (0 : Int32) ≤ (S5 5 (2 : Int32)) ∧ (S5 5 (2 : Int32)) < (6 : Int32) then (fd_lt (fd_up S5 7 (S5 5 (2 : Int32)) (y2 + (1 : Int32))) fun S7 => (some S7)) else none)) else none))) else none)
def zL_putNumber_29 (fu : Nat) : Nat → fd_S → Int32 → Int32 → Option fd_S
  | 0, _, _, _ => none
  | n + 1, S, x1, x2 => (if x2 ≤ (0 : Int32) then (some S) else (if ¬ x2 = (0 : Int32) then ((zL_put S ((48 : Int32) + (fd_rem (x1 / x2) (10 : Int32)))).bind fun S4 => (fd_lt ((x2 / (10 : Int32))) fun y6 => (zL_putNumber_29 fu n S4 x1 y6))) else none))
def zL_putNumber_4 (fu : Nat) : Nat → fd_S → Int32 → Int32 → Int32 → Option fd_S
  | 0, _, _, _, _ => none
  | n + 1, S, x1, x2, x3 => (if (9 : Int32) ≤ x3 then (zL_putNumber_29 fu fu S x1 x2) else (if ¬ x2 = (0 : Int32) then (if (x1 / x2) < (10 : Int32) then (zL_putNumber_29 fu fu S x1 x2) else (fd_lt ((x2 * (10 : Int32))) fun y9 => (fd_lt ((x3 + (1 : Int32))) fun y10 => (zL_putNumber_4 fu n S x1 y9 y10)))) else none))
def zL_putNumber (fu : Nat) (S : fd_S) (x1 : Int32) : Option fd_S := (zL_putNumber_4 fu fu S x1 (1 : Int32) (0 : Int32))
def zL_begin (fu : Nat) (S : fd_S) (x1 : Int32) (x2 : Int32) : Option fd_S := (fd_lt (fd_up S 5 (2 : Int32) (fd_rem ((S 5 (2 : Int32)) + (1 : Int32)) (6 : Int32))) fun S1 => (if (0 : Int32) ≤ (S1 5 (2 : Int32)) ∧ (S1 5 (2 : Int32)) < (6 : Int32) then (fd_lt (fd_up S1 7 (S1 5 (2 : Int32)) (0 : Int32)) fun S3 => (fd_lt (fd_up S3 5 (3 : Int32) ((S3 5 (3 : Int32)) + (1 : Int32))) fun S4 => ((zL_put S4 x1).bind fun S5 => ((zL_putNumber fu S5 (x2 / (8 : Int32))).bind fun S7 => ((zL_putNumber fu S7 (fd_rem x2 (8 : Int32))).bind fun S9 => (some S9)))))) else none))
def zL_tell (S : fd_S) (x1 : Int32) (x2 : Int32) : Option Int32 := (if (zF_isWithin x1 (0 : Int32) ((fd_min (S 5 (3 : Int32)) (6 : Int32)) - (1 : Int32))) = (0 : Int32) then (some (-6 : Int32)) else (fd_lt ((fd_rem (((S 5 (2 : Int32)) - x1) + (6 : Int32)) (6 : Int32))) fun y2 => (if x2 = (-1 : Int32) then (if (0 : Int32) ≤ y2 ∧ y2 < (6 : Int32) then (some (S 7 y2)) else none) else (if (0 : Int32) ≤ y2 ∧ y2 < (6 : Int32) then (if (zF_isWithin x2 (0 : Int32) ((S 7 y2) - (1 : Int32))) = (0 : Int32) then (some (-6 : Int32)) else (if (0 : Int32) ≤ ((y2 * (20 : Int32)) + x2) ∧ ((y2 * (20 : Int32)) + x2) < (120 : Int32) then (some (S 6 ((y2 * (20 : Int32)) + x2))) else none)) else none))))
def zL_copyFrom (S : fd_S) (u : Nat) (v : Nat) : Option fd_S := (fd_lt (fd_cp S (v + 6) (u + 6) (0 : Int32) (0 : Int32) (120 : Int32)) fun S1 => (fd_lt (fd_cp S1 (v + 7) (u + 7) (0 : Int32) (0 : Int32) (6 : Int32)) fun S2 => (fd_lt (fd_up S2 (u + 5) (2 : Int32) (S2 (v + 5) (2 : Int32))) fun S3 => (fd_lt (fd_up S3 (u + 5) (3 : Int32) (S3 (v + 5) (3 : Int32))) fun S4 => (some S4)))))
def zS_weigh (S : fd_S) (x1 : Int32) (x2 : Int32) : Int32 := (if x2 = (-6 : Int32) then (S 2 (2 : Int32)) else (if x1 = (-6 : Int32) then (0 : Int32) else (S 2 (3 : Int32))))
def zS_penaltyAt (S : fd_S) (o1 : (Option Nat)) (x2 : Int32) : Option Int32 := (fd_on o1 (some (0 : Int32)) (fun k1 => (if fd_rk k1 then ((zB_lessened S (S k1 (1 : Int32)) (x2 - (S k1 (2 : Int32)))).bind fun r2 => (some r2)) else none)))
def zS_isBelowBack (S : fd_S) (k1 : Nat) (x2 : Int32) : Option Int32 := (if fd_rk k1 then ((zB_lessened S (S k1 (1 : Int32)) (x2 - (S k1 (2 : Int32)))).bind fun r2 => (if (S 2 (5 : Int32)) ≤ r2 then (some (0 : Int32)) else (some (1 : Int32)))) else none)
def zS_dueAfter_24 (fu : Nat) : Nat → fd_S → Nat → Int32 → Int32 → Int32 → Option Int32
  | 0, _, _, _, _, _ => none
  | n + 1, S, k1, x3, x4, x5 => (if (8 : Int32) ≤ x5 then (some x4) else (fd_lt ((x4 + x3)) fun y5 => ((zS_isBelowBack S k1 y5).bind fun r6 => (if r6 = (0 : Int32) then (fd_lt ((x5 + (1 : Int32))) fun y9 => (zS_dueAfter_24 fu n S k1 x3 y5 y9)) else (some y5)))))
def zS_dueAfter (fu : Nat) (S : fd_S) (k1 : Nat) (x2 : Int32) : Option Int32 := (fd_lt ((fd_max (S 2 (1 : Int32)) (1 : Int32))) fun y1 => (if ¬ y1 = (0 : Int32) then (fd_lt ((x2 - (fd_rem x2 y1))) fun y3 => (zS_dueAfter_24 fu fu S k1 y1 y3 (0 : Int32))) else none))
def zS_addTo_45 (fu : Nat) (S : fd_S) (k1 : Nat) : Option (Int32 × fd_S) := (if fd_rk k1 then (if (S k1 (3 : Int32)) = (0 : Int32) then (if (S 2 (4 : Int32)) < (S k1 (1 : Int32)) then (fd_lt (fd_up S k1 (3 : Int32) (1 : Int32)) fun S10 => ((zS_dueAfter fu S10 k1 (S10 0 (6 : Int32))).bind fun r11 => (fd_lt (fd_up S10 k1 (4 : Int32) r11) fun S13 => (some ((4 : Int32), S13))))) else (some ((3 : Int32), S))) else (some ((3 : Int32), S))) else none)
def zS_addTo (fu : Nat) (S : fd_S) (k1 : Nat) (x2 : Int32) (x3 : Int32) : Option (Int32 × fd_S) := ((zS_penaltyAt S (some k1) (S 0 (6 : Int32))).bind fun r1 => (if fd_rk k1 then (fd_lt (fd_up S k1 (1 : Int32) (fd_min (r1 + x2) (S 2 (6 : Int32)))) fun S4 => (fd_lt (fd_up S4 k1 (2 : Int32) (S4 0 (6 : Int32))) fun S5 => (if x3 = (0 : Int32) then (zS_addTo_45 fu S5 k1) else ((zR_addCause S5 k1 x3).bind fun S14 => (zS_addTo_45 fu S14 k1))))) else none))
def zS_judge (fu : Nat) (S : fd_S) (x1 : Int32) (x2 : Int32) (x3 : Int32) : Option (Int32 × fd_S) := (if x2 = (0 : Int32) then (some ((0 : Int32), S)) else ((zQ_find fu S x1).bind fun r2 => (fd_on r2 (((zQ_make fu S x1 (S 0 (6 : Int32))).bind fun q8 => (fd_pr q8 fun r7 S5 => (fd_on r7 ((fd_lt (fd_up S5 0 (9 : Int32) ((S5 0 (9 : Int32)) + (1 : Int32))) fun S10 => (some ((2 : Int32), S10)))) (fun k9 => ((zS_addTo fu S5 k9 x2 x3).bind fun q14 => (fd_pr q14 fun r13 S11 => (some (r13, S11))))))))) (fun k4 => (if x3 = (0 : Int32) then ((zS_addTo fu S k4 x2 x3).bind fun q19 => (fd_pr q19 fun r18 S16 => (some (r18, S16)))) else (if fd_rk k4 then ((zR_hasCause fu S k4 x3).bind fun r21 => (if r21 = (0 : Int32) then ((zS_addTo fu S k4 x2 x3).bind fun q27 => (fd_pr q27 fun r26 S24 => (some (r26, S24)))) else (fd_lt (fd_up S 0 (8 : Int32) ((S 0 (8 : Int32)) + (1 : Int32))) fun S28 => (some ((1 : Int32), S28))))) else none))))))
def zS_writeEvent_108 (fu : Nat) (S : fd_S) (x2 : Int32) (x3 : Int32) (k5 : Nat) : Option fd_S := ((zL_put S (43 : Int32)).bind fun S16 => ((zL_putNumber fu S16 x2).bind fun S18 => ((zL_put S18 (61 : Int32)).bind fun S20 => (if fd_rk k5 then ((zL_putNumber fu S20 (S20 k5 (1 : Int32))).bind fun S23 => (if x3 = (4 : Int32) then ((zL_put S23 (33 : Int32)).bind fun S26 => (some S26)) else (some S23))) else none))))
def zS_writeEvent_83 (fu : Nat) (S : fd_S) (x1 : Int32) (x2 : Int32) (x3 : Int32) : Option fd_S := ((zQ_find fu S x1).bind fun r9 => (fd_on r9 ((if x3 = (4 : Int32) then ((zL_put S (33 : Int32)).bind fun S13 => (some S13)) else (some S))) (fun k11 => (if x3 = (3 : Int32) then (zS_writeEvent_108 fu S x2 x3 k11) else (if x3 = (4 : Int32) then (zS_writeEvent_108 fu S x2 x3 k11) else (if x3 = (4 : Int32) then ((zL_put S (33 : Int32)).bind fun S30 => (some S30)) else (some S)))))))
def zS_writeEvent_26 (fu : Nat) (S : fd_S) (x1 : Int32) (x2 : Int32) (x3 : Int32) (x4 : Int32) (t1 : Int32) : Option fd_S := ((zL_begin fu S t1 x1).bind fun S4 => (if x4 = (-6 : Int32) then (if x3 = (1 : Int32) then ((zL_put S4 (126 : Int32)).bind fun S34 => (if x3 = (2 : Int32) then ((zL_put S34 (63 : Int32)).bind fun S37 => (zS_writeEvent_83 fu S37 x1 x2 x3)) else (zS_writeEvent_83 fu S34 x1 x2 x3))) else (if x3 = (2 : Int32) then ((zL_put S4 (63 : Int32)).bind fun S32 => (zS_writeEvent_83 fu S32 x1 x2 x3)) else (zS_writeEvent_83 fu S4 x1 x2 x3))) else ((zL_put S4 (58 : Int32)).bind fun S39 => ((zL_putNumber fu S39 x4).bind fun S41 => (if x3 = (1 : Int32) then ((zL_put S41 (126 : Int32)).bind fun S47 => (if x3 = (2 : Int32) then ((zL_put S47 (63 : Int32)).bind fun S50 => (zS_writeEvent_83 fu S50 x1 x2 x3)) else (zS_writeEvent_83 fu S47 x1 x2 x3))) else (if x3 = (2 : Int32) then ((zL_put S41 (63 : Int32)).bind fun S45 => (zS_writeEvent_83 fu S45 x1 x2 x3)) else (zS_writeEvent_83 fu S41 x1 x2 x3)))))))
def zS_writeEvent (fu : Nat) (S : fd_S) (x1 : Int32) (x2 : Int32) (x3 : Int32) : Option fd_S := (if (0 : Int32) ≤ x1 ∧ x1 < (32 : Int32) then (fd_lt ((S 20 x1)) fun y2 => (if y2 = (-6 : Int32) then (zS_writeEvent_26 fu S x1 x2 x3 y2 (87 : Int32)) else (zS_writeEvent_26 fu S x1 x2 x3 y2 (65 : Int32)))) else none)
def zS_isHeld (S : fd_S) (o0 : (Option Nat)) : Option Int32 := (fd_on o0 (some (0 : Int32)) (fun k0 => (if fd_rk k0 then (if (S k0 (3 : Int32)) = (0 : Int32) then (some (0 : Int32)) else (some (1 : Int32))) else none)))
def zS_findBest_5 (fu : Nat) : Nat → fd_S → Int32 → Int32 → Int32 → Option Int32
  | 0, _, _, _, _ => none
  | n + 1, S, x1, x2, x3 => (if (4 : Int32) ≤ x3 then (some x2) else (fd_lt ((zF_routeOf x3 x1)) fun y2 => (if (0 : Int32) ≤ y2 ∧ y2 < (32 : Int32) then (fd_lt ((S 20 y2)) fun y4 => (fd_lt (((y4 * (4 : Int32)) + x3)) fun y5 => (if y4 = (-6 : Int32) then (fd_lt ((x3 + (1 : Int32))) fun y7 => (zS_findBest_5 fu n S x1 x2 y7)) else (if x2 = (-6 : Int32) then ((zQ_find fu S y2).bind fun r9 => ((zS_isHeld S r9).bind fun r11 => (if r11 = (0 : Int32) then (fd_lt ((x3 + (1 : Int32))) fun y15 => (zS_findBest_5 fu n S x1 y5 y15)) else (fd_lt ((x3 + (1 : Int32))) fun y14 => (zS_findBest_5 fu n S x1 x2 y14))))) else (if x2 ≤ y5 then (fd_lt ((x3 + (1 : Int32))) fun y17 => (zS_findBest_5 fu n S x1 x2 y17)) else ((zQ_find fu S y2).bind fun r18 => ((zS_isHeld S r18).bind fun r20 => (if r20 = (0 : Int32) then (fd_lt ((x3 + (1 : Int32))) fun y24 => (zS_findBest_5 fu n S x1 y5 y24)) else (fd_lt ((x3 + (1 : Int32))) fun y23 => (zS_findBest_5 fu n S x1 x2 y23)))))))))) else none)))
def zS_findBest (fu : Nat) (S : fd_S) (x1 : Int32) : Option Int32 := (zS_findBest_5 fu fu S x1 (-6 : Int32) (0 : Int32))
def zS_refreshBest (fu : Nat) (S : fd_S) (x1 : Int32) : Option fd_S := ((zS_findBest fu S x1).bind fun r1 => (if (0 : Int32) ≤ x1 ∧ x1 < (8 : Int32) then (if r1 = (S 21 x1) then (some S) else (if (0 : Int32) ≤ x1 ∧ x1 < (8 : Int32) then (fd_lt (fd_up S 21 x1 r1) fun S6 => (if (0 : Int32) ≤ x1 ∧ x1 < (8 : Int32) then (if (0 : Int32) ≤ x1 ∧ x1 < (8 : Int32) then (fd_lt (fd_up S6 22 x1 ((S6 22 x1) + (1 : Int32))) fun S9 => (some S9)) else none) else none)) else none)) else none))
def zS_happen (fu : Nat) (S : fd_S) (x1 : Int32) (x2 : Int32) (x3 : Int32) : Option (Int32 × fd_S) := (if (0 : Int32) ≤ x1 ∧ x1 < (32 : Int32) then (fd_lt ((zS_weigh S (S 20 x1) x2)) fun y2 => (if (0 : Int32) ≤ x1 ∧ x1 < (32 : Int32) then (fd_lt (fd_up S 20 x1 x2) fun S4 => (fd_lt (fd_up S4 0 (7 : Int32) ((S4 0 (7 : Int32)) + (1 : Int32))) fun S5 => ((zS_judge fu S5 x1 y2 x3).bind fun q9 => (fd_pr q9 fun r8 S6 => ((zS_writeEvent fu S6 x1 y2 r8).bind fun S10 => ((zS_refreshBest fu S10 (fd_rem x1 (8 : Int32))).bind fun S12 => (some (r8, S12)))))))) else none)) else none)
def zS_isLookedAt (S : fd_S) (x1 : Int32) : Option Int32 := (if ¬ (fd_max (S 2 (1 : Int32)) (1 : Int32)) = (0 : Int32) then (if (fd_rem x1 (fd_max (S 2 (1 : Int32)) (1 : Int32))) = (0 : Int32) then (some (1 : Int32)) else (some (0 : Int32))) else none)
def zS_lookAt (fu : Nat) (S : fd_S) (k1 : Nat) : Option fd_S := (if fd_rk k1 then (if (S k1 (3 : Int32)) = (0 : Int32) then (some S) else (if (S k1 (4 : Int32)) ≤ (S 0 (6 : Int32)) then ((zS_isBelowBack S k1 (S 0 (6 : Int32))).bind fun r4 => (if r4 = (0 : Int32) then ((zS_dueAfter fu S k1 (S 0 (6 : Int32))).bind fun r15 => (fd_lt (fd_up S k1 (4 : Int32) r15) fun S17 => (some S17))) else (fd_lt (fd_up S k1 (3 : Int32) (0 : Int32)) fun S7 => (fd_lt (fd_up S7 0 (10 : Int32) ((S7 0 (10 : Int32)) + (1 : Int32))) fun S8 => ((zL_begin fu S8 (82 : Int32) (S8 k1 (0 : Int32))).bind fun S9 => ((zL_put S9 (64 : Int32)).bind fun S11 => ((zL_putNumber fu S11 (S11 0 (6 : Int32))).bind fun S13 => (some S13)))))))) else (some S))) else none)
def zS_dropSmallOnes_10 (fu : Nat) : Nat → fd_S → Int32 → Option fd_S
  | 0, _, _ => none
  | n + 1, S, x1 => (if x1 < (0 : Int32) then (some S) else (if (0 : Int32) ≤ x1 ∧ x1 < (6 : Int32) then (fd_lt (fd_rc 4 (S 4 x1)) fun k4 => (if fd_rk k4 then (if (S k4 (3 : Int32)) = (0 : Int32) then ((zS_penaltyAt S (some k4) (S 0 (6 : Int32))).bind fun r8 => (if (S 2 (5 : Int32)) ≤ ((2 : Int32) * r8) then (fd_lt ((x1 + (-1 : Int32))) fun y11 => (zS_dropSmallOnes_10 fu n S y11)) else ((zQ_drop fu S x1).bind fun S12 => (fd_lt ((x1 + (-1 : Int32))) fun y14 => (zS_dropSmallOnes_10 fu n S12 y14))))) else (fd_lt ((x1 + (-1 : Int32))) fun y7 => (zS_dropSmallOnes_10 fu n S y7))) else none)) else none))
def zS_dropSmallOnes (fu : Nat) (S : fd_S) : Option fd_S := (fd_lt (((S 3 (1 : Int32)) - (1 : Int32))) fun y1 => (zS_dropSmallOnes_10 fu fu S y1))
def zS_nextTick_73 (fu : Nat) : Nat → fd_S → Int32 → Option fd_S
  | 0, _, _ => none
  | n + 1, S, x2 => (if (8 : Int32) ≤ x2 then (some S) else ((zS_refreshBest fu S x2).bind fun S11 => (fd_lt ((x2 + (1 : Int32))) fun y13 => (zS_nextTick_73 fu n S11 y13))))
def zS_nextTick_29 (fu : Nat) : Nat → fd_S → Int32 → Int32 → Option fd_S
  | 0, _, _, _ => none
  | n + 1, S, x1, x2 => (if (S 3 (1 : Int32)) ≤ x2 then ((zS_dropSmallOnes fu S).bind fun S7 => (if (S7 0 (10 : Int32)) = x1 then (some S7) else (zS_nextTick_73 fu fu S7 (0 : Int32)))) else (if (0 : Int32) ≤ x2 ∧ x2 < (6 : Int32) then (fd_lt (fd_rc 4 (S 4 x2)) fun k15 => ((zS_lookAt fu S k15).bind fun S16 => (fd_lt ((x2 + (1 : Int32))) fun y18 => (zS_nextTick_29 fu n S16 x1 y18)))) else none))
def zS_nextTick (fu : Nat) (S : fd_S) : Option fd_S := (fd_lt (fd_up S 0 (6 : Int32) ((S 0 (6 : Int32)) + (1 : Int32))) fun S1 => ((zS_isLookedAt S1 (S1 0 (6 : Int32))).bind fun r2 => (if r2 = (0 : Int32) then (some S1) else (fd_lt ((S1 0 (10 : Int32))) fun y5 => (zS_nextTick_29 fu fu S1 y5 (0 : Int32))))))
def zS_letGoAt_21 (fu : Nat) : Nat → fd_S → Nat → Int32 → Int32 → Option Int32
  | 0, _, _, _, _ => none
  | n + 1, S, k1, x2, x3 => (if (5000 : Int32) < x3 then (some (-6 : Int32)) else (fd_lt (((S 0 (6 : Int32)) + x3)) fun y5 => (if y5 < x2 then (fd_lt ((x3 + (1 : Int32))) fun y7 => (zS_letGoAt_21 fu n S k1 x2 y7)) else ((zS_isLookedAt S y5).bind fun r8 => (if r8 = (0 : Int32) then (fd_lt ((x3 + (1 : Int32))) fun y11 => (zS_letGoAt_21 fu n S k1 x2 y11)) else ((zS_isBelowBack S k1 y5).bind fun r12 => (if r12 = (0 : Int32) then ((zS_dueAfter fu S k1 y5).bind fun r15 => (fd_lt ((x3 + (1 : Int32))) fun y17 => (zS_letGoAt_21 fu n S k1 r15 y17))) else (some y5))))))))
def zS_letGoAt (fu : Nat) (S : fd_S) (o1 : (Option Nat)) : Option Int32 := (fd_on o1 (some (-6 : Int32)) (fun k1 => (if fd_rk k1 then (if (S k1 (3 : Int32)) = (0 : Int32) then (some (-6 : Int32)) else (fd_lt ((S k1 (4 : Int32))) fun y3 => (zS_letGoAt_21 fu fu S k1 y3 (1 : Int32)))) else none)))
def zS_tellRecord (S : fd_S) (o1 : (Option Nat)) (x2 : Int32) : Option Int32 := (fd_on o1 (if x2 = (1 : Int32) then ((zS_penaltyAt S none (S 0 (6 : Int32))).bind fun r2 => (some r2)) else (if x2 = (2 : Int32) then ((zS_isHeld S none).bind fun r5 => (if r5 = (0 : Int32) then (some (0 : Int32)) else (some (1 : Int32)))) else (if x2 = (3 : Int32) then ((zS_isHeld S none).bind fun r9 => (if r9 = (0 : Int32) then (some (-6 : Int32)) else none)) else (if x2 = (4 : Int32) then (some (-6 : Int32)) else (if x2 = (5 : Int32) then (some (-6 : Int32)) else (some (0 : Int32))))))) (fun k1 => (if x2 = (1 : Int32) then ((zS_penaltyAt S (some k1) (S 0 (6 : Int32))).bind fun r15 => (some r15)) else (if x2 = (2 : Int32) then ((zS_isHeld S (some k1)).bind fun r18 => (if r18 = (0 : Int32) then (some (0 : Int32)) else (some (1 : Int32)))) else (if x2 = (3 : Int32) then ((zS_isHeld S (some k1)).bind fun r22 => (if r22 = (0 : Int32) then (some (-6 : Int32)) else (if fd_rk k1 then (some (S k1 (4 : Int32))) else none))) else (if x2 = (4 : Int32) then (if fd_rk k1 then (some (S k1 (1 : Int32))) else none) else (if x2 = (5 : Int32) then (if fd_rk k1 then (some (S k1 (2 : Int32))) else none) else (if fd_rk k1 then (some (S k1 (6 : Int32))) else none))))))))
def zS_tellBest (S : fd_S) (x1 : Int32) (x2 : Int32) : Option Int32 := (if x2 = (2 : Int32) then (if (0 : Int32) ≤ x1 ∧ x1 < (8 : Int32) then (some (S 22 x1)) else none) else (if (0 : Int32) ≤ x1 ∧ x1 < (8 : Int32) then (if (S 21 x1) = (-6 : Int32) then (some (-6 : Int32)) else (if x2 = (0 : Int32) then (if (0 : Int32) ≤ x1 ∧ x1 < (8 : Int32) then (some (fd_rem (S 21 x1) (4 : Int32))) else none) else (if (0 : Int32) ≤ x1 ∧ x1 < (8 : Int32) then (some ((S 21 x1) / (4 : Int32))) else none))) else none))
def zS_tellCount (fu : Nat) (S : fd_S) (x1 : Int32) : Option Int32 := (if x1 = (0 : Int32) then (some (S 0 (6 : Int32))) else (if x1 = (1 : Int32) then (some (S 3 (1 : Int32))) else (if x1 = (2 : Int32) then ((zQ_heldOnes fu S).bind fun r4 => (some r4)) else (if x1 = (3 : Int32) then (some (S 0 (7 : Int32))) else (if x1 = (4 : Int32) then (some (S 0 (8 : Int32))) else (if x1 = (5 : Int32) then (some (S 0 (9 : Int32))) else (if x1 = (6 : Int32) then (some (S 3 (2 : Int32))) else (if x1 = (7 : Int32) then (some (S 0 (10 : Int32))) else (some (S 5 (3 : Int32)))))))))))
def zS_copyFrom (fu : Nat) (S : fd_S) (u : Nat) (v : Nat) : Option fd_S := ((zB_copyFrom S u v).bind fun S1 => ((zQ_copyFrom fu S1 u v).bind fun S3 => ((zL_copyFrom S3 u v).bind fun S5 => (fd_lt (fd_cp S5 (v + 20) (u + 20) (0 : Int32) (0 : Int32) (32 : Int32)) fun S7 => (fd_lt (fd_cp S7 (v + 21) (u + 21) (0 : Int32) (0 : Int32) (8 : Int32)) fun S8 => (fd_lt (fd_cp S8 (v + 22) (u + 22) (0 : Int32) (0 : Int32) (8 : Int32)) fun S9 => (fd_lt (fd_up S9 u (6 : Int32) (S9 v (6 : Int32))) fun S10 => (fd_lt (fd_up S10 u (7 : Int32) (S10 v (7 : Int32))) fun S11 => (fd_lt (fd_up S11 u (8 : Int32) (S11 v (8 : Int32))) fun S12 => (fd_lt (fd_up S12 u (9 : Int32) (S12 v (9 : Int32))) fun S13 => (fd_lt (fd_up S13 u (10 : Int32) (S13 v (10 : Int32))) fun S14 => (some S14))))))))))))
def zT_append (S : fd_S) (x1 : Int32) : Option (Int32 × fd_S) := (if (S 71 (1 : Int32)) < (12 : Int32) then (if (0 : Int32) ≤ (S 71 (1 : Int32)) ∧ (S 71 (1 : Int32)) < (12 : Int32) then (fd_lt (fd_up S 72 (S 71 (1 : Int32)) x1) fun S3 => (fd_lt (fd_up S3 71 (1 : Int32) ((S3 71 (1 : Int32)) + (1 : Int32))) fun S4 => (some ((1 : Int32), S4)))) else none) else (some ((0 : Int32), S)))
def zT_clear (S : fd_S) : Option (Int32 × fd_S) := (fd_lt ((S 71 (1 : Int32))) fun y1 => (fd_lt (fd_up S 71 (1 : Int32) (0 : Int32)) fun S2 => (some (y1, S2))))
def zT_isFigure (x0 : Int32) : Int32 := (if x0 < (48 : Int32) then (0 : Int32) else (if (57 : Int32) < x0 then (0 : Int32) else (1 : Int32)))
def zT_nameOf (x0 : Int32) : Nat := (if x0 = (0 : Int32) then 0 else (if x0 = (1 : Int32) then 1 else (if x0 = (2 : Int32) then 2 else (if x0 = (3 : Int32) then 3 else (if x0 = (4 : Int32) then 4 else (if x0 = (5 : Int32) then 5 else 6))))))
def zT_fits (S : fd_S) (i1 : Nat) (x2 : Int32) : Option Int32 := (if i1 < 7 then (if (fd_sl i1) ≤ x2 then (if x2 = (fd_sl i1) then (if (0 : Int32) ≤ x2 ∧ x2 < (12 : Int32) then (if (S 72 x2) = (61 : Int32) then (some (1 : Int32)) else (some (0 : Int32))) else none) else (if ((fd_sl i1) + (5 : Int32)) < x2 then (some (0 : Int32)) else (if (0 : Int32) ≤ x2 ∧ x2 < (12 : Int32) then (if (zT_isFigure (S 72 x2)) = (0 : Int32) then (some (0 : Int32)) else (some (1 : Int32))) else none))) else (if (0 : Int32) ≤ x2 ∧ x2 < (12 : Int32) then (if (0 : Int32) ≤ x2 ∧ x2 < fd_sl i1 then (if (S 72 x2) = (fd_sc i1 x2) then (some (1 : Int32)) else (some (0 : Int32))) else none) else none)) else none)
def zT_fittingSigns_2 (fu : Nat) : Nat → fd_S → Nat → Int32 → Option Int32
  | 0, _, _, _ => none
  | n + 1, S, i1, x2 => (if (S 71 (1 : Int32)) ≤ x2 then (some x2) else ((zT_fits S i1 x2).bind fun r2 => (if r2 = (0 : Int32) then (some x2) else (fd_lt ((x2 + (1 : Int32))) fun y5 => (zT_fittingSigns_2 fu n S i1 y5)))))
def zT_fittingSigns (fu : Nat) (S : fd_S) (i1 : Nat) : Option Int32 := (zT_fittingSigns_2 fu fu S i1 (0 : Int32))
def zT_tells (fu : Nat) (S : fd_S) (i1 : Nat) : Option Int32 := (if i1 < 7 then (if (S 71 (1 : Int32)) ≤ ((fd_sl i1) + (1 : Int32)) then (some (0 : Int32)) else ((zT_fittingSigns fu S i1).bind fun r3 => (if r3 = (S 71 (1 : Int32)) then (some (1 : Int32)) else (some (0 : Int32))))) else none)
def zT_toldBound_2 (fu : Nat) : Nat → fd_S → Int32 → Option Int32
  | 0, _, _ => none
  | n + 1, S, x1 => (if (7 : Int32) ≤ x1 then (some (-6 : Int32)) else ((zT_tells fu S (zT_nameOf x1)).bind fun r2 => (if r2 = (0 : Int32) then (fd_lt ((x1 + (1 : Int32))) fun y5 => (zT_toldBound_2 fu n S y5)) else (some x1))))
def zT_toldBound (fu : Nat) (S : fd_S) : Option Int32 := (zT_toldBound_2 fu fu S (0 : Int32))
def zT_toldNumber_4 (fu : Nat) : Nat → fd_S → Int32 → Int32 → Option Int32
  | 0, _, _, _ => none
  | n + 1, S, x1, x2 => (if (S 71 (1 : Int32)) ≤ x2 then (some x1) else (if (0 : Int32) ≤ x2 ∧ x2 < (12 : Int32) then (if (zT_isFigure (S 72 x2)) = (0 : Int32) then (fd_lt ((x2 + (1 : Int32))) fun y4 => (zT_toldNumber_4 fu n S x1 y4)) else (if (0 : Int32) ≤ x2 ∧ x2 < (12 : Int32) then (fd_lt ((((x1 * (10 : Int32)) + (S 72 x2)) - (48 : Int32))) fun y6 => (fd_lt ((x2 + (1 : Int32))) fun y7 => (zT_toldNumber_4 fu n S y6 y7))) else none)) else none))
def zT_toldNumber (fu : Nat) (S : fd_S) : Option Int32 := (zT_toldNumber_4 fu fu S (0 : Int32) (0 : Int32))
def zT_findFault_16 (fu : Nat) : Nat → fd_S → Int32 → Int32 → Option Int32
  | 0, _, _, _ => none
  | n + 1, S, x1, x2 => (if (7 : Int32) ≤ x2 then (some x1) else ((zT_fittingSigns fu S (zT_nameOf x2)).bind fun r5 => (fd_lt ((fd_max x1 r5)) fun y7 => (fd_lt ((x2 + (1 : Int32))) fun y8 => (zT_findFault_16 fu n S y7 y8)))))
def zT_findFault (fu : Nat) (S : fd_S) : Option Int32 := ((zT_toldBound fu S).bind fun r1 => (if r1 = (-6 : Int32) then (zT_findFault_16 fu fu S (0 : Int32) (0 : Int32)) else (some (-6 : Int32))))
def zF_say (S : fd_S) (x1 : Int32) : Option (Int32 × fd_S) := (if (zF_isWithin x1 (33 : Int32) (126 : Int32)) = (0 : Int32) then (some ((-2 : Int32), S)) else ((zT_append S x1).bind fun q5 => (fd_pr q5 fun r4 S2 => (if r4 = (0 : Int32) then (some ((-4 : Int32), S2)) else (some ((S2 71 (1 : Int32)), S2))))))
def zF_wipe (S : fd_S) : Option (Int32 × fd_S) := ((zT_clear S).bind fun q4 => (fd_pr q4 fun r3 S1 => (some (r3, S1))))
def zF_fault (fu : Nat) (S : fd_S) : Option Int32 := ((zT_findFault fu S).bind fun r1 => (some r1))
def zF_set (fu : Nat) (S : fd_S) : Option (Int32 × fd_S) := ((zT_toldBound fu S).bind fun r1 => (if r1 = (-6 : Int32) then (some ((-7 : Int32), S)) else ((zT_toldNumber fu S).bind fun r4 => (if (0 : Int32) ≤ r1 ∧ r1 < (7 : Int32) then (if (0 : Int32) ≤ r1 ∧ r1 < (7 : Int32) then (if (zF_isWithin r4 (fd_tl fd_least r1) (fd_tl fd_most r1)) = (0 : Int32) then (some ((-2 : Int32), S)) else ((zT_clear S).bind fun q12 => (fd_pr q12 fun r11 S9 => ((zB_replace S9 r1 r4).bind fun q16 => (fd_pr q16 fun r15 S13 => (some (r15, S13))))))) else none) else none))))
def zF_bound (S : fd_S) (x1 : Int32) : Option Int32 := (if (zF_isWithin x1 (0 : Int32) (6 : Int32)) = (0 : Int32) then (some (-2 : Int32)) else (if (0 : Int32) ≤ x1 ∧ x1 < (7 : Int32) then (some (S 2 x1)) else none))
def zF_announce (fu : Nat) (S : fd_S) (x1 : Int32) (x2 : Int32) (x3 : Int32) (x4 : Int32) : Option (Int32 × fd_S) := (if (zF_isRoute x1 x2) = (0 : Int32) then (some ((-1 : Int32), S)) else (if (zF_isWithin x3 (0 : Int32) (9 : Int32)) = (0 : Int32) then (some ((-2 : Int32), S)) else (if (zF_isWithin x4 (0 : Int32) (99 : Int32)) = (0 : Int32) then (some ((-2 : Int32), S)) else (fd_lt ((zF_routeOf x1 x2)) fun y4 => (if (0 : Int32) ≤ y4 ∧ y4 < (32 : Int32) then (if (S 20 y4) = x3 then (some ((-5 : Int32), S)) else ((zS_happen fu S y4 x3 x4).bind fun q10 => (fd_pr q10 fun r9 S7 => (some (r9, S7))))) else none)))))
def zF_withdraw (fu : Nat) (S : fd_S) (x1 : Int32) (x2 : Int32) (x3 : Int32) : Option (Int32 × fd_S) := (if (zF_isRoute x1 x2) = (0 : Int32) then (some ((-1 : Int32), S)) else (if (zF_isWithin x3 (0 : Int32) (99 : Int32)) = (0 : Int32) then (some ((-2 : Int32), S)) else (fd_lt ((zF_routeOf x1 x2)) fun y3 => (if (0 : Int32) ≤ y3 ∧ y3 < (32 : Int32) then (if (S 20 y3) = (-6 : Int32) then (some ((-5 : Int32), S)) else ((zS_happen fu S y3 (-6 : Int32) x3).bind fun q9 => (fd_pr q9 fun r8 S6 => (some (r8, S6))))) else none))))
def zF_pass_16 (fu : Nat) : Nat → fd_S → Int32 → Int32 → Option (Int32 × fd_S)
  | 0, _, _, _ => none
  | n + 1, S, x1, x2 => (if x1 ≤ x2 then ((zQ_heldOnes fu S).bind fun r3 => (some (r3, S))) else ((zS_nextTick fu S).bind fun S5 => (fd_lt ((x2 + (1 : Int32))) fun y7 => (zF_pass_16 fu n S5 x1 y7))))
def zF_pass (fu : Nat) (S : fd_S) (x1 : Int32) : Option (Int32 × fd_S) := (if (zF_isWithin x1 (1 : Int32) (200 : Int32)) = (0 : Int32) then (some ((-2 : Int32), S)) else (zF_pass_16 fu fu S x1 (0 : Int32)))
def zF_route (fu : Nat) (S : fd_S) (x1 : Int32) (x2 : Int32) (x3 : Int32) : Option Int32 := (if (zF_isRoute x1 x2) = (0 : Int32) then (some (-1 : Int32)) else (if (zF_isWithin x3 (0 : Int32) (6 : Int32)) = (0 : Int32) then (some (-2 : Int32)) else (fd_lt ((zF_routeOf x1 x2)) fun y3 => (if x3 = (0 : Int32) then (if (0 : Int32) ≤ y3 ∧ y3 < (32 : Int32) then (some (S 20 y3)) else none) else ((zQ_find fu S y3).bind fun r5 => ((zS_tellRecord S r5 x3).bind fun r7 => (some r7)))))))
def zF_later (fu : Nat) (S : fd_S) (x1 : Int32) (x2 : Int32) (x3 : Int32) : Option Int32 := (if (zF_isRoute x1 x2) = (0 : Int32) then (some (-1 : Int32)) else (if (zF_isWithin x3 (0 : Int32) (2000 : Int32)) = (0 : Int32) then (some (-2 : Int32)) else ((zQ_find fu S (zF_routeOf x1 x2)).bind fun r3 => ((zS_penaltyAt S r3 ((S 0 (6 : Int32)) + x3)).bind fun r5 => (some r5)))))
def zF_when (fu : Nat) (S : fd_S) (x1 : Int32) (x2 : Int32) : Option Int32 := (if (zF_isRoute x1 x2) = (0 : Int32) then (some (-1 : Int32)) else ((zQ_find fu S (zF_routeOf x1 x2)).bind fun r2 => ((zS_letGoAt fu S r2).bind fun r4 => (some r4))))
def zF_longest_10 (fu : Nat) : Nat → fd_S → Int32 → Option Int32
  | 0, _, _ => none
  | n + 1, S, x2 => (if (5000 : Int32) < x2 then (some (-6 : Int32)) else ((zB_lessened S (S 2 (6 : Int32)) x2).bind fun r2 => (if (S 2 (5 : Int32)) ≤ r2 then (fd_lt ((x2 + (1 : Int32))) fun y5 => (zF_longest_10 fu n S y5)) else (some x2))))
def zF_longest (fu : Nat) (S : fd_S) : Option Int32 := (zF_longest_10 fu fu S (0 : Int32))
def zF_best (S : fd_S) (x1 : Int32) (x2 : Int32) : Option Int32 := (if (zF_isWithin x1 (0 : Int32) (7 : Int32)) = (0 : Int32) then (some (-1 : Int32)) else (if (zF_isWithin x2 (0 : Int32) (2 : Int32)) = (0 : Int32) then (some (-2 : Int32)) else ((zS_tellBest S x1 x2).bind fun r3 => (some r3))))
def zF_record (S : fd_S) (x1 : Int32) : Option Int32 := (if (zF_isWithin x1 (0 : Int32) ((S 3 (1 : Int32)) - (1 : Int32))) = (0 : Int32) then (some (-6 : Int32)) else (if (0 : Int32) ≤ x1 ∧ x1 < (6 : Int32) then (fd_lt (fd_rc 4 (S 4 x1)) fun k3 => (if fd_rk k3 then (some (S k3 (0 : Int32))) else none)) else none))
def zF_line (S : fd_S) (x1 : Int32) (x2 : Int32) : Option Int32 := ((zL_tell S x1 x2).bind fun r1 => (some r1))
def zF_imageOf (x1 : Int32) : Nat := (if x1 = (0 : Int32) then 23 else 46)
theorem zF_imageOf_st (x : Int32) : fd_st (zF_imageOf x) := by
  unfold zF_imageOf
  split
  · exact Or.inr (Or.inl rfl)
  · exact Or.inr (Or.inr rfl)
def zF_keptImages (S : fd_S) : Int32 := (if (S 70 (0 : Int32)) = (0 : Int32) then (if (S 70 (1 : Int32)) = (0 : Int32) then ((0 : Int32) + (0 : Int32)) else ((0 : Int32) + (2 : Int32))) else (if (S 70 (1 : Int32)) = (0 : Int32) then ((1 : Int32) + (0 : Int32)) else ((1 : Int32) + (2 : Int32))))
def zF_count (fu : Nat) (S : fd_S) (x1 : Int32) : Option Int32 := (if (zF_isWithin x1 (0 : Int32) (9 : Int32)) = (0 : Int32) then (some (-2 : Int32)) else (if x1 = (9 : Int32) then (some (zF_keptImages S)) else ((zS_tellCount fu S x1).bind fun r3 => (some r3))))
def zF_image (fu : Nat) (S : fd_S) (x1 : Int32) : Option (Int32 × fd_S) := (if (zF_isWithin x1 (0 : Int32) (1 : Int32)) = (0 : Int32) then (some ((-2 : Int32), S)) else ((zS_copyFrom fu S ((zF_imageOf x1)) 0).bind fun S2 => (if (0 : Int32) ≤ x1 ∧ x1 < (2 : Int32) then (fd_lt (fd_up S2 70 x1 (1 : Int32)) fun S5 => (some ((1 : Int32), S5))) else none)))
def zF_restore (fu : Nat) (S : fd_S) (x1 : Int32) : Option (Int32 × fd_S) := (if (zF_isWithin x1 (0 : Int32) (1 : Int32)) = (0 : Int32) then (some ((-2 : Int32), S)) else (if (0 : Int32) ≤ x1 ∧ x1 < (2 : Int32) then (if (S 70 x1) = (0 : Int32) then (some ((-3 : Int32), S)) else ((zS_copyFrom fu S 0 ((zF_imageOf x1))).bind fun S4 => (some ((1 : Int32), S4)))) else none))
end
section
/-! ===== Int32 for omega ===== -/
theorem i_lt {a b : Int32} : a < b ↔ a.toInt < b.toInt := Int32.lt_iff_toInt_lt
theorem i_le {a b : Int32} : a ≤ b ↔ a.toInt ≤ b.toInt := Int32.le_iff_toInt_le
theorem i_eq {a b : Int32} : a = b ↔ a.toInt = b.toInt := Int32.toInt_inj.symm
theorem i_bm (x : Int) : x.bmod (2 ^ 32) = (x + 2147483648) % 4294967296 - 2147483648 := by
  rw [Int.bmod_def]
  split <;> omega
theorem i_add (a b : Int32) : (a + b).toInt = (a.toInt + b.toInt + 2147483648) % 4294967296 - 2147483648 := by rw [Int32.toInt_add, i_bm]
theorem i_sub (a b : Int32) : (a - b).toInt = (a.toInt - b.toInt + 2147483648) % 4294967296 - 2147483648 := by rw [Int32.toInt_sub, i_bm]
theorem i_mul (a b : Int32) : (a * b).toInt = (a.toInt * b.toInt + 2147483648) % 4294967296 - 2147483648 := by rw [Int32.toInt_mul, i_bm]
theorem i_neg (a : Int32) : (-a).toInt = (-a.toInt + 2147483648) % 4294967296 - 2147483648 := by rw [Int32.toInt_neg, i_bm]
theorem ar_t1 {x n : Int32} (hn : 1 ≤ n ∧ n ≤ 6) (c1 : ¬ n - 1 ≤ x) (x0 : 0 ≤ x) : 0 ≤ x + 1 ∧ x + 1 < 6 ∧ x < 6 ∧ x + 1 ≤ n - 1 := by
  simp only [i_lt, i_le, i_eq, i_add, i_sub, Int32.reduceToInt] at *
  omega
def m_pm (n r b : Int32) : Int32 := if b < r then b else if b < n - 1 then b + 1 else if b = n - 1 then r else b
theorem m_pm_rg {n r b : Int32} (hn : 1 ≤ n ∧ n ≤ 6) (hr : 0 ≤ r ∧ r < n) (b0 : 0 ≤ b) (b6 : b < 6) : 0 ≤ m_pm n r b ∧ m_pm n r b < 6 := by
  unfold m_pm
  repeat' split
  all_goals simp only [i_lt, i_le, i_eq, i_add, i_sub, Int32.reduceToInt] at *
  all_goals omega
theorem m_pm_inj {n r b c : Int32} (hn : 1 ≤ n ∧ n ≤ 6) (hr : 0 ≤ r ∧ r < n) (b0 : 0 ≤ b) (b6 : b < 6) (c0 : 0 ≤ c) (c6 : c < 6) (h : m_pm n r b = m_pm n r c) : b = c := by
  unfold m_pm at h
  repeat' split at h
  all_goals simp only [i_lt, i_le, i_eq, i_add, i_sub, Int32.reduceToInt] at *
  all_goals omega
theorem m_pm_lo {n r j : Int32} (hn : 1 ≤ n ∧ n ≤ 6) (hr : 0 ≤ r ∧ r < n) (j0 : 0 ≤ j) (j1 : j < n - 1) : 0 ≤ m_pm n r j ∧ m_pm n r j < n ∧ j < 6 := by
  unfold m_pm
  repeat' split
  all_goals simp only [i_lt, i_le, i_eq, i_add, i_sub, Int32.reduceToInt] at *
  all_goals omega
end
section
/-! ===== LESSENED ===== -/
def m_rowN (p : Nat) : Nat := [65536, 60097, 55109, 50535, 46341, 42495, 38968, 35734].getD p 0
def m_les (h v t : Nat) : Nat := (v / 2 ^ (t / h)) * m_rowN (8 * (t % h) / h) / 65536
theorem m_row_le (p : Nat) : m_rowN p ≤ 65536 := by
  have h : ∀ x ∈ [65536, 60097, 55109, 50535, 46341, 42495, 38968, 35734], x ≤ 65536 := by decide
  unfold m_rowN
  rw [List.getD_eq_getElem?_getD]
  cases hk : ([65536, 60097, 55109, 50535, 46341, 42495, 38968, 35734] : List Nat)[p]? with
  | none => simp
  | some x => exact h x (List.mem_of_getElem? hk)
theorem m_les_le (h v t : Nat) : m_les h v t ≤ v := by
  unfold m_les
  have h1 : v / 2 ^ (t / h) ≤ v := Nat.div_le_self _ _
  have h2 := m_row_le (8 * (t % h) / h)
  apply Nat.div_le_of_le_mul
  calc v / 2 ^ (t / h) * m_rowN (8 * (t % h) / h) ≤ v * 65536 := Nat.mul_le_mul h1 h2
    _ = 65536 * v := Nat.mul_comm _ _
theorem m_tlrow : ∀ p, p < 8 → fd_tl fd_row (nI p) = nI (m_rowN p) := by decide
theorem m_sl : ∀ n, n < 32 → ((nI n &&& 31).toBitVec.smod 32).toNat = n := by decide
theorem m_pl {t h : Nat} (hh : 0 < h) : 8 * (t % h) / h < 8 := by
  have := Nat.mod_lt t hh
  exact Nat.div_lt_of_lt_mul (by omega)
theorem m_pow0 {a q : Nat} (ha : a ≤ 20000) (hq : 15 ≤ q) : a / 2 ^ q = 0 := by
  apply Nat.div_eq_of_lt
  calc a < 2 ^ 15 := by omega
    _ ≤ 2 ^ q := Nat.pow_le_pow_right (by decide) hq
theorem m_rem {a d : Nat} (ha : a < 2 ^ 31) (h0 : 0 < d) (hd : d < 2 ^ 31) : fd_rem (nI a) (nI d) = nI (a % d) := pk_rem ha h0 hd
theorem m_8 (n : Nat) : (8 : Int32) * nI n = nI (8 * n) := by
  rw [show (8 : Int32) = nI 8 from rfl, pk_mul]
theorem zB_lessened_eq {S : fd_S} {h a c : Nat} (hh : S 2 0 = nI h) (h4 : 4 ≤ h) (h200 : h ≤ 200) (ha : a ≤ 20000) (hc : c < 2 ^ 20) : zB_lessened S (nI a) (nI c) = some (nI (m_les h a c)) := by
  unfold zB_lessened
  simp only [fd_lt, hh]
  have hp := m_pl (t := c) (h := h) (by omega)
  have hmod := Nat.mod_lt c (show 0 < h by omega)
  have hq : c / h < 2 ^ 20 := Nat.lt_of_le_of_lt (Nat.div_le_self _ _) hc
  have e0 : ¬ nI h = 0 := nI_ne0 (by omega) (by omega)
  rw [if_neg (by rw [show (1 : Int32) = nI 1 from rfl]; exact nI_nlt (by omega) (by omega)), if_pos (nI_pos' (by omega)), if_pos e0, pk_div (by omega) (by omega) (by omega)]
  by_cases c1 : c / h ≤ 30
  · rw [if_pos (by rw [show (30 : Int32) = nI 30 from rfl]; exact nI_le c1 (by omega)), if_pos e0, if_pos e0, m_rem (by omega) (by omega) (by omega), m_8, pk_div (by omega) (by omega) (by omega), if_pos ⟨nI_pos' (by omega), by rw [show (8 : Int32) = nI 8 from rfl]; exact nI_lt hp (by omega)⟩, m_tlrow _ hp, pk_shrN (by omega) _ (c / h) (m_sl _ (by omega))]
    have h1 : a / 2 ^ (c / h) ≤ a := Nat.div_le_self _ _
    have h2 := m_row_le (8 * (c % h) / h)
    have h3 : a / 2 ^ (c / h) * m_rowN (8 * (c % h) / h) ≤ 20000 * 65536 := Nat.mul_le_mul (by omega) h2
    rw [nI_l (by omega), nI_l (by omega), lN_mul, show (65536 : Int64) = lN 65536 from rfl, pk_lDiv (by omega) (by omega) (by omega), lN_i]
    rfl
  · rw [if_neg (by rw [show (30 : Int32) = nI 30 from rfl]; exact nI_ge (by omega) (by omega))]
    unfold m_les
    rw [m_pow0 ha (by omega)]
    simp [nI]
theorem zM_lessened_37_eq {fu : Nat} {S : fd_S} {h v c : Nat} (hr : ∀ p, p < 8 → S 74 (nI p) = nI (m_rowN p)) (h4 : 4 ≤ h) (h200 : h ≤ 200) (hv : v ≤ 20000) (hc : c < 2 ^ 20) : zM_lessened_37 fu S (nI c) (nI h) (nI v) = some (nI (v * m_rowN (8 * (c % h) / h) / 65536)) := by
  unfold zM_lessened_37
  have hp := m_pl (t := c) (h := h) (by omega)
  have hmod := Nat.mod_lt c (show 0 < h by omega)
  have e0 : ¬ nI h = 0 := nI_ne0 (by omega) (by omega)
  have h2 := m_row_le (8 * (c % h) / h)
  have h3 : v * m_rowN (8 * (c % h) / h) ≤ 20000 * 65536 := Nat.mul_le_mul (by omega) h2
  rw [if_pos e0, if_pos e0, m_rem (by omega) (by omega) (by omega), m_8, pk_div (by omega) (by omega) (by omega), if_pos ⟨nI_pos' (by omega), by rw [show (8 : Int32) = nI 8 from rfl]; exact nI_lt hp (by omega)⟩, hr _ hp, pk_mul, show (65536 : Int32) = nI 65536 from rfl, pk_div (by omega) (by omega) (by omega)]
theorem zM_lessened_12_eq {fu : Nat} {S : fd_S} {h a c : Nat} (hr : ∀ p, p < 8 → S 74 (nI p) = nI (m_rowN p)) (h4 : 4 ≤ h) (h200 : h ≤ 200) (ha : a ≤ 20000) (hc : c < 2 ^ 20) : ∀ (m k n : Nat), k + m = 16 → m < n → k ≤ c / h → zM_lessened_12 fu n S (nI c) (nI h) (nI (a / 2 ^ k)) (nI k) = some (nI (m_les h a c)) := by
  have e0 : ¬ nI h = 0 := nI_ne0 (by omega) (by omega)
  have hq : c / h < 2 ^ 20 := Nat.lt_of_le_of_lt (Nat.div_le_self _ _) hc
  intro m
  induction m with
  | zero =>
    intro k n hk hn hkq
    obtain ⟨n, rfl⟩ : ∃ n', n = n' + 1 := ⟨n - 1, by omega⟩
    rw [zM_lessened_12, if_pos e0, pk_div (by omega) (by omega) (by omega), m_pow0 ha (by omega)]
    have e1 := zM_lessened_37_eq (fu := fu) (v := 0) hr h4 h200 (by omega) hc
    have e2 : m_les h a c = 0 * m_rowN (8 * (c % h) / h) / 65536 := by
      unfold m_les
      rw [m_pow0 ha (by omega)]
    rw [e2, e1]
    split
    · rfl
    · rw [if_pos (by decide)]
  | succ m ih =>
    intro k n hk hn hkq
    obtain ⟨n, rfl⟩ : ∃ n', n = n' + 1 := ⟨n - 1, by omega⟩
    have hle : a / 2 ^ k ≤ a := Nat.div_le_self _ _
    rw [zM_lessened_12, if_pos e0, pk_div (by omega) (by omega) (by omega)]
    by_cases c1 : c / h ≤ k
    · rw [if_pos (nI_le c1 (by omega)), zM_lessened_37_eq hr h4 h200 (by omega) hc]
      have : k = c / h := by omega
      subst this
      rfl
    · rw [if_neg (nI_ge (by omega) (by omega))]
      by_cases c2 : a / 2 ^ k = 0
      · rw [if_pos (by rw [c2]; decide), zM_lessened_37_eq hr h4 h200 (by omega) hc, c2]
        unfold m_les
        have h5 : a / 2 ^ (c / h) = 0 := by
          have h6 : a / 2 ^ (c / h) ≤ a / 2 ^ k := Nat.div_le_div_left (Nat.pow_le_pow_right (by decide) hkq) (Nat.two_pow_pos k)
          rw [c2] at h6
          exact Nat.le_zero.mp h6
        rw [h5]
      · rw [if_neg (nI_nle (Nat.pos_of_ne_zero c2) (by omega))]
        simp only [fd_lt]
        rw [show (2 : Int32) = nI 2 from rfl, pk_div (by omega) (by omega) (by omega), nI_1, Nat.div_div_eq_div_mul, ← Nat.pow_succ]
        exact ih (k + 1) n (by omega) (by omega) (by omega)
theorem zM_lessened_eq {fu : Nat} {S : fd_S} {h a c : Nat} (hfu : 20 ≤ fu) (hr : ∀ p, p < 8 → S 74 (nI p) = nI (m_rowN p)) (hh : S 78 32 = nI h) (h4 : 4 ≤ h) (h200 : h ≤ 200) (ha : a ≤ 20000) (hc : c < 2 ^ 20) : zM_lessened fu S (nI a) (nI c) = some (nI (m_les h a c)) := by
  unfold zM_lessened zM_bounded
  rw [if_pos (by decide)]
  have := zM_lessened_12_eq (fu := fu) hr h4 h200 ha hc 16 0 fu (by omega) (by omega) (Nat.zero_le _)
  simp only [Option.bind_some]
  rw [show (32 : Int32) + 0 = 32 from rfl, hh]
  rw [Nat.pow_zero, Nat.div_one] at this
  exact this
end
section
/-! ===== the reference's row of numbers, the component's records ===== -/
def fd_sg (S : fd_S) (g : Int32 → Int32) : fd_S := fun a b => if a = 78 then g b else S a b
def m_gu (g : Int32 → Int32) (j v : Int32) : Int32 → Int32 := fun b => if b = j then v else g b
theorem sg_78 (S : fd_S) (g : Int32 → Int32) (j : Int32) : fd_sg S g 78 j = g j := by
  unfold fd_sg
  exact if_pos rfl
theorem sg_ne {S : fd_S} {g : Int32 → Int32} {k : Nat} (h : k ≠ 78) : fd_sg S g k = S k := by
  funext b
  simp [fd_sg, h]
theorem sg_up (S : fd_S) (g : Int32 → Int32) (j v : Int32) : fd_up (fd_sg S g) 78 j v = fd_sg S (m_gu g j v) := by
  funext a b
  unfold fd_up fd_sg m_gu
  split <;> rfl
theorem sg_self (S : fd_S) : fd_sg S (S 78) = S := by
  funext a b
  unfold fd_sg
  split
  · next h => rw [h]
  · rfl
def m_ms (N x : Int32) : Nat := (N.toInt - x.toInt).toNat
def m_md (L x : Int32) : Nat := (x.toInt - L.toInt + 1).toNat
theorem m_toInt_succ {x N : Int32} (h : ¬ N ≤ x) : (x + 1).toInt = x.toInt + 1 := by
  have h1 := Int32.toInt_lt N
  have h2 : x.toInt < N.toInt := by
    have := Int32.not_le.mp h
    exact Int32.lt_iff_toInt_lt.mp this
  have h3 := Int32.le_toInt x
  rw [Int32.toInt_add]
  have : (1 : Int32).toInt = 1 := by decide
  rw [this]
  apply Int.bmod_eq_of_le <;> omega
theorem m_toInt_pred {x L : Int32} (h : ¬ x < L) (hL : 0 ≤ L) : (x + (-1)).toInt = x.toInt - 1 := by
  have h1 := Int32.toInt_lt x
  have h2 : L.toInt ≤ x.toInt := Int32.le_iff_toInt_le.mp (Int32.not_lt.mp h)
  have h3 : (0 : Int) ≤ L.toInt := by simpa using Int32.le_iff_toInt_le.mp hL
  rw [Int32.toInt_add]
  have : (-1 : Int32).toInt = -1 := by decide
  rw [this]
  apply Int.bmod_eq_of_le <;> omega
theorem m_ms_up {N x : Int32} (h : ¬ N ≤ x) : m_ms N (x + 1) < m_ms N x := by
  unfold m_ms
  rw [m_toInt_succ h]
  have h2 : x.toInt < N.toInt := Int32.lt_iff_toInt_lt.mp (Int32.not_le.mp h)
  omega
theorem m_md_dn {L x : Int32} (h : ¬ x < L) (hL : 0 ≤ L) : m_md L (x + (-1)) < m_md L x := by
  unfold m_md
  rw [m_toInt_pred h hL]
  have h2 : L.toInt ≤ x.toInt := Int32.le_iff_toInt_le.mp (Int32.not_lt.mp h)
  omega
theorem m_ms_fu {N x : Int32} {fu : Nat} (h0 : 0 ≤ x) (hN : N ≤ 6000) (hf : 10000 ≤ fu) : m_ms N x < fu := by
  unfold m_ms
  have h1 : (0 : Int) ≤ x.toInt := by simpa using Int32.le_iff_toInt_le.mp h0
  have h2 : N.toInt ≤ 6000 := Int32.le_iff_toInt_le.mp hN
  omega
theorem m_md_fu {L x : Int32} {fu : Nat} (h0 : 0 ≤ L) (hN : x ≤ 6000) (hf : 10000 ≤ fu) : m_md L x < fu := by
  unfold m_md
  have h1 : (0 : Int) ≤ L.toInt := by simpa using Int32.le_iff_toInt_le.mp h0
  have h2 : x.toInt ≤ 6000 := Int32.le_iff_toInt_le.mp hN
  omega
theorem m_at_in {i f : Int32} (h0 : 0 ≤ i) (h1 : i < 6) (h2 : 0 ≤ f) (h3 : f < 10) : 0 ≤ zM_at i f ∧ zM_at i f < 275 := by
  unfold zM_at
  grind
theorem m_at_rg {i f : Int32} (h0 : 0 ≤ i) (h1 : i < 6) (h2 : 0 ≤ f) (h3 : f < 10) : 71 ≤ zM_at i f ∧ zM_at i f < 131 := by
  unfold zM_at
  grind
theorem m_at_inj {i f i' f' : Int32} (h0 : 0 ≤ i) (h1 : i < 6) (h2 : 0 ≤ f) (h3 : f < 10) (g0 : 0 ≤ i') (g1 : i' < 6) (g2 : 0 ≤ f') (g3 : f' < 10) (h : zM_at i f = zM_at i' f') : i = i' ∧ f = f' := by
  unfold zM_at at h
  grind
/-- the cell of the i-th record -/
def m_rw (S : fd_S) (i : Int32) : Nat := 8 + (S 4 i).toNatClampNeg
theorem m_rc (v : Int32) : fd_rc 4 v = 8 + v.toNatClampNeg := by
  unfold fd_rc
  omega
def m_cV (S : fd_S) (i f : Int32) : Int32 := S (m_rw S i) f
def m_cK (S : fd_S) (i j : Int32) : Int32 := S (m_rw S i + 6) j
def m_rows (S : fd_S) : Prop := (∀ i : Int32, 0 ≤ i → i < 6 → 0 ≤ S 4 i ∧ S 4 i < 6) ∧ ∀ i j : Int32, 0 ≤ i → i < 6 → 0 ≤ j → j < 6 → S 4 i = S 4 j → i = j
theorem m_cl {x : Int32} (h0 : 0 ≤ x) (h6 : x < 6) : x.toNatClampNeg < 6 := by
  have h1 : x.toInt < 6 := Int32.lt_iff_toInt_lt.mp h6
  unfold Int32.toNatClampNeg
  omega
theorem m_cl_inj {x y : Int32} (h0 : 0 ≤ x) (h1 : 0 ≤ y) (h : x.toNatClampNeg = y.toNatClampNeg) : x = y := by
  rw [← fd_ix_of h0, ← fd_ix_of h1, h]
theorem m_rows.rg {S : fd_S} (h : m_rows S) {i : Int32} (h0 : 0 ≤ i) (h1 : i < 6) : 8 ≤ m_rw S i ∧ m_rw S i < 14 := by
  have := h.1 i h0 h1
  have := m_cl this.1 this.2
  unfold m_rw
  omega
theorem m_rows.rk {S : fd_S} (h : m_rows S) {i : Int32} (h0 : 0 ≤ i) (h1 : i < 6) : fd_rk (m_rw S i) := by
  have := h.rg h0 h1
  refine ⟨by omega, by omega, by omega⟩
theorem m_rows.inj {S : fd_S} (h : m_rows S) {i j : Int32} (h0 : 0 ≤ i) (h1 : i < 6) (g0 : 0 ≤ j) (g1 : j < 6) (e : m_rw S i = m_rw S j) : i = j := by
  refine h.2 i j h0 h1 g0 g1 (m_cl_inj (h.1 i h0 h1).1 (h.1 j g0 g1).1 ?_)
  unfold m_rw at e
  omega
/-- the records of the component and of the reference -/
def m_R (S : fd_S) (g : Int32 → Int32) : Prop :=
  m_rows S ∧ S 3 1 = g 64 ∧ (0 ≤ g 64 ∧ g 64 ≤ 6) ∧
  (∀ i : Int32, 0 ≤ i → i < g 64 → m_cV S i 0 = g (zM_at i 0) ∧ m_cV S i 1 = g (zM_at i 1) ∧ m_cV S i 2 = g (zM_at i 2) ∧ m_cV S i 3 = g (zM_at i 3) ∧ m_cV S i 4 = g (zM_at i 4) ∧ m_cV S i 6 = g (zM_at i 5)) ∧
  (∀ i j : Int32, 0 ≤ i → i < g 64 → 0 ≤ j → j < 4 → j < g (zM_at i 5) → m_cK S i j = g (zM_at i (6 + j)))
/-- the records' own laws -/
def m_GR (g : Int32 → Int32) : Prop :=
  (∀ i : Int32, 0 ≤ i → i < g 64 → (0 ≤ g (zM_at i 0) ∧ g (zM_at i 0) < 32) ∧ (0 ≤ g (zM_at i 1) ∧ g (zM_at i 1) ≤ 20000) ∧ (0 ≤ g (zM_at i 2) ∧ g (zM_at i 2) ≤ g 63) ∧ (g (zM_at i 3) = 0 ∨ g (zM_at i 3) = 1) ∧ (0 ≤ g (zM_at i 5) ∧ g (zM_at i 5) ≤ 4)) ∧
  (∀ i j : Int32, 0 ≤ i → i < g 64 → 0 ≤ j → j < g 64 → g (zM_at i 0) = g (zM_at j 0) → i = j)
end
section
/-! ===== find, recordOf ===== -/
def m_ix (g : Int32 → Int32) (r x : Int32) (N : Int32) : Prop := (r = -6 ∧ ∀ i : Int32, 0 ≤ i → i < N → ¬ g (zM_at i 0) = x) ∨ (0 ≤ r ∧ r < N ∧ g (zM_at r 0) = x)
theorem zM_recordOf_5_eq {fu : Nat} {S : fd_S} {g : Int32 → Int32} {x : Int32} (h64 : 0 ≤ g 64 ∧ g 64 ≤ 6) : ∀ (n : Nat) (r i : Int32), m_ms (g 64) i < n → 0 ≤ i → i ≤ g 64 → m_ix g r x i → ∃ r', zM_recordOf_5 fu n (fd_sg S g) x r i = some r' ∧ m_ix g r' x (g 64) := by
  intro n
  induction n with
  | zero => intro r i h; omega
  | succ n ih =>
    intro r i hn h0 h1 hr
    rw [zM_recordOf_5]
    simp only [sg_78, fd_lt]
    by_cases c1 : g 64 ≤ i
    · rw [if_pos c1]
      have : i = g 64 := by grind
      exact ⟨r, rfl, this ▸ hr⟩
    · rw [if_neg c1, if_pos (m_at_in h0 (by grind) (by decide) (by decide))]
      have hm := m_ms_up c1
      by_cases c2 : g (zM_at i 0) = x
      · rw [if_pos c2]
        exact ih i (i + 1) (by omega) (by grind) (by grind) (Or.inr ⟨h0, by grind, c2⟩)
      · rw [if_neg c2]
        refine ih r (i + 1) (by omega) (by grind) (by grind) ?_
        rcases hr with ⟨e, hr⟩ | hr
        · refine Or.inl ⟨e, fun j j0 j1 => ?_⟩
          by_cases hj : j = i
          · rw [hj]; exact c2
          · exact hr j j0 (by grind)
        · exact Or.inr ⟨hr.1, by grind, hr.2.2⟩
theorem zM_recordOf_eq {fu : Nat} {S : fd_S} {g : Int32 → Int32} (hfu : 10000 ≤ fu) (h64 : 0 ≤ g 64 ∧ g 64 ≤ 6) (x : Int32) : ∃ r, zM_recordOf fu (fd_sg S g) x = some r ∧ m_ix g r x (g 64) := by
  unfold zM_recordOf
  exact zM_recordOf_5_eq h64 fu (-6) 0 (m_ms_fu (by decide) (by grind) hfu) (by decide) h64.1 (Or.inl ⟨rfl, fun i h0 h1 => by grind⟩)
def m_fd (S : fd_S) (r : Int32) : Option Nat := if r < 0 then none else some (m_rw S r)
theorem zQ_find_2_eq {fu : Nat} {S : fd_S} {g : Int32 → Int32} {x r : Int32} (hR : m_R S g) (hG : m_GR g) (hr : m_ix g r x (g 64)) : ∀ (n : Nat) (i : Int32), m_ms (g 64) i < n → 0 ≤ i → i ≤ g 64 → (r < 0 ∨ i ≤ r) → zQ_find_2 fu n S x i = some (m_fd S r) := by
  obtain ⟨hrow, h31, h64, hV, -⟩ := hR
  intro n
  induction n with
  | zero => intro i h; omega
  | succ n ih =>
    intro i hn h0 h1 hri
    rw [zQ_find_2]
    simp only [fd_lt, h31, m_rc]
    by_cases c1 : g 64 ≤ i
    · rw [if_pos c1]
      unfold m_fd
      rw [if_pos (by unfold m_ix at hr; grind)]
    · rw [if_neg c1]
      have h6 : i < 6 := by grind
      have hv := (hV i h0 (by grind)).1
      have hk := hrow.rk h0 h6
      change fd_rk (8 + (S 4 i).toNatClampNeg) at hk
      change S (8 + (S 4 i).toNatClampNeg) 0 = _ at hv
      rw [if_pos ⟨h0, h6⟩, if_pos hk, hv]
      have hm := m_ms_up c1
      by_cases c2 : g (zM_at i 0) = x
      · rw [if_pos c2, if_pos ⟨h0, h6⟩]
        have hir : i = r := by
          rcases hr with ⟨-, hr⟩ | ⟨a, b, hr⟩
          · exact absurd c2 (hr i h0 (by grind))
          · exact hG.2 i r h0 (by grind) a b (c2.trans hr.symm)
        subst hir
        unfold m_fd
        rw [if_neg (by grind)]
        rfl
      · rw [if_neg c2]
        exact ih (i + 1) (by omega) (by grind) (by grind) (by
          rcases hri with h | h
          · exact Or.inl h
          · right
            have : i ≠ r := by
              intro e
              subst e
              rcases hr with ⟨e, -⟩ | ⟨-, -, hr⟩
              · subst e; grind
              · exact c2 hr
            grind)
theorem zQ_find_eq {fu : Nat} {S : fd_S} {g : Int32 → Int32} {x r : Int32} (hfu : 10000 ≤ fu) (hR : m_R S g) (hG : m_GR g) (hr : m_ix g r x (g 64)) : zQ_find fu S x = some (m_fd S r) := by
  unfold zQ_find
  have h64 := hR.2.2.1
  exact zQ_find_2_eq hR hG hr fu 0 (m_ms_fu (by decide) (by grind) hfu) (by decide) h64.1 (by unfold m_ix at hr; grind)
end
section
/-! ===== bounds, penalties, due ===== -/
def m_B (S : fd_S) (g : Int32 → Int32) : Prop := ∀ i : Int32, 0 ≤ i → i < 7 → S 2 i = g (32 + i)
def m_GB (g : Int32 → Int32) : Prop := (4 ≤ g 32 ∧ g 32 ≤ 200) ∧ (1 ≤ g 33 ∧ g 33 ≤ 50) ∧ (0 ≤ g 34 ∧ g 34 ≤ 2000) ∧ (0 ≤ g 35 ∧ g 35 ≤ 2000) ∧ (100 ≤ g 36 ∧ g 36 ≤ 9999) ∧ (50 ≤ g 37 ∧ g 37 ≤ 9999) ∧ (100 ≤ g 38 ∧ g 38 ≤ 20000)
/-- what the reference's tables hold -/
def m_K (S : fd_S) : Prop := (∀ p, p < 8 → S 74 (nI p) = nI (m_rowN p)) ∧ (∀ i : Int32, 0 ≤ i → i < 7 → S 76 i = fd_tl fd_least i ∧ S 77 i = fd_tl fd_most i) ∧ (∀ w j : Int32, 0 ≤ w → w < 7 → 0 ≤ j → j < zM_size w → S 75 (4 * w + j) = fd_sc (zT_nameOf w) j)
theorem m_B.e0 {S : fd_S} {g : Int32 → Int32} (h : m_B S g) : S 2 0 = g 32 := h 0 (by decide) (by decide)
theorem m_B.e1 {S : fd_S} {g : Int32 → Int32} (h : m_B S g) : S 2 1 = g 33 := h 1 (by decide) (by decide)
theorem m_B.e2 {S : fd_S} {g : Int32 → Int32} (h : m_B S g) : S 2 2 = g 34 := h 2 (by decide) (by decide)
theorem m_B.e3 {S : fd_S} {g : Int32 → Int32} (h : m_B S g) : S 2 3 = g 35 := h 3 (by decide) (by decide)
theorem m_B.e4 {S : fd_S} {g : Int32 → Int32} (h : m_B S g) : S 2 4 = g 36 := h 4 (by decide) (by decide)
theorem m_B.e5 {S : fd_S} {g : Int32 → Int32} (h : m_B S g) : S 2 5 = g 37 := h 5 (by decide) (by decide)
theorem m_B.e6 {S : fd_S} {g : Int32 → Int32} (h : m_B S g) : S 2 6 = g 38 := h 6 (by decide) (by decide)
theorem zM_bounded_eq {S : fd_S} {g : Int32 → Int32} (i : Int32) (h : 0 ≤ 32 + i ∧ 32 + i < 275) : zM_bounded (fd_sg S g) i = some (g (32 + i)) := by
  unfold zM_bounded
  rw [if_pos h, sg_78]
theorem zM_bd1 {S : fd_S} {g : Int32 → Int32} : zM_bounded (fd_sg S g) 1 = some (g 33) := zM_bounded_eq 1 (by decide)
theorem zM_bd2 {S : fd_S} {g : Int32 → Int32} : zM_bounded (fd_sg S g) 2 = some (g 34) := zM_bounded_eq 2 (by decide)
theorem zM_bd3 {S : fd_S} {g : Int32 → Int32} : zM_bounded (fd_sg S g) 3 = some (g 35) := zM_bounded_eq 3 (by decide)
theorem zM_bd4 {S : fd_S} {g : Int32 → Int32} : zM_bounded (fd_sg S g) 4 = some (g 36) := zM_bounded_eq 4 (by decide)
theorem zM_bd5 {S : fd_S} {g : Int32 → Int32} : zM_bounded (fd_sg S g) 5 = some (g 37) := zM_bounded_eq 5 (by decide)
theorem zM_bd6 {S : fd_S} {g : Int32 → Int32} : zM_bounded (fd_sg S g) 6 = some (g 38) := zM_bounded_eq 6 (by decide)
theorem m_nat {x : Int32} {M : Nat} (h0 : 0 ≤ x) (h : x ≤ nI M) (hM : M < 2 ^ 31) : ∃ n : Nat, n ≤ M ∧ x = nI n := by
  obtain ⟨n, hn, rfl⟩ := nI_of (Int32.not_lt.mpr h0)
  exact ⟨n, (nI_leI hn hM).mp h, rfl⟩
/-- LESSENED, both ways -/
theorem m_less {fu : Nat} {S S' : fd_S} {g : Int32 → Int32} {v t : Int32} (hfu : 10000 ≤ fu) (h0 : S 2 0 = g 32) (hg : 4 ≤ g 32 ∧ g 32 ≤ 200) (hK : ∀ p, p < 8 → S' 74 (nI p) = nI (m_rowN p)) (hv : 0 ≤ v ∧ v ≤ 20000) (ht : 0 ≤ t ∧ t ≤ 1000000) :
    ∃ P, zB_lessened S v t = some P ∧ zM_lessened fu (fd_sg S' g) v t = some P ∧ 0 ≤ P ∧ P ≤ v := by
  obtain ⟨h, hh, e1⟩ := m_nat (x := g 32) (M := 200) (by grind) hg.2 (by decide)
  obtain ⟨a, ha, rfl⟩ := m_nat (x := v) (M := 20000) hv.1 hv.2 (by decide)
  obtain ⟨c, hc, rfl⟩ := m_nat (x := t) (M := 1000000) ht.1 ht.2 (by decide)
  have h4 : 4 ≤ h := by
    have := hg.1
    rw [e1, show (4 : Int32) = nI 4 from rfl, nI_leI (by decide) (by omega)] at this
    exact this
  have hle := m_les_le h a c
  refine ⟨nI (m_les h a c), zB_lessened_eq (h0.trans e1) h4 hh ha (by omega), zM_lessened_eq (by omega) (fun p hp => by rw [sg_ne (by decide)]; exact hK p hp) (by rw [sg_78]; exact e1) h4 hh ha (by omega), nI_pos' (by omega), nI_le hle (by omega)⟩
theorem m_pen {fu : Nat} {S S' : fd_S} {g : Int32 → Int32} {i t : Int32} (hfu : 10000 ≤ fu) (hR : m_R S g) (hG : m_GR g) (hB : S 2 0 = g 32) (hGB : m_GB g) (hK : m_K S') (h0 : 0 ≤ i) (h1 : i < g 64) (ht : g (zM_at i 2) ≤ t) (ht2 : t ≤ 1000000) :
    ∃ P, zB_lessened S (S (m_rw S i) 1) (t - S (m_rw S i) 2) = some P ∧ zM_penaltyAt fu (fd_sg S' g) i t = some P ∧ 0 ≤ P ∧ P ≤ 20000 := by
  have hg := hG.1 i h0 h1
  have h6 : i < 6 := by have := hR.2.2.1; grind
  have hv := hR.2.2.2.1 i h0 h1
  unfold m_cV at hv
  rw [hv.2.1, hv.2.2.1]
  obtain ⟨P, p1, p2, p3, p4⟩ := m_less (v := g (zM_at i 1)) (t := t - g (zM_at i 2)) hfu hB hGB.1 hK.1 ⟨hg.2.1.1, hg.2.1.2⟩ (by have := hg.2.2.1; grind)
  refine ⟨P, p1, ?_, p3, by grind⟩
  unfold zM_penaltyAt
  rw [if_pos (m_at_in h0 h6 (by decide) (by decide)), if_pos (m_at_in h0 h6 (by decide) (by decide)), sg_78, sg_78, p2]
  rfl
theorem m_penaltyAt {fu : Nat} {S S' : fd_S} {g : Int32 → Int32} {i t : Int32} (hfu : 10000 ≤ fu) (hR : m_R S g) (hG : m_GR g) (hB : S 2 0 = g 32) (hGB : m_GB g) (hK : m_K S') (h0 : 0 ≤ i) (h1 : i < g 64) (ht : g (zM_at i 2) ≤ t) (ht2 : t ≤ 1000000) :
    ∃ P, zS_penaltyAt S (some (m_rw S i)) t = some P ∧ zM_penaltyAt fu (fd_sg S' g) i t = some P ∧ 0 ≤ P ∧ P ≤ 20000 := by
  obtain ⟨P, p1, p2, p3⟩ := m_pen hfu hR hG hB hGB hK h0 h1 ht ht2
  refine ⟨P, ?_, p2, p3⟩
  have h6 : i < 6 := by have := hR.2.2.1; grind
  unfold zS_penaltyAt fd_on
  dsimp only
  rw [if_pos (hR.1.rk h0 h6), p1]
  rfl
theorem m_below {fu : Nat} {S S' : fd_S} {g : Int32 → Int32} {i t : Int32} (hfu : 10000 ≤ fu) (hR : m_R S g) (hG : m_GR g) (hB : m_B S g) (hGB : m_GB g) (hK : m_K S') (h0 : 0 ≤ i) (h1 : i < g 64) (ht : g (zM_at i 2) ≤ t) (ht2 : t ≤ 1000000) :
    ∃ P, zS_isBelowBack S (m_rw S i) t = some (if P < g 37 then 1 else 0) ∧ zM_penaltyAt fu (fd_sg S' g) i t = some P ∧ 0 ≤ P ∧ P ≤ 20000 := by
  obtain ⟨P, p1, p2, p3⟩ := m_pen hfu hR hG hB.e0 hGB hK h0 h1 ht ht2
  refine ⟨P, ?_, p2, p3⟩
  have h6 : i < 6 := by have := hR.2.2.1; grind
  unfold zS_isBelowBack
  rw [if_pos (hR.1.rk h0 h6), p1, Option.bind_some, hB.e5]
  by_cases c : g 37 ≤ P
  · rw [if_pos c, if_neg (by grind)]
  · rw [if_neg c, if_pos (by grind)]
theorem m_due_loop {fu : Nat} {S S' : fd_S} {g : Int32 → Int32} {i : Int32} (hfu : 10000 ≤ fu) (hR : m_R S g) (hG : m_GR g) (hB : m_B S g) (hGB : m_GB g) (hK : m_K S') (h0 : 0 ≤ i) (h1 : i < g 64) :
    ∀ (n : Nat) (L k : Int32), m_ms 8 k < n → 0 ≤ k → k ≤ 7 → g (zM_at i 2) ≤ L + g 33 → 0 ≤ L → L ≤ 500000 + 50 * k → ∃ d, zS_dueAfter_24 fu n S (m_rw S i) (g 33) L k = some d ∧ zM_dueAfter_18 fu n (fd_sg S' g) i (g 33) (L + g 33) k = some d := by
  intro n
  induction n with
  | zero => intro L k h; omega
  | succ n ih =>
    intro L k hn k0 k7 hL hL0 hL2
    have hs := hGB.2.1
    rw [zS_dueAfter_24, zM_dueAfter_18]
    simp only [fd_lt]
    obtain ⟨P, p1, p2, p3⟩ := m_below (t := L + g 33) hfu hR hG hB hGB hK h0 h1 hL (by grind)
    have hm := m_ms_up (N := 8) (x := k) (by grind)
    rw [if_neg (by grind), p1, p2, zM_bd5]
    simp only [Option.bind_some]
    by_cases c7 : 7 ≤ k
    · rw [if_pos c7]
      refine ⟨L + g 33, ?_, rfl⟩
      by_cases cP : P < g 37
      · rw [if_pos cP, if_neg (by decide)]
      · rw [if_neg cP, if_pos rfl]
        obtain ⟨n, rfl⟩ : ∃ n', n = n' + 1 := ⟨n - 1, by omega⟩
        rw [zS_dueAfter_24, if_pos (by grind)]
    · rw [if_neg c7]
      by_cases cP : P < g 37
      · rw [if_pos cP, if_pos cP, if_neg (by decide)]
        exact ⟨_, rfl, rfl⟩
      · rw [if_neg cP, if_neg cP, if_pos rfl]
        exact ih (L + g 33) (k + 1) (by omega) (by grind) (by grind) (by grind) (by grind) (by grind)
theorem m_divle {x y : Int32} (hx : 0 ≤ x) (hy : 1 ≤ y) (hx2 : x ≤ 1000000) (hy2 : y ≤ 1000000) : 0 ≤ x / y * y ∧ x / y * y ≤ x ∧ x < x / y * y + y ∧ 0 ≤ x / y ∧ x / y ≤ x := by
  obtain ⟨a, ha, rfl⟩ := m_nat (x := x) (M := 1000000) hx hx2 (by decide)
  obtain ⟨b, hb, rfl⟩ := m_nat (x := y) (M := 1000000) (by grind) hy2 (by decide)
  have hb1 : 1 ≤ b := by
    rw [show (1 : Int32) = nI 1 from rfl, nI_leI (by decide) (by omega)] at hy
    exact hy
  have h1 : a / b * b ≤ a := Nat.div_mul_le_self a b
  have h2 : a < a / b * b + b := by
    have := Nat.lt_div_mul_add (a := a) (b := b) (by omega)
    omega
  have h3 : a / b ≤ a := Nat.div_le_self _ _
  rw [pk_div (by omega) (by omega) (by omega), pk_mul]
  exact ⟨nI_pos' (by omega), nI_le h1 (by omega), by rw [nI_add]; exact nI_lt h2 (by omega), nI_pos' (by omega), nI_le h3 (by omega)⟩
theorem m_due {fu : Nat} {S S' : fd_S} {g : Int32 → Int32} {i t : Int32} (hfu : 10000 ≤ fu) (hR : m_R S g) (hG : m_GR g) (hB : m_B S g) (hGB : m_GB g) (hK : m_K S') (h0 : 0 ≤ i) (h1 : i < g 64) (ht0 : 0 ≤ t) (ht : g (zM_at i 2) ≤ t) (ht2 : t ≤ 500000) :
    ∃ d, zS_dueAfter fu S (m_rw S i) t = some d ∧ zM_dueAfter fu (fd_sg S' g) i t = some d := by
  unfold zS_dueAfter zM_dueAfter
  have hs := hGB.2.1
  have hmx : fd_max (S 2 1) 1 = g 33 := by
    unfold fd_max
    rw [hB.e1]
    grind
  simp only [fd_lt, hmx, zM_bd1, Option.bind_some]
  rw [if_pos (by grind), if_pos (by grind)]
  have hd := m_divle (x := t) (y := g 33) ht0 hs.1 (by grind) (by grind)
  have e : t - fd_rem t (g 33) = t / g 33 * g 33 := by
    unfold fd_rem
    grind
  rw [e]
  exact m_due_loop hfu hR hG hB hGB hK h0 h1 fu _ 0 (m_ms_fu (by decide) (by decide) hfu) (by decide) (by decide) (by grind) (by grind) (by grind)
end
section
/-! ===== causes ===== -/
theorem m_hasCause_loop {fu : Nat} {S : fd_S} {g : Int32 → Int32} {i x : Int32} (hR : m_R S g) (hG : m_GR g) (h0 : 0 ≤ i) (h1 : i < g 64) :
    ∀ (n : Nat) (k : Int32), m_ms 4 k < n → 0 ≤ k → k ≤ g (zM_at i 5) → (∀ j, 0 ≤ j → j < k → ¬ g (zM_at i (6 + j)) = x) →
      ∃ b, zR_hasCause_2 fu n S (m_rw S i) x k = some b ∧ ((b = 0 ∧ ∀ j, 0 ≤ j → j < g (zM_at i 5) → ¬ g (zM_at i (6 + j)) = x) ∨ (b = 1 ∧ ∃ j, 0 ≤ j ∧ j < g (zM_at i 5) ∧ g (zM_at i (6 + j)) = x)) := by
  have h6 : i < 6 := by have := hR.2.2.1; grind
  have hk := hR.1.rk h0 h6
  have hv := hR.2.2.2.1 i h0 h1
  have hg := hG.1 i h0 h1
  unfold m_cV at hv
  intro n
  induction n with
  | zero => intro k h; omega
  | succ n ih =>
    intro k hn k0 k1 hno
    rw [zR_hasCause_2, if_pos hk, hv.2.2.2.2.2]
    by_cases c1 : g (zM_at i 5) ≤ k
    · rw [if_pos c1]
      have : k = g (zM_at i 5) := by grind
      exact ⟨0, rfl, Or.inl ⟨rfl, fun j j0 j1 => hno j j0 (by grind)⟩⟩
    · rw [if_neg c1, if_pos ⟨k0, by grind⟩]
      have hc := hR.2.2.2.2 i k h0 h1 k0 (by grind) (by grind)
      unfold m_cK at hc
      rw [hc]
      by_cases c2 : g (zM_at i (6 + k)) = x
      · rw [if_pos c2]
        exact ⟨1, rfl, Or.inr ⟨rfl, k, k0, by grind, c2⟩⟩
      · rw [if_neg c2]
        have hm := m_ms_up (N := 4) (x := k) (by grind)
        refine ih (k + 1) (by omega) (by grind) (by grind) (fun j j0 j1 => ?_)
        by_cases hj : j = k
        · rw [hj]; exact c2
        · exact hno j j0 (by grind)
def m_hc (g : Int32 → Int32) (i x b : Int32) : Prop := (b = 0 ∧ ∀ j, 0 ≤ j → j < g (zM_at i 5) → ¬ g (zM_at i (6 + j)) = x) ∨ (b = 1 ∧ ∃ j, 0 ≤ j ∧ j < g (zM_at i 5) ∧ g (zM_at i (6 + j)) = x)
theorem m_hc_uniq {g : Int32 → Int32} {i x b b' : Int32} (h : m_hc g i x b) (h' : m_hc g i x b') : b = b' := by
  rcases h with ⟨e, h⟩ | ⟨e, j, j0, j1, h⟩ <;> rcases h' with ⟨e', h'⟩ | ⟨e', j', j0', j1', h'⟩
  · rw [e, e']
  · exact absurd h' (h j' j0' j1')
  · exact absurd h (h' j j0 j1)
  · rw [e, e']
theorem m_isCounted_loop {fu : Nat} {S : fd_S} {g : Int32 → Int32} {i x : Int32} (hcc : 0 ≤ g (zM_at i 5) ∧ g (zM_at i 5) ≤ 4) (h0 : 0 ≤ i) (h6 : i < 6) :
    ∀ (n : Nat) (b k : Int32), m_ms 4 k < n → 0 ≤ k → k ≤ g (zM_at i 5) → ((b = 0 ∧ ∀ j, 0 ≤ j → j < k → ¬ g (zM_at i (6 + j)) = x) ∨ (b = 1 ∧ ∃ j, 0 ≤ j ∧ j < g (zM_at i 5) ∧ g (zM_at i (6 + j)) = x)) →
      ∃ b', zM_isCounted_5 fu n (fd_sg S g) i x b k = some b' ∧ m_hc g i x b' := by
  intro n
  induction n with
  | zero => intro b k h; omega
  | succ n ih =>
    intro b k hn k0 k1 hb
    rw [zM_isCounted_5]
    simp only [sg_78, fd_lt]
    rw [if_pos (m_at_in h0 h6 (by decide) (by decide))]
    by_cases c1 : g (zM_at i 5) ≤ k
    · rw [if_pos c1]
      have hk : k = g (zM_at i 5) := by grind
      rw [if_pos (by rcases hb with h | h; exact Or.inl h.1; exact Or.inr h.1)]
      refine ⟨b, rfl, ?_⟩
      rcases hb with ⟨e, h⟩ | h
      · exact Or.inl ⟨e, fun j j0 j1 => h j j0 (by grind)⟩
      · exact Or.inr h
    · rw [if_neg c1]
      have hm := m_ms_up (N := 4) (x := k) (by grind)
      rcases hb with ⟨e, h⟩ | ⟨e, h⟩
      · rw [if_pos e, if_pos (m_at_in h0 h6 (by grind) (by grind))]
        by_cases c2 : g (zM_at i (6 + k)) = x
        · rw [if_pos c2]
          exact ih 1 (k + 1) (by omega) (by grind) (by grind) (Or.inr ⟨rfl, k, k0, by grind, c2⟩)
        · rw [if_neg c2]
          refine ih 0 (k + 1) (by omega) (by grind) (by grind) (Or.inl ⟨rfl, fun j j0 j1 => ?_⟩)
          by_cases hj : j = k
          · rw [hj]; exact c2
          · exact h j j0 (by grind)
      · rw [if_neg (by rw [e]; decide)]
        exact ih 1 (k + 1) (by omega) (by grind) (by grind) (Or.inr ⟨rfl, h⟩)
theorem m_hasCause {fu : Nat} {S S' : fd_S} {g : Int32 → Int32} {i x : Int32} (hfu : 10000 ≤ fu) (hR : m_R S g) (hG : m_GR g) (h0 : 0 ≤ i) (h1 : i < g 64) :
    ∃ b, zR_hasCause fu S (m_rw S i) x = some b ∧ zM_isCounted fu (fd_sg S' g) i x = some b ∧ (b = 0 ∨ b = 1) := by
  have h6 : i < 6 := by have := hR.2.2.1; grind
  have hg := hG.1 i h0 h1
  obtain ⟨b, b1, b2⟩ := m_hasCause_loop (fu := fu) (x := x) hR hG h0 h1 fu 0 (m_ms_fu (by decide) (by decide) hfu) (by decide) hg.2.2.2.2.1 (fun j j0 j1 => by grind)
  obtain ⟨b', b1', b2'⟩ := m_isCounted_loop (fu := fu) (S := S') (x := x) hg.2.2.2.2 h0 h6 fu 0 0 (m_ms_fu (by decide) (by decide) hfu) (by decide) hg.2.2.2.2.1 (Or.inl ⟨rfl, fun j j0 j1 => by grind⟩)
  have := m_hc_uniq b2 b2'
  subst this
  exact ⟨b, b1, b1', by rcases b2 with h | h; exact Or.inl h.1; exact Or.inr h.1⟩
/-! how the component's views move -/
theorem m_rw_up {S : fd_S} {k : Nat} {j v : Int32} (h : k ≠ 4) (i : Int32) : m_rw (fd_up S k j v) i = m_rw S i := by
  unfold m_rw
  rw [fd_up_ne (Ne.symm h)]
theorem m_rows_up {S : fd_S} {k : Nat} {j v : Int32} (h : k ≠ 4) (hr : m_rows S) : m_rows (fd_up S k j v) := by
  unfold m_rows
  rw [fd_up_ne (Ne.symm h)]
  exact hr
theorem m_rw_cp {S : fd_S} {k k' : Nat} {a b c : Int32} (h : k' ≠ 4) (i : Int32) : m_rw (fd_cp S k k' a b c) i = m_rw S i := by
  unfold m_rw fd_cp
  rw [if_neg (Ne.symm h)]
theorem m_rows_cp {S : fd_S} {k k' : Nat} {a b c : Int32} (h : k' ≠ 4) (hr : m_rows S) : m_rows (fd_cp S k k' a b c) := by
  unfold m_rows fd_cp
  simp only [if_neg (Ne.symm h)]
  exact hr
/-- a field of the i-th record is written on both sides -/
theorem m_R_fld {S : fd_S} {g : Int32 → Int32} {i v : Int32} (hR : m_R S g) (h0 : 0 ≤ i) (h1 : i < g 64) (f : Int32) (hf : 0 ≤ f ∧ f ≤ 4) : m_R (fd_up S (m_rw S i) f v) (m_gu g (zM_at i f) v) := by
  have h6 : i < 6 := by have := hR.2.2.1; grind
  obtain ⟨hrow, h31, h64, hV, hC⟩ := hR
  have hrg := hrow.rg h0 h6
  have hat := m_at_rg h0 h6 hf.1 (show f < 10 by grind)
  have e64 : m_gu g (zM_at i f) v 64 = g 64 := by unfold m_gu; grind
  have hne : m_rw S i ≠ 4 := by omega
  refine ⟨m_rows_up hne hrow, ?_, ?_, ?_, ?_⟩
  · rw [e64, ← h31]
    unfold fd_up
    rw [if_neg (by omega)]
  · rw [e64]; exact h64
  · intro j j0 j1
    rw [e64] at j1
    have j6 : j < 6 := by grind
    have hv := hV j j0 j1
    have key : ∀ q q' : Int32, 0 ≤ q → q < 10 → (j = i → q = f → q' = f) → (j = i → q' = f → q = f) → m_cV S j q' = g (zM_at j q) → m_cV (fd_up S (m_rw S i) f v) j q' = m_gu g (zM_at i f) v (zM_at j q) := by
      intro q q' q0 q1 e1 e2 hq
      unfold m_cV at hq ⊢
      rw [m_rw_up hne]
      unfold fd_up m_gu
      by_cases hj : m_rw S j = m_rw S i
      · have := hrow.inj j0 j6 h0 h6 hj
        subst this
        rw [if_pos rfl]
        by_cases hqf : q' = f
        · have := e2 rfl hqf
          rw [if_pos hqf, if_pos (by rw [this])]
        · rw [if_neg hqf, if_neg (fun z => hqf (e1 rfl (m_at_inj j0 j6 q0 q1 h0 h6 hf.1 (by grind) z).2)), hq]
      · rw [if_neg hj, if_neg (fun z => hj (by rw [(m_at_inj j0 j6 q0 q1 h0 h6 hf.1 (by grind) z).1])), hq]
    exact ⟨key 0 0 (by decide) (by decide) (fun _ h => h) (fun _ h => h) hv.1, key 1 1 (by decide) (by decide) (fun _ h => h) (fun _ h => h) hv.2.1, key 2 2 (by decide) (by decide) (fun _ h => h) (fun _ h => h) hv.2.2.1, key 3 3 (by decide) (by decide) (fun _ h => h) (fun _ h => h) hv.2.2.2.1, key 4 4 (by decide) (by decide) (fun _ h => h) (fun _ h => h) hv.2.2.2.2.1, key 5 6 (by decide) (by decide) (fun _ h => by grind) (fun _ h => by grind) hv.2.2.2.2.2⟩
  · intro j q j0 j1 q0 hq4 q1
    rw [e64] at j1
    have j6 : j < 6 := by grind
    have e5 : m_gu g (zM_at i f) v (zM_at j 5) = g (zM_at j 5) := by
      unfold m_gu
      rw [if_neg (fun z => by have := (m_at_inj j0 j6 (by decide) (by decide) h0 h6 hf.1 (by grind) z).2; grind)]
    rw [e5] at q1
    have hc := hC j q j0 j1 q0 hq4 q1
    have hrj := hrow.rg j0 j6
    unfold m_cK at hc ⊢
    rw [m_rw_up hne, fd_up_ne (by omega), hc]
    unfold m_gu
    rw [if_neg (fun z => by have := (m_at_inj j0 j6 (show (0:Int32) ≤ 6 + q by grind) (by grind) h0 h6 hf.1 (by grind) z).2; grind)]
/-- the records' laws stay when a field takes a fitting number -/
theorem m_GR_fld {g : Int32 → Int32} {i f v : Int32} (h64 : 0 ≤ g 64 ∧ g 64 ≤ 6) (hG : m_GR g) (h0 : 0 ≤ i) (h1 : i < g 64) (hf : 0 ≤ f ∧ f < 10) (hfr : f ≠ 0) (hv : (f = 1 → 0 ≤ v ∧ v ≤ 20000) ∧ (f = 2 → 0 ≤ v ∧ v ≤ g 63) ∧ (f = 3 → v = 0 ∨ v = 1) ∧ (f = 5 → 0 ≤ v ∧ v ≤ 4)) : m_GR (m_gu g (zM_at i f) v) := by
  have h6 : i < 6 := by grind
  have hat := m_at_rg h0 h6 hf.1 hf.2
  have e64 : m_gu g (zM_at i f) v 64 = g 64 := by unfold m_gu; grind
  have e63 : m_gu g (zM_at i f) v 63 = g 63 := by unfold m_gu; grind
  have key : ∀ j q : Int32, 0 ≤ j → j < g 64 → 0 ≤ q → q < 10 → m_gu g (zM_at i f) v (zM_at j q) = if j = i ∧ q = f then v else g (zM_at j q) := by
    intro j q j0 j1 q0 q1
    unfold m_gu
    by_cases hj : zM_at j q = zM_at i f
    · have := m_at_inj j0 (by grind) q0 q1 h0 h6 hf.1 hf.2 hj
      rw [if_pos hj, if_pos this]
    · rw [if_neg hj, if_neg (by rintro ⟨a, b⟩; exact hj (by rw [a, b]))]
  refine ⟨fun j j0 j1 => ?_, fun j k j0 j1 k0 k1 => ?_⟩
  · rw [e64] at j1
    have hj := hG.1 j j0 j1
    rw [key j 0 j0 j1 (by decide) (by decide), key j 1 j0 j1 (by decide) (by decide), key j 2 j0 j1 (by decide) (by decide), key j 3 j0 j1 (by decide) (by decide), key j 5 j0 j1 (by decide) (by decide), e63]
    obtain ⟨v1, v2, v3, v5⟩ := hv
    refine ⟨?_, ?_, ?_, ?_, ?_⟩
    · rw [if_neg (by grind)]; exact hj.1
    · split
      · next h => exact v1 h.2.symm
      · exact hj.2.1
    · split
      · next h => exact v2 h.2.symm
      · exact hj.2.2.1
    · split
      · next h => exact v3 h.2.symm
      · exact hj.2.2.2.1
    · split
      · next h => exact v5 h.2.symm
      · exact hj.2.2.2.2
  · rw [e64] at j1 k1
    rw [key j 0 j0 j1 (by decide) (by decide), key k 0 k0 k1 (by decide) (by decide), if_neg (by grind), if_neg (by grind)]
    exact hG.2 j k j0 j1 k0 k1
end
section
/-! ===== a record takes other contents ===== -/
def m_Fc (S S1 : fd_S) : Prop := ∀ k : Nat, (k < 3 ∨ (5 ≤ k ∧ k < 8) ∨ 20 ≤ k) → S1 k = S k
def m_Fg (g g1 : Int32 → Int32) : Prop := ∀ j : Int32, (j < 64 ∨ (65 ≤ j ∧ j < 68) ∨ (69 ≤ j ∧ j < 71) ∨ 131 ≤ j) → g1 j = g j
theorem m_R_rep {S S1 : fd_S} {g g1 : Int32 → Int32} {i : Int32} (hR : m_R S g) (h0 : 0 ≤ i) (h1 : i < g 64) (e4 : S1 4 = S 4) (e3 : S1 3 1 = S 3 1) (e64 : g1 64 = g 64)
    (hg : ∀ j f : Int32, 0 ≤ j → j < g 64 → j ≠ i → 0 ≤ f → f < 10 → g1 (zM_at j f) = g (zM_at j f))
    (hS : ∀ k : Nat, 8 ≤ k → k < 20 → k ≠ m_rw S i → k ≠ m_rw S i + 6 → S1 k = S k)
    (hi : S1 (m_rw S i) 0 = g1 (zM_at i 0) ∧ S1 (m_rw S i) 1 = g1 (zM_at i 1) ∧ S1 (m_rw S i) 2 = g1 (zM_at i 2) ∧ S1 (m_rw S i) 3 = g1 (zM_at i 3) ∧ S1 (m_rw S i) 4 = g1 (zM_at i 4) ∧ S1 (m_rw S i) 6 = g1 (zM_at i 5))
    (hc : ∀ q : Int32, 0 ≤ q → q < 4 → q < g1 (zM_at i 5) → S1 (m_rw S i + 6) q = g1 (zM_at i (6 + q))) : m_R S1 g1 := by
  obtain ⟨hrow, h31, h64, hV, hC⟩ := hR
  have h6 : i < 6 := by (simp only [ne_eq, i_lt, i_le, i_eq, i_add, i_sub, i_neg, i_mul, Int32.reduceToInt] at *; omega)
  have erw : ∀ j, m_rw S1 j = m_rw S j := fun j => by unfold m_rw; rw [e4]
  have hrow1 : m_rows S1 := by unfold m_rows; rw [e4]; exact hrow
  have hri := hrow.rg h0 h6
  refine ⟨hrow1, by rw [e3, e64, h31], by rw [e64]; exact h64, ?_, ?_⟩
  · intro j j0 j1
    rw [e64] at j1
    unfold m_cV
    rw [erw]
    by_cases hj : j = i
    · rw [hj]; exact hi
    · have j6 : j < 6 := by (simp only [ne_eq, i_lt, i_le, i_eq, i_add, i_sub, i_neg, i_mul, Int32.reduceToInt] at *; omega)
      have hrj := hrow.rg j0 j6
      have hne : m_rw S j ≠ m_rw S i := fun z => hj (hrow.inj j0 j6 h0 h6 z)
      have hv := hV j j0 j1
      unfold m_cV at hv
      rw [hS _ (by omega) (by omega) hne (by omega), hg j 0 j0 j1 hj (by decide) (by decide), hg j 1 j0 j1 hj (by decide) (by decide), hg j 2 j0 j1 hj (by decide) (by decide), hg j 3 j0 j1 hj (by decide) (by decide), hg j 4 j0 j1 hj (by decide) (by decide), hg j 5 j0 j1 hj (by decide) (by decide)]
      exact hv
  · intro j q j0 j1 q0 q4 q1
    rw [e64] at j1
    unfold m_cK
    rw [erw]
    by_cases hj : j = i
    · subst hj; exact hc q q0 q4 q1
    · have j6 : j < 6 := by (simp only [ne_eq, i_lt, i_le, i_eq, i_add, i_sub, i_neg, i_mul, Int32.reduceToInt] at *; omega)
      have hrj := hrow.rg j0 j6
      have hne : m_rw S j ≠ m_rw S i := fun z => hj (hrow.inj j0 j6 h0 h6 z)
      rw [hg j 5 j0 j1 hj (by decide) (by decide)] at q1
      have hcq := hC j q j0 j1 q0 q4 q1
      unfold m_cK at hcq
      rw [hS _ (by omega) (by omega) (by omega) (by omega), hg j _ j0 j1 hj (by (simp only [ne_eq, i_lt, i_le, i_eq, i_add, i_sub, i_neg, i_mul, Int32.reduceToInt] at *; omega)) (by (simp only [ne_eq, i_lt, i_le, i_eq, i_add, i_sub, i_neg, i_mul, Int32.reduceToInt] at *; omega))]
      exact hcq
theorem m_GR_rep {g g1 : Int32 → Int32} (hG : m_GR g) (e64 : g1 64 = g 64) (e63 : g1 63 = g 63) (hf : ∀ j f : Int32, 0 ≤ j → j < g 64 → 0 ≤ f → f < 4 → g1 (zM_at j f) = g (zM_at j f)) (hc : ∀ j : Int32, 0 ≤ j → j < g 64 → 0 ≤ g1 (zM_at j 5) ∧ g1 (zM_at j 5) ≤ 4) : m_GR g1 := by
  refine ⟨fun j j0 j1 => ?_, fun j k j0 j1 k0 k1 => ?_⟩
  · rw [e64] at j1
    have hj := hG.1 j j0 j1
    rw [hf j 0 j0 j1 (by decide) (by decide), hf j 1 j0 j1 (by decide) (by decide), hf j 2 j0 j1 (by decide) (by decide), hf j 3 j0 j1 (by decide) (by decide), e63]
    exact ⟨hj.1, hj.2.1, hj.2.2.1, hj.2.2.2.1, hc j j0 j1⟩
  · rw [e64] at j1 k1
    rw [hf j 0 j0 j1 (by decide) (by decide), hf k 0 k0 k1 (by decide) (by decide)]
    exact hG.2 j k j0 j1 k0 k1
theorem m_ac16 {fu : Nat} {S : fd_S} {g : Int32 → Int32} {i x : Int32} (h0 : 0 ≤ i) (h6 : i < 6) (n : Nat) : zM_addCause_16 fu (n + 4) (fd_sg S g) i x 1 = zM_addCause_64 fu (fd_sg S (m_gu (m_gu (m_gu (m_gu g (zM_at i 6) (g (zM_at i 7))) (zM_at i 7) (g (zM_at i 8))) (zM_at i 8) (g (zM_at i 9))) (zM_at i 5) 3)) i x := by
  have a : ∀ f : Int32, 0 ≤ f → f < 10 → 0 ≤ zM_at i f ∧ zM_at i f < 275 := fun f f0 f1 => m_at_in h0 h6 f0 f1
  rw [zM_addCause_16, if_neg (by decide), if_pos (a _ (by decide) (by decide)), if_pos (a _ (by decide) (by decide))]
  simp only [fd_lt, sg_78, sg_up]
  rw [zM_addCause_16, if_neg (by decide), if_pos (a _ (by decide) (by decide)), if_pos (a _ (by decide) (by decide))]
  simp only [fd_lt, sg_78, sg_up]
  rw [zM_addCause_16, if_neg (by decide), if_pos (a _ (by decide) (by decide)), if_pos (a _ (by decide) (by decide))]
  simp only [fd_lt, sg_78, sg_up]
  rw [zM_addCause_16, if_pos (by decide), if_pos (a _ (by decide) (by decide))]
  simp only [fd_lt, sg_78, sg_up]
  congr 2
  have e1 : (5 : Int32) + 1 = 6 := by decide
  have e2 : (5 : Int32) + 1 + 1 = 7 := by decide
  have e3 : (5 : Int32) + (1 + 1) = 7 := by decide
  have e4 : (5 : Int32) + (1 + 1) + 1 = 8 := by decide
  have e5 : (5 : Int32) + (1 + 1 + 1) = 8 := by decide
  have e6 : (5 : Int32) + (1 + 1 + 1) + 1 = 9 := by decide
  rw [e2, e4, e6, e1, e3, e5]
  have u1 : m_gu g (zM_at i 6) (g (zM_at i 7)) (zM_at i 8) = g (zM_at i 8) := by
    unfold m_gu
    rw [if_neg (fun z => by have := (m_at_inj h0 h6 (by decide) (by decide) h0 h6 (by decide) (by decide) z).2; revert this; decide)]
  have u2 : m_gu (m_gu g (zM_at i 6) (g (zM_at i 7))) (zM_at i 7) (g (zM_at i 8)) (zM_at i 9) = g (zM_at i 9) := by
    unfold m_gu
    rw [if_neg (fun z => by have := (m_at_inj h0 h6 (by decide) (by decide) h0 h6 (by decide) (by decide) z).2; revert this; decide), if_neg (fun z => by have := (m_at_inj h0 h6 (by decide) (by decide) h0 h6 (by decide) (by decide) z).2; revert this; decide)]
  rw [u1, u2]
theorem m_gu_at {g : Int32 → Int32} {i f j q v : Int32} (h0 : 0 ≤ i) (h6 : i < 6) (f0 : 0 ≤ f) (f1 : f < 10) (j0 : 0 ≤ j) (j6 : j < 6) (q0 : 0 ≤ q) (q1 : q < 10) : m_gu g (zM_at i f) v (zM_at j q) = if j = i ∧ q = f then v else g (zM_at j q) := by
  unfold m_gu
  by_cases hj : zM_at j q = zM_at i f
  · rw [if_pos hj, if_pos (m_at_inj j0 j6 q0 q1 h0 h6 f0 f1 hj)]
  · rw [if_neg hj, if_neg (by rintro ⟨a, b⟩; exact hj (by rw [a, b]))]
theorem m_gu_out {g : Int32 → Int32} {i f v j : Int32} (h0 : 0 ≤ i) (h6 : i < 6) (f0 : 0 ≤ f) (f1 : f < 10) (hj : j < 71 ∨ 131 ≤ j) : m_gu g (zM_at i f) v j = g j := by
  have := m_at_rg h0 h6 f0 f1
  unfold m_gu
  rw [if_neg (by (simp only [ne_eq, i_lt, i_le, i_eq, i_add, i_sub, i_neg, i_mul, Int32.reduceToInt] at *; omega))]
theorem m_ac64 {fu : Nat} {S : fd_S} {g : Int32 → Int32} {i x : Int32} (h0 : 0 ≤ i) (h6 : i < 6) (hc : 0 ≤ g (zM_at i 5) ∧ g (zM_at i 5) < 4) : zM_addCause_64 fu (fd_sg S g) i x = some (fd_sg S (m_gu (m_gu g (zM_at i 5) (g (zM_at i 5) + 1)) (zM_at i (6 + g (zM_at i 5))) x)) := by
  have a : ∀ f : Int32, 0 ≤ f → f < 10 → 0 ≤ zM_at i f ∧ zM_at i f < 275 := fun f f0 f1 => m_at_in h0 h6 f0 f1
  unfold zM_addCause_64
  rw [if_pos (a _ (by decide) (by decide)), if_pos (a _ (by decide) (by decide))]
  simp only [fd_lt, sg_78, sg_up]
  have e : m_gu g (zM_at i 5) (g (zM_at i 5) + 1) (zM_at i 5) = g (zM_at i 5) + 1 := by unfold m_gu; rw [if_pos rfl]
  rw [if_pos (a _ (by decide) (by decide)), e, show (5 : Int32) + (g (zM_at i 5) + 1) = 6 + g (zM_at i 5) by (simp only [ne_eq, i_lt, i_le, i_eq, i_add, i_sub, i_neg, i_mul, Int32.reduceToInt] at *; omega), if_pos (a _ (by (simp only [ne_eq, i_lt, i_le, i_eq, i_add, i_sub, i_neg, i_mul, Int32.reduceToInt] at *; omega)) (by (simp only [ne_eq, i_lt, i_le, i_eq, i_add, i_sub, i_neg, i_mul, Int32.reduceToInt] at *; omega)))]
theorem m_addCause {fu : Nat} {S S' : fd_S} {g : Int32 → Int32} {i x : Int32} (hfu : 10000 ≤ fu) (hR : m_R S g) (hG : m_GR g) (h0 : 0 ≤ i) (h1 : i < g 64) :
    ∃ S1 g1, zR_addCause S (m_rw S i) x = some S1 ∧ zM_addCause fu (fd_sg S' g) i x = some (fd_sg S' g1) ∧ m_R S1 g1 ∧ m_GR g1 ∧ (∀ k : Nat, (k < 8 ∨ 20 ≤ k) → S1 k = S k) ∧ (∀ j : Int32, (j < 71 ∨ 131 ≤ j) → g1 j = g j) ∧ (∀ j f : Int32, 0 ≤ j → j < g 64 → 0 ≤ f → f < 5 → g1 (zM_at j f) = g (zM_at j f)) := by
  have h6 : i < 6 := by have := hR.2.2.1; grind
  have hg := hG.1 i h0 h1
  have hrg := hR.1.rg h0 h6
  have hv := hR.2.2.2.1 i h0 h1
  unfold m_cV at hv
  have a : ∀ f : Int32, 0 ≤ f → f < 10 → 0 ≤ zM_at i f ∧ zM_at i f < 275 := fun f f0 f1 => m_at_in h0 h6 f0 f1
  have h64 := hR.2.2.1
  have hC := hR.2.2.2.2 i
  unfold zR_addCause zM_addCause
  rw [if_pos (hR.1.rk h0 h6), if_pos (a _ (by decide) (by decide)), sg_78, hv.2.2.2.2.2]
  by_cases c4 : g (zM_at i 5) = 4
  · rw [if_pos c4, if_pos (by rw [c4]; decide)]
    obtain ⟨n, hn⟩ : ∃ n, fu = n + 4 := ⟨fu - 4, by omega⟩
    have e16 := m_ac16 (fu := fu) (S := S') (g := g) (x := x) h0 h6 n
    rw [← hn] at e16
    generalize hg3 : m_gu (m_gu (m_gu (m_gu g (zM_at i 6) (g (zM_at i 7))) (zM_at i 7) (g (zM_at i 8))) (zM_at i 8) (g (zM_at i 9))) (zM_at i 5) 3 = g3 at e16
    have k3 : ∀ j q : Int32, 0 ≤ j → j < 6 → 0 ≤ q → q < 10 → g3 (zM_at j q) = if j = i ∧ q = 5 then 3 else if j = i ∧ q = 8 then g (zM_at i 9) else if j = i ∧ q = 7 then g (zM_at i 8) else if j = i ∧ q = 6 then g (zM_at i 7) else g (zM_at j q) := by
      intro j q j0 j6 q0 q1
      rw [← hg3, m_gu_at h0 h6 (by decide) (by decide) j0 j6 q0 q1, m_gu_at h0 h6 (by decide) (by decide) j0 j6 q0 q1, m_gu_at h0 h6 (by decide) (by decide) j0 j6 q0 q1, m_gu_at h0 h6 (by decide) (by decide) j0 j6 q0 q1]
    have o3 : ∀ j : Int32, j < 71 ∨ 131 ≤ j → g3 j = g j := by
      intro j hj
      rw [← hg3, m_gu_out h0 h6 (by decide) (by decide) hj, m_gu_out h0 h6 (by decide) (by decide) hj, m_gu_out h0 h6 (by decide) (by decide) hj, m_gu_out h0 h6 (by decide) (by decide) hj]
    have k35 : g3 (zM_at i 5) = 3 := by rw [k3 i 5 h0 h6 (by decide) (by decide), if_pos ⟨rfl, rfl⟩]
    have e64 := m_ac64 (fu := fu) (S := S') (g := g3) (x := x) h0 h6 (by rw [k35]; decide)
    rw [k35] at e64
    rw [e16, e64]
    simp only [fd_lt]
    refine ⟨_, _, rfl, rfl, ?_, ?_, ?_, ?_, ?_⟩
    · refine m_R_rep hR h0 h1 ?_ ?_ ?_ ?_ ?_ ?_ ?_
      · rw [fd_up_ne (by omega)]
        funext b
        unfold fd_cp
        rw [if_neg (by omega)]
      · rw [fd_up_ne (by omega)]
        unfold fd_cp
        rw [if_neg (by omega)]
      · rw [m_gu_out h0 h6 (by decide) (by decide) (by decide), m_gu_out h0 h6 (by decide) (by decide) (by decide), o3 _ (by decide)]
      · intro j f j0 j1 hj f0 f1
        rw [m_gu_at h0 h6 (by decide) (by decide) j0 (by (simp only [ne_eq, i_lt, i_le, i_eq, i_add, i_sub, i_neg, i_mul, Int32.reduceToInt] at *; omega)) f0 f1, if_neg (fun z => hj z.1), m_gu_at h0 h6 (by decide) (by decide) j0 (by (simp only [ne_eq, i_lt, i_le, i_eq, i_add, i_sub, i_neg, i_mul, Int32.reduceToInt] at *; omega)) f0 f1, if_neg (fun z => hj z.1), k3 j f j0 (by (simp only [ne_eq, i_lt, i_le, i_eq, i_add, i_sub, i_neg, i_mul, Int32.reduceToInt] at *; omega)) f0 f1, if_neg (fun z => hj z.1), if_neg (fun z => hj z.1), if_neg (fun z => hj z.1), if_neg (fun z => hj z.1)]
      · intro k k8 k20 hk1 hk2
        rw [fd_up_ne hk2]
        funext b
        unfold fd_cp
        rw [if_neg hk2]
      · have f1 : ∀ f : Int32, fd_up (fd_cp S (m_rw S i + 6) (m_rw S i + 6) 1 0 3) (m_rw S i + 6) 3 x (m_rw S i) f = S (m_rw S i) f := by
          intro f
          rw [fd_up_ne (by omega)]
          unfold fd_cp
          rw [if_neg (by omega)]
        have g4 : ∀ f : Int32, 0 ≤ f → f < 5 → m_gu (m_gu g3 (zM_at i 5) (3 + 1)) (zM_at i (6 + 3)) x (zM_at i f) = g (zM_at i f) := by
          intro f f0 f1
          rw [m_gu_at h0 h6 (by decide) (by decide) h0 h6 f0 (by (simp only [ne_eq, i_lt, i_le, i_eq, i_add, i_sub, i_neg, i_mul, Int32.reduceToInt] at *; omega)), if_neg (by (simp only [ne_eq, i_lt, i_le, i_eq, i_add, i_sub, i_neg, i_mul, Int32.reduceToInt] at *; omega)), m_gu_at h0 h6 (by decide) (by decide) h0 h6 f0 (by (simp only [ne_eq, i_lt, i_le, i_eq, i_add, i_sub, i_neg, i_mul, Int32.reduceToInt] at *; omega)), if_neg (by (simp only [ne_eq, i_lt, i_le, i_eq, i_add, i_sub, i_neg, i_mul, Int32.reduceToInt] at *; omega)), k3 i f h0 h6 f0 (by (simp only [ne_eq, i_lt, i_le, i_eq, i_add, i_sub, i_neg, i_mul, Int32.reduceToInt] at *; omega)), if_neg (by (simp only [ne_eq, i_lt, i_le, i_eq, i_add, i_sub, i_neg, i_mul, Int32.reduceToInt] at *; omega)), if_neg (by (simp only [ne_eq, i_lt, i_le, i_eq, i_add, i_sub, i_neg, i_mul, Int32.reduceToInt] at *; omega)), if_neg (by (simp only [ne_eq, i_lt, i_le, i_eq, i_add, i_sub, i_neg, i_mul, Int32.reduceToInt] at *; omega)), if_neg (by (simp only [ne_eq, i_lt, i_le, i_eq, i_add, i_sub, i_neg, i_mul, Int32.reduceToInt] at *; omega))]
        rw [f1, f1, f1, f1, f1, f1, g4 0 (by decide) (by decide), g4 1 (by decide) (by decide), g4 2 (by decide) (by decide), g4 3 (by decide) (by decide), g4 4 (by decide) (by decide)]
        refine ⟨hv.1, hv.2.1, hv.2.2.1, hv.2.2.2.1, hv.2.2.2.2.1, ?_⟩
        rw [hv.2.2.2.2.2, m_gu_at h0 h6 (by decide) (by decide) h0 h6 (by decide) (by decide), if_neg (by (simp only [ne_eq, i_lt, i_le, i_eq, i_add, i_sub, i_neg, i_mul, Int32.reduceToInt] at *; omega)), m_gu_at h0 h6 (by decide) (by decide) h0 h6 (by decide) (by decide), if_pos ⟨rfl, rfl⟩, c4]
        rfl
      · intro q q0 q4 _
        have hC2 := hC (q + 1) h0 h1
        unfold m_cK at hC2
        have hq : q = 0 ∨ q = 1 ∨ q = 2 ∨ q = 3 := by (simp only [ne_eq, i_lt, i_le, i_eq, i_add, i_sub, i_neg, i_mul, Int32.reduceToInt] at *; omega)
        have n5 : ∀ f : Int32, 6 ≤ f → f < 9 → m_gu (m_gu g3 (zM_at i 5) (3 + 1)) (zM_at i (6 + 3)) x (zM_at i f) = g (zM_at i (f + 1)) := by
          intro f f0 f1
          rw [m_gu_at h0 h6 (by decide) (by decide) h0 h6 (by (simp only [ne_eq, i_lt, i_le, i_eq, i_add, i_sub, i_neg, i_mul, Int32.reduceToInt] at *; omega)) (by (simp only [ne_eq, i_lt, i_le, i_eq, i_add, i_sub, i_neg, i_mul, Int32.reduceToInt] at *; omega)), if_neg (by (simp only [ne_eq, i_lt, i_le, i_eq, i_add, i_sub, i_neg, i_mul, Int32.reduceToInt] at *; omega)), m_gu_at h0 h6 (by decide) (by decide) h0 h6 (by (simp only [ne_eq, i_lt, i_le, i_eq, i_add, i_sub, i_neg, i_mul, Int32.reduceToInt] at *; omega)) (by (simp only [ne_eq, i_lt, i_le, i_eq, i_add, i_sub, i_neg, i_mul, Int32.reduceToInt] at *; omega)), if_neg (by (simp only [ne_eq, i_lt, i_le, i_eq, i_add, i_sub, i_neg, i_mul, Int32.reduceToInt] at *; omega)), k3 i f h0 h6 (by (simp only [ne_eq, i_lt, i_le, i_eq, i_add, i_sub, i_neg, i_mul, Int32.reduceToInt] at *; omega)) (by (simp only [ne_eq, i_lt, i_le, i_eq, i_add, i_sub, i_neg, i_mul, Int32.reduceToInt] at *; omega))]
          have : f = 6 ∨ f = 7 ∨ f = 8 := by (simp only [ne_eq, i_lt, i_le, i_eq, i_add, i_sub, i_neg, i_mul, Int32.reduceToInt] at *; omega)
          rcases this with rfl | rfl | rfl <;> simp <;> rfl
        rcases Int32.lt_or_le q 3 with c3 | c3
        · rw [n5 (6 + q) (by (simp only [ne_eq, i_lt, i_le, i_eq, i_add, i_sub, i_neg, i_mul, Int32.reduceToInt] at *; omega)) (by (simp only [ne_eq, i_lt, i_le, i_eq, i_add, i_sub, i_neg, i_mul, Int32.reduceToInt] at *; omega))]
          unfold fd_up fd_cp
          rw [if_pos rfl, if_neg (by (simp only [ne_eq, i_lt, i_le, i_eq, i_add, i_sub, i_neg, i_mul, Int32.reduceToInt] at *; omega)), if_pos rfl, if_pos (by (simp only [ne_eq, i_lt, i_le, i_eq, i_add, i_sub, i_neg, i_mul, Int32.reduceToInt] at *; omega))]
          rw [show (1 : Int32) + (q - 0) = q + 1 by (simp only [ne_eq, i_lt, i_le, i_eq, i_add, i_sub, i_neg, i_mul, Int32.reduceToInt] at *; omega), hC2 (by (simp only [ne_eq, i_lt, i_le, i_eq, i_add, i_sub, i_neg, i_mul, Int32.reduceToInt] at *; omega)) (by (simp only [ne_eq, i_lt, i_le, i_eq, i_add, i_sub, i_neg, i_mul, Int32.reduceToInt] at *; omega)) (by (simp only [ne_eq, i_lt, i_le, i_eq, i_add, i_sub, i_neg, i_mul, Int32.reduceToInt] at *; omega))]
          congr 2
          (simp only [ne_eq, i_lt, i_le, i_eq, i_add, i_sub, i_neg, i_mul, Int32.reduceToInt] at *; omega)
        · have : q = 3 := by (simp only [ne_eq, i_lt, i_le, i_eq, i_add, i_sub, i_neg, i_mul, Int32.reduceToInt] at *; omega)
          subst this
          unfold fd_up m_gu
          rw [if_pos rfl, if_pos rfl, if_pos rfl]
    · refine m_GR_rep hG ?_ ?_ ?_ ?_
      · rw [m_gu_out h0 h6 (by decide) (by decide) (by decide), m_gu_out h0 h6 (by decide) (by decide) (by decide), o3 _ (by decide)]
      · rw [m_gu_out h0 h6 (by decide) (by decide) (by decide), m_gu_out h0 h6 (by decide) (by decide) (by decide), o3 _ (by decide)]
      · intro j f j0 j1 f0 f1
        rw [m_gu_at h0 h6 (by decide) (by decide) j0 (by (simp only [ne_eq, i_lt, i_le, i_eq, i_add, i_sub, i_neg, i_mul, Int32.reduceToInt] at *; omega)) f0 (by (simp only [ne_eq, i_lt, i_le, i_eq, i_add, i_sub, i_neg, i_mul, Int32.reduceToInt] at *; omega)), if_neg (by (simp only [ne_eq, i_lt, i_le, i_eq, i_add, i_sub, i_neg, i_mul, Int32.reduceToInt] at *; omega)), m_gu_at h0 h6 (by decide) (by decide) j0 (by (simp only [ne_eq, i_lt, i_le, i_eq, i_add, i_sub, i_neg, i_mul, Int32.reduceToInt] at *; omega)) f0 (by (simp only [ne_eq, i_lt, i_le, i_eq, i_add, i_sub, i_neg, i_mul, Int32.reduceToInt] at *; omega)), if_neg (by (simp only [ne_eq, i_lt, i_le, i_eq, i_add, i_sub, i_neg, i_mul, Int32.reduceToInt] at *; omega)), k3 j f j0 (by (simp only [ne_eq, i_lt, i_le, i_eq, i_add, i_sub, i_neg, i_mul, Int32.reduceToInt] at *; omega)) f0 (by (simp only [ne_eq, i_lt, i_le, i_eq, i_add, i_sub, i_neg, i_mul, Int32.reduceToInt] at *; omega)), if_neg (by (simp only [ne_eq, i_lt, i_le, i_eq, i_add, i_sub, i_neg, i_mul, Int32.reduceToInt] at *; omega)), if_neg (by (simp only [ne_eq, i_lt, i_le, i_eq, i_add, i_sub, i_neg, i_mul, Int32.reduceToInt] at *; omega)), if_neg (by (simp only [ne_eq, i_lt, i_le, i_eq, i_add, i_sub, i_neg, i_mul, Int32.reduceToInt] at *; omega)), if_neg (by (simp only [ne_eq, i_lt, i_le, i_eq, i_add, i_sub, i_neg, i_mul, Int32.reduceToInt] at *; omega))]
      · intro j j0 j1
        have := (hG.1 j j0 j1).2.2.2.2
        rw [m_gu_at h0 h6 (by decide) (by decide) j0 (by (simp only [ne_eq, i_lt, i_le, i_eq, i_add, i_sub, i_neg, i_mul, Int32.reduceToInt] at *; omega)) (by decide) (by decide), if_neg (by (simp only [ne_eq, i_lt, i_le, i_eq, i_add, i_sub, i_neg, i_mul, Int32.reduceToInt] at *; omega)), m_gu_at h0 h6 (by decide) (by decide) j0 (by (simp only [ne_eq, i_lt, i_le, i_eq, i_add, i_sub, i_neg, i_mul, Int32.reduceToInt] at *; omega)) (by decide) (by decide), k3 j 5 j0 (by (simp only [ne_eq, i_lt, i_le, i_eq, i_add, i_sub, i_neg, i_mul, Int32.reduceToInt] at *; omega)) (by decide) (by decide)]
        (repeat' split) <;> (simp only [ne_eq, i_lt, i_le, i_eq, i_add, i_sub, i_neg, i_mul, Int32.reduceToInt] at *; omega)
    · intro k hk
      rw [fd_up_ne (by omega)]
      funext b
      unfold fd_cp
      rw [if_neg (by omega)]
    · intro j hj
      rw [m_gu_out h0 h6 (by decide) (by decide) hj, m_gu_out h0 h6 (by decide) (by decide) hj, o3 _ hj]
    · intro j f j0 j1 f0 f1
      have j6 : j < 6 := by clear hR hG hC k3 o3; (simp only [ne_eq, i_lt, i_le, i_eq, i_add, i_sub, i_neg, i_mul, Int32.reduceToInt] at *; omega)
      have f9 : f < 10 := by clear hR hG hC k3 o3; (simp only [ne_eq, i_lt, i_le, i_eq, i_add, i_sub, i_neg, i_mul, Int32.reduceToInt] at *; omega)
      have n9 : ¬ (j = i ∧ f = 6 + 3) := by clear hR hG hC k3 o3; (simp only [ne_eq, i_lt, i_le, i_eq, i_add, i_sub, i_neg, i_mul, Int32.reduceToInt] at *; omega)
      have n5 : ¬ (j = i ∧ f = 5) := by clear hR hG hC k3 o3; (simp only [ne_eq, i_lt, i_le, i_eq, i_add, i_sub, i_neg, i_mul, Int32.reduceToInt] at *; omega)
      have n8 : ¬ (j = i ∧ f = 8) := by clear hR hG hC k3 o3; (simp only [ne_eq, i_lt, i_le, i_eq, i_add, i_sub, i_neg, i_mul, Int32.reduceToInt] at *; omega)
      have n7 : ¬ (j = i ∧ f = 7) := by clear hR hG hC k3 o3; (simp only [ne_eq, i_lt, i_le, i_eq, i_add, i_sub, i_neg, i_mul, Int32.reduceToInt] at *; omega)
      have n6 : ¬ (j = i ∧ f = 6) := by clear hR hG hC k3 o3; (simp only [ne_eq, i_lt, i_le, i_eq, i_add, i_sub, i_neg, i_mul, Int32.reduceToInt] at *; omega)
      rw [m_gu_at h0 h6 (by decide) (by decide) j0 j6 f0 f9, if_neg n9, m_gu_at h0 h6 (by decide) (by decide) j0 j6 f0 f9, if_neg n5, k3 j f j0 j6 f0 f9, if_neg n5, if_neg n8, if_neg n7, if_neg n6]
  · have hcc : 0 ≤ g (zM_at i 5) ∧ g (zM_at i 5) < 4 := by have := hg.2.2.2.2; grind
    rw [if_neg c4, if_neg (by (simp only [ne_eq, i_lt, i_le, i_eq, i_add, i_sub, i_neg, i_mul, Int32.reduceToInt] at *; omega)), if_pos hcc, m_ac64 h0 h6 hcc]
    simp only [fd_lt]
    have es : fd_up S (m_rw S i + 6) (g (zM_at i 5)) x (m_rw S i) 6 = g (zM_at i 5) := by
      rw [fd_up_ne (by omega)]; exact hv.2.2.2.2.2
    rw [es]
    refine ⟨_, _, rfl, rfl, ?_, ?_, ?_, ?_, ?_⟩
    · refine m_R_rep hR h0 h1 ?_ ?_ ?_ ?_ ?_ ?_ ?_
      · rw [fd_up_ne (by omega), fd_up_ne (by omega)]
      · rw [fd_up_ne (by omega), fd_up_ne (by omega)]
      · rw [m_gu_out h0 h6 (by (simp only [ne_eq, i_lt, i_le, i_eq, i_add, i_sub, i_neg, i_mul, Int32.reduceToInt] at *; omega)) (by (simp only [ne_eq, i_lt, i_le, i_eq, i_add, i_sub, i_neg, i_mul, Int32.reduceToInt] at *; omega)) (by decide), m_gu_out h0 h6 (by decide) (by decide) (by decide)]
      · intro j f j0 j1 hj f0 f1
        rw [m_gu_at h0 h6 (by (simp only [ne_eq, i_lt, i_le, i_eq, i_add, i_sub, i_neg, i_mul, Int32.reduceToInt] at *; omega)) (by (simp only [ne_eq, i_lt, i_le, i_eq, i_add, i_sub, i_neg, i_mul, Int32.reduceToInt] at *; omega)) j0 (by (simp only [ne_eq, i_lt, i_le, i_eq, i_add, i_sub, i_neg, i_mul, Int32.reduceToInt] at *; omega)) f0 f1, if_neg (fun z => hj z.1), m_gu_at h0 h6 (by decide) (by decide) j0 (by (simp only [ne_eq, i_lt, i_le, i_eq, i_add, i_sub, i_neg, i_mul, Int32.reduceToInt] at *; omega)) f0 f1, if_neg (fun z => hj z.1)]
      · intro k k8 k20 hk1 hk2
        rw [fd_up_ne hk1, fd_up_ne hk2]
      · have f1 : ∀ f : Int32, f ≠ 6 → fd_up (fd_up S (m_rw S i + 6) (g (zM_at i 5)) x) (m_rw S i) 6 (g (zM_at i 5) + 1) (m_rw S i) f = S (m_rw S i) f := by
          intro f hf
          unfold fd_up
          rw [if_pos rfl, if_neg hf, if_neg (by omega)]
        have g4 : ∀ f : Int32, 0 ≤ f → f < 5 → m_gu (m_gu g (zM_at i 5) (g (zM_at i 5) + 1)) (zM_at i (6 + g (zM_at i 5))) x (zM_at i f) = g (zM_at i f) := by
          intro f f0 f1
          rw [m_gu_at h0 h6 (by (simp only [ne_eq, i_lt, i_le, i_eq, i_add, i_sub, i_neg, i_mul, Int32.reduceToInt] at *; omega)) (by (simp only [ne_eq, i_lt, i_le, i_eq, i_add, i_sub, i_neg, i_mul, Int32.reduceToInt] at *; omega)) h0 h6 f0 (by (simp only [ne_eq, i_lt, i_le, i_eq, i_add, i_sub, i_neg, i_mul, Int32.reduceToInt] at *; omega)), if_neg (by (simp only [ne_eq, i_lt, i_le, i_eq, i_add, i_sub, i_neg, i_mul, Int32.reduceToInt] at *; omega)), m_gu_at h0 h6 (by decide) (by decide) h0 h6 f0 (by (simp only [ne_eq, i_lt, i_le, i_eq, i_add, i_sub, i_neg, i_mul, Int32.reduceToInt] at *; omega)), if_neg (by (simp only [ne_eq, i_lt, i_le, i_eq, i_add, i_sub, i_neg, i_mul, Int32.reduceToInt] at *; omega))]
        rw [f1 0 (by decide), f1 1 (by decide), f1 2 (by decide), f1 3 (by decide), f1 4 (by decide), g4 0 (by decide) (by decide), g4 1 (by decide) (by decide), g4 2 (by decide) (by decide), g4 3 (by decide) (by decide), g4 4 (by decide) (by decide)]
        refine ⟨hv.1, hv.2.1, hv.2.2.1, hv.2.2.2.1, hv.2.2.2.2.1, ?_⟩
        rw [m_gu_at h0 h6 (by (simp only [ne_eq, i_lt, i_le, i_eq, i_add, i_sub, i_neg, i_mul, Int32.reduceToInt] at *; omega)) (by (simp only [ne_eq, i_lt, i_le, i_eq, i_add, i_sub, i_neg, i_mul, Int32.reduceToInt] at *; omega)) h0 h6 (by decide) (by decide), if_neg (by (simp only [ne_eq, i_lt, i_le, i_eq, i_add, i_sub, i_neg, i_mul, Int32.reduceToInt] at *; omega)), m_gu_at h0 h6 (by decide) (by decide) h0 h6 (by decide) (by decide), if_pos ⟨rfl, rfl⟩]
        unfold fd_up
        rw [if_pos rfl, if_pos rfl]
      · intro q q0 q4 q1
        have hC2 := hC q h0 h1 q0 q4
        unfold m_cK at hC2
        rw [m_gu_at h0 h6 (by (simp only [ne_eq, i_lt, i_le, i_eq, i_add, i_sub, i_neg, i_mul, Int32.reduceToInt] at *; omega)) (by (simp only [ne_eq, i_lt, i_le, i_eq, i_add, i_sub, i_neg, i_mul, Int32.reduceToInt] at *; omega)) h0 h6 (by decide) (by decide), if_neg (by (simp only [ne_eq, i_lt, i_le, i_eq, i_add, i_sub, i_neg, i_mul, Int32.reduceToInt] at *; omega)), m_gu_at h0 h6 (by decide) (by decide) h0 h6 (by decide) (by decide), if_pos ⟨rfl, rfl⟩] at q1
        rw [m_gu_at h0 h6 (by (simp only [ne_eq, i_lt, i_le, i_eq, i_add, i_sub, i_neg, i_mul, Int32.reduceToInt] at *; omega)) (by (simp only [ne_eq, i_lt, i_le, i_eq, i_add, i_sub, i_neg, i_mul, Int32.reduceToInt] at *; omega)) h0 h6 (by (simp only [ne_eq, i_lt, i_le, i_eq, i_add, i_sub, i_neg, i_mul, Int32.reduceToInt] at *; omega)) (by (simp only [ne_eq, i_lt, i_le, i_eq, i_add, i_sub, i_neg, i_mul, Int32.reduceToInt] at *; omega)), m_gu_at h0 h6 (by decide) (by decide) h0 h6 (by (simp only [ne_eq, i_lt, i_le, i_eq, i_add, i_sub, i_neg, i_mul, Int32.reduceToInt] at *; omega)) (by (simp only [ne_eq, i_lt, i_le, i_eq, i_add, i_sub, i_neg, i_mul, Int32.reduceToInt] at *; omega)), if_neg (by (simp only [ne_eq, i_lt, i_le, i_eq, i_add, i_sub, i_neg, i_mul, Int32.reduceToInt] at *; omega) : ¬ (i = i ∧ 6 + q = 5)), fd_up_ne (by omega)]
        unfold fd_up
        rw [if_pos rfl]
        by_cases hq : q = g (zM_at i 5)
        · rw [if_pos hq, if_pos ⟨rfl, by rw [hq]⟩]
        · rw [if_neg hq, if_neg (by (simp only [ne_eq, i_lt, i_le, i_eq, i_add, i_sub, i_neg, i_mul, Int32.reduceToInt] at *; omega)), hC2 (by (simp only [ne_eq, i_lt, i_le, i_eq, i_add, i_sub, i_neg, i_mul, Int32.reduceToInt] at *; omega))]
    · refine m_GR_rep hG ?_ ?_ ?_ ?_
      · rw [m_gu_out h0 h6 (by (simp only [ne_eq, i_lt, i_le, i_eq, i_add, i_sub, i_neg, i_mul, Int32.reduceToInt] at *; omega)) (by (simp only [ne_eq, i_lt, i_le, i_eq, i_add, i_sub, i_neg, i_mul, Int32.reduceToInt] at *; omega)) (by decide), m_gu_out h0 h6 (by decide) (by decide) (by decide)]
      · rw [m_gu_out h0 h6 (by (simp only [ne_eq, i_lt, i_le, i_eq, i_add, i_sub, i_neg, i_mul, Int32.reduceToInt] at *; omega)) (by (simp only [ne_eq, i_lt, i_le, i_eq, i_add, i_sub, i_neg, i_mul, Int32.reduceToInt] at *; omega)) (by decide), m_gu_out h0 h6 (by decide) (by decide) (by decide)]
      · intro j f j0 j1 f0 f1
        rw [m_gu_at h0 h6 (by (simp only [ne_eq, i_lt, i_le, i_eq, i_add, i_sub, i_neg, i_mul, Int32.reduceToInt] at *; omega)) (by (simp only [ne_eq, i_lt, i_le, i_eq, i_add, i_sub, i_neg, i_mul, Int32.reduceToInt] at *; omega)) j0 (by (simp only [ne_eq, i_lt, i_le, i_eq, i_add, i_sub, i_neg, i_mul, Int32.reduceToInt] at *; omega)) f0 (by (simp only [ne_eq, i_lt, i_le, i_eq, i_add, i_sub, i_neg, i_mul, Int32.reduceToInt] at *; omega)), if_neg (by (simp only [ne_eq, i_lt, i_le, i_eq, i_add, i_sub, i_neg, i_mul, Int32.reduceToInt] at *; omega)), m_gu_at h0 h6 (by decide) (by decide) j0 (by (simp only [ne_eq, i_lt, i_le, i_eq, i_add, i_sub, i_neg, i_mul, Int32.reduceToInt] at *; omega)) f0 (by (simp only [ne_eq, i_lt, i_le, i_eq, i_add, i_sub, i_neg, i_mul, Int32.reduceToInt] at *; omega)), if_neg (by (simp only [ne_eq, i_lt, i_le, i_eq, i_add, i_sub, i_neg, i_mul, Int32.reduceToInt] at *; omega))]
      · intro j j0 j1
        have := (hG.1 j j0 j1).2.2.2.2
        rw [m_gu_at h0 h6 (by (simp only [ne_eq, i_lt, i_le, i_eq, i_add, i_sub, i_neg, i_mul, Int32.reduceToInt] at *; omega)) (by (simp only [ne_eq, i_lt, i_le, i_eq, i_add, i_sub, i_neg, i_mul, Int32.reduceToInt] at *; omega)) j0 (by (simp only [ne_eq, i_lt, i_le, i_eq, i_add, i_sub, i_neg, i_mul, Int32.reduceToInt] at *; omega)) (by decide) (by decide), if_neg (by (simp only [ne_eq, i_lt, i_le, i_eq, i_add, i_sub, i_neg, i_mul, Int32.reduceToInt] at *; omega)), m_gu_at h0 h6 (by decide) (by decide) j0 (by (simp only [ne_eq, i_lt, i_le, i_eq, i_add, i_sub, i_neg, i_mul, Int32.reduceToInt] at *; omega)) (by decide) (by decide)]
        (repeat' split) <;> (simp only [ne_eq, i_lt, i_le, i_eq, i_add, i_sub, i_neg, i_mul, Int32.reduceToInt] at *; omega)
    · intro k hk
      rw [fd_up_ne (by omega), fd_up_ne (by omega)]
    · intro j hj
      rw [m_gu_out h0 h6 (by (simp only [ne_eq, i_lt, i_le, i_eq, i_add, i_sub, i_neg, i_mul, Int32.reduceToInt] at *; omega)) (by (simp only [ne_eq, i_lt, i_le, i_eq, i_add, i_sub, i_neg, i_mul, Int32.reduceToInt] at *; omega)) hj, m_gu_out h0 h6 (by decide) (by decide) hj]
    · intro j f j0 j1 f0 f1
      have j6 : j < 6 := by clear hR hG hC; (simp only [ne_eq, i_lt, i_le, i_eq, i_add, i_sub, i_neg, i_mul, Int32.reduceToInt] at *; omega)
      have f9 : f < 10 := by clear hR hG hC; (simp only [ne_eq, i_lt, i_le, i_eq, i_add, i_sub, i_neg, i_mul, Int32.reduceToInt] at *; omega)
      have n9 : ¬ (j = i ∧ f = 6 + g (zM_at i 5)) := by clear hR hG hC; (simp only [ne_eq, i_lt, i_le, i_eq, i_add, i_sub, i_neg, i_mul, Int32.reduceToInt] at *; omega)
      have n5 : ¬ (j = i ∧ f = 5) := by clear hR hG hC; (simp only [ne_eq, i_lt, i_le, i_eq, i_add, i_sub, i_neg, i_mul, Int32.reduceToInt] at *; omega)
      have c1 : 0 ≤ 6 + g (zM_at i 5) ∧ 6 + g (zM_at i 5) < 10 := by clear hR hG hC; (simp only [ne_eq, i_lt, i_le, i_eq, i_add, i_sub, i_neg, i_mul, Int32.reduceToInt] at *; omega)
      rw [m_gu_at h0 h6 c1.1 c1.2 j0 j6 f0 f9, if_neg n9, m_gu_at h0 h6 (by decide) (by decide) j0 j6 f0 f9, if_neg n5]
end
section
/-! ===== plain arithmetic of places ===== -/
theorem m_at_nI (a c : Nat) : zM_at (nI a) (nI c) = nI (71 + 10 * a + c) := by
  unfold zM_at
  rw [show (71 : Int32) = nI 71 from rfl, show (10 : Int32) = nI 10 from rfl, pk_mul, nI_add, nI_add]
theorem m_at_lt {i f i' f' : Int32} (h0 : 0 ≤ i) (h6 : i' ≤ 6) (h : i < i') (f0 : 0 ≤ f) (f1 : f < 10) (g0 : 0 ≤ f') (g1 : f' < 10) : zM_at i f < zM_at i' f' := by
  obtain ⟨a, ha, rfl⟩ := m_nat (x := i) (M := 6) h0 (show i ≤ (6 : Int32) by (simp only [ne_eq, i_lt, i_le, i_eq, i_add, i_sub, i_neg, i_mul, Int32.reduceToInt] at *; omega)) (by decide)
  obtain ⟨b, hb, rfl⟩ := m_nat (x := i') (M := 6) (by (simp only [ne_eq, i_lt, i_le, i_eq, i_add, i_sub, i_neg, i_mul, Int32.reduceToInt] at *; omega)) h6 (by decide)
  obtain ⟨c, hc, rfl⟩ := m_nat (x := f) (M := 9) f0 (show f ≤ (9 : Int32) by (simp only [ne_eq, i_lt, i_le, i_eq, i_add, i_sub, i_neg, i_mul, Int32.reduceToInt] at *; omega)) (by decide)
  obtain ⟨d, hd, rfl⟩ := m_nat (x := f') (M := 9) g0 (show f' ≤ (9 : Int32) by (simp only [ne_eq, i_lt, i_le, i_eq, i_add, i_sub, i_neg, i_mul, Int32.reduceToInt] at *; omega)) (by decide)
  rw [nI_ltI (by omega) (by omega)] at h
  rw [m_at_nI, m_at_nI, nI_ltI (by omega) (by omega)]
  omega
theorem m_at_le {i f : Int32} (h0 : 0 ≤ i) (h6 : i ≤ 6) (f0 : 0 ≤ f) (f1 : f < 10) : zM_at i 0 ≤ zM_at i f := by
  obtain ⟨a, ha, rfl⟩ := m_nat (x := i) (M := 6) h0 h6 (by decide)
  obtain ⟨c, hc, rfl⟩ := m_nat (x := f) (M := 9) f0 (show f ≤ (9 : Int32) by (simp only [ne_eq, i_lt, i_le, i_eq, i_add, i_sub, i_neg, i_mul, Int32.reduceToInt] at *; omega)) (by decide)
  rw [show (0 : Int32) = nI 0 from rfl, m_at_nI, m_at_nI, nI_leI (by omega) (by omega)]
  omega
theorem m_at_s (i f : Int32) : zM_at i f + 10 = zM_at (i + 1) f := by
  unfold zM_at
  grind
theorem m_at_b {i : Int32} (h0 : 0 ≤ i) (h6 : i ≤ 6) : 71 ≤ zM_at i 0 ∧ zM_at i 0 ≤ 131 := by
  obtain ⟨a, ha, rfl⟩ := m_nat (x := i) (M := 6) h0 h6 (by decide)
  rw [show (0 : Int32) = nI 0 from rfl, m_at_nI, show (71 : Int32) = nI 71 from rfl, show (131 : Int32) = nI 131 from rfl, nI_leI (by omega) (by omega), nI_leI (by omega) (by omega)]
  omega
theorem fd_up_at (S : fd_S) (k : Nat) (j v b : Int32) : fd_up S k j v k b = if b = j then v else S k b := by
  unfold fd_up
  rw [if_pos rfl]
/-! ===== a record goes ===== -/
def m_sh (g : Int32 → Int32) (x N : Int32) : Int32 → Int32 := fun j => if x ≤ j ∧ j < N then g (j + 10) else g j
theorem m_remove_loop {fu : Nat} {S : fd_S} : ∀ (n : Nat) (g : Int32 → Int32) (x : Int32), m_ms (zM_at (g 64) 0) x < n → 0 ≤ g 64 → g 64 ≤ 5 → 71 ≤ x → zM_remove_28 fu n (fd_sg S g) x = some (fd_sg S (m_sh g x (zM_at (g 64) 0))) := by
  intro n
  induction n with
  | zero => intro g x h; omega
  | succ n ih =>
    intro g x hn h0 h5 hx
    have hN := m_at_b h0 (show g 64 ≤ 6 by (simp only [ne_eq, i_lt, i_le, i_eq, i_add, i_sub, i_neg, i_mul, Int32.reduceToInt] at *; omega))
    rw [zM_remove_28]
    simp only [sg_78, fd_lt, sg_up]
    by_cases c1 : zM_at (g 64) 0 ≤ x
    · rw [if_pos c1]
      congr 2
      funext j
      unfold m_sh
      rw [if_neg (by (simp only [ne_eq, i_lt, i_le, i_eq, i_add, i_sub, i_neg, i_mul, Int32.reduceToInt] at *; omega))]
    · rw [if_neg c1, if_pos (by (simp only [ne_eq, i_lt, i_le, i_eq, i_add, i_sub, i_neg, i_mul, Int32.reduceToInt] at *; omega)), if_pos (by (simp only [ne_eq, i_lt, i_le, i_eq, i_add, i_sub, i_neg, i_mul, Int32.reduceToInt] at *; omega))]
      have hm := m_ms_up c1
      have e64 : m_gu g x (g (x + 10)) 64 = g 64 := by unfold m_gu; rw [if_neg (by (simp only [ne_eq, i_lt, i_le, i_eq, i_add, i_sub, i_neg, i_mul, Int32.reduceToInt] at *; omega))]
      rw [ih (m_gu g x (g (x + 10))) (x + 1) (by rw [e64]; omega) (by rw [e64]; exact h0) (by rw [e64]; exact h5) (by (simp only [ne_eq, i_lt, i_le, i_eq, i_add, i_sub, i_neg, i_mul, Int32.reduceToInt] at *; omega)), e64]
      congr 2
      funext j
      unfold m_sh m_gu
      by_cases hj : x + 1 ≤ j ∧ j < zM_at (g 64) 0
      · rw [if_pos hj, if_neg (by (simp only [ne_eq, i_lt, i_le, i_eq, i_add, i_sub, i_neg, i_mul, Int32.reduceToInt] at *; omega)), if_pos (by (simp only [ne_eq, i_lt, i_le, i_eq, i_add, i_sub, i_neg, i_mul, Int32.reduceToInt] at *; omega))]
      · rw [if_neg hj]
        by_cases hjx : j = x
        · rw [if_pos hjx, if_pos (by (simp only [ne_eq, i_lt, i_le, i_eq, i_add, i_sub, i_neg, i_mul, Int32.reduceToInt] at *; omega)), hjx]
        · rw [if_neg hjx, if_neg (by (simp only [ne_eq, i_lt, i_le, i_eq, i_add, i_sub, i_neg, i_mul, Int32.reduceToInt] at *; omega))]
def m_rm (g : Int32 → Int32) (r : Int32) : Int32 → Int32 := m_sh (m_gu (m_gu g 64 (g 64 - 1)) 68 (g 68 + 1)) (zM_at r 0) (zM_at (g 64 - 1) 0)
theorem zM_remove_eq {fu : Nat} {S : fd_S} {g : Int32 → Int32} {r : Int32} (hfu : 10000 ≤ fu) (h64 : 1 ≤ g 64 ∧ g 64 ≤ 6) (hr : 0 ≤ r ∧ r < 6) : zM_remove fu (fd_sg S g) r = some (fd_sg S (m_rm g r)) := by
  unfold zM_remove
  simp only [fd_lt, sg_78, sg_up]
  have e68 : m_gu g 64 (g 64 - 1) 68 = g 68 := by unfold m_gu; rw [if_neg (by decide)]
  have e64 : m_gu (m_gu g 64 (g 64 - 1)) 68 (g 68 + 1) 64 = g 64 - 1 := by unfold m_gu; rw [if_neg (by decide), if_pos rfl]
  have hx : 71 ≤ zM_at r 0 := (m_at_rg hr.1 hr.2 (by decide) (by decide)).1
  have hN : zM_at (g 64 - 1) 0 ≤ 6000 := by have := (m_at_b (i := g 64 - 1) (by (simp only [ne_eq, i_lt, i_le, i_eq, i_add, i_sub, i_neg, i_mul, Int32.reduceToInt] at *; omega)) (by (simp only [ne_eq, i_lt, i_le, i_eq, i_add, i_sub, i_neg, i_mul, Int32.reduceToInt] at *; omega))).2; (simp only [ne_eq, i_lt, i_le, i_eq, i_add, i_sub, i_neg, i_mul, Int32.reduceToInt] at *; omega)
  rw [e68, m_remove_loop fu _ _ (by rw [e64]; exact m_ms_fu (by (simp only [ne_eq, i_lt, i_le, i_eq, i_add, i_sub, i_neg, i_mul, Int32.reduceToInt] at *; omega)) hN hfu) (by rw [e64]; (simp only [ne_eq, i_lt, i_le, i_eq, i_add, i_sub, i_neg, i_mul, Int32.reduceToInt] at *; omega)) (by rw [e64]; (simp only [ne_eq, i_lt, i_le, i_eq, i_add, i_sub, i_neg, i_mul, Int32.reduceToInt] at *; omega)) hx, e64]
  rfl
theorem m_rm_out {g : Int32 → Int32} {r j : Int32} (h64 : 1 ≤ g 64 ∧ g 64 ≤ 6) (hr : 0 ≤ r ∧ r < 6) (hj : j < 71 ∨ 131 ≤ j) (h1 : j ≠ 64) (h2 : j ≠ 68) : m_rm g r j = g j := by
  have hx : 71 ≤ zM_at r 0 := (m_at_rg hr.1 hr.2 (by decide) (by decide)).1
  have hN := (m_at_b (i := g 64 - 1) (by (simp only [ne_eq, i_lt, i_le, i_eq, i_add, i_sub, i_neg, i_mul, Int32.reduceToInt] at *; omega)) (by (simp only [ne_eq, i_lt, i_le, i_eq, i_add, i_sub, i_neg, i_mul, Int32.reduceToInt] at *; omega))).2
  unfold m_rm m_sh m_gu
  rw [if_neg (by (simp only [ne_eq, i_lt, i_le, i_eq, i_add, i_sub, i_neg, i_mul, Int32.reduceToInt] at *; omega)), if_neg h2, if_neg h1]
theorem m_rm_64 {g : Int32 → Int32} {r : Int32} (hr : 0 ≤ r ∧ r < 6) : m_rm g r 64 = g 64 - 1 := by
  have hx : 71 ≤ zM_at r 0 := (m_at_rg hr.1 hr.2 (by decide) (by decide)).1
  unfold m_rm m_sh m_gu
  rw [if_neg (by (simp only [ne_eq, i_lt, i_le, i_eq, i_add, i_sub, i_neg, i_mul, Int32.reduceToInt] at *; omega)), if_neg (by decide), if_pos rfl]
theorem m_rm_68 {g : Int32 → Int32} {r : Int32} (hr : 0 ≤ r ∧ r < 6) : m_rm g r 68 = g 68 + 1 := by
  have hx : 71 ≤ zM_at r 0 := (m_at_rg hr.1 hr.2 (by decide) (by decide)).1
  unfold m_rm m_sh m_gu
  rw [if_neg (by (simp only [ne_eq, i_lt, i_le, i_eq, i_add, i_sub, i_neg, i_mul, Int32.reduceToInt] at *; omega)), if_pos rfl]
theorem m_rm_at {g : Int32 → Int32} {r j f : Int32} (h64 : 1 ≤ g 64 ∧ g 64 ≤ 6) (hr : 0 ≤ r ∧ r < 6) (j0 : 0 ≤ j) (j1 : j < g 64 - 1) (f0 : 0 ≤ f) (f1 : f < 10) : m_rm g r (zM_at j f) = if j < r then g (zM_at j f) else g (zM_at (j + 1) f) := by
  have j6 : j < 5 := by (simp only [ne_eq, i_lt, i_le, i_eq, i_add, i_sub, i_neg, i_mul, Int32.reduceToInt] at *; omega)
  have hat := m_at_rg j0 (show j < 6 by (simp only [ne_eq, i_lt, i_le, i_eq, i_add, i_sub, i_neg, i_mul, Int32.reduceToInt] at *; omega)) f0 f1
  have hat2 := m_at_rg (show (0 : Int32) ≤ j + 1 by (simp only [ne_eq, i_lt, i_le, i_eq, i_add, i_sub, i_neg, i_mul, Int32.reduceToInt] at *; omega)) (show j + 1 < 6 by (simp only [ne_eq, i_lt, i_le, i_eq, i_add, i_sub, i_neg, i_mul, Int32.reduceToInt] at *; omega)) f0 f1
  have n1 := m_at_lt (i := j) (i' := g 64 - 1) (f' := 0) j0 (by (simp only [ne_eq, i_lt, i_le, i_eq, i_add, i_sub, i_neg, i_mul, Int32.reduceToInt] at *; omega)) j1 f0 f1 (by decide) (by decide)
  unfold m_rm m_sh m_gu
  by_cases c : j < r
  · have n2 := m_at_lt (f' := 0) j0 (Int32.le_of_lt hr.2) c f0 f1 (by decide) (by decide)
    rw [if_pos c, if_neg (fun z => by have := z.1; (simp only [ne_eq, i_lt, i_le, i_eq, i_add, i_sub, i_neg, i_mul, Int32.reduceToInt] at *; omega)), if_neg (by (simp only [ne_eq, i_lt, i_le, i_eq, i_add, i_sub, i_neg, i_mul, Int32.reduceToInt] at *; omega)), if_neg (by (simp only [ne_eq, i_lt, i_le, i_eq, i_add, i_sub, i_neg, i_mul, Int32.reduceToInt] at *; omega))]
  · have n2 : zM_at r 0 ≤ zM_at j f := by
      have h1 := m_at_le j0 (show j ≤ 6 by (simp only [ne_eq, i_lt, i_le, i_eq, i_add, i_sub, i_neg, i_mul, Int32.reduceToInt] at *; omega)) f0 f1
      rcases Int32.lt_or_le r j with h | h
      · have := m_at_lt (i := r) (i' := j) (f := 0) (f' := f) hr.1 (by (simp only [ne_eq, i_lt, i_le, i_eq, i_add, i_sub, i_neg, i_mul, Int32.reduceToInt] at *; omega)) h (by decide) (by decide) f0 f1
        exact Int32.le_of_lt this
      · have : r = j := by (simp only [ne_eq, i_lt, i_le, i_eq, i_add, i_sub, i_neg, i_mul, Int32.reduceToInt] at *; omega)
        rw [this]; exact h1
    rw [if_neg c, if_pos ⟨n2, n1⟩, m_at_s, if_neg (by (simp only [ne_eq, i_lt, i_le, i_eq, i_add, i_sub, i_neg, i_mul, Int32.reduceToInt] at *; omega)), if_neg (by (simp only [ne_eq, i_lt, i_le, i_eq, i_add, i_sub, i_neg, i_mul, Int32.reduceToInt] at *; omega))]
theorem m_nIcl {v : Int32} (h : 0 ≤ v) : nI (8 + v.toNatClampNeg - 8) = v := by
  rw [Nat.add_sub_cancel_left]
  have := fd_ix_of h
  unfold fd_ix at this
  have h1 : v.toNatClampNeg < 2147483648 := by
    have := Int32.toInt_lt v
    unfold Int32.toNatClampNeg
    omega
  rw [if_pos h1] at this
  exact this
theorem m_drop_loop {fu : Nat} {n v : Int32} (hn : 1 ≤ n ∧ n ≤ 6) (hv : 0 ≤ v ∧ v < 6) : ∀ (m : Nat) (S : fd_S) (x : Int32), m_ms (n - 1) x < m → S 3 1 = n → (∀ i : Int32, 0 ≤ i → i < 6 → 0 ≤ S 4 i ∧ S 4 i < 6) → 0 ≤ x → x ≤ n - 1 →
    ∃ S1, zQ_drop_24 fu m S (8 + v.toNatClampNeg) x = some S1 ∧ S1 3 1 = n - 1 ∧ S1 3 2 = S 3 2 + 1 ∧ (∀ a : Nat, a ≠ 3 → a ≠ 4 → S1 a = S a) ∧ ∀ b : Int32, 0 ≤ b → b < 6 → S1 4 b = if b < x then S 4 b else if b < n - 1 then S 4 (b + 1) else if b = n - 1 then v else S 4 b := by
  intro m
  induction m with
  | zero => intro S x h; omega
  | succ m ih =>
    intro S x hm h31 hrow x0 x1
    have hcv := m_cl hv.1 hv.2
    rw [zQ_drop_24]
    simp only [fd_lt, h31, m_rc]
    by_cases c1 : n - 1 ≤ x
    · rw [if_pos c1]
      have e1 : fd_up S 3 1 (n - 1) 3 1 = n - 1 := by unfold fd_up; rw [if_pos rfl, if_pos rfl]
      rw [e1, if_pos (by (simp only [ne_eq, i_lt, i_le, i_eq, i_add, i_sub, i_neg, i_mul, Int32.reduceToInt] at *; omega)), if_pos (by omega), m_nIcl hv.1]
      refine ⟨_, rfl, ?_, ?_, ?_, ?_⟩
      · unfold fd_up; simp
      · unfold fd_up; simp
      · intro a h3 h4
        rw [fd_up_ne h3, fd_up_ne h4, fd_up_ne h3]
      · intro b b0 b6
        rw [fd_up_ne (by decide), fd_up_at, fd_up_ne (by decide)]
        have hxn : x = n - 1 := by (simp only [ne_eq, i_lt, i_le, i_eq, i_add, i_sub, i_neg, i_mul, Int32.reduceToInt] at *; omega)
        rw [hxn]
        clear ih hrow
        by_cases hb : b = n - 1
        · have n1 : ¬ b < n - 1 := by (simp only [ne_eq, i_lt, i_le, i_eq, i_add, i_sub, i_neg, i_mul, Int32.reduceToInt] at *; omega)
          simp only [if_pos hb, if_neg n1]
        · simp only [if_neg hb]
          by_cases hbx : b < n - 1
          · simp only [if_pos hbx]
          · simp only [if_neg hbx]
    · have hx5 : 0 ≤ x + 1 ∧ x + 1 < 6 ∧ x < 6 ∧ x + 1 ≤ n - 1 := by (simp only [ne_eq, i_lt, i_le, i_eq, i_add, i_sub, i_neg, i_mul, Int32.reduceToInt] at *; omega)
      have hr1 := hrow (x + 1) hx5.1 hx5.2.1
      have hc1 := m_cl hr1.1 hr1.2
      rw [if_neg c1, if_pos ⟨hx5.1, hx5.2.1⟩, if_pos ⟨x0, hx5.2.2.1⟩, if_pos (by omega), m_nIcl hr1.1]
      have hms := m_ms_up c1
      obtain ⟨S1, s1, s2, s3, s4, s5⟩ := ih (fd_up S 4 x (S 4 (x + 1))) (x + 1) (by omega) (by rw [fd_up_ne (by decide)]; exact h31) (by
        intro i i0 i6
        rw [fd_up_at]
        split
        · exact hr1
        · exact hrow i i0 i6) hx5.1 hx5.2.2.2
      refine ⟨S1, s1, s2, by rw [s3, fd_up_ne (by decide)], fun a h3 h4 => by rw [s4 a h3 h4, fd_up_ne h4], fun b b0 b6 => ?_⟩
      rw [s5 b b0 b6, fd_up_at, fd_up_at]
      clear s5 s4 s3 s2 s1 ih hrow hr1 hc1 h31
      by_cases hb : b < x
      · rw [if_pos hb, if_pos (by (simp only [ne_eq, i_lt, i_le, i_eq, i_add, i_sub, i_neg, i_mul, Int32.reduceToInt] at *; omega)), if_neg (by (simp only [ne_eq, i_lt, i_le, i_eq, i_add, i_sub, i_neg, i_mul, Int32.reduceToInt] at *; omega))]
      · rw [if_neg hb]
        by_cases hbx : b = x
        · rw [if_pos (by (simp only [ne_eq, i_lt, i_le, i_eq, i_add, i_sub, i_neg, i_mul, Int32.reduceToInt] at *; omega)), if_pos hbx, if_pos (by (simp only [ne_eq, i_lt, i_le, i_eq, i_add, i_sub, i_neg, i_mul, Int32.reduceToInt] at *; omega)), hbx]
        · rw [if_neg (by (simp only [ne_eq, i_lt, i_le, i_eq, i_add, i_sub, i_neg, i_mul, Int32.reduceToInt] at *; omega))]
          by_cases hb2 : b < n - 1
          · rw [if_pos hb2, if_neg (by (simp only [ne_eq, i_lt, i_le, i_eq, i_add, i_sub, i_neg, i_mul, Int32.reduceToInt] at *; omega)), if_pos hb2]
          · rw [if_neg hb2, if_neg hb2]
            by_cases hb3 : b = n - 1
            · rw [if_pos hb3, if_pos hb3]
            · rw [if_neg hb3, if_neg hb3, if_neg hbx]
theorem m_within1 {a b c : Int32} (h : b ≤ a ∧ a ≤ c) : ¬ zF_isWithin a b c = 0 := by
  unfold zF_isWithin
  rw [if_neg (by (simp only [ne_eq, i_lt, i_le, i_eq, i_add, i_sub, i_neg, i_mul, Int32.reduceToInt] at *; omega)), if_neg (by (simp only [ne_eq, i_lt, i_le, i_eq, i_add, i_sub, i_neg, i_mul, Int32.reduceToInt] at *; omega))]
  decide
theorem m_within0 {a b c : Int32} (h : ¬ (b ≤ a ∧ a ≤ c)) : zF_isWithin a b c = 0 := by
  unfold zF_isWithin
  split
  · rfl
  · rw [if_pos (by (simp only [ne_eq, i_lt, i_le, i_eq, i_add, i_sub, i_neg, i_mul, Int32.reduceToInt] at *; omega))]
theorem zF_in (a b c : Int32) : zF_isWithin a b c = zM_in a b c := rfl
theorem m_rm_pm {g : Int32 → Int32} {r j f : Int32} (h64 : 1 ≤ g 64 ∧ g 64 ≤ 6) (hr : 0 ≤ r ∧ r < 6) (j0 : 0 ≤ j) (j1 : j < g 64 - 1) (f0 : 0 ≤ f) (f1 : f < 10) : m_rm g r (zM_at j f) = g (zM_at (m_pm (g 64) r j) f) := by
  rw [m_rm_at h64 hr j0 j1 f0 f1]
  unfold m_pm
  by_cases c : j < r
  · rw [if_pos c, if_pos c]
  · rw [if_neg c, if_neg c, if_pos j1]
theorem m_drop {fu : Nat} {S S' : fd_S} {g : Int32 → Int32} {r : Int32} (hfu : 10000 ≤ fu) (hR : m_R S g) (hG : m_GR g) (r0 : 0 ≤ r) (r1 : r < g 64) :
    ∃ S1, zQ_drop fu S r = some S1 ∧ zM_remove fu (fd_sg S' g) r = some (fd_sg S' (m_rm g r)) ∧ m_R S1 (m_rm g r) ∧ m_GR (m_rm g r) ∧ (∀ a : Nat, a ≠ 3 → a ≠ 4 → S1 a = S a) ∧ S1 3 2 = S 3 2 + 1 := by
  have h64 := hR.2.2.1
  have h31 := hR.2.1
  have h64' : 1 ≤ g 64 ∧ g 64 ≤ 6 := by (simp only [ne_eq, i_lt, i_le, i_eq, i_add, i_sub, i_neg, i_mul, Int32.reduceToInt] at *; omega)
  have hr6 : 0 ≤ r ∧ r < 6 := by (simp only [ne_eq, i_lt, i_le, i_eq, i_add, i_sub, i_neg, i_mul, Int32.reduceToInt] at *; omega)
  have hrn : 0 ≤ r ∧ r < g 64 := ⟨r0, r1⟩
  have hr9 : r ≤ g 64 - 1 ∧ g 64 - 1 ≤ 6000 ∧ (0 ≤ g 64 - 1 ∧ g 64 - 1 ≤ 6) := by (simp only [ne_eq, i_lt, i_le, i_eq, i_add, i_sub, i_neg, i_mul, Int32.reduceToInt] at *; omega)
  obtain ⟨hrow, -, -, hV, hC⟩ := hR
  have hrr := hrow.1 r hr6.1 hr6.2
  unfold zQ_drop
  simp only [fd_lt, h31, m_rc]
  rw [if_neg (m_within1 ⟨r0, hr9.1⟩), if_pos hr6]
  obtain ⟨S1, s1, s2, s3, s4, s5⟩ := m_drop_loop (fu := fu) h64' hrr fu S r (m_ms_fu r0 hr9.2.1 hfu) h31 hrow.1 r0 hr9.1
  have s5' : ∀ b : Int32, 0 ≤ b → b < 6 → S1 4 b = S 4 (m_pm (g 64) r b) := by
    intro b b0 b6
    rw [s5 b b0 b6]
    unfold m_pm
    split
    · rfl
    · split
      · rfl
      · split <;> rfl
  have hrow1 : m_rows S1 := by
    refine ⟨fun i i0 i6 => ?_, fun i j i0 i6 j0 j6 e => ?_⟩
    · rw [s5' i i0 i6]
      have := m_pm_rg h64' hrn i0 i6
      exact hrow.1 _ this.1 this.2
    · rw [s5' i i0 i6, s5' j j0 j6] at e
      have p1 := m_pm_rg h64' hrn i0 i6
      have p2 := m_pm_rg h64' hrn j0 j6
      exact m_pm_inj h64' hrn i0 i6 j0 j6 (hrow.2 _ _ p1.1 p1.2 p2.1 p2.2 e)
  have erw : ∀ j : Int32, 0 ≤ j → j < 6 → m_rw S1 j = m_rw S (m_pm (g 64) r j) := by
    intro j j0 j6
    unfold m_rw
    rw [s5' j j0 j6]
  have e64 := m_rm_64 (g := g) hr6
  have hcell : ∀ j : Int32, 0 ≤ j → j < 6 → S1 (m_rw S j) = S (m_rw S j) ∧ S1 (m_rw S j + 6) = S (m_rw S j + 6) := by
    intro j j0 j6
    have := hrow.rg j0 j6
    exact ⟨s4 _ (by omega) (by omega), s4 _ (by omega) (by omega)⟩
  refine ⟨S1, s1, zM_remove_eq hfu h64' hr6, ⟨hrow1, by rw [s2, e64], by rw [e64]; exact hr9.2.2, ?_, ?_⟩, ⟨?_, ?_⟩, s4, s3⟩
  · intro j j0 j1
    rw [e64] at j1
    have hj := m_pm_lo h64' hrn j0 j1
    have hv := hV _ hj.1 hj.2.1
    have h6 := m_pm_rg h64' hrn j0 hj.2.2
    unfold m_cV at hv ⊢
    rw [erw j j0 hj.2.2, (hcell _ h6.1 h6.2).1, m_rm_pm h64' hr6 j0 j1 (by decide) (by decide), m_rm_pm h64' hr6 j0 j1 (by decide) (by decide), m_rm_pm h64' hr6 j0 j1 (by decide) (by decide), m_rm_pm h64' hr6 j0 j1 (by decide) (by decide), m_rm_pm h64' hr6 j0 j1 (by decide) (by decide), m_rm_pm h64' hr6 j0 j1 (by decide) (by decide)]
    exact hv
  · intro j q j0 j1 q0 q4 q1
    rw [e64] at j1
    have hj := m_pm_lo h64' hrn j0 j1
    have h6 := m_pm_rg h64' hrn j0 hj.2.2
    rw [m_rm_pm h64' hr6 j0 j1 (by decide) (by decide)] at q1
    have hv := hC _ q hj.1 hj.2.1 q0 q4 q1
    have hq : 0 ≤ 6 + q ∧ 6 + q < 10 := by (simp only [ne_eq, i_lt, i_le, i_eq, i_add, i_sub, i_neg, i_mul, Int32.reduceToInt] at *; omega)
    unfold m_cK at hv ⊢
    rw [erw j j0 hj.2.2, (hcell _ h6.1 h6.2).2, m_rm_pm h64' hr6 j0 j1 hq.1 hq.2]
    exact hv
  · intro j j0 j1
    rw [e64] at j1
    have hj := m_pm_lo h64' hrn j0 j1
    have hv := hG.1 _ hj.1 hj.2.1
    rw [m_rm_pm h64' hr6 j0 j1 (by decide) (by decide), m_rm_pm h64' hr6 j0 j1 (by decide) (by decide), m_rm_pm h64' hr6 j0 j1 (by decide) (by decide), m_rm_pm h64' hr6 j0 j1 (by decide) (by decide), m_rm_pm h64' hr6 j0 j1 (by decide) (by decide), m_rm_out h64' hr6 (by decide) (by decide) (by decide)]
    exact hv
  · intro j k j0 j1 k0 k1 e
    rw [e64] at j1 k1
    have hj := m_pm_lo h64' hrn j0 j1
    have hk := m_pm_lo h64' hrn k0 k1
    rw [m_rm_pm h64' hr6 j0 j1 (by decide) (by decide), m_rm_pm h64' hr6 k0 k1 (by decide) (by decide)] at e
    exact m_pm_inj h64' hrn j0 hj.2.2 k0 hk.2.2 (hG.2 _ _ hj.1 hj.2.1 hk.1 hk.2.1 e)
end
section
/-! ===== a record is made ===== -/
theorem zM_isHeld_eq {S : fd_S} {g : Int32 → Int32} {i : Int32} (h0 : 0 ≤ i) (h6 : i < 6) : zM_isHeld (fd_sg S g) i = some (if g (zM_at i 3) = 1 then 1 else 0) := by
  unfold zM_isHeld
  rw [if_pos (m_at_in h0 h6 (by decide) (by decide)), sg_78]
  split <;> rfl
def m_zr (g : Int32 → Int32) (lo hi : Int32) : Int32 → Int32 := fun j => if lo ≤ j ∧ j ≤ hi then 0 else g j
def m_mk (g : Int32 → Int32) (r : Int32) : Int32 → Int32 := m_gu (m_gu (m_zr (m_gu g 64 (g 64 + 1)) (zM_at (g 64) 0) (zM_at (g 64) 9)) (zM_at (g 64) 0) r) (zM_at (g 64) 2) (g 63)
theorem m_at_step {n x : Int32} : zM_at n (x + 1) = zM_at n x + 1 := by
  unfold zM_at
  grind
theorem m_at_num {n x : Int32} (n0 : 0 ≤ n) (n6 : n < 6) (x0 : 0 ≤ x) (x1 : x ≤ 10) : 71 ≤ zM_at n x ∧ zM_at n x ≤ 131 ∧ (zM_at n x).toInt = 71 + 10 * n.toInt + x.toInt := by
  obtain ⟨a, ha, rfl⟩ := m_nat (x := n) (M := 5) n0 (show n ≤ (5 : Int32) by (simp only [ne_eq, i_lt, i_le, i_eq, i_add, i_sub, i_neg, i_mul, Int32.reduceToInt] at *; omega)) (by decide)
  obtain ⟨c, hc, rfl⟩ := m_nat (x := x) (M := 10) x0 x1 (by decide)
  rw [m_at_nI, nI_toInt (by omega), nI_toInt (by omega), nI_toInt (by omega), show (71 : Int32) = nI 71 from rfl, show (131 : Int32) = nI 131 from rfl, nI_leI (by omega) (by omega), nI_leI (by omega) (by omega)]
  omega
theorem m_mk_def (g : Int32 → Int32) (r b : Int32) : m_mk g r b = if b = zM_at (g 64) 2 then g 63 else if b = zM_at (g 64) 0 then r else if zM_at (g 64) 0 ≤ b ∧ b ≤ zM_at (g 64) 9 then 0 else if b = 64 then g 64 + 1 else g b := rfl
theorem m_make_loop {fu : Nat} {S : fd_S} {r n : Int32} (n0 : 0 ≤ n) (n6 : n < 6) : ∀ (m : Nat) (g : Int32 → Int32) (x : Int32), m_ms 10 x < m → 0 ≤ x → x ≤ 10 →
    zM_makeRecord_81 fu m (fd_sg S g) r n x = some (n, fd_sg S (m_gu (m_gu (m_zr g (zM_at n x) (zM_at n 9)) (zM_at n 0) r) (zM_at n 2) (g 63))) := by
  intro m
  induction m with
  | zero => intro g x h; omega
  | succ m ih =>
    intro g x hm x0 x1
    rw [zM_makeRecord_81]
    simp only [fd_lt, sg_78, sg_up]
    have a0 := m_at_num n0 n6 (show (0 : Int32) ≤ 0 by decide) (by decide)
    have a9 := m_at_num n0 n6 (show (0 : Int32) ≤ 9 by decide) (by decide)
    have ax := m_at_num n0 n6 x0 x1
    by_cases c1 : 10 ≤ x
    · rw [if_pos c1, if_pos (m_at_in n0 n6 (by decide) (by decide)), if_pos (m_at_in n0 n6 (by decide) (by decide))]
      have e1 : m_gu g (zM_at n 0) r 63 = g 63 := by
        unfold m_gu
        rw [if_neg (by clear ih; (simp only [ne_eq, i_lt, i_le, i_eq, i_add, i_sub, i_neg, i_mul, Int32.reduceToInt] at *; omega))]
      have e2 : m_zr g (zM_at n x) (zM_at n 9) = g := by
        funext j
        unfold m_zr
        rw [if_neg (by clear ih; (simp only [ne_eq, i_lt, i_le, i_eq, i_add, i_sub, i_neg, i_mul, Int32.reduceToInt] at *; omega))]
      rw [e1, e2]
    · have hx : 0 ≤ x + 1 ∧ x + 1 ≤ 10 ∧ x < 10 := by clear ih; (simp only [ne_eq, i_lt, i_le, i_eq, i_add, i_sub, i_neg, i_mul, Int32.reduceToInt] at *; omega)
      have hms := m_ms_up c1
      rw [if_neg c1, if_pos (m_at_in n0 n6 x0 hx.2.2), ih _ (x + 1) (by omega) hx.1 hx.2.1]
      have e1 : m_gu g (zM_at n x) 0 63 = g 63 := by
        unfold m_gu
        rw [if_neg (by clear ih; (simp only [ne_eq, i_lt, i_le, i_eq, i_add, i_sub, i_neg, i_mul, Int32.reduceToInt] at *; omega))]
      have e2 : m_zr (m_gu g (zM_at n x) 0) (zM_at n (x + 1)) (zM_at n 9) = m_zr g (zM_at n x) (zM_at n 9) := by
        funext j
        rw [m_at_step]
        unfold m_zr m_gu
        clear ih
        by_cases hj : j = zM_at n x
        · rw [if_neg (by (simp only [ne_eq, i_lt, i_le, i_eq, i_add, i_sub, i_neg, i_mul, Int32.reduceToInt] at *; omega)), if_pos hj, if_pos (by (simp only [ne_eq, i_lt, i_le, i_eq, i_add, i_sub, i_neg, i_mul, Int32.reduceToInt] at *; omega))]
        · by_cases hj2 : zM_at n x + 1 ≤ j ∧ j ≤ zM_at n 9
          · rw [if_pos hj2, if_pos (by (simp only [ne_eq, i_lt, i_le, i_eq, i_add, i_sub, i_neg, i_mul, Int32.reduceToInt] at *; omega))]
          · rw [if_neg hj2, if_neg hj, if_neg (by (simp only [ne_eq, i_lt, i_le, i_eq, i_add, i_sub, i_neg, i_mul, Int32.reduceToInt] at *; omega))]
      rw [e1, e2]
theorem zM_makeRecord_60_eq {fu : Nat} {S : fd_S} {g : Int32 → Int32} {r : Int32} (hfu : 10000 ≤ fu) (h64 : 0 ≤ g 64 ∧ g 64 < 6) : zM_makeRecord_60 fu (fd_sg S g) r = some (g 64, fd_sg S (m_mk g r)) := by
  unfold zM_makeRecord_60
  simp only [fd_lt, sg_78, sg_up]
  rw [m_make_loop h64.1 h64.2 fu _ 0 (m_ms_fu (by decide) (by decide) hfu) (by decide) (by decide)]
  rfl
theorem m_mk_at {g : Int32 → Int32} {r j f : Int32} (h64 : 0 ≤ g 64 ∧ g 64 < 6) (j0 : 0 ≤ j) (j6 : j < 6) (f0 : 0 ≤ f) (f1 : f < 10) : m_mk g r (zM_at j f) = if j = g 64 then (if f = 2 then g 63 else if f = 0 then r else 0) else g (zM_at j f) := by
  have a0 := m_at_num h64.1 h64.2 (show (0 : Int32) ≤ 0 by decide) (by decide)
  have a2 := m_at_num h64.1 h64.2 (show (0 : Int32) ≤ 2 by decide) (by decide)
  have a9 := m_at_num h64.1 h64.2 (show (0 : Int32) ≤ 9 by decide) (by decide)
  have aj := m_at_num j0 j6 f0 (show f ≤ 10 by (simp only [ne_eq, i_lt, i_le, i_eq, i_add, i_sub, i_neg, i_mul, Int32.reduceToInt] at *; omega))
  rw [m_mk_def]
  by_cases c : j = g 64
  · rw [if_pos c]
    subst c
    by_cases c2 : f = 2
    · subst c2
      rw [if_pos rfl, if_pos rfl]
    · rw [if_neg c2, if_neg (by (simp only [ne_eq, i_lt, i_le, i_eq, i_add, i_sub, i_neg, i_mul, Int32.reduceToInt] at *; omega))]
      by_cases c0 : f = 0
      · subst c0
        rw [if_pos rfl, if_pos rfl]
      · rw [if_neg c0, if_neg (by (simp only [ne_eq, i_lt, i_le, i_eq, i_add, i_sub, i_neg, i_mul, Int32.reduceToInt] at *; omega)), if_pos (by (simp only [ne_eq, i_lt, i_le, i_eq, i_add, i_sub, i_neg, i_mul, Int32.reduceToInt] at *; omega))]
  · rw [if_neg c, if_neg (by (simp only [ne_eq, i_lt, i_le, i_eq, i_add, i_sub, i_neg, i_mul, Int32.reduceToInt] at *; omega)), if_neg (by (simp only [ne_eq, i_lt, i_le, i_eq, i_add, i_sub, i_neg, i_mul, Int32.reduceToInt] at *; omega)), if_neg (by (simp only [ne_eq, i_lt, i_le, i_eq, i_add, i_sub, i_neg, i_mul, Int32.reduceToInt] at *; omega)), if_neg (by (simp only [ne_eq, i_lt, i_le, i_eq, i_add, i_sub, i_neg, i_mul, Int32.reduceToInt] at *; omega))]
theorem m_mk_out {g : Int32 → Int32} {r j : Int32} (h64 : 0 ≤ g 64 ∧ g 64 < 6) (hj : j < 71 ∨ 131 ≤ j) (h4 : j ≠ 64) : m_mk g r j = g j := by
  have a0 := m_at_num h64.1 h64.2 (show (0 : Int32) ≤ 0 by decide) (by decide)
  have a2 := m_at_num h64.1 h64.2 (show (0 : Int32) ≤ 2 by decide) (by decide)
  have a9 := m_at_num h64.1 h64.2 (show (0 : Int32) ≤ 9 by decide) (by decide)
  rw [m_mk_def]
  rw [if_neg (by (simp only [ne_eq, i_lt, i_le, i_eq, i_add, i_sub, i_neg, i_mul, Int32.reduceToInt] at *; omega)), if_neg (by (simp only [ne_eq, i_lt, i_le, i_eq, i_add, i_sub, i_neg, i_mul, Int32.reduceToInt] at *; omega)), if_neg (by (simp only [ne_eq, i_lt, i_le, i_eq, i_add, i_sub, i_neg, i_mul, Int32.reduceToInt] at *; omega)), if_neg h4]
theorem m_mk_64 {g : Int32 → Int32} {r : Int32} (h64 : 0 ≤ g 64 ∧ g 64 < 6) : m_mk g r 64 = g 64 + 1 := by
  have a0 := m_at_num h64.1 h64.2 (show (0 : Int32) ≤ 0 by decide) (by decide)
  have a2 := m_at_num h64.1 h64.2 (show (0 : Int32) ≤ 2 by decide) (by decide)
  have a9 := m_at_num h64.1 h64.2 (show (0 : Int32) ≤ 9 by decide) (by decide)
  rw [m_mk_def]
  rw [if_neg (by (simp only [ne_eq, i_lt, i_le, i_eq, i_add, i_sub, i_neg, i_mul, Int32.reduceToInt] at *; omega)), if_neg (by (simp only [ne_eq, i_lt, i_le, i_eq, i_add, i_sub, i_neg, i_mul, Int32.reduceToInt] at *; omega)), if_neg (by (simp only [ne_eq, i_lt, i_le, i_eq, i_add, i_sub, i_neg, i_mul, Int32.reduceToInt] at *; omega)), if_pos rfl]
theorem m_make18 {fu : Nat} {S S' : fd_S} {g : Int32 → Int32} {r t : Int32} (hfu : 10000 ≤ fu) (hR : m_R S g) (hG : m_GR g) (h6 : g 64 < 6) (ht : t = g 63) (ht0 : 0 ≤ g 63) (hr : 0 ≤ r ∧ r < 32) (hno : ∀ i : Int32, 0 ≤ i → i < g 64 → ¬ g (zM_at i 0) = r) :
    ∃ S1, zQ_make_18 fu S r t = some (some (m_rw S (g 64)), S1) ∧ zM_makeRecord_60 fu (fd_sg S' g) r = some (g 64, fd_sg S' (m_mk g r)) ∧ m_R S1 (m_mk g r) ∧ m_GR (m_mk g r) ∧ m_Fc S S1 ∧ S1 3 2 = S 3 2 ∧ S1 4 = S 4 := by
  have h64 := hR.2.2.1
  have h31 := hR.2.1
  have hn : 0 ≤ g 64 ∧ g 64 < 6 := ⟨h64.1, h6⟩
  obtain ⟨hrow, -, -, hV, hC⟩ := hR
  have hrk := hrow.rk hn.1 hn.2
  have hrg := hrow.rg hn.1 hn.2
  have hrw : (8 + (S 4 (g 64)).toNatClampNeg) = m_rw S (g 64) := rfl
  unfold zQ_make_18 zR_begin
  simp only [fd_lt, h31, m_rc, hrw]
  rw [if_pos hn, if_pos hrk, if_pos hrk]
  simp only [Option.bind_some]
  have e64 := m_mk_64 (r := r) hn
  have hb : 0 ≤ g 64 + 1 ∧ g 64 + 1 ≤ 6 := by clear hV hC hG hno; (simp only [ne_eq, i_lt, i_le, i_eq, i_add, i_sub, i_neg, i_mul, Int32.reduceToInt] at *; omega)
  refine ⟨_, rfl, zM_makeRecord_60_eq hfu hn, ⟨?_, ?_, by rw [e64]; exact hb, ?_, ?_⟩, ⟨?_, ?_⟩, ?_, ?_, ?_⟩
  · repeat (refine m_rows_up (by omega) ?_)
    exact hrow
  · rw [e64]
    repeat rw [fd_up_ne (show 3 ≠ m_rw S (g 64) by omega)]
    rw [fd_up_at, if_pos rfl]
  · intro j j0 j1
    rw [e64] at j1
    have j6 : j < 6 := by clear hV hC hG hno; (simp only [ne_eq, i_lt, i_le, i_eq, i_add, i_sub, i_neg, i_mul, Int32.reduceToInt] at *; omega)
    unfold m_cV
    repeat rw [m_rw_up (by omega)]
    rw [m_mk_at hn j0 j6 (by decide) (by decide), m_mk_at hn j0 j6 (by decide) (by decide), m_mk_at hn j0 j6 (by decide) (by decide), m_mk_at hn j0 j6 (by decide) (by decide), m_mk_at hn j0 j6 (by decide) (by decide), m_mk_at hn j0 j6 (by decide) (by decide)]
    by_cases c : j = g 64
    · rw [c]
      simp [fd_up, ht]
    · have hne : m_rw S j ≠ m_rw S (g 64) := fun z => c (hrow.inj j0 j6 hn.1 hn.2 z)
      have hrj := hrow.rg j0 j6
      repeat rw [fd_up_ne hne]
      rw [fd_up_ne (by omega)]
      simp only [if_neg c]
      exact hV j j0 (by clear hV hC hG hno; (simp only [ne_eq, i_lt, i_le, i_eq, i_add, i_sub, i_neg, i_mul, Int32.reduceToInt] at *; omega))
  · intro j q j0 j1 q0 q4 q1
    rw [e64] at j1
    have j6 : j < 6 := by clear hV hC hG hno; (simp only [ne_eq, i_lt, i_le, i_eq, i_add, i_sub, i_neg, i_mul, Int32.reduceToInt] at *; omega)
    have hq : 0 ≤ 6 + q ∧ 6 + q < 10 := by clear hV hC hG hno; (simp only [ne_eq, i_lt, i_le, i_eq, i_add, i_sub, i_neg, i_mul, Int32.reduceToInt] at *; omega)
    rw [m_mk_at hn j0 j6 (by decide) (by decide)] at q1
    rw [m_mk_at hn j0 j6 hq.1 hq.2]
    by_cases c : j = g 64
    · rw [if_pos c, if_neg (by decide), if_neg (by decide)] at q1
      exact absurd q1 (by clear hV hC hG hno; (simp only [ne_eq, i_lt, i_le, i_eq, i_add, i_sub, i_neg, i_mul, Int32.reduceToInt] at *; omega))
    · rw [if_neg c] at q1 ⊢
      have hne : m_rw S j ≠ m_rw S (g 64) := fun z => c (hrow.inj j0 j6 hn.1 hn.2 z)
      have hrj := hrow.rg j0 j6
      have hc := hC j q j0 (by clear hV hC hG hno; (simp only [ne_eq, i_lt, i_le, i_eq, i_add, i_sub, i_neg, i_mul, Int32.reduceToInt] at *; omega)) q0 q4 q1
      unfold m_cK at hc ⊢
      repeat rw [m_rw_up (by omega)]
      repeat rw [fd_up_ne (show m_rw S j + 6 ≠ m_rw S (g 64) by omega)]
      rw [fd_up_ne (by omega)]
      exact hc
  · intro j j0 j1
    rw [e64] at j1
    have j6 : j < 6 := by clear hV hC hG hno; (simp only [ne_eq, i_lt, i_le, i_eq, i_add, i_sub, i_neg, i_mul, Int32.reduceToInt] at *; omega)
    rw [m_mk_at hn j0 j6 (by decide) (by decide), m_mk_at hn j0 j6 (by decide) (by decide), m_mk_at hn j0 j6 (by decide) (by decide), m_mk_at hn j0 j6 (by decide) (by decide), m_mk_at hn j0 j6 (by decide) (by decide), m_mk_out hn (by decide) (by decide)]
    by_cases c : j = g 64
    · simp only [if_pos c]
      refine ⟨by simpa using hr, by simp, ?_, by simp, by simp⟩
      simp only [if_true]
      exact ⟨ht0, Int32.le_refl _⟩
    · simp only [if_neg c]
      exact hG.1 j j0 (by clear hV hC hG hno; (simp only [ne_eq, i_lt, i_le, i_eq, i_add, i_sub, i_neg, i_mul, Int32.reduceToInt] at *; omega))
  · intro j k j0 j1 k0 k1
    rw [e64] at j1 k1
    have j6 : j < 6 := by clear hV hC hG hno; (simp only [ne_eq, i_lt, i_le, i_eq, i_add, i_sub, i_neg, i_mul, Int32.reduceToInt] at *; omega)
    have k6 : k < 6 := by clear hV hC hG hno; (simp only [ne_eq, i_lt, i_le, i_eq, i_add, i_sub, i_neg, i_mul, Int32.reduceToInt] at *; omega)
    rw [m_mk_at hn j0 j6 (by decide) (by decide), m_mk_at hn k0 k6 (by decide) (by decide)]
    by_cases c : j = g 64
    · by_cases d : k = g 64
      · intro _; rw [c, d]
      · simp only [if_pos c, if_neg d]
        intro e
        exact absurd e.symm (by simpa using hno k k0 (by clear hV hC hG hno; (simp only [ne_eq, i_lt, i_le, i_eq, i_add, i_sub, i_neg, i_mul, Int32.reduceToInt] at *; omega)))
    · by_cases d : k = g 64
      · simp only [if_neg c, if_pos d]
        intro e
        exact absurd e (by simpa using hno j j0 (by clear hV hC hG hno; (simp only [ne_eq, i_lt, i_le, i_eq, i_add, i_sub, i_neg, i_mul, Int32.reduceToInt] at *; omega)))
      · simp only [if_neg c, if_neg d]
        exact hG.2 j k j0 (by clear hV hC hG hno; (simp only [ne_eq, i_lt, i_le, i_eq, i_add, i_sub, i_neg, i_mul, Int32.reduceToInt] at *; omega)) k0 (by clear hV hC hG hno; (simp only [ne_eq, i_lt, i_le, i_eq, i_add, i_sub, i_neg, i_mul, Int32.reduceToInt] at *; omega))
  · intro k hk
    repeat rw [fd_up_ne (show k ≠ m_rw S (g 64) by omega)]
    rw [fd_up_ne (by omega)]
  · repeat rw [fd_up_ne (show 3 ≠ m_rw S (g 64) by omega)]
    rw [fd_up_at, if_neg (by decide)]
  · repeat rw [fd_up_ne (show 4 ≠ m_rw S (g 64) by omega)]
    rw [fd_up_ne (by decide)]
end
section
/-! ===== which routes are held ===== -/
def m_hd (g : Int32 → Int32) (x : Int32) : Prop := ∃ i : Int32, 0 ≤ i ∧ i < g 64 ∧ g (zM_at i 0) = x ∧ g (zM_at i 3) = 1
theorem m_hd_congr {g g1 : Int32 → Int32} (e64 : g1 64 = g 64) (h : ∀ i : Int32, 0 ≤ i → i < g 64 → g1 (zM_at i 0) = g (zM_at i 0) ∧ g1 (zM_at i 3) = g (zM_at i 3)) (x : Int32) : m_hd g1 x ↔ m_hd g x := by
  constructor
  · rintro ⟨i, i0, i1, a, b⟩
    rw [e64] at i1
    have := h i i0 i1
    exact ⟨i, i0, i1, by rw [← this.1]; exact a, by rw [← this.2]; exact b⟩
  · rintro ⟨i, i0, i1, a, b⟩
    have := h i i0 i1
    exact ⟨i, i0, by rw [e64]; exact i1, by rw [this.1]; exact a, by rw [this.2]; exact b⟩
theorem m_pm_sur {n r i : Int32} (hn : 1 ≤ n ∧ n ≤ 6) (hr : 0 ≤ r ∧ r < n) (i0 : 0 ≤ i) (i1 : i < n) (hi : i ≠ r) : ∃ j, 0 ≤ j ∧ j < n - 1 ∧ m_pm n r j = i := by
  by_cases c : i < r
  · refine ⟨i, i0, by (simp only [ne_eq, i_lt, i_le, i_eq, i_add, i_sub, i_neg, i_mul, Int32.reduceToInt] at *; omega), ?_⟩
    unfold m_pm
    rw [if_pos c]
  · refine ⟨i - 1, by (simp only [ne_eq, i_lt, i_le, i_eq, i_add, i_sub, i_neg, i_mul, Int32.reduceToInt] at *; omega), by (simp only [ne_eq, i_lt, i_le, i_eq, i_add, i_sub, i_neg, i_mul, Int32.reduceToInt] at *; omega), ?_⟩
    unfold m_pm
    rw [if_neg (by (simp only [ne_eq, i_lt, i_le, i_eq, i_add, i_sub, i_neg, i_mul, Int32.reduceToInt] at *; omega)), if_pos (by (simp only [ne_eq, i_lt, i_le, i_eq, i_add, i_sub, i_neg, i_mul, Int32.reduceToInt] at *; omega))]
    (simp only [ne_eq, i_lt, i_le, i_eq, i_add, i_sub, i_neg, i_mul, Int32.reduceToInt] at *; omega)
theorem m_hd_rm {g : Int32 → Int32} {r : Int32} (h64 : 1 ≤ g 64 ∧ g 64 ≤ 6) (hr : 0 ≤ r ∧ r < g 64) (hf : ¬ g (zM_at r 3) = 1) (x : Int32) : m_hd (m_rm g r) x ↔ m_hd g x := by
  have hr6 : 0 ≤ r ∧ r < 6 := by (simp only [ne_eq, i_lt, i_le, i_eq, i_add, i_sub, i_neg, i_mul, Int32.reduceToInt] at *; omega)
  unfold m_hd
  rw [m_rm_64 hr6]
  constructor
  · rintro ⟨i, i0, i1, a, b⟩
    have hp := m_pm_lo h64 hr i0 i1
    rw [m_rm_pm h64 hr6 i0 i1 (by decide) (by decide)] at a b
    exact ⟨_, hp.1, hp.2.1, a, b⟩
  · rintro ⟨i, i0, i1, a, b⟩
    obtain ⟨j, j0, j1, e⟩ := m_pm_sur h64 hr i0 i1 (fun z => hf (by rw [← z]; exact b))
    refine ⟨j, j0, j1, ?_, ?_⟩
    · rw [m_rm_pm h64 hr6 j0 j1 (by decide) (by decide), e]; exact a
    · rw [m_rm_pm h64 hr6 j0 j1 (by decide) (by decide), e]; exact b
theorem m_hd_mk {g : Int32 → Int32} {r : Int32} (h64 : 0 ≤ g 64 ∧ g 64 < 6) (x : Int32) : m_hd (m_mk g r) x ↔ m_hd g x := by
  unfold m_hd
  rw [m_mk_64 h64]
  constructor
  · rintro ⟨i, i0, i1, a, b⟩
    have i6 : i < 6 := by clear a b; (simp only [ne_eq, i_lt, i_le, i_eq, i_add, i_sub, i_neg, i_mul, Int32.reduceToInt] at *; omega)
    rw [m_mk_at h64 i0 i6 (by decide) (by decide)] at a b
    by_cases c : i = g 64
    · rw [if_pos c, if_neg (by decide), if_neg (by decide)] at b
      exact absurd b (by decide)
    · rw [if_neg c] at a b
      exact ⟨i, i0, by clear a b; (simp only [ne_eq, i_lt, i_le, i_eq, i_add, i_sub, i_neg, i_mul, Int32.reduceToInt] at *; omega), a, b⟩
  · rintro ⟨i, i0, i1, a, b⟩
    have i6 : i < 6 := by clear a b; (simp only [ne_eq, i_lt, i_le, i_eq, i_add, i_sub, i_neg, i_mul, Int32.reduceToInt] at *; omega)
    have c : i ≠ g 64 := by clear a b; (simp only [ne_eq, i_lt, i_le, i_eq, i_add, i_sub, i_neg, i_mul, Int32.reduceToInt] at *; omega)
    refine ⟨i, i0, by clear a b; (simp only [ne_eq, i_lt, i_le, i_eq, i_add, i_sub, i_neg, i_mul, Int32.reduceToInt] at *; omega), ?_, ?_⟩
    · rw [m_mk_at h64 i0 i6 (by decide) (by decide), if_neg c]; exact a
    · rw [m_mk_at h64 i0 i6 (by decide) (by decide), if_neg c]; exact b
theorem m_ix_hd {g : Int32 → Int32} {r x : Int32} (hG : m_GR g) (hr : m_ix g r x (g 64)) : m_hd g x ↔ (0 ≤ r ∧ g (zM_at r 3) = 1) := by
  constructor
  · rintro ⟨i, i0, i1, a, b⟩
    rcases hr with ⟨-, h⟩ | ⟨r0, r1, h⟩
    · exact absurd a (h i i0 i1)
    · have := hG.2 i r i0 i1 r0 r1 (a.trans h.symm)
      subst this
      exact ⟨r0, b⟩
  · rintro ⟨r0, b⟩
    rcases hr with ⟨e, -⟩ | ⟨r0, r1, h⟩
    · subst e
      exact absurd r0 (by decide)
    · exact ⟨r, r0, r1, h, b⟩
/-! ===== the first that is not held gives way ===== -/
theorem m_dff_loop {fu : Nat} {S S' : fd_S} {g : Int32 → Int32} {x : Int32} (hfu : 10000 ≤ fu) (hR : m_R S g) (hG : m_GR g) (h6 : g 64 = 6) :
    ∀ (n : Nat) (i : Int32), m_ms 6 i < n → 0 ≤ i → i ≤ 6 → (∀ j : Int32, 0 ≤ j → j < i → g (zM_at j 3) = 1) →
      ((∀ j : Int32, 0 ≤ j → j < 6 → g (zM_at j 3) = 1) ∧ zQ_dropFirstFree_2 fu n S i = some (0, S) ∧ zM_makeRecord_26 fu n (fd_sg S' g) x i = some (-6, fd_sg S' g)) ∨
      (∃ r S1, 0 ≤ r ∧ r < 6 ∧ g (zM_at r 3) = 0 ∧ zQ_dropFirstFree_2 fu n S i = some (1, S1) ∧ zM_makeRecord_26 fu n (fd_sg S' g) x i = zM_makeRecord_60 fu (fd_sg S' (m_rm g r)) x ∧ m_R S1 (m_rm g r) ∧ m_GR (m_rm g r) ∧ (∀ a : Nat, a ≠ 3 → a ≠ 4 → S1 a = S a) ∧ S1 3 2 = S 3 2 + 1) := by
  intro n
  induction n with
  | zero => intro i h; omega
  | succ n ih =>
    intro i hn i0 i6 hall
    rw [zQ_dropFirstFree_2, zM_makeRecord_26]
    simp only [fd_lt, hR.2.1, h6, m_rc]
    by_cases c1 : 6 ≤ i
    · have e : i = 6 := by clear ih hall; (simp only [ne_eq, i_lt, i_le, i_eq, i_add, i_sub, i_neg, i_mul, Int32.reduceToInt] at *; omega)
      rw [if_pos c1, if_pos c1, if_pos e]
      exact Or.inl ⟨fun j j0 j1 => hall j j0 (by clear ih hall; (simp only [ne_eq, i_lt, i_le, i_eq, i_add, i_sub, i_neg, i_mul, Int32.reduceToInt] at *; omega)), rfl, rfl⟩
    · have hi : i < 6 ∧ 0 ≤ i + 1 ∧ i + 1 ≤ 6 := by clear ih hall; (simp only [ne_eq, i_lt, i_le, i_eq, i_add, i_sub, i_neg, i_mul, Int32.reduceToInt] at *; omega)
      have hk := hR.1.rk i0 hi.1
      have hv := (hR.2.2.2.1 i i0 (by rw [h6]; exact hi.1)).2.2.2.1
      have hg := (hG.1 i i0 (by rw [h6]; exact hi.1)).2.2.2.1
      change fd_rk (8 + (S 4 i).toNatClampNeg) at hk
      change S (8 + (S 4 i).toNatClampNeg) 3 = _ at hv
      rw [if_neg c1, if_neg c1, if_pos ⟨i0, hi.1⟩, if_pos hk, hv, zM_isHeld_eq i0 hi.1]
      simp only [Option.bind_some]
      have hms := m_ms_up c1
      rcases hg with c2 | c2
      · obtain ⟨S1, s1, s2, s3, s4, s5, s6⟩ := m_drop (S' := S') hfu hR hG i0 (by rw [h6]; exact hi.1)
        rw [if_pos c2, show (if g (zM_at i 3) = 1 then (1 : Int32) else 0) = 0 by rw [c2]; rfl, if_pos rfl, if_neg (show ¬ i = 6 by clear ih hall; (simp only [ne_eq, i_lt, i_le, i_eq, i_add, i_sub, i_neg, i_mul, Int32.reduceToInt] at *; omega)), s1, s2]
        exact Or.inr ⟨i, S1, i0, hi.1, c2, rfl, rfl, s3, s4, s5, s6⟩
      · rw [if_neg (show ¬ g (zM_at i 3) = 0 by rw [c2]; decide), show (if g (zM_at i 3) = 1 then (1 : Int32) else 0) = 1 by rw [c2]; rfl, if_neg (show ¬ (1 : Int32) = 0 by decide)]
        refine ih (i + 1) (by omega) hi.2.1 hi.2.2 (fun j j0 j1 => ?_)
        by_cases hj : j = i
        · rw [hj]; exact c2
        · exact hall j j0 (by clear ih hall; (simp only [ne_eq, i_lt, i_le, i_eq, i_add, i_sub, i_neg, i_mul, Int32.reduceToInt] at *; omega))
/-- make and makeRecord, for a route that has no record -/
theorem m_make {fu : Nat} {S S' : fd_S} {g : Int32 → Int32} {x t : Int32} (hfu : 10000 ≤ fu) (hR : m_R S g) (hG : m_GR g) (ht : t = g 63) (ht0 : 0 ≤ g 63) (hx : 0 ≤ x ∧ x < 32) (hno : ∀ i : Int32, 0 ≤ i → i < g 64 → ¬ g (zM_at i 0) = x) :
    (zQ_make fu S x t = some (none, S) ∧ zM_makeRecord fu (fd_sg S' g) x = some (-6, fd_sg S' g)) ∨
    (∃ S1 g1 r, zQ_make fu S x t = some (some (m_rw S1 r), S1) ∧ zM_makeRecord fu (fd_sg S' g) x = some (r, fd_sg S' g1) ∧ 0 ≤ r ∧ r < g1 64 ∧ g1 (zM_at r 0) = x ∧ m_R S1 g1 ∧ m_GR g1 ∧ m_Fc S S1 ∧ m_Fg g g1 ∧ S1 3 2 - S 3 2 = g1 68 - g 68 ∧ ∀ y, m_hd g1 y ↔ m_hd g y) := by
  have h64 := hR.2.2.1
  have h31 := hR.2.1
  obtain ⟨r0, e0, i0⟩ := zM_recordOf_eq (S := S') hfu h64 x
  have hr0 : r0 = -6 := by
    rcases i0 with ⟨e, -⟩ | ⟨a, b, c⟩
    · exact e
    · exact absurd c (hno r0 a b)
  subst hr0
  unfold zQ_make zM_makeRecord
  rw [e0, Option.bind_some, if_pos (show (-6 : Int32) < 0 by decide), sg_78, h31]
  by_cases c6 : g 64 = 6
  · rw [if_pos c6, if_neg (by rw [c6]; decide)]
    unfold zQ_dropFirstFree
    rcases m_dff_loop (S' := S') (x := x) hfu hR hG c6 fu 0 (m_ms_fu (by decide) (by decide) hfu) (by decide) (by decide) (fun j j0 j1 => absurd j1 (by clear hno e0 i0; (simp only [ne_eq, i_lt, i_le, i_eq, i_add, i_sub, i_neg, i_mul, Int32.reduceToInt] at *; omega))) with ⟨-, a1, a2⟩ | ⟨r, S1, r0, r1, hr, a1, a2, a3, a4, a5, a6⟩
    · left
      rw [a1, a2]
      exact ⟨rfl, rfl⟩
    · right
      have hr6 : 0 ≤ r ∧ r < 6 := ⟨r0, r1⟩
      have h64' : 1 ≤ g 64 ∧ g 64 ≤ 6 := by rw [c6]; decide
      have e64 : m_rm g r 64 = 5 := by rw [m_rm_64 hr6, c6]; decide
      have e63 : m_rm g r 63 = g 63 := m_rm_out h64' hr6 (by decide) (by decide) (by decide)
      have hno1 : ∀ i : Int32, 0 ≤ i → i < m_rm g r 64 → ¬ m_rm g r (zM_at i 0) = x := by
        intro i i0 i1
        rw [m_rm_64 hr6] at i1
        have hp := m_pm_lo h64' ⟨r0, by rw [c6]; exact r1⟩ i0 i1
        rw [m_rm_pm h64' hr6 i0 i1 (by decide) (by decide)]
        exact hno _ hp.1 hp.2.1
      obtain ⟨S2, b1, b2, b3, b4, b5, b6, b7⟩ := m_make18 (S' := S') (t := t) hfu a3 a4 (by rw [e64]; decide) (by rw [e63]; exact ht) (by rw [e63]; exact ht0) hx hno1
      rw [a1, a2, b2]
      simp only [Option.bind_some, fd_pr]
      rw [if_neg (by decide), b1]
      have hn : 0 ≤ m_rm g r 64 ∧ m_rm g r 64 < 6 := by rw [e64]; decide
      refine ⟨S2, _, m_rm g r 64, ?_, rfl, hn.1, ?_, ?_, b3, b4, ?_, ?_, ?_, ?_⟩
      · rw [show m_rw S2 (m_rm g r 64) = m_rw S1 (m_rm g r 64) by unfold m_rw; rw [b7]]
      · rw [m_mk_64 hn, e64]; decide
      · rw [m_mk_at hn hn.1 hn.2 (by decide) (by decide), if_pos rfl, if_neg (by decide), if_pos rfl]
      · intro k hk
        rw [b5 k hk, a5 k (by omega) (by omega)]
      · intro j hj
        have hjj : (j < 71 ∨ 131 ≤ j) ∧ j ≠ 64 ∧ j ≠ 68 := by clear hno e0 i0 a1 a2 b1 b2 hno1; (simp only [ne_eq, i_lt, i_le, i_eq, i_add, i_sub, i_neg, i_mul, Int32.reduceToInt] at *; omega)
        rw [m_mk_out hn hjj.1 hjj.2.1, m_rm_out h64' hr6 hjj.1 hjj.2.1 hjj.2.2]
      · rw [b6, a6, m_mk_out hn (by decide) (by decide), m_rm_68 hr6]
        clear hno e0 i0 a1 a2 b1 b2 hno1
        grind
      · intro y
        rw [m_hd_mk hn, m_hd_rm h64' ⟨r0, by rw [c6]; exact r1⟩ (by rw [hr]; decide)]
  · right
    have h6 : g 64 < 6 := by clear hno e0 i0; (simp only [ne_eq, i_lt, i_le, i_eq, i_add, i_sub, i_neg, i_mul, Int32.reduceToInt] at *; omega)
    have hn : 0 ≤ g 64 ∧ g 64 < 6 := ⟨h64.1, h6⟩
    obtain ⟨S2, b1, b2, b3, b4, b5, b6, b7⟩ := m_make18 (S' := S') (t := t) hfu hR hG h6 ht ht0 hx hno
    rw [if_neg c6, if_pos h6, b1, b2]
    refine ⟨S2, _, g 64, ?_, rfl, hn.1, ?_, ?_, b3, b4, b5, ?_, ?_, ?_⟩
    · rw [show m_rw S2 (g 64) = m_rw S (g 64) by unfold m_rw; rw [b7]]
    · rw [m_mk_64 hn]
      clear hno e0 i0 b1 b2
      (simp only [ne_eq, i_lt, i_le, i_eq, i_add, i_sub, i_neg, i_mul, Int32.reduceToInt] at *; omega)
    · rw [m_mk_at hn hn.1 hn.2 (by decide) (by decide), if_pos rfl, if_neg (by decide), if_pos rfl]
    · intro j hj
      have hjj : (j < 71 ∨ 131 ≤ j) ∧ j ≠ 64 := by clear hno e0 i0 b1 b2; (simp only [ne_eq, i_lt, i_le, i_eq, i_add, i_sub, i_neg, i_mul, Int32.reduceToInt] at *; omega)
      rw [m_mk_out hn hjj.1 hjj.2]
    · rw [b6, m_mk_out hn (by decide) (by decide)]
      clear hno e0 i0 b1 b2
      grind
    · intro y
      rw [m_hd_mk hn]
end
section
/-! ===== LINES ===== -/
def m_pp (v i : Int32) : Int32 := if i ≤ v then v - i else v - i + 6
def m_ll (i : Int32) : Int32 := 131 + 24 * i
theorem m_pp_0 {v : Int32} (h : 0 ≤ v) : m_pp v 0 = v := by
  unfold m_pp
  rw [if_pos h]
  grind
theorem m_pp_rg {v i : Int32} (h0 : 0 ≤ v) (h6 : v < 6) (i0 : 0 ≤ i) (i6 : i < 6) : 0 ≤ m_pp v i ∧ m_pp v i < 6 := by
  unfold m_pp
  split <;> (simp only [ne_eq, i_lt, i_le, i_eq, i_add, i_sub, i_neg, i_mul, Int32.reduceToInt] at *; omega)
theorem m_pp_inj {v i j : Int32} (h0 : 0 ≤ v) (h6 : v < 6) (i0 : 0 ≤ i) (i6 : i < 6) (j0 : 0 ≤ j) (j6 : j < 6) (h : m_pp v i = m_pp v j) : i = j := by
  unfold m_pp at h
  split at h <;> split at h <;> (simp only [ne_eq, i_lt, i_le, i_eq, i_add, i_sub, i_neg, i_mul, Int32.reduceToInt] at *; omega)
theorem m_ll_num {i : Int32} (i0 : 0 ≤ i) (i6 : i < 6) : (m_ll i).toInt = 131 + 24 * i.toInt := by
  obtain ⟨a, ha, rfl⟩ := m_nat (x := i) (M := 5) i0 (show i ≤ (5 : Int32) by (simp only [ne_eq, i_lt, i_le, i_eq, i_add, i_sub, i_neg, i_mul, Int32.reduceToInt] at *; omega)) (by decide)
  unfold m_ll
  rw [show (131 : Int32) = nI 131 from rfl, show (24 : Int32) = nI 24 from rfl, pk_mul, nI_add, nI_toInt (by omega), nI_toInt (by omega)]
  omega
theorem m_la_num {i j : Int32} (i0 : 0 ≤ i) (i6 : i < 6) (j0 : 0 ≤ j) (j1 : j ≤ 100) : (zM_lineAt i j).toInt = 132 + 24 * i.toInt + j.toInt := by
  obtain ⟨a, ha, rfl⟩ := m_nat (x := i) (M := 5) i0 (show i ≤ (5 : Int32) by (simp only [ne_eq, i_lt, i_le, i_eq, i_add, i_sub, i_neg, i_mul, Int32.reduceToInt] at *; omega)) (by decide)
  obtain ⟨c, hc, rfl⟩ := m_nat (x := j) (M := 100) j0 j1 (by decide)
  unfold zM_lineAt
  rw [show (131 : Int32) = nI 131 from rfl, show (24 : Int32) = nI 24 from rfl, show (1 : Int32) = nI 1 from rfl, pk_mul, nI_add, nI_add, nI_add, nI_toInt (by omega), nI_toInt (by omega), nI_toInt (by omega)]
  omega
theorem m_20_num {p j : Int32} (p0 : 0 ≤ p) (p6 : p < 6) (j0 : 0 ≤ j) (j1 : j ≤ 20) : (p * 20 + j).toInt = 20 * p.toInt + j.toInt := by
  obtain ⟨a, ha, rfl⟩ := m_nat (x := p) (M := 5) p0 (show p ≤ (5 : Int32) by (simp only [ne_eq, i_lt, i_le, i_eq, i_add, i_sub, i_neg, i_mul, Int32.reduceToInt] at *; omega)) (by decide)
  obtain ⟨c, hc, rfl⟩ := m_nat (x := j) (M := 20) j0 j1 (by decide)
  rw [show (20 : Int32) = nI 20 from rfl, pk_mul, nI_add, nI_toInt (by omega), nI_toInt (by omega), nI_toInt (by omega)]
  omega
theorem m_la_0 (L : Int32) : zM_lineAt 0 L = 132 + L := by
  unfold zM_lineAt
  grind
/-- the lines of the component (a ring) and of the reference (the last one first) -/
def m_L (S : fd_S) (g : Int32 → Int32) : Prop :=
  (0 ≤ S 5 2 ∧ S 5 2 < 6) ∧ S 5 3 = g 70 ∧ ∀ i : Int32, 0 ≤ i → i < 6 → (0 ≤ g (m_ll i) ∧ g (m_ll i) ≤ 20) ∧ S 7 (m_pp (S 5 2) i) = g (m_ll i) ∧ ∀ j : Int32, 0 ≤ j → j < g (m_ll i) → S 6 (m_pp (S 5 2) i * 20 + j) = g (zM_lineAt i j)
theorem m_L_congr {S S1 : fd_S} {g g1 : Int32 → Int32} (h : m_L S g) (e5 : S1 5 = S 5) (e6 : S1 6 = S 6) (e7 : S1 7 = S 7) (e70 : g1 70 = g 70) (hg : ∀ j : Int32, 131 ≤ j → g1 j = g j) : m_L S1 g1 := by
  unfold m_L
  rw [e5, e6, e7, e70]
  refine ⟨h.1, h.2.1, fun i i0 i6 => ?_⟩
  have hi := h.2.2 i i0 i6
  have hl := m_ll_num i0 i6
  have e1 : g1 (m_ll i) = g (m_ll i) := hg _ (by clear hi h; (simp only [ne_eq, i_lt, i_le, i_eq, i_add, i_sub, i_neg, i_mul, Int32.reduceToInt] at *; omega))
  rw [e1]
  refine ⟨hi.1, hi.2.1, fun j j0 j1 => ?_⟩
  have ha := m_la_num i0 i6 j0 (show j ≤ 100 by have := hi.1; clear hi h; (simp only [ne_eq, i_lt, i_le, i_eq, i_add, i_sub, i_neg, i_mul, Int32.reduceToInt] at *; omega))
  rw [hg _ (by clear hi h; (simp only [ne_eq, i_lt, i_le, i_eq, i_add, i_sub, i_neg, i_mul, Int32.reduceToInt] at *; omega))]
  exact hi.2.2 j j0 j1
def m_wr (g : Int32 → Int32) (c : Int32) : Int32 → Int32 := m_gu (m_gu g (132 + g 131) c) 131 (g 131 + 1)
theorem m_wr_lo {g : Int32 → Int32} {c j : Int32} (h : 0 ≤ g 131 ∧ g 131 ≤ 100) (hj : j < 131) : m_wr g c j = g j := by
  unfold m_wr m_gu
  rw [if_neg (by (simp only [ne_eq, i_lt, i_le, i_eq, i_add, i_sub, i_neg, i_mul, Int32.reduceToInt] at *; omega)), if_neg (by (simp only [ne_eq, i_lt, i_le, i_eq, i_add, i_sub, i_neg, i_mul, Int32.reduceToInt] at *; omega))]
theorem m_wr_131 {g : Int32 → Int32} {c : Int32} : m_wr g c 131 = g 131 + 1 := by
  unfold m_wr m_gu
  rw [if_pos rfl]
theorem zM_write_eq {S : fd_S} {g : Int32 → Int32} {c : Int32} (h : 0 ≤ g 131 ∧ g 131 ≤ 100) : zM_write (fd_sg S g) c = some (fd_sg S (m_wr g c)) := by
  unfold zM_write
  simp only [sg_78, fd_lt, sg_up, m_la_0]
  rw [if_pos (by (simp only [ne_eq, i_lt, i_le, i_eq, i_add, i_sub, i_neg, i_mul, Int32.reduceToInt] at *; omega))]
  have e : m_gu g (132 + g 131) c 131 = g 131 := by
    unfold m_gu
    rw [if_neg (by (simp only [ne_eq, i_lt, i_le, i_eq, i_add, i_sub, i_neg, i_mul, Int32.reduceToInt] at *; omega))]
  rw [e]
  rfl
theorem m_put {S : fd_S} {g : Int32 → Int32} {c : Int32} (h : m_L S g) (hlen : g 131 < 20) : ∃ S1, zL_put S c = some S1 ∧ m_L S1 (m_wr g c) ∧ (∀ k : Nat, k ≠ 6 → k ≠ 7 → S1 k = S k) := by
  obtain ⟨hv, h53, hi⟩ := h
  have h0 := hi 0 (by decide) (by decide)
  rw [m_pp_0 hv.1, show m_ll 0 = 131 by decide] at h0
  have hL := h0.1
  unfold zL_put
  simp only [fd_lt]
  rw [if_pos hv, h0.2.1]
  have n20 := m_20_num hv.1 hv.2 hL.1 hL.2
  rw [if_neg (by clear hi h0; (simp only [ne_eq, i_lt, i_le, i_eq, i_add, i_sub, i_neg, i_mul, Int32.reduceToInt] at *; omega)), if_pos (by clear hi h0; simp only [i_lt, i_le, n20, Int32.reduceToInt] at *; omega)]
  have e5 : fd_up S 6 (S 5 2 * 20 + g 131) c 5 2 = S 5 2 := by rw [fd_up_ne (by decide)]
  rw [e5, if_pos hv]
  refine ⟨_, rfl, ?_, fun k h6 h7 => by rw [fd_up_ne h7, fd_up_ne h6]⟩
  generalize hS1 : fd_up (fd_up S 6 (S 5 2 * 20 + g 131) c) 7 (S 5 2) (g 131 + 1) = S1
  have s5 : S1 5 = S 5 := by rw [← hS1, fd_up_ne (by decide), fd_up_ne (by decide)]
  have s7 : ∀ b, S1 7 b = if b = S 5 2 then g 131 + 1 else S 7 b := by
    intro b
    rw [← hS1, fd_up_at, fd_up_ne (by decide)]
  have s6 : ∀ b, S1 6 b = if b = S 5 2 * 20 + g 131 then c else S 6 b := by
    intro b
    rw [← hS1, fd_up_ne (by decide), fd_up_at]
  unfold m_L
  rw [s5]
  refine ⟨hv, by rw [m_wr_lo ⟨hL.1, by clear hi h0; (simp only [ne_eq, i_lt, i_le, i_eq, i_add, i_sub, i_neg, i_mul, Int32.reduceToInt] at *; omega)⟩ (by decide)]; exact h53, fun i i0 i6 => ?_⟩
  have hii := hi i i0 i6
  have hln := m_ll_num i0 i6
  have hpr := m_pp_rg hv.1 hv.2 i0 i6
  by_cases c0 : i = 0
  · subst c0
    rw [show m_ll 0 = 131 by decide, m_wr_131, m_pp_0 hv.1]
    refine ⟨by clear hi h0 hii; (simp only [ne_eq, i_lt, i_le, i_eq, i_add, i_sub, i_neg, i_mul, Int32.reduceToInt] at *; omega), by rw [s7, if_pos rfl], fun j j0 j1 => ?_⟩
    have nj := m_20_num hv.1 hv.2 j0 (show j ≤ 20 by clear hi h0 hii; (simp only [ne_eq, i_lt, i_le, i_eq, i_add, i_sub, i_neg, i_mul, Int32.reduceToInt] at *; omega))
    have hla := m_la_num (show (0 : Int32) ≤ 0 by decide) (by decide) j0 (show j ≤ 100 by clear hi h0 hii; (simp only [ne_eq, i_lt, i_le, i_eq, i_add, i_sub, i_neg, i_mul, Int32.reduceToInt] at *; omega))
    rw [s6]
    unfold m_wr m_gu
    by_cases cj : j = g 131
    · rw [if_pos (by rw [cj]), if_neg (by clear hi h0 hii s6 s7; (simp only [ne_eq, i_lt, i_le, i_eq, i_add, i_sub, i_neg, i_mul, Int32.reduceToInt] at *; omega)), if_pos (by rw [cj, m_la_0])]
    · rw [if_neg (fun z => cj (by rw [i_eq, nj, n20] at z; rw [i_eq]; omega)), if_neg (by clear hi h0 hii s6 s7; (simp only [ne_eq, i_lt, i_le, i_eq, i_add, i_sub, i_neg, i_mul, Int32.reduceToInt] at *; omega)), if_neg (fun z => cj (by rw [m_la_0] at z; clear hi h0 hii s6 s7; (simp only [ne_eq, i_lt, i_le, i_eq, i_add, i_sub, i_neg, i_mul, Int32.reduceToInt] at *; omega)))]
      exact h0.2.2 j j0 (by clear hi h0 hii s6 s7; (simp only [ne_eq, i_lt, i_le, i_eq, i_add, i_sub, i_neg, i_mul, Int32.reduceToInt] at *; omega))
  · have hne : m_pp (S 5 2) i ≠ S 5 2 := by
      intro z
      rw [← m_pp_0 hv.1] at z
      have := m_pp_inj hv.1 hv.2 i0 i6 (by decide) (by decide) (show m_pp (S 5 2) i = m_pp (S 5 2) 0 by rw [m_pp_0 hv.1] at z ⊢; exact z)
      exact c0 this
    have hi1 : 1 ≤ i.toInt := by clear hi h0 hii s6 s7 hne; (simp only [ne_eq, i_lt, i_le, i_eq, i_add, i_sub, i_neg, i_mul, Int32.reduceToInt] at *; omega)
    have w : ∀ x : Int32, 155 ≤ x.toInt → m_wr g c x = g x := by
      intro x hx
      unfold m_wr m_gu
      rw [if_neg (by clear hi h0 hii s6 s7; (simp only [ne_eq, i_lt, i_le, i_eq, i_add, i_sub, i_neg, i_mul, Int32.reduceToInt] at *; omega)), if_neg (by clear hi h0 hii s6 s7; (simp only [ne_eq, i_lt, i_le, i_eq, i_add, i_sub, i_neg, i_mul, Int32.reduceToInt] at *; omega))]
    rw [w _ (by omega), s7, if_neg hne]
    refine ⟨hii.1, hii.2.1, fun j j0 j1 => ?_⟩
    have j20 : j ≤ 20 ∧ j ≤ 100 := by have := hii.1; clear hi h0 hii s6 s7; (simp only [ne_eq, i_lt, i_le, i_eq, i_add, i_sub, i_neg, i_mul, Int32.reduceToInt] at *; omega)
    have hla := m_la_num i0 i6 j0 j20.2
    have nj := m_20_num hpr.1 hpr.2 j0 j20.1
    have j19 : j.toInt < 20 := by have := hii.1; clear hi h0 hii s6 s7; (simp only [ne_eq, i_lt, i_le, i_eq, i_add, i_sub, i_neg, i_mul, Int32.reduceToInt] at *; omega)
    have L19 : (g 131).toInt < 20 := by clear hi h0 hii s6 s7; (simp only [ne_eq, i_lt, i_le, i_eq, i_add, i_sub, i_neg, i_mul, Int32.reduceToInt] at *; omega)
    have L0 : 0 ≤ (g 131).toInt := by clear hi h0 hii s6 s7; (simp only [ne_eq, i_lt, i_le, i_eq, i_add, i_sub, i_neg, i_mul, Int32.reduceToInt] at *; omega)
    have j00 : 0 ≤ j.toInt := by clear hi h0 hii s6 s7; (simp only [ne_eq, i_lt, i_le, i_eq, i_add, i_sub, i_neg, i_mul, Int32.reduceToInt] at *; omega)
    rw [w _ (by omega), s6, if_neg (fun z => hne (by rw [i_eq, nj, n20] at z; rw [i_eq]; omega))]
    exact hii.2.2 j j0 j1
end
section
/-! ===== numbers in lines ===== -/
theorem m_digs : ∀ (D n : Nat), n < 10 ^ (D + 1) → ∃ d, d ≤ D ∧ n / 10 ^ d < 10 ∧ ∀ k, k < d → 10 ≤ n / 10 ^ k := by
  intro D
  induction D with
  | zero => intro n h; exact ⟨0, Nat.le_refl _, by simpa using h, fun k hk => by omega⟩
  | succ D ih =>
    intro n h
    by_cases c : n < 10 ^ (D + 1)
    · obtain ⟨d, h1, h2, h3⟩ := ih n c
      exact ⟨d, by omega, h2, h3⟩
    · refine ⟨D + 1, Nat.le_refl _, ?_, fun k hk => ?_⟩
      · apply Nat.div_lt_of_lt_mul
        rw [← Nat.pow_succ]
        exact h
      · rw [Nat.le_div_iff_mul_le (Nat.pow_pos (by decide))]
        calc 10 * 10 ^ k = 10 ^ (k + 1) := by rw [Nat.pow_succ, Nat.mul_comm]
          _ ≤ 10 ^ (D + 1) := Nat.pow_le_pow_right (by decide) (by omega)
          _ ≤ n := by omega
theorem m_p10 : ∀ k, k ≤ 6 → 10 ^ k ≤ 1000000 ∧ 0 < 10 ^ k := by decide
theorem m_ln10 (S : fd_S) (g : Int32 → Int32) (h : m_L S g) : 0 ≤ g 131 ∧ g 131 ≤ 20 := by
  have := (h.2.2 0 (by decide) (by decide)).1
  rwa [show m_ll 0 = 131 by decide] at this
/-- the figures of n, from the one of 10^k on, written -/
def m_wdn (g : Int32 → Int32) (n : Nat) : Nat → Int32 → Int32
  | 0 => m_wr g (48 + fd_rem (nI n / nI (10 ^ 0)) 10)
  | k + 1 => m_wdn (m_wr g (48 + fd_rem (nI n / nI (10 ^ (k + 1))) 10)) n k
def m_dgc (n : Nat) : Nat := if n < 10 then 0 else if n < 100 then 1 else if n < 1000 then 2 else if n < 10000 then 3 else if n < 100000 then 4 else 5
def m_wn (g : Int32 → Int32) (x : Int32) : Int32 → Int32 := m_wdn g x.toNatClampNeg (m_dgc x.toNatClampNeg)
theorem m_dgc_ok {n D : Nat} (h : n < 10 ^ (D + 1)) (hD : D ≤ 5) : m_dgc n ≤ D ∧ n / 10 ^ m_dgc n < 10 ∧ ∀ k, k < m_dgc n → 10 ≤ n / 10 ^ k := by
  have hD' : D = 0 ∨ D = 1 ∨ D = 2 ∨ D = 3 ∨ D = 4 ∨ D = 5 := by omega
  have key : n / 10 ^ m_dgc n < 10 ∧ ∀ k, k < m_dgc n → 10 ≤ n / 10 ^ k := by
    have hn : n < 1000000 := by rcases hD' with rfl | rfl | rfl | rfl | rfl | rfl <;> omega
    unfold m_dgc
    repeat' split
    all_goals refine ⟨by omega, fun k hk => ?_⟩
    · omega
    · have : k = 0 := by omega
      subst this; omega
    · have : k = 0 ∨ k = 1 := by omega
      rcases this with rfl | rfl <;> omega
    · have : k = 0 ∨ k = 1 ∨ k = 2 := by omega
      rcases this with rfl | rfl | rfl <;> omega
    · have : k = 0 ∨ k = 1 ∨ k = 2 ∨ k = 3 := by omega
      rcases this with rfl | rfl | rfl | rfl <;> omega
    · have : k = 0 ∨ k = 1 ∨ k = 2 ∨ k = 3 ∨ k = 4 := by omega
      rcases this with rfl | rfl | rfl | rfl | rfl <;> omega
  refine ⟨?_, key⟩
  unfold m_dgc
  repeat' split
  all_goals rcases hD' with rfl | rfl | rfl | rfl | rfl | rfl <;> omega
theorem m_wdn_lo {n : Nat} : ∀ (k : Nat) (g : Int32 → Int32) (j : Int32), k ≤ 5 → 0 ≤ g 131 ∧ g 131 ≤ 20 → j < 131 → m_wdn g n k j = g j := by
  intro k
  induction k with
  | zero => intro g j _ h hj; exact m_wr_lo ⟨h.1, by (simp only [ne_eq, i_lt, i_le, i_eq, i_add, i_sub, i_neg, i_mul, Int32.reduceToInt] at *; omega)⟩ hj
  | succ k ih =>
    intro g j hk h hj
    rw [m_wdn]
    by_cases c : g 131 ≤ 19
    · rw [ih _ j (by omega) (by rw [m_wr_131]; clear ih; (simp only [ne_eq, i_lt, i_le, i_eq, i_add, i_sub, i_neg, i_mul, Int32.reduceToInt] at *; omega)) hj, m_wr_lo ⟨h.1, by clear ih; (simp only [ne_eq, i_lt, i_le, i_eq, i_add, i_sub, i_neg, i_mul, Int32.reduceToInt] at *; omega)⟩ hj]
    · have : ∀ (k : Nat) (g : Int32 → Int32), k ≤ 5 → 0 ≤ g 131 ∧ g 131 ≤ 30 - nI k → j < 131 → m_wdn g n k j = g j := by
        intro k
        induction k with
        | zero => intro g _ h hj; exact m_wr_lo ⟨h.1, by have := h.2; rw [show (30 : Int32) - nI 0 = 30 by decide] at this; clear ih h; (simp only [ne_eq, i_lt, i_le, i_eq, i_add, i_sub, i_neg, i_mul, Int32.reduceToInt] at *; omega)⟩ hj
        | succ k ih2 =>
          intro g hk h hj
          have hk1 : (nI (k + 1)).toInt = k + 1 := nI_toInt (by omega)
          have hk2 : (nI k).toInt = k := nI_toInt (by omega)
          have h1 := i_le.mp h.1
          have h2 := i_le.mp h.2
          rw [i_sub, hk1] at h2
          simp only [Int32.reduceToInt] at h1 h2
          rw [m_wdn, ih2 _ (by omega) ⟨by rw [m_wr_131, i_le, i_add]; simp only [Int32.reduceToInt]; omega, by rw [m_wr_131, i_le, i_add, i_sub, hk2]; simp only [Int32.reduceToInt]; omega⟩ hj, m_wr_lo ⟨h.1, by rw [i_le]; simp only [Int32.reduceToInt]; omega⟩ hj]
      have hk2 : (nI k).toInt = k := nI_toInt (by omega)
      have h1 := i_le.mp h.1
      have h2 := i_le.mp h.2
      simp only [Int32.reduceToInt] at h1 h2
      rw [this k _ (by omega) ⟨by rw [m_wr_131, i_le, i_add]; simp only [Int32.reduceToInt]; omega, by rw [m_wr_131, i_le, i_add, i_sub, hk2]; simp only [Int32.reduceToInt]; omega⟩ hj, m_wr_lo ⟨h.1, by clear ih; (simp only [ne_eq, i_lt, i_le, i_eq, i_add, i_sub, i_neg, i_mul, Int32.reduceToInt] at *; omega)⟩ hj]
theorem m_wdn_131 {n : Nat} : ∀ (k : Nat) (g : Int32 → Int32), m_wdn g n k 131 = g 131 + nI (k + 1) := by
  intro k
  induction k with
  | zero => intro g; exact m_wr_131
  | succ k ih =>
    intro g
    rw [m_wdn, ih, m_wr_131, ← nI_1 (k + 1)]
    grind
theorem m_wr_loop {fu n : Nat} {S' : fd_S} (hn : n < 1000000) : ∀ (k m : Nat) (g : Int32 → Int32), k ≤ 5 → k + 1 < m → 0 ≤ g 131 → g 131 ≤ 20 - nI (k + 1) → zM_writeNumber_18 fu m (fd_sg S' g) (nI n) (nI (10 ^ k)) = some (fd_sg S' (m_wdn g n k)) := by
  intro k
  induction k with
  | zero =>
    intro m g _ hm h0 hlen
    obtain ⟨m, rfl⟩ : ∃ m', m = m' + 2 := ⟨m - 2, by omega⟩
    have e19 : (20 : Int32) - nI (0 + 1) = 19 := by decide
    rw [e19] at hlen
    rw [zM_writeNumber_18, if_neg (show ¬ nI (10 ^ 0) ≤ 0 by decide), if_pos (show ¬ nI (10 ^ 0) = 0 by decide), zM_write_eq ⟨h0, by (simp only [ne_eq, i_lt, i_le, i_eq, i_add, i_sub, i_neg, i_mul, Int32.reduceToInt] at *; omega)⟩]
    simp only [Option.bind_some, fd_lt]
    rw [zM_writeNumber_18, if_pos (by decide)]
    rfl
  | succ k ih =>
    intro m g hk hm h0 hlen
    obtain ⟨m, rfl⟩ : ∃ m', m = m' + 1 := ⟨m - 1, by omega⟩
    have hp := m_p10 (k + 1) (by omega)
    have hk1 : (nI (k + 1 + 1)).toInt = k + 1 + 1 := nI_toInt (by omega)
    have hk2 : (nI (k + 1)).toInt = k + 1 := nI_toInt (by omega)
    have l0 := i_le.mp h0
    simp only [Int32.reduceToInt] at l0
    have hlen' : (g 131).toInt ≤ 20 - (k + 1 + 1) := by
      rw [i_le, i_sub, hk1] at hlen
      simp only [Int32.reduceToInt] at hlen
      omega
    rw [zM_writeNumber_18, if_neg (nI_nle (by omega) (by omega)), if_pos (nI_ne0 (by omega) (by omega)), zM_write_eq ⟨h0, by rw [i_le]; simp only [Int32.reduceToInt]; omega⟩]
    simp only [Option.bind_some, fd_lt]
    rw [show nI (10 ^ (k + 1)) / 10 = nI (10 ^ k) by rw [show (10 : Int32) = nI 10 from rfl, pk_div (by omega) (by omega) (by omega), show 10 ^ (k + 1) / 10 = 10 ^ k by rw [Nat.pow_succ]; exact Nat.mul_div_cancel _ (by decide)]]
    exact ih m _ (by omega) (by omega) (by rw [m_wr_131, i_le, i_add]; simp only [Int32.reduceToInt]; omega) (by rw [m_wr_131, i_le, i_sub, hk2, i_add]; simp only [Int32.reduceToInt]; omega)
theorem m_pn_loop {fu n : Nat} (hn : n < 1000000) : ∀ (k m : Nat) (S : fd_S) (g : Int32 → Int32), k ≤ 5 → k + 1 < m → m_L S g → g 131 ≤ 20 - nI (k + 1) →
    ∃ S1, zL_putNumber_29 fu m S (nI n) (nI (10 ^ k)) = some S1 ∧ m_L S1 (m_wdn g n k) ∧ (∀ a : Nat, a ≠ 6 → a ≠ 7 → S1 a = S a) := by
  intro k
  induction k with
  | zero =>
    intro m S g _ hm hL hlen
    obtain ⟨m, rfl⟩ : ∃ m', m = m' + 2 := ⟨m - 2, by omega⟩
    have e19 : (20 : Int32) - nI (0 + 1) = 19 := by decide
    rw [e19] at hlen
    rw [zL_putNumber_29, if_neg (show ¬ nI (10 ^ 0) ≤ 0 by decide), if_pos (show ¬ nI (10 ^ 0) = 0 by decide)]
    obtain ⟨S1, s1, s2, s3⟩ := m_put (c := 48 + fd_rem (nI n / nI (10 ^ 0)) 10) hL (by clear hL; (simp only [ne_eq, i_lt, i_le, i_eq, i_add, i_sub, i_neg, i_mul, Int32.reduceToInt] at *; omega))
    rw [s1]
    simp only [Option.bind_some, fd_lt]
    rw [zL_putNumber_29, if_pos (by decide)]
    exact ⟨S1, rfl, s2, s3⟩
  | succ k ih =>
    intro m S g hk hm hL hlen
    obtain ⟨m, rfl⟩ : ∃ m', m = m' + 1 := ⟨m - 1, by omega⟩
    have hl := m_ln10 S g hL
    have hp := m_p10 (k + 1) (by omega)
    have hk1 : (nI (k + 1 + 1)).toInt = k + 1 + 1 := nI_toInt (by omega)
    have hk2 : (nI (k + 1)).toInt = k + 1 := nI_toInt (by omega)
    have l0 := i_le.mp hl.1
    simp only [Int32.reduceToInt] at l0
    have hlen' : (g 131).toInt ≤ 20 - (k + 1 + 1) := by
      rw [i_le, i_sub, hk1] at hlen
      simp only [Int32.reduceToInt] at hlen
      omega
    rw [zL_putNumber_29, if_neg (nI_nle (by omega) (by omega)), if_pos (nI_ne0 (by omega) (by omega))]
    obtain ⟨S1, s1, s2, s3⟩ := m_put (c := 48 + fd_rem (nI n / nI (10 ^ (k + 1))) 10) hL (by rw [i_lt]; simp only [Int32.reduceToInt]; omega)
    rw [s1]
    simp only [Option.bind_some, fd_lt]
    rw [show nI (10 ^ (k + 1)) / 10 = nI (10 ^ k) by rw [show (10 : Int32) = nI 10 from rfl, pk_div (by omega) (by omega) (by omega), show 10 ^ (k + 1) / 10 = 10 ^ k by rw [Nat.pow_succ]; exact Nat.mul_div_cancel _ (by decide)]]
    obtain ⟨S2, t1, t2, t3⟩ := ih m S1 _ (by omega) (by omega) s2 (by rw [m_wr_131, i_le, i_sub, hk2, i_add]; simp only [Int32.reduceToInt]; omega)
    exact ⟨S2, t1, t2, fun a h6 h7 => by rw [t3 a h6 h7, s3 a h6 h7]⟩
theorem m_num_head {fu n d : Nat} {S S' : fd_S} {g : Int32 → Int32} (hn : n < 1000000) (hd : d ≤ 5) (h1 : n / 10 ^ d < 10) (h2 : ∀ k, k < d → 10 ≤ n / 10 ^ k) : ∀ (j k m : Nat), k + j = d → j < m →
    zL_putNumber_4 fu m S (nI n) (nI (10 ^ k)) (nI k) = zL_putNumber_29 fu fu S (nI n) (nI (10 ^ d)) ∧ zM_writeNumber_2 fu m (fd_sg S' g) (nI n) (nI (10 ^ k)) = zM_writeNumber_18 fu fu (fd_sg S' g) (nI n) (nI (10 ^ d)) := by
  intro j
  induction j with
  | zero =>
    intro k m hk hm
    obtain ⟨m, rfl⟩ : ∃ m', m = m' + 1 := ⟨m - 1, by omega⟩
    have : k = d := by omega
    subst this
    have hp := m_p10 k (by omega)
    rw [zL_putNumber_4, zM_writeNumber_2, if_neg (by rw [show (9 : Int32) = nI 9 from rfl]; exact nI_ge (by omega) (by omega)), if_pos (nI_ne0 (by omega) (by omega)), if_pos (nI_ne0 (by omega) (by omega)), pk_div (by omega) (by omega) (by omega), if_pos (by rw [show (10 : Int32) = nI 10 from rfl]; exact nI_lt h1 (by omega)), if_pos (by rw [show (9 : Int32) = nI 9 from rfl]; exact nI_le (by omega) (by omega))]
    exact ⟨rfl, rfl⟩
  | succ j ih =>
    intro k m hk hm
    obtain ⟨m, rfl⟩ : ∃ m', m = m' + 1 := ⟨m - 1, by omega⟩
    have hp := m_p10 k (by omega)
    have hq := h2 k (by omega)
    have hle : n / 10 ^ k ≤ n := Nat.div_le_self _ _
    rw [zL_putNumber_4, zM_writeNumber_2, if_neg (by rw [show (9 : Int32) = nI 9 from rfl]; exact nI_ge (by omega) (by omega)), if_pos (nI_ne0 (by omega) (by omega)), if_pos (nI_ne0 (by omega) (by omega)), pk_div (by omega) (by omega) (by omega), if_neg (by rw [show (10 : Int32) = nI 10 from rfl]; exact nI_nlt hq (by omega)), if_neg (by rw [show (9 : Int32) = nI 9 from rfl]; exact nI_ge (by omega) (by omega))]
    simp only [fd_lt]
    rw [nI_1, show (10 : Int32) = nI 10 from rfl, pk_mul, ← Nat.pow_succ]
    exact ih (k + 1) m (by omega) (by omega)
theorem m_len_d {D : Nat} {v : Int32} (hD : D ≤ 5) (hlen : v ≤ 20 - nI (D + 1)) : v.toInt ≤ 20 - (D + 1) := by
  have hD1 : (nI (D + 1)).toInt = D + 1 := nI_toInt (by omega)
  rw [i_le, i_sub, hD1] at hlen
  simp only [Int32.reduceToInt] at hlen
  omega
theorem zM_writeNumber_eq {fu : Nat} {S : fd_S} {g : Int32 → Int32} {x : Int32} (D : Nat) (hfu : 10000 ≤ fu) (hD : D ≤ 5) (hx0 : 0 ≤ x) (hx : x < nI (10 ^ (D + 1))) (h0 : 0 ≤ g 131) (hlen : g 131 ≤ 20 - nI (D + 1)) : zM_writeNumber fu (fd_sg S g) x = some (fd_sg S (m_wn g x)) := by
  have hp := m_p10 (D + 1) (by omega)
  obtain ⟨n, hn, rfl⟩ := nI_of (Int32.not_lt.mpr hx0)
  rw [nI_ltI hn (by omega)] at hx
  obtain ⟨hd, h1, h2⟩ := m_dgc_ok hx hD
  obtain ⟨-, e2⟩ := m_num_head (fu := fu) (S := S) (S' := S) (g := g) (n := n) (by omega) (by omega) h1 h2 (m_dgc n) 0 fu (by omega) (by omega)
  have l1 := m_len_d hD hlen
  have hd1 : (nI (m_dgc n + 1)).toInt = m_dgc n + 1 := nI_toInt (by omega)
  have l0 := i_le.mp h0
  simp only [Int32.reduceToInt] at l0
  unfold zM_writeNumber m_wn
  rw [show (1 : Int32) = nI (10 ^ 0) from rfl, e2, nI_clamp hn]
  exact m_wr_loop (by omega) _ fu g (by omega) (by omega) h0 (by rw [i_le, i_sub, hd1]; simp only [Int32.reduceToInt]; omega)
theorem m_wn_lo {g : Int32 → Int32} {x j : Int32} (D : Nat) (hD : D ≤ 5) (hx0 : 0 ≤ x) (hx : x < nI (10 ^ (D + 1))) (h0 : 0 ≤ g 131 ∧ g 131 ≤ 20) (hj : j < 131) : m_wn g x j = g j := by
  have hp := m_p10 (D + 1) (by omega)
  obtain ⟨n, hn, rfl⟩ := nI_of (Int32.not_lt.mpr hx0)
  rw [nI_ltI hn (by omega)] at hx
  obtain ⟨hd, h1, h2⟩ := m_dgc_ok hx hD
  unfold m_wn
  rw [nI_clamp hn]
  exact m_wdn_lo _ g j (by omega) h0 hj
theorem m_wn_131 {g : Int32 → Int32} {x : Int32} (D : Nat) (hD : D ≤ 5) (hx0 : 0 ≤ x) (hx : x < nI (10 ^ (D + 1))) (h0 : 0 ≤ g 131 ∧ g 131 ≤ 20) : g 131 ≤ m_wn g x 131 ∧ m_wn g x 131 ≤ g 131 + nI (D + 1) := by
  have hp := m_p10 (D + 1) (by omega)
  obtain ⟨n, hn, rfl⟩ := nI_of (Int32.not_lt.mpr hx0)
  rw [nI_ltI hn (by omega)] at hx
  obtain ⟨hd, h1, h2⟩ := m_dgc_ok hx hD
  have hd1 : (nI (m_dgc n + 1)).toInt = m_dgc n + 1 := nI_toInt (by omega)
  have hD1 : (nI (D + 1)).toInt = D + 1 := nI_toInt (by omega)
  have l0 := i_le.mp h0.1
  have l1 := i_le.mp h0.2
  simp only [Int32.reduceToInt] at l0 l1
  unfold m_wn
  rw [nI_clamp hn, m_wdn_131]
  constructor
  · rw [i_le, i_add, hd1]; omega
  · rw [i_le, i_add, i_add, hd1, hD1]; omega
theorem m_pn {fu : Nat} {S : fd_S} {g : Int32 → Int32} {x : Int32} (D : Nat) (hfu : 10000 ≤ fu) (hD : D ≤ 5) (hx0 : 0 ≤ x) (hx : x < nI (10 ^ (D + 1))) (hL : m_L S g) (hlen : g 131 ≤ 20 - nI (D + 1)) :
    ∃ S1, zL_putNumber fu S x = some S1 ∧ m_L S1 (m_wn g x) ∧ (∀ a : Nat, a ≠ 6 → a ≠ 7 → S1 a = S a) := by
  have hp := m_p10 (D + 1) (by omega)
  obtain ⟨n, hn, rfl⟩ := nI_of (Int32.not_lt.mpr hx0)
  rw [nI_ltI hn (by omega)] at hx
  obtain ⟨hd, h1, h2⟩ := m_dgc_ok hx hD
  obtain ⟨e1, -⟩ := m_num_head (fu := fu) (S := S) (S' := S) (g := g) (n := n) (by omega) (by omega) h1 h2 (m_dgc n) 0 fu (by omega) (by omega)
  have l1 := m_len_d hD hlen
  have hd1 : (nI (m_dgc n + 1)).toInt = m_dgc n + 1 := nI_toInt (by omega)
  have l0 := i_le.mp (m_ln10 S g hL).1
  simp only [Int32.reduceToInt] at l0
  unfold zL_putNumber m_wn
  rw [show (1 : Int32) = nI (10 ^ 0) from rfl, show (0 : Int32) = nI 0 from rfl, e1, nI_clamp hn]
  exact m_pn_loop (by omega) _ fu S g (by omega) (by omega) hL (by rw [i_le, i_sub, hd1]; simp only [Int32.reduceToInt]; omega)
/-- a number of one figure -/
theorem m_num1 {fu : Nat} {S : fd_S} {g : Int32 → Int32} {x : Int32} (hfu : 10000 ≤ fu) (hx0 : 0 ≤ x) (hx : x < 10) (hL : m_L S g) (hlen : g 131 < 20) :
    ∃ S1, zL_putNumber fu S x = some S1 ∧ m_L S1 (m_wr g (48 + x)) ∧ (∀ a : Nat, a ≠ 6 → a ≠ 7 → S1 a = S a) := by
  obtain ⟨m, rfl⟩ : ∃ m', fu = m' + 2 := ⟨fu - 2, by omega⟩
  obtain ⟨n, hn, rfl⟩ := m_nat (x := x) (M := 9) hx0 (show x ≤ (9 : Int32) by clear hL; (simp only [ne_eq, i_lt, i_le, i_eq, i_add, i_sub, i_neg, i_mul, Int32.reduceToInt] at *; omega)) (by decide)
  obtain ⟨S1, s1, s2, s3⟩ := m_put (c := 48 + nI n) hL hlen
  refine ⟨S1, ?_, s2, s3⟩
  have e1 : nI n / 1 = nI n := by
    rw [show (1 : Int32) = nI 1 from rfl, pk_div (by omega) (by omega) (by omega), Nat.div_one]
  have e2 : fd_rem (nI n) 10 = nI n := by
    rw [show (10 : Int32) = nI 10 from rfl, m_rem (by omega) (by omega) (by omega), Nat.mod_eq_of_lt (by omega)]
  unfold zL_putNumber
  rw [zL_putNumber_4, if_neg (by decide), if_pos (by decide), e1, if_pos hx, zL_putNumber_29, if_neg (by decide), if_pos (by decide), e1, e2, s1]
  simp only [Option.bind_some, fd_lt]
  rw [zL_putNumber_29, if_pos (by decide)]
end
section
/-! ===== another line ===== -/
def m_shl (g : Int32 → Int32) : Int32 → Int32 := fun j => if 155 ≤ j ∧ j < 275 then g (j - 24) else g j
def m_s2 (g : Int32 → Int32) (k : Int32) : Int32 → Int32 := fun j => if 155 ≤ j ∧ j ≤ 131 + k then g (j - 24) else g j
def m_b0 (h : Int32 → Int32) : Int32 → Int32 := m_gu (m_gu h 131 0) 70 (h 70 + 1)
def m_b3 (h : Int32 → Int32) (c x : Int32) : Int32 → Int32 := m_wr (m_wr (m_wr (m_b0 h) c) (48 + x / 8)) (48 + fd_rem x 8)
def m_bl (g : Int32 → Int32) (c x : Int32) : Int32 → Int32 := m_b3 (m_shl g) c x
theorem m_b0_131 (h : Int32 → Int32) : m_b0 h 131 = 0 := by
  unfold m_b0 m_gu
  rw [if_neg (by decide), if_pos rfl]
theorem m_wr_131' {g : Int32 → Int32} {c v : Int32} (h : g 131 = v) : m_wr g c 131 = v + 1 := by rw [m_wr_131, h]
theorem m_bl_loop {fu : Nat} {S : fd_S} {c x : Int32} : ∀ (n : Nat) (g : Int32 → Int32) (k : Int32), m_md 24 k < n → 23 ≤ k → k ≤ 143 → zM_beginLine_4 fu n (fd_sg S g) c x k = some (fd_sg S (m_b3 (m_s2 g k) c x)) := by
  intro n
  induction n with
  | zero => intro g k h; omega
  | succ n ih =>
    intro g k hn h1 h2
    rw [zM_beginLine_4]
    simp only [fd_lt, sg_78, sg_up]
    by_cases c1 : k < 24
    · rw [if_pos c1]
      have e1 : m_gu g 131 0 70 = g 70 := by unfold m_gu; rw [if_neg (by decide)]
      have e2 : m_s2 g k = g := by
        funext j
        unfold m_s2
        rw [if_neg (by clear ih; (simp only [ne_eq, i_lt, i_le, i_eq, i_add, i_sub, i_neg, i_mul, Int32.reduceToInt] at *; omega))]
      have b0 := m_b0_131 g
      have b1 := m_wr_131' (c := c) b0
      have b2 := m_wr_131' (c := 48 + x / 8) b1
      rw [e1, e2]
      change ((zM_write (fd_sg S (m_b0 g)) c).bind _) = _
      rw [zM_write_eq (by rw [b0]; decide), Option.bind_some, zM_write_eq (by rw [b1]; decide), Option.bind_some, zM_write_eq (by rw [b2]; decide), Option.bind_some]
      rfl
    · rw [if_neg c1, if_pos (by clear ih; (simp only [ne_eq, i_lt, i_le, i_eq, i_add, i_sub, i_neg, i_mul, Int32.reduceToInt] at *; omega)), if_pos (by clear ih; (simp only [ne_eq, i_lt, i_le, i_eq, i_add, i_sub, i_neg, i_mul, Int32.reduceToInt] at *; omega))]
      have hm := m_md_dn c1 (by decide)
      rw [ih _ (k + -1) (by omega) (by clear ih; (simp only [ne_eq, i_lt, i_le, i_eq, i_add, i_sub, i_neg, i_mul, Int32.reduceToInt] at *; omega)) (by clear ih; (simp only [ne_eq, i_lt, i_le, i_eq, i_add, i_sub, i_neg, i_mul, Int32.reduceToInt] at *; omega))]
      have e : m_s2 (m_gu g (131 + k) (g (131 + k - 24))) (k + -1) = m_s2 g k := by
        funext j
        unfold m_s2 m_gu
        clear ih
        by_cases cj : j = 131 + k
        · rw [if_neg (by (simp only [ne_eq, i_lt, i_le, i_eq, i_add, i_sub, i_neg, i_mul, Int32.reduceToInt] at *; omega)), if_pos cj, if_pos (by (simp only [ne_eq, i_lt, i_le, i_eq, i_add, i_sub, i_neg, i_mul, Int32.reduceToInt] at *; omega)), cj]
        · by_cases cr : 155 ≤ j ∧ j ≤ 131 + (k + -1)
          · rw [if_pos cr, if_neg (by (simp only [ne_eq, i_lt, i_le, i_eq, i_add, i_sub, i_neg, i_mul, Int32.reduceToInt] at *; omega)), if_pos (by (simp only [ne_eq, i_lt, i_le, i_eq, i_add, i_sub, i_neg, i_mul, Int32.reduceToInt] at *; omega))]
          · rw [if_neg cr, if_neg cj, if_neg (by (simp only [ne_eq, i_lt, i_le, i_eq, i_add, i_sub, i_neg, i_mul, Int32.reduceToInt] at *; omega))]
      rw [e]
theorem zM_beginLine_eq {fu : Nat} {S : fd_S} {g : Int32 → Int32} {c x : Int32} (hfu : 10000 ≤ fu) : zM_beginLine fu (fd_sg S g) c x = some (fd_sg S (m_bl g c x)) := by
  unfold zM_beginLine
  rw [m_bl_loop fu g 143 (m_md_fu (by decide) (by decide) hfu) (by decide) (by decide)]
  have e : m_s2 g 143 = m_shl g := by
    funext j
    unfold m_s2 m_shl
    by_cases cj : 155 ≤ j ∧ j < 275
    · rw [if_pos cj, if_pos (by (simp only [ne_eq, i_lt, i_le, i_eq, i_add, i_sub, i_neg, i_mul, Int32.reduceToInt] at *; omega))]
    · rw [if_neg cj, if_neg (by (simp only [ne_eq, i_lt, i_le, i_eq, i_add, i_sub, i_neg, i_mul, Int32.reduceToInt] at *; omega))]
  rw [e]
  rfl
theorem m_bl_131 {g : Int32 → Int32} {c x : Int32} : m_bl g c x 131 = 3 := by
  unfold m_bl m_b3
  rw [m_wr_131, m_wr_131, m_wr_131, m_b0_131]
  decide
theorem m_b0_lo {h : Int32 → Int32} {j : Int32} (hj : j < 131) (h70 : j ≠ 70) : m_b0 h j = h j := by
  unfold m_b0 m_gu
  rw [if_neg h70, if_neg (by (simp only [ne_eq, i_lt, i_le, i_eq, i_add, i_sub, i_neg, i_mul, Int32.reduceToInt] at *; omega))]
theorem m_shl_lo {g : Int32 → Int32} {j : Int32} (hj : j < 131) : m_shl g j = g j := by
  unfold m_shl
  rw [if_neg (by (simp only [ne_eq, i_lt, i_le, i_eq, i_add, i_sub, i_neg, i_mul, Int32.reduceToInt] at *; omega))]
theorem m_bl_lo {g : Int32 → Int32} {c x j : Int32} (hj : j < 131) : m_bl g c x j = if j = 70 then g 70 + 1 else g j := by
  have b0 := m_b0_131 (m_shl g)
  have b1 := m_wr_131' (c := c) b0
  have b2 := m_wr_131' (c := 48 + x / 8) b1
  unfold m_bl m_b3
  rw [m_wr_lo (by rw [b2]; decide) hj, m_wr_lo (by rw [b1]; decide) hj, m_wr_lo (by rw [b0]; decide) hj]
  by_cases c70 : j = 70
  · rw [if_pos c70, c70]
    unfold m_b0 m_gu
    rw [if_pos rfl, m_shl_lo (by decide)]
  · rw [if_neg c70, m_b0_lo hj c70, m_shl_lo hj]
theorem m_nx : ∀ a : Nat, a < 6 → fd_rem (nI a + 1) 6 = if nI a = 5 then 0 else nI a + 1 := by decide
theorem m_begin0 {S : fd_S} {g : Int32 → Int32} (h : m_L S g) : m_L (fd_up (fd_up (fd_up S 5 2 (fd_rem (S 5 2 + 1) 6)) 7 (fd_rem (S 5 2 + 1) 6) 0) 5 3 (S 5 3 + 1)) (m_b0 (m_shl g)) := by
  obtain ⟨hv, h53, hi⟩ := h
  have hnx : fd_rem (S 5 2 + 1) 6 = if S 5 2 = 5 then 0 else S 5 2 + 1 := by
    obtain ⟨a, ha, e⟩ := m_nat (x := S 5 2) (M := 5) hv.1 (show S 5 2 ≤ (5 : Int32) by have := hv.2; clear hi h53; (simp only [ne_eq, i_lt, i_le, i_eq, i_add, i_sub, i_neg, i_mul, Int32.reduceToInt] at *; omega)) (by decide)
    rw [e]
    exact m_nx a (by omega)
  generalize hv' : fd_rem (S 5 2 + 1) 6 = v' at hnx ⊢
  have hr' : 0 ≤ v' ∧ v' < 6 := by
    rw [hnx]
    clear hi h53
    split <;> (simp only [ne_eq, i_lt, i_le, i_eq, i_add, i_sub, i_neg, i_mul, Int32.reduceToInt] at *; omega)
  generalize hS1 : fd_up (fd_up (fd_up S 5 2 v') 7 v' 0) 5 3 (S 5 3 + 1) = S1
  have s52 : S1 5 2 = v' := by rw [← hS1, fd_up_at, if_neg (by decide), fd_up_ne (by decide), fd_up_at, if_pos rfl]
  have s53 : S1 5 3 = S 5 3 + 1 := by rw [← hS1, fd_up_at, if_pos rfl]
  have s7 : ∀ b, S1 7 b = if b = v' then 0 else S 7 b := by
    intro b
    rw [← hS1, fd_up_ne (by decide), fd_up_at, fd_up_ne (by decide)]
  have s6 : S1 6 = S 6 := by rw [← hS1, fd_up_ne (by decide), fd_up_ne (by decide), fd_up_ne (by decide)]
  unfold m_L
  rw [s52, s53]
  refine ⟨hr', ?_, fun i i0 i6 => ?_⟩
  · rw [h53]
    unfold m_b0 m_gu
    rw [if_pos rfl, m_shl_lo (by decide)]
  · by_cases c0 : i = 0
    · subst c0
      rw [show m_ll 0 = 131 by decide, m_b0_131, m_pp_0 hr'.1, s7, if_pos rfl]
      exact ⟨by decide, rfl, fun j j0 j1 => by clear hi; (simp only [ne_eq, i_lt, i_le, i_eq, i_add, i_sub, i_neg, i_mul, Int32.reduceToInt] at *; omega)⟩
    · have hi1 : 0 ≤ i - 1 ∧ i - 1 < 5 ∧ i - 1 < 6 := by clear hi h53; (simp only [ne_eq, i_lt, i_le, i_eq, i_add, i_sub, i_neg, i_mul, Int32.reduceToInt] at *; omega)
      have hii := hi (i - 1) hi1.1 hi1.2.2
      have hln := m_ll_num i0 i6
      have hi1' : 1 ≤ i.toInt := by clear hi h53 hii; (simp only [ne_eq, i_lt, i_le, i_eq, i_add, i_sub, i_neg, i_mul, Int32.reduceToInt] at *; omega)
      have hi6' : i.toInt < 6 := by clear hi h53 hii; (simp only [ne_eq, i_lt, i_le, i_eq, i_add, i_sub, i_neg, i_mul, Int32.reduceToInt] at *; omega)
      have epp : m_pp v' i = m_pp (S 5 2) (i - 1) := by
        clear hi hii h53
        unfold m_pp
        rw [hnx]
        split <;> split <;> split <;> (simp only [ne_eq, i_lt, i_le, i_eq, i_add, i_sub, i_neg, i_mul, Int32.reduceToInt] at *; omega)
      have w : ∀ y : Int32, 155 ≤ y.toInt → y.toInt < 275 → m_b0 (m_shl g) y = g (y - 24) := by
        intro y y1 y2
        unfold m_b0 m_gu m_shl
        rw [if_neg (by clear hi hii h53; (simp only [ne_eq, i_lt, i_le, i_eq, i_add, i_sub, i_neg, i_mul, Int32.reduceToInt] at *; omega)), if_neg (by clear hi hii h53; (simp only [ne_eq, i_lt, i_le, i_eq, i_add, i_sub, i_neg, i_mul, Int32.reduceToInt] at *; omega)), if_pos (by clear hi hii h53; (simp only [ne_eq, i_lt, i_le, i_eq, i_add, i_sub, i_neg, i_mul, Int32.reduceToInt] at *; omega))]
      have e1 : m_ll i - 24 = m_ll (i - 1) := by unfold m_ll; grind
      have hne : m_pp (S 5 2) (i - 1) ≠ v' := by
        intro z
        have e5 : v' = m_pp (S 5 2) 5 := by
          clear hi hii h53
          unfold m_pp
          rw [hnx]
          split <;> split <;> (simp only [ne_eq, i_lt, i_le, i_eq, i_add, i_sub, i_neg, i_mul, Int32.reduceToInt] at *; omega)
        rw [e5] at z
        have := m_pp_inj hv.1 hv.2 hi1.1 hi1.2.2 (by decide) (by decide) z
        clear hi hii h53
        (simp only [ne_eq, i_lt, i_le, i_eq, i_add, i_sub, i_neg, i_mul, Int32.reduceToInt] at *; omega)
      rw [w _ (by omega) (by omega), e1, epp, s7, if_neg hne, s6]
      refine ⟨hii.1, hii.2.1, fun j j0 j1 => ?_⟩
      have j20 : j ≤ 100 ∧ j.toInt < 20 := by have := hii.1; clear hi hii h53; (simp only [ne_eq, i_lt, i_le, i_eq, i_add, i_sub, i_neg, i_mul, Int32.reduceToInt] at *; omega)
      have j00 : 0 ≤ j.toInt := by clear hi hii h53; (simp only [ne_eq, i_lt, i_le, i_eq, i_add, i_sub, i_neg, i_mul, Int32.reduceToInt] at *; omega)
      have hla := m_la_num i0 i6 j0 j20.1
      have e2 : zM_lineAt i j - 24 = zM_lineAt (i - 1) j := by unfold zM_lineAt; grind
      rw [w _ (by omega) (by omega), e2]
      exact hii.2.2 j j0 j1
theorem m_begin {fu : Nat} {S : fd_S} {g : Int32 → Int32} {c x : Int32} (hfu : 10000 ≤ fu) (hL : m_L S g) (hx : 0 ≤ x ∧ x < 32) : ∃ S1, zL_begin fu S c x = some S1 ∧ m_L S1 (m_bl g c x) ∧ (∀ k : Nat, k ≠ 5 → k ≠ 6 → k ≠ 7 → S1 k = S k) := by
  have h0 := m_begin0 hL
  have hv := hL.1
  have hnx : fd_rem (S 5 2 + 1) 6 = if S 5 2 = 5 then 0 else S 5 2 + 1 := by
    obtain ⟨a, ha, e⟩ := m_nat (x := S 5 2) (M := 5) hv.1 (show S 5 2 ≤ (5 : Int32) by have := hv.2; clear hL h0; (simp only [ne_eq, i_lt, i_le, i_eq, i_add, i_sub, i_neg, i_mul, Int32.reduceToInt] at *; omega)) (by decide)
    rw [e]
    exact m_nx a (by omega)
  have hr' : 0 ≤ fd_rem (S 5 2 + 1) 6 ∧ fd_rem (S 5 2 + 1) 6 < 6 := by
    rw [hnx]
    clear hL h0
    split <;> (simp only [ne_eq, i_lt, i_le, i_eq, i_add, i_sub, i_neg, i_mul, Int32.reduceToInt] at *; omega)
  have hd : (0 ≤ x / 8 ∧ x / 8 < 10) ∧ (0 ≤ fd_rem x 8 ∧ fd_rem x 8 < 10) := by
    obtain ⟨a, ha, rfl⟩ := m_nat (x := x) (M := 31) hx.1 (show x ≤ (31 : Int32) by have := hx.2; clear hL h0; (simp only [ne_eq, i_lt, i_le, i_eq, i_add, i_sub, i_neg, i_mul, Int32.reduceToInt] at *; omega)) (by decide)
    rw [show (8 : Int32) = nI 8 from rfl, pk_div (by omega) (by omega) (by omega), m_rem (by omega) (by omega) (by omega), show (10 : Int32) = nI 10 from rfl]
    exact ⟨⟨nI_pos' (by omega), nI_lt (by omega) (by omega)⟩, nI_pos' (by omega), nI_lt (by omega) (by omega)⟩
  have b0 := m_b0_131 (m_shl g)
  have b1 := m_wr_131' (c := c) b0
  have b2 := m_wr_131' (c := 48 + x / 8) b1
  unfold zL_begin
  simp only [fd_lt]
  have e1 : fd_up S 5 2 (fd_rem (S 5 2 + 1) 6) 5 2 = fd_rem (S 5 2 + 1) 6 := by rw [fd_up_at, if_pos rfl]
  have e2 : fd_up (fd_up S 5 2 (fd_rem (S 5 2 + 1) 6)) 7 (fd_rem (S 5 2 + 1) 6) 0 5 3 = S 5 3 := by rw [fd_up_ne (by decide), fd_up_at, if_neg (by decide)]
  rw [e1, if_pos hr', e2]
  obtain ⟨S1, s1, s2, s3⟩ := m_put (c := c) h0 (by rw [b0]; decide)
  obtain ⟨S2, t1, t2, t3⟩ := m_num1 (x := x / 8) hfu hd.1.1 hd.1.2 s2 (by rw [b1]; decide)
  obtain ⟨S3, u1, u2, u3⟩ := m_num1 (x := fd_rem x 8) hfu hd.2.1 hd.2.2 t2 (by rw [b2]; decide)
  rw [s1, Option.bind_some, t1, Option.bind_some, u1, Option.bind_some]
  refine ⟨S3, rfl, u2, fun k h5 h6 h7 => ?_⟩
  rw [u3 k h6 h7, t3 k h6 h7, s3 k h6 h7, fd_up_ne h5, fd_up_ne h7, fd_up_ne h5]
end
section
/-! ===== a counted event ===== -/
theorem m_R_congr {S S1 : fd_S} {g g1 : Int32 → Int32} (h : m_R S g) (e3 : S1 3 1 = S 3 1) (e4 : S1 4 = S 4) (hS : ∀ k : Nat, 8 ≤ k → k < 20 → S1 k = S k) (e64 : g1 64 = g 64) (hg : ∀ j : Int32, 71 ≤ j → j < 131 → g1 j = g j) : m_R S1 g1 := by
  obtain ⟨hrow, h31, h64, hV, hC⟩ := h
  have erw : ∀ j, m_rw S1 j = m_rw S j := fun j => by unfold m_rw; rw [e4]
  refine ⟨by unfold m_rows; rw [e4]; exact hrow, by rw [e3, e64, h31], by rw [e64]; exact h64, ?_, ?_⟩
  · intro j j0 j1
    rw [e64] at j1
    have j6 : j < 6 := by clear hV hC hS hg; (simp only [ne_eq, i_lt, i_le, i_eq, i_add, i_sub, i_neg, i_mul, Int32.reduceToInt] at *; omega)
    have hr := hrow.rg j0 j6
    have hv := hV j j0 j1
    have a : ∀ f : Int32, 0 ≤ f → f < 10 → g1 (zM_at j f) = g (zM_at j f) := fun f f0 f1 => hg _ (m_at_rg j0 j6 f0 f1).1 (m_at_rg j0 j6 f0 f1).2
    unfold m_cV at hv ⊢
    rw [erw, hS _ (by omega) (by omega), a 0 (by decide) (by decide), a 1 (by decide) (by decide), a 2 (by decide) (by decide), a 3 (by decide) (by decide), a 4 (by decide) (by decide), a 5 (by decide) (by decide)]
    exact hv
  · intro j q j0 j1 q0 q4 q1
    rw [e64] at j1
    have j6 : j < 6 := by clear hV hC hS hg; (simp only [ne_eq, i_lt, i_le, i_eq, i_add, i_sub, i_neg, i_mul, Int32.reduceToInt] at *; omega)
    have hr := hrow.rg j0 j6
    have a : ∀ f : Int32, 0 ≤ f → f < 10 → g1 (zM_at j f) = g (zM_at j f) := fun f f0 f1 => hg _ (m_at_rg j0 j6 f0 f1).1 (m_at_rg j0 j6 f0 f1).2
    rw [a 5 (by decide) (by decide)] at q1
    have hc := hC j q j0 j1 q0 q4 q1
    have hq : 0 ≤ 6 + q ∧ 6 + q < 10 := by clear hV hC hS hg; (simp only [ne_eq, i_lt, i_le, i_eq, i_add, i_sub, i_neg, i_mul, Int32.reduceToInt] at *; omega)
    unfold m_cK at hc ⊢
    rw [erw, hS _ (by omega) (by omega), a _ hq.1 hq.2]
    exact hc
theorem m_GR_congr {g g1 : Int32 → Int32} (hG : m_GR g) (h64 : g 64 ≤ 6) (e64 : g1 64 = g 64) (e63 : g 63 ≤ g1 63) (hg : ∀ j : Int32, 71 ≤ j → j < 131 → g1 j = g j) : m_GR g1 := by
  have a : ∀ j f : Int32, 0 ≤ j → j < g 64 → 0 ≤ f → f < 10 → g1 (zM_at j f) = g (zM_at j f) := fun j f j0 j1 f0 f1 => by
    have j6 : j < 6 := by clear hG hg; (simp only [ne_eq, i_lt, i_le, i_eq, i_add, i_sub, i_neg, i_mul, Int32.reduceToInt] at *; omega)
    exact hg _ (m_at_rg j0 j6 f0 f1).1 (m_at_rg j0 j6 f0 f1).2
  refine ⟨fun j j0 j1 => ?_, fun j k j0 j1 k0 k1 => ?_⟩
  · rw [e64] at j1
    have hj := hG.1 j j0 j1
    rw [a j 0 j0 j1 (by decide) (by decide), a j 1 j0 j1 (by decide) (by decide), a j 2 j0 j1 (by decide) (by decide), a j 3 j0 j1 (by decide) (by decide), a j 5 j0 j1 (by decide) (by decide)]
    exact ⟨hj.1, hj.2.1, ⟨hj.2.2.1.1, Int32.le_trans hj.2.2.1.2 e63⟩, hj.2.2.2.1, hj.2.2.2.2⟩
  · rw [e64] at j1 k1
    rw [a j 0 j0 j1 (by decide) (by decide), a k 0 k0 k1 (by decide) (by decide)]
    exact hG.2 j k j0 j1 k0 k1
theorem m_hd_lo {g g1 : Int32 → Int32} (h64 : g 64 ≤ 6) (e64 : g1 64 = g 64) (hg : ∀ j : Int32, 71 ≤ j → j < 131 → g1 j = g j) (x : Int32) : m_hd g1 x ↔ m_hd g x := by
  refine m_hd_congr e64 (fun i i0 i1 => ?_) x
  have j6 : i < 6 := by clear hg; (simp only [ne_eq, i_lt, i_le, i_eq, i_add, i_sub, i_neg, i_mul, Int32.reduceToInt] at *; omega)
  exact ⟨hg _ (m_at_rg i0 j6 (by decide) (by decide)).1 (m_at_rg i0 j6 (by decide) (by decide)).2, hg _ (m_at_rg i0 j6 (by decide) (by decide)).1 (m_at_rg i0 j6 (by decide) (by decide)).2⟩
theorem m_B_congr {S S1 : fd_S} {g g1 : Int32 → Int32} (h : m_B S g) (e2 : S1 2 = S 2) (hg : ∀ j : Int32, 32 ≤ j → j < 39 → g1 j = g j) : m_B S1 g1 := by
  intro i i0 i7
  rw [e2, hg _ (by clear h hg; (simp only [ne_eq, i_lt, i_le, i_eq, i_add, i_sub, i_neg, i_mul, Int32.reduceToInt] at *; omega)) (by clear h hg; (simp only [ne_eq, i_lt, i_le, i_eq, i_add, i_sub, i_neg, i_mul, Int32.reduceToInt] at *; omega))]
  exact h i i0 i7
theorem m_GB_congr {g g1 : Int32 → Int32} (h : m_GB g) (hg : ∀ j : Int32, 32 ≤ j → j < 39 → g1 j = g j) : m_GB g1 := by
  unfold m_GB
  rw [hg 32 (by decide) (by decide), hg 33 (by decide) (by decide), hg 34 (by decide) (by decide), hg 35 (by decide) (by decide), hg 36 (by decide) (by decide), hg 37 (by decide) (by decide), hg 38 (by decide) (by decide)]
  exact h
theorem m_rw_c {S S1 : fd_S} (h : S1 4 = S 4) (r : Int32) : m_rw S1 r = m_rw S r := by unfold m_rw; rw [h]
theorem m_addHead {fu : Nat} {S S' : fd_S} {g : Int32 → Int32} {r w q : Int32} (hfu : 10000 ≤ fu) (hR : m_R S g) (hG : m_GR g) (hB : m_B S g) (hGB : m_GB g) (hK : m_K S') (hT : S 0 6 = g 63) (ht : 0 ≤ g 63 ∧ g 63 ≤ 500000) (r0 : 0 ≤ r) (r1 : r < g 64) (hw : 0 ≤ w ∧ w ≤ 2000) (hq : 0 ≤ q) :
    ∃ S3 g3, zS_addTo fu S (m_rw S r) w q = zS_addTo_45 fu S3 (m_rw S r) ∧
      ((zM_penaltyAt fu (fd_sg S' g) r (fd_sg S' g 78 63)).bind fun r11 => (fd_lt ((r11 + w)) fun y13 => ((zM_bounded (fd_sg S' g) (6 : Int32)).bind fun r14 => (if r14 ≤ y13 then ((zM_bounded (fd_sg S' g) (6 : Int32)).bind fun r17 => (zM_meet_142 fu (fd_sg S' g) w q r (zM_at r (1 : Int32)) r17)) else (zM_meet_142 fu (fd_sg S' g) w q r (zM_at r (1 : Int32)) y13))))) = zM_meet_172 fu (fd_sg S' g3) w r ∧
      m_R S3 g3 ∧ m_GR g3 ∧ (∀ k : Nat, (k < 8 ∨ 20 ≤ k) → S3 k = S k) ∧ (∀ j : Int32, (j < 71 ∨ 131 ≤ j) → g3 j = g j) ∧ (∀ y, m_hd g3 y ↔ m_hd g y) ∧ g3 (zM_at r 0) = g (zM_at r 0) := by
  have h64 := hR.2.2.1
  have r6 : r < 6 := by clear hR hG hB hGB; (simp only [ne_eq, i_lt, i_le, i_eq, i_add, i_sub, i_neg, i_mul, Int32.reduceToInt] at *; omega)
  have hgr := hG.1 r r0 r1
  have hrk := hR.1.rk r0 r6
  have hrg := hR.1.rg r0 r6
  have hin : ∀ f : Int32, 0 ≤ f → f < 10 → 0 ≤ zM_at r f ∧ zM_at r f < 275 := fun f f0 f1 => m_at_in r0 r6 f0 f1
  obtain ⟨P, p1, p2, p3, p4⟩ := m_penaltyAt (S' := S') (t := g 63) hfu hR hG hB.e0 hGB hK r0 r1 hgr.2.2.1.2 (by clear hR hG hB hGB hgr hin; (simp only [ne_eq, i_lt, i_le, i_eq, i_add, i_sub, i_neg, i_mul, Int32.reduceToInt] at *; omega))
  have htop := hGB.2.2.2.2.2.2
  generalize hF : fd_min (P + w) (g 38) = F
  have hFb : 0 ≤ F ∧ F ≤ 20000 := by
    rw [← hF]
    unfold fd_min
    clear hR hG hB hGB hgr hin
    split <;> (simp only [ne_eq, i_lt, i_le, i_eq, i_add, i_sub, i_neg, i_mul, Int32.reduceToInt] at *; omega)
  -- both put the same figure
  have eref : ((zM_penaltyAt fu (fd_sg S' g) r (fd_sg S' g 78 63)).bind fun r11 => (fd_lt ((r11 + w)) fun y13 => ((zM_bounded (fd_sg S' g) (6 : Int32)).bind fun r14 => (if r14 ≤ y13 then ((zM_bounded (fd_sg S' g) (6 : Int32)).bind fun r17 => (zM_meet_142 fu (fd_sg S' g) w q r (zM_at r (1 : Int32)) r17)) else (zM_meet_142 fu (fd_sg S' g) w q r (zM_at r (1 : Int32)) y13))))) = zM_meet_142 fu (fd_sg S' g) w q r (zM_at r 1) F := by
    rw [sg_78, p2]
    simp only [Option.bind_some, fd_lt, zM_bd6]
    rw [← hF]
    unfold fd_min
    by_cases c : g 38 ≤ P + w
    · rw [if_pos c]
      by_cases c2 : g 38 < P + w
      · rw [if_pos c2]
      · rw [if_neg c2]
        have : P + w = g 38 := by clear hR hG hB hGB hgr hin; (simp only [ne_eq, i_lt, i_le, i_eq, i_add, i_sub, i_neg, i_mul, Int32.reduceToInt] at *; omega)
        rw [this]
    · rw [if_neg c, if_neg (by clear hR hG hB hGB hgr hin; (simp only [ne_eq, i_lt, i_le, i_eq, i_add, i_sub, i_neg, i_mul, Int32.reduceToInt] at *; omega))]
  rw [eref]
  unfold zS_addTo zM_meet_142
  simp only [fd_lt, sg_78, sg_up]
  rw [hT, p1, Option.bind_some, if_pos hrk, hB.e6, hF, if_pos (hin 1 (by decide) (by decide)), if_pos (hin 2 (by decide) (by decide)), fd_up_ne (show (0 : Nat) ≠ m_rw S r by omega), hT, m_gu_out r0 r6 (by decide) (by decide) (by decide)]
  -- the two fields
  have R1 := m_R_fld (v := F) hR r0 r1 1 (by decide)
  have e64a : m_gu g (zM_at r 1) F 64 = g 64 := m_gu_out r0 r6 (by decide) (by decide) (by decide)
  have G1 := m_GR_fld (v := F) h64 hG r0 r1 (show 0 ≤ (1 : Int32) ∧ (1 : Int32) < 10 by decide) (by decide) ⟨fun _ => hFb, fun h => absurd h (by decide), fun h => absurd h (by decide), fun h => absurd h (by decide)⟩
  have rw1 : m_rw (fd_up S (m_rw S r) 1 F) r = m_rw S r := m_rw_up (by omega) r
  have R2 := m_R_fld (v := g 63) R1 r0 (by rw [e64a]; exact r1) 2 (by decide)
  rw [rw1] at R2
  have e63a : m_gu g (zM_at r 1) F 63 = g 63 := m_gu_out r0 r6 (by decide) (by decide) (by decide)
  have G2 := m_GR_fld (v := g 63) (by rw [e64a]; exact h64) G1 r0 (by rw [e64a]; exact r1) (show 0 ≤ (2 : Int32) ∧ (2 : Int32) < 10 by decide) (by decide) ⟨fun h => absurd h (by decide), fun _ => ⟨ht.1, by rw [e63a]; exact Int32.le_refl _⟩, fun h => absurd h (by decide), fun h => absurd h (by decide)⟩
  generalize hS2 : fd_up (fd_up S (m_rw S r) 1 F) (m_rw S r) 2 (g 63) = S2 at R2 ⊢
  generalize hg2 : m_gu (m_gu g (zM_at r 1) F) (zM_at r 2) (g 63) = g2 at R2 G2 ⊢
  have o2 : ∀ j : Int32, (j < 71 ∨ 131 ≤ j) → g2 j = g j := by
    intro j hj
    rw [← hg2, m_gu_out r0 r6 (by decide) (by decide) hj, m_gu_out r0 r6 (by decide) (by decide) hj]
  have c2 : ∀ k : Nat, (k < 8 ∨ 20 ≤ k) → S2 k = S k := by
    intro k hk
    rw [← hS2, fd_up_ne (by omega), fd_up_ne (by omega)]
  have f2 : ∀ j f : Int32, 0 ≤ j → j < g 64 → (f = 0 ∨ f = 3) → g2 (zM_at j f) = g (zM_at j f) := by
    intro j f j0 j1 hf
    have j6 : j < 6 := by clear hR hG hB hGB hgr hin R1 R2 G1 G2 o2 c2; (simp only [ne_eq, i_lt, i_le, i_eq, i_add, i_sub, i_neg, i_mul, Int32.reduceToInt] at *; omega)
    have ff : 0 ≤ f ∧ f < 10 ∧ f ≠ 1 ∧ f ≠ 2 := by clear hR hG hB hGB hgr hin R1 R2 G1 G2 o2 c2; (simp only [ne_eq, i_lt, i_le, i_eq, i_add, i_sub, i_neg, i_mul, Int32.reduceToInt] at *; omega)
    rw [← hg2, m_gu_at r0 r6 (by decide) (by decide) j0 j6 ff.1 ff.2.1, if_neg (fun z => ff.2.2.2 z.2), m_gu_at r0 r6 (by decide) (by decide) j0 j6 ff.1 ff.2.1, if_neg (fun z => ff.2.2.1 z.2)]
  have rw2 : m_rw S2 r = m_rw S r := m_rw_c (c2 4 (by omega)) r
  have e64 : g2 64 = g 64 := o2 _ (by decide)
  by_cases cq : q = 0
  · rw [if_pos cq, if_pos (by rw [cq]; decide)]
    refine ⟨S2, g2, rfl, rfl, R2, G2, c2, o2, fun y => ?_, f2 r 0 r0 r1 (Or.inl rfl)⟩
    exact m_hd_congr e64 (fun i i0 i1 => ⟨f2 i 0 i0 i1 (Or.inl rfl), f2 i 3 i0 i1 (Or.inr rfl)⟩) y
  · obtain ⟨S3, g3, a1, a2, a3, a4, a5, a6, a7⟩ := m_addCause (S' := S') (x := q) hfu R2 G2 r0 (by rw [e64]; exact r1)
    rw [rw2] at a1
    rw [if_neg cq, if_neg (by clear hR hG hB hGB hgr hin R1 R2 G1 G2 o2 c2 f2 a1 a2 a3 a4 a5 a6 a7; (simp only [ne_eq, i_lt, i_le, i_eq, i_add, i_sub, i_neg, i_mul, Int32.reduceToInt] at *; omega)), a1, a2, Option.bind_some, Option.bind_some]
    have f3 : ∀ j f : Int32, 0 ≤ j → j < g 64 → (f = 0 ∨ f = 3) → g3 (zM_at j f) = g (zM_at j f) := by
      intro j f j0 j1 hf
      have ff : 0 ≤ f ∧ f < 5 := by clear hR hG hB hGB hgr hin R1 R2 G1 G2 o2 c2 f2 a1 a2 a3 a4 a5 a6 a7; (simp only [ne_eq, i_lt, i_le, i_eq, i_add, i_sub, i_neg, i_mul, Int32.reduceToInt] at *; omega)
      rw [a7 j f j0 (by rw [e64]; exact j1) ff.1 ff.2, f2 j f j0 j1 hf]
    refine ⟨S3, g3, rfl, rfl, a3, a4, fun k hk => by rw [a5 k hk, c2 k hk], fun j hj => by rw [a6 j hj, o2 j hj], fun y => ?_, f3 r 0 r0 r1 (Or.inl rfl)⟩
    exact m_hd_congr (by rw [a6 _ (by decide), e64]) (fun i i0 i1 => ⟨f3 i 0 i0 i1 (Or.inl rfl), f3 i 3 i0 i1 (Or.inr rfl)⟩) y
end
section
/-! ===== what is written of a counted event, and whether it is held by this ===== -/
def m_gW (g : Int32 → Int32) (w F : Int32) : Int32 → Int32 := m_wn (m_wr (m_wn (m_wr g 43) w) 61) F
theorem m_gW_ok {g : Int32 → Int32} {w F : Int32} (h : 0 ≤ g 131 ∧ g 131 ≤ 5) (hw : 0 ≤ w ∧ w ≤ 2000) (hF : 0 ≤ F ∧ F ≤ 20000) :
    (0 ≤ m_wr g 43 131 ∧ m_wr g 43 131 ≤ 6) ∧ (0 ≤ m_wn (m_wr g 43) w 131 ∧ m_wn (m_wr g 43) w 131 ≤ 10) ∧ (0 ≤ m_wr (m_wn (m_wr g 43) w) 61 131 ∧ m_wr (m_wn (m_wr g 43) w) 61 131 ≤ 11) ∧ (0 ≤ m_gW g w F 131 ∧ m_gW g w F 131 ≤ 16) ∧ (w < nI (10 ^ (3 + 1)) ∧ F < nI (10 ^ (4 + 1))) := by
  have a1 : 0 ≤ m_wr g 43 131 ∧ m_wr g 43 131 ≤ 6 := by rw [m_wr_131]; (simp only [ne_eq, i_lt, i_le, i_eq, i_add, i_sub, i_neg, i_mul, Int32.reduceToInt] at *; omega)
  have hw' : w < nI (10 ^ (3 + 1)) := by rw [show nI (10 ^ (3 + 1)) = 10000 by decide]; clear a1; (simp only [ne_eq, i_lt, i_le, i_eq, i_add, i_sub, i_neg, i_mul, Int32.reduceToInt] at *; omega)
  have hF' : F < nI (10 ^ (4 + 1)) := by rw [show nI (10 ^ (4 + 1)) = 100000 by decide]; clear a1; (simp only [ne_eq, i_lt, i_le, i_eq, i_add, i_sub, i_neg, i_mul, Int32.reduceToInt] at *; omega)
  have a2 := m_wn_131 (g := m_wr g 43) 3 (by decide) hw.1 hw' ⟨a1.1, by clear hw' hF'; (simp only [ne_eq, i_lt, i_le, i_eq, i_add, i_sub, i_neg, i_mul, Int32.reduceToInt] at *; omega)⟩
  rw [show nI (3 + 1) = 4 by decide] at a2
  have a2' : 0 ≤ m_wn (m_wr g 43) w 131 ∧ m_wn (m_wr g 43) w 131 ≤ 10 := by clear hw' hF'; (simp only [ne_eq, i_lt, i_le, i_eq, i_add, i_sub, i_neg, i_mul, Int32.reduceToInt] at *; omega)
  have a3 : 0 ≤ m_wr (m_wn (m_wr g 43) w) 61 131 ∧ m_wr (m_wn (m_wr g 43) w) 61 131 ≤ 11 := by rw [m_wr_131]; clear hw' hF' a2; (simp only [ne_eq, i_lt, i_le, i_eq, i_add, i_sub, i_neg, i_mul, Int32.reduceToInt] at *; omega)
  have a4 := m_wn_131 (g := m_wr (m_wn (m_wr g 43) w) 61) 4 (by decide) hF.1 hF' ⟨a3.1, by clear hw' hF' a2; (simp only [ne_eq, i_lt, i_le, i_eq, i_add, i_sub, i_neg, i_mul, Int32.reduceToInt] at *; omega)⟩
  rw [show nI (4 + 1) = 5 by decide] at a4
  refine ⟨a1, a2', a3, ?_, hw', hF'⟩
  unfold m_gW
  clear hw' hF' a2
  (simp only [ne_eq, i_lt, i_le, i_eq, i_add, i_sub, i_neg, i_mul, Int32.reduceToInt] at *; omega)
theorem m_gW_lo {g : Int32 → Int32} {w F j : Int32} (h : 0 ≤ g 131 ∧ g 131 ≤ 5) (hw : 0 ≤ w ∧ w ≤ 2000) (hF : 0 ≤ F ∧ F ≤ 20000) (hj : j < 131) : m_gW g w F j = g j ∧ m_wr (m_wn (m_wr g 43) w) 61 j = g j := by
  obtain ⟨a1, a2, a3, a4, hw', hF'⟩ := m_gW_ok h hw hF
  have l : ∀ {v n : Int32}, 0 ≤ v ∧ v ≤ n → n ≤ 20 → 0 ≤ v ∧ v ≤ 20 := fun h1 h2 => ⟨h1.1, Int32.le_trans h1.2 h2⟩
  have l' : ∀ {v n : Int32}, 0 ≤ v ∧ v ≤ n → n ≤ 100 → 0 ≤ v ∧ v ≤ 100 := fun h1 h2 => ⟨h1.1, Int32.le_trans h1.2 h2⟩
  have e : m_wr (m_wn (m_wr g 43) w) 61 j = g j := by
    rw [m_wr_lo (l' a2 (by decide)) hj, m_wn_lo 3 (by decide) hw.1 hw' (l a1 (by decide)) hj, m_wr_lo (l' h (by decide)) hj]
  refine ⟨?_, e⟩
  unfold m_gW
  rw [m_wn_lo 4 (by decide) hF.1 hF' (l a3 (by decide)) hj, e]
/-- the component writes the same -/
theorem m_cW {fu : Nat} {S : fd_S} {g : Int32 → Int32} {w F : Int32} (hfu : 10000 ≤ fu) (hL : m_L S g) (h : 0 ≤ g 131 ∧ g 131 ≤ 5) (hw : 0 ≤ w ∧ w ≤ 2000) (hF : 0 ≤ F ∧ F ≤ 20000) :
    ∃ S1 S2 S3 S4, zL_put S 43 = some S1 ∧ zL_putNumber fu S1 w = some S2 ∧ zL_put S2 61 = some S3 ∧ zL_putNumber fu S3 F = some S4 ∧ m_L S4 (m_gW g w F) ∧ (∀ a : Nat, a ≠ 6 → a ≠ 7 → S3 a = S a ∧ S4 a = S a) := by
  obtain ⟨a1, a2, a3, a4, hw', hF'⟩ := m_gW_ok h hw hF
  obtain ⟨S1, s1, s2, s3⟩ := m_put (c := 43) hL (by clear hL; (simp only [ne_eq, i_lt, i_le, i_eq, i_add, i_sub, i_neg, i_mul, Int32.reduceToInt] at *; omega))
  obtain ⟨S2, t1, t2, t3⟩ := m_pn 3 hfu (by decide) hw.1 hw' s2 (by rw [show (20 : Int32) - nI (3 + 1) = 16 by decide]; exact Int32.le_trans a1.2 (by decide))
  obtain ⟨S3, u1, u2, u3⟩ := m_put (c := 61) t2 (Int32.lt_of_le_of_lt a2.2 (by decide))
  obtain ⟨S4, v1, v2, v3⟩ := m_pn 4 hfu (by decide) hF.1 hF' u2 (by rw [show (20 : Int32) - nI (4 + 1) = 15 by decide]; exact Int32.le_trans a3.2 (by decide))
  refine ⟨S1, S2, S3, S4, s1, t1, u1, v1, v2, fun a h6 h7 => ⟨?_, ?_⟩⟩
  · rw [u3 a h6 h7, t3 a h6 h7, s3 a h6 h7]
  · rw [v3 a h6 h7, u3 a h6 h7, t3 a h6 h7, s3 a h6 h7]
theorem m_hd_set {g g1 : Int32 → Int32} {r : Int32} (e64 : g1 64 = g 64) (r0 : 0 ≤ r) (r1 : r < g 64) (h0 : ∀ i : Int32, 0 ≤ i → i < g 64 → g1 (zM_at i 0) = g (zM_at i 0)) (h3 : ∀ i : Int32, 0 ≤ i → i < g 64 → i ≠ r → g1 (zM_at i 3) = g (zM_at i 3)) (hr : g1 (zM_at r 3) = 1) (y : Int32) : m_hd g1 y ↔ (m_hd g y ∨ y = g (zM_at r 0)) := by
  constructor
  · rintro ⟨i, i0, i1, a, b⟩
    rw [e64] at i1
    by_cases c : i = r
    · subst c
      right
      rw [← a, h0 i i0 i1]
    · left
      exact ⟨i, i0, i1, by rw [← h0 i i0 i1]; exact a, by rw [← h3 i i0 i1 c]; exact b⟩
  · rintro (⟨i, i0, i1, a, b⟩ | h)
    · refine ⟨i, i0, by rw [e64]; exact i1, by rw [h0 i i0 i1]; exact a, ?_⟩
      by_cases c : i = r
      · subst c; exact hr
      · rw [h3 i i0 i1 c]; exact b
    · exact ⟨r, r0, by rw [e64]; exact r1, by rw [h0 r r0 r1, h], hr⟩
theorem m_tail {fu : Nat} {S S' : fd_S} {g : Int32 → Int32} {r w : Int32} (hfu : 10000 ≤ fu) (hR : m_R S g) (hG : m_GR g) (hB : m_B S g) (hGB : m_GB g) (hK : m_K S') (hT : S 0 6 = g 63) (ht : 0 ≤ g 63 ∧ g 63 ≤ 500000) (r0 : 0 ≤ r) (r1 : r < g 64) (hw : 0 ≤ w ∧ w ≤ 2000) (hl : 0 ≤ g 131 ∧ g 131 ≤ 5) :
    ∃ e S5 g6, zS_addTo_45 fu S (m_rw S r) = some (e, S5) ∧ zM_meet_172 fu (fd_sg S' g) w r = some (e, fd_sg S' g6) ∧ m_R S5 g6 ∧ m_GR g6 ∧ (∀ k : Nat, (k < 8 ∨ 20 ≤ k) → S5 k = S k) ∧ (∀ j : Int32, j < 71 → g6 j = g j) ∧
      g6 (zM_at r 0) = g (zM_at r 0) ∧ g6 (zM_at r 1) = g (zM_at r 1) ∧
      ((e = 3 ∧ (∀ j : Int32, 131 ≤ j → g6 j = m_gW g w (g (zM_at r 1)) j) ∧ ∀ y, m_hd g6 y ↔ m_hd g y) ∨ (e = 4 ∧ (∀ j : Int32, 131 ≤ j → g6 j = m_wr (m_gW g w (g (zM_at r 1))) 33 j) ∧ ∀ y, m_hd g6 y ↔ (m_hd g y ∨ y = g (zM_at r 0)))) := by
  have h64 := hR.2.2.1
  have r6 : r < 6 := by clear hR hG hB hGB; (simp only [ne_eq, i_lt, i_le, i_eq, i_add, i_sub, i_neg, i_mul, Int32.reduceToInt] at *; omega)
  have hgr := hG.1 r r0 r1
  have hrk := hR.1.rk r0 r6
  have hrg := hR.1.rg r0 r6
  have hv := hR.2.2.2.1 r r0 r1
  unfold m_cV at hv
  have hin : ∀ f : Int32, 0 ≤ f → f < 10 → 0 ≤ zM_at r f ∧ zM_at r f < 275 := fun f f0 f1 => m_at_in r0 r6 f0 f1
  have hlo : ∀ f : Int32, 0 ≤ f → f < 10 → zM_at r f < 131 := fun f f0 f1 => (m_at_rg r0 r6 f0 f1).2
  have hF := hgr.2.1
  generalize hFe : g (zM_at r 1) = F at hF hv ⊢
  obtain ⟨a1, a2, a3, a4, hw', hF'⟩ := m_gW_ok hl hw hF
  have l' : ∀ {v n : Int32}, 0 ≤ v ∧ v ≤ n → n ≤ 100 → 0 ≤ v ∧ v ≤ 100 := fun h1 h2 => ⟨h1.1, Int32.le_trans h1.2 h2⟩
  have wlo : ∀ j : Int32, j < 131 → m_gW g w F j = g j := fun j hj => (m_gW_lo hl hw hF hj).1
  have e8 : m_wr (m_wn (m_wr g 43) w) 61 (zM_at r 1) = F := by rw [(m_gW_lo hl hw hF (hlo 1 (by decide) (by decide))).2, hFe]
  unfold zS_addTo_45 zM_meet_172
  rw [if_pos hrk, zM_write_eq (l' hl (by decide)), Option.bind_some, zM_writeNumber_eq 3 hfu (by decide) hw.1 hw' a1.1 (by rw [show (20 : Int32) - nI (3 + 1) = 16 by decide]; exact Int32.le_trans a1.2 (by decide)), Option.bind_some, zM_write_eq (l' a2 (by decide)), Option.bind_some, if_pos (hin 1 (by decide) (by decide)), sg_78, e8, zM_writeNumber_eq 4 hfu (by decide) hF.1 hF' a3.1 (by rw [show (20 : Int32) - nI (4 + 1) = 15 by decide]; exact Int32.le_trans a3.2 (by decide)), Option.bind_some, if_pos (hin 1 (by decide) (by decide)), zM_bounded_eq 4 (by decide), Option.bind_some]
  simp only [show m_wn (m_wr (m_wn (m_wr g 43) w) 61) F = m_gW g w F from rfl]
  rw [sg_78, wlo _ (hlo 1 (by decide) (by decide)), hFe, wlo _ (by decide), show (32 : Int32) + 4 = 36 by decide, hv.2.2.2.1, hv.2.1, hB.e4]
  -- what stands where nothing was written but lines
  have RW : m_R S (m_gW g w F) := m_R_congr hR rfl rfl (fun _ _ _ => rfl) (wlo _ (by decide)) (fun j _ hj => wlo j hj)
  have GW : m_GR (m_gW g w F) := m_GR_congr hG h64.2 (wlo _ (by decide)) (by rw [wlo _ (by decide)]; exact Int32.le_refl _) (fun j _ hj => wlo j hj)
  have HW : ∀ y, m_hd (m_gW g w F) y ↔ m_hd g y := fun y => m_hd_lo h64.2 (wlo _ (by decide)) (fun j _ hj => wlo j hj) y
  have none3 : ∃ e S5 g6, some ((3 : Int32), S) = some (e, S5) ∧ some ((3 : Int32), fd_sg S' (m_gW g w F)) = some (e, fd_sg S' g6) ∧ m_R S5 g6 ∧ m_GR g6 ∧ (∀ k : Nat, (k < 8 ∨ 20 ≤ k) → S5 k = S k) ∧ (∀ j : Int32, j < 71 → g6 j = g j) ∧ g6 (zM_at r 0) = g (zM_at r 0) ∧ g6 (zM_at r 1) = F ∧ ((e = 3 ∧ (∀ j : Int32, 131 ≤ j → g6 j = m_gW g w F j) ∧ ∀ y, m_hd g6 y ↔ m_hd g y) ∨ (e = 4 ∧ (∀ j : Int32, 131 ≤ j → g6 j = m_wr (m_gW g w F) 33 j) ∧ ∀ y, m_hd g6 y ↔ (m_hd g y ∨ y = g (zM_at r 0)))) :=
    ⟨3, S, m_gW g w F, rfl, rfl, RW, GW, fun _ _ => rfl, fun j hj => wlo j (by clear hR hG hB hGB hv hin hlo wlo RW GW HW; (simp only [ne_eq, i_lt, i_le, i_eq, i_add, i_sub, i_neg, i_mul, Int32.reduceToInt] at *; omega)), wlo _ (hlo 0 (by decide) (by decide)), by rw [wlo _ (hlo 1 (by decide) (by decide)), hFe], Or.inl ⟨rfl, fun _ _ => rfl, HW⟩⟩
  by_cases cO : F ≤ g 36
  · rw [if_pos cO, if_neg (show ¬ g 36 < F by clear hR hG hB hGB hv hin hlo wlo RW GW HW none3; (simp only [ne_eq, i_lt, i_le, i_eq, i_add, i_sub, i_neg, i_mul, Int32.reduceToInt] at *; omega))]
    by_cases ch : g (zM_at r 3) = 0
    · rw [if_pos ch]; exact none3
    · rw [if_neg ch]; exact none3
  · rw [if_neg cO, zM_isHeld_eq r0 r6, Option.bind_some, wlo _ (hlo 3 (by decide) (by decide))]
    rcases hgr.2.2.2.1 with ch | ch
    · rw [if_pos ch, if_pos (show g 36 < F by clear hR hG hB hGB hv hin hlo wlo RW GW HW none3; (simp only [ne_eq, i_lt, i_le, i_eq, i_add, i_sub, i_neg, i_mul, Int32.reduceToInt] at *; omega)), if_neg (show ¬ g (zM_at r 3) = 1 by rw [ch]; decide), if_pos rfl, if_pos (hin 3 (by decide) (by decide))]
      simp only [fd_lt, sg_up, sg_78]
      have e64W : m_gW g w F 64 = g 64 := wlo _ (by decide)
      have R1 := m_R_fld (v := 1) RW r0 (by rw [e64W]; exact r1) 3 (by decide)
      have G1 := m_GR_fld (v := 1) (by rw [e64W]; exact h64) GW r0 (by rw [e64W]; exact r1) (show 0 ≤ (3 : Int32) ∧ (3 : Int32) < 10 by decide) (by decide) ⟨fun h => absurd h (by decide), fun h => absurd h (by decide), fun _ => Or.inr rfl, fun h => absurd h (by decide)⟩
      have rw1 : m_rw (fd_up S (m_rw S r) 3 1) r = m_rw S r := m_rw_up (by omega) r
      have o1 : ∀ j : Int32, (j < 71 ∨ 131 ≤ j) → m_gu (m_gW g w F) (zM_at r 3) 1 j = m_gW g w F j := fun j hj => m_gu_out r0 r6 (by decide) (by decide) hj
      have B1 : m_B (fd_up S (m_rw S r) 3 1) (m_gu (m_gW g w F) (zM_at r 3) 1) := m_B_congr hB (fd_up_ne (by omega)) (fun j _ hj => by rw [o1 j (Or.inl (by clear hR hG hB hGB hv hin hlo wlo RW GW HW none3 R1 G1 o1; (simp only [ne_eq, i_lt, i_le, i_eq, i_add, i_sub, i_neg, i_mul, Int32.reduceToInt] at *; omega))), wlo j (by clear hR hG hB hGB hv hin hlo wlo RW GW HW none3 R1 G1 o1; (simp only [ne_eq, i_lt, i_le, i_eq, i_add, i_sub, i_neg, i_mul, Int32.reduceToInt] at *; omega))])
      have GB1 : m_GB (m_gu (m_gW g w F) (zM_at r 3) 1) := m_GB_congr hGB (fun j _ hj => by rw [o1 j (Or.inl (by clear hR hG hB hGB hv hin hlo wlo RW GW HW none3 R1 G1 o1 B1; (simp only [ne_eq, i_lt, i_le, i_eq, i_add, i_sub, i_neg, i_mul, Int32.reduceToInt] at *; omega))), wlo j (by clear hR hG hB hGB hv hin hlo wlo RW GW HW none3 R1 G1 o1 B1; (simp only [ne_eq, i_lt, i_le, i_eq, i_add, i_sub, i_neg, i_mul, Int32.reduceToInt] at *; omega))])
      have e641 : m_gu (m_gW g w F) (zM_at r 3) 1 64 = g 64 := by rw [o1 _ (by decide), e64W]
      have e631 : m_gu (m_gW g w F) (zM_at r 3) 1 63 = g 63 := by rw [o1 _ (by decide), wlo _ (by decide)]
      have h2 := (G1.1 r r0 (by rw [e641]; exact r1)).2.2.1
      rw [e631] at h2
      obtain ⟨d, d1, d2⟩ := m_due (S' := S') (t := g 63) hfu R1 G1 B1 GB1 hK r0 (by rw [e641]; exact r1) ht.1 h2.2 ht.2
      rw [rw1] at d1
      rw [fd_up_ne (show (0 : Nat) ≠ m_rw S r by omega), hT, d1, e631, d2, Option.bind_some, Option.bind_some, if_pos (hin 4 (by decide) (by decide))]
      have R2 := m_R_fld (v := d) R1 r0 (by rw [e641]; exact r1) 4 (by decide)
      rw [rw1] at R2
      have G2 := m_GR_fld (v := d) (by rw [e641]; exact h64) G1 r0 (by rw [e641]; exact r1) (show 0 ≤ (4 : Int32) ∧ (4 : Int32) < 10 by decide) (by decide) ⟨fun h => absurd h (by decide), fun h => absurd h (by decide), fun h => absurd h (by decide), fun h => absurd h (by decide)⟩
      generalize hg5 : m_gu (m_gu (m_gW g w F) (zM_at r 3) 1) (zM_at r 4) d = g5 at R2 G2 ⊢
      have o5 : ∀ j : Int32, (j < 71 ∨ 131 ≤ j) → g5 j = m_gW g w F j := by
        intro j hj
        rw [← hg5, m_gu_out r0 r6 (by decide) (by decide) hj, o1 j hj]
      have f5 : ∀ j f : Int32, 0 ≤ j → j < g 64 → 0 ≤ f → f < 10 → g5 (zM_at j f) = if j = r ∧ f = 4 then d else if j = r ∧ f = 3 then 1 else g (zM_at j f) := by
        intro j f j0 j1 f0 f1
        have j6 : j < 6 := by clear hR hG hB hGB hv hin hlo wlo RW GW HW none3 R1 G1 o1 B1 R2 G2 o5 GB1; (simp only [ne_eq, i_lt, i_le, i_eq, i_add, i_sub, i_neg, i_mul, Int32.reduceToInt] at *; omega)
        rw [← hg5, m_gu_at r0 r6 (by decide) (by decide) j0 j6 f0 f1, m_gu_at r0 r6 (by decide) (by decide) j0 j6 f0 f1, wlo _ (m_at_rg j0 j6 f0 f1).2]
      have l5 : g5 131 = m_gW g w F 131 := o5 _ (by decide)
      rw [zM_write_eq (by rw [l5]; exact l' a4 (by decide)), Option.bind_some]
      have wlo5 : ∀ j : Int32, j < 131 → m_wr g5 33 j = g5 j := fun j hj => m_wr_lo (by rw [l5]; exact l' a4 (by decide)) hj
      have e645 : g5 64 = g 64 := by rw [o5 _ (by decide), e64W]
      refine ⟨4, _, _, rfl, rfl, m_R_congr R2 rfl rfl (fun _ _ _ => rfl) (wlo5 _ (by decide)) (fun j _ hj => wlo5 j hj), m_GR_congr G2 (by rw [e645]; exact h64.2) (wlo5 _ (by decide)) (by rw [wlo5 _ (by decide)]; exact Int32.le_refl _) (fun j _ hj => wlo5 j hj), ?_, ?_, ?_, ?_, Or.inr ⟨rfl, ?_, ?_⟩⟩
      · intro k hk
        rw [fd_up_ne (by omega), fd_up_ne (by omega)]
      · intro j hj
        have hj1 : j < 131 := by clear hR hG hB hGB hv hin hlo wlo RW GW HW none3 R1 G1 o1 B1 R2 G2 o5 GB1 f5 wlo5; (simp only [ne_eq, i_lt, i_le, i_eq, i_add, i_sub, i_neg, i_mul, Int32.reduceToInt] at *; omega)
        rw [wlo5 j hj1, o5 j (Or.inl hj), wlo j hj1]
      · rw [wlo5 _ (hlo 0 (by decide) (by decide)), f5 r 0 r0 r1 (by decide) (by decide), if_neg (fun z => absurd z.2 (by decide)), if_neg (fun z => absurd z.2 (by decide))]
      · rw [wlo5 _ (hlo 1 (by decide) (by decide)), f5 r 1 r0 r1 (by decide) (by decide), if_neg (fun z => absurd z.2 (by decide)), if_neg (fun z => absurd z.2 (by decide)), hFe]
      · intro j hj
        unfold m_wr m_gu
        rw [l5, o5 j (Or.inr hj)]
      · intro y
        refine m_hd_set (by rw [wlo5 _ (by decide), e645]) r0 r1 (fun i i0 i1 => ?_) (fun i i0 i1 hi => ?_) ?_ y
        · have i6 : i < 6 := by clear hR hG hB hGB hv hin hlo wlo RW GW HW none3 R1 G1 o1 B1 R2 G2 o5 GB1 f5 wlo5; (simp only [ne_eq, i_lt, i_le, i_eq, i_add, i_sub, i_neg, i_mul, Int32.reduceToInt] at *; omega)
          rw [wlo5 _ (m_at_rg i0 i6 (by decide) (by decide)).2, f5 i 0 i0 i1 (by decide) (by decide), if_neg (fun z => absurd z.2 (by decide)), if_neg (fun z => absurd z.2 (by decide))]
        · have i6 : i < 6 := by clear hR hG hB hGB hv hin hlo wlo RW GW HW none3 R1 G1 o1 B1 R2 G2 o5 GB1 f5 wlo5; (simp only [ne_eq, i_lt, i_le, i_eq, i_add, i_sub, i_neg, i_mul, Int32.reduceToInt] at *; omega)
          rw [wlo5 _ (m_at_rg i0 i6 (by decide) (by decide)).2, f5 i 3 i0 i1 (by decide) (by decide), if_neg (fun z => hi z.1), if_neg (fun z => hi z.1)]
        · rw [wlo5 _ (hlo 3 (by decide) (by decide)), f5 r 3 r0 r1 (by decide) (by decide), if_neg (fun z => absurd z.2 (by decide)), if_pos ⟨rfl, rfl⟩]
    · rw [if_neg (show ¬ g (zM_at r 3) = 0 by rw [ch]; decide), if_pos ch, if_neg (show ¬ (1 : Int32) = 0 by decide)]
      exact none3
end
section
/-! ===== judge and meet ===== -/
theorem m_wr_hi {g g1 : Int32 → Int32} (h : ∀ j : Int32, 131 ≤ j → g1 j = g j) (c : Int32) : ∀ j : Int32, 131 ≤ j → m_wr g1 c j = m_wr g c j := by
  intro j hj
  unfold m_wr m_gu
  rw [h 131 (by decide), h j hj]
theorem m_wdn_hi {n : Nat} : ∀ (k : Nat) (g g1 : Int32 → Int32), (∀ j : Int32, 131 ≤ j → g1 j = g j) → ∀ j : Int32, 131 ≤ j → m_wdn g1 n k j = m_wdn g n k j := by
  intro k
  induction k with
  | zero => intro g g1 h; exact m_wr_hi h _
  | succ k ih => intro g g1 h; exact ih _ _ (m_wr_hi h _)
theorem m_wn_hi {g g1 : Int32 → Int32} (h : ∀ j : Int32, 131 ≤ j → g1 j = g j) (x : Int32) : ∀ j : Int32, 131 ≤ j → m_wn g1 x j = m_wn g x j := m_wdn_hi _ g g1 h
theorem m_gW_hi {g g1 : Int32 → Int32} (h : ∀ j : Int32, 131 ≤ j → g1 j = g j) (w F : Int32) : ∀ j : Int32, 131 ≤ j → m_gW g1 w F j = m_gW g w F j := m_wn_hi (m_wr_hi (m_wn_hi (m_wr_hi h _) _) _) _
/-- what an event does to records and lines, by how it ended -/
def m_Ev (g g2 : Int32 → Int32) (x w e : Int32) : Prop :=
  (e = 0 ∧ (∀ j : Int32, 131 ≤ j → g2 j = g j) ∧ ∀ y, m_hd g2 y ↔ m_hd g y) ∨
  (e = 1 ∧ (∀ j : Int32, 131 ≤ j → g2 j = m_wr g 126 j) ∧ ∀ y, m_hd g2 y ↔ m_hd g y) ∨
  (e = 2 ∧ (∀ j : Int32, 131 ≤ j → g2 j = m_wr g 63 j) ∧ ∀ y, m_hd g2 y ↔ m_hd g y) ∨
  (∃ r, 0 ≤ r ∧ r < g2 64 ∧ g2 (zM_at r 0) = x ∧ ((e = 3 ∧ (∀ j : Int32, 131 ≤ j → g2 j = m_gW g w (g2 (zM_at r 1)) j) ∧ ∀ y, m_hd g2 y ↔ m_hd g y) ∨ (e = 4 ∧ (∀ j : Int32, 131 ≤ j → g2 j = m_wr (m_gW g w (g2 (zM_at r 1))) 33 j) ∧ ∀ y, m_hd g2 y ↔ (m_hd g y ∨ y = x))))
theorem m_cnt {fu : Nat} {S S' : fd_S} {g : Int32 → Int32} {r w q : Int32} (hfu : 10000 ≤ fu) (hR : m_R S g) (hG : m_GR g) (hB : m_B S g) (hGB : m_GB g) (hK : m_K S') (hT : S 0 6 = g 63) (ht : 0 ≤ g 63 ∧ g 63 ≤ 500000) (r0 : 0 ≤ r) (r1 : r < g 64) (hw : 0 ≤ w ∧ w ≤ 2000) (hq : 0 ≤ q) (hl : 0 ≤ g 131 ∧ g 131 ≤ 5) :
    ∃ e S1 g2, zS_addTo fu S (m_rw S r) w q = some (e, S1) ∧
      ((zM_penaltyAt fu (fd_sg S' g) r (fd_sg S' g 78 63)).bind fun r11 => (fd_lt ((r11 + w)) fun y13 => ((zM_bounded (fd_sg S' g) (6 : Int32)).bind fun r14 => (if r14 ≤ y13 then ((zM_bounded (fd_sg S' g) (6 : Int32)).bind fun r17 => (zM_meet_142 fu (fd_sg S' g) w q r (zM_at r (1 : Int32)) r17)) else (zM_meet_142 fu (fd_sg S' g) w q r (zM_at r (1 : Int32)) y13))))) = some (e, fd_sg S' g2) ∧
      m_R S1 g2 ∧ m_GR g2 ∧ (∀ k : Nat, (k < 8 ∨ 20 ≤ k) → S1 k = S k) ∧ (∀ j : Int32, j < 71 → g2 j = g j) ∧ m_Ev g g2 (g (zM_at r 0)) w e := by
  obtain ⟨S3, g3, a1, a2, a3, a4, a5, a6, a7, a8⟩ := m_addHead (S' := S') hfu hR hG hB hGB hK hT ht r0 r1 hw hq
  have e64 : g3 64 = g 64 := a6 _ (by decide)
  have e63 : g3 63 = g 63 := a6 _ (by decide)
  have B3 : m_B S3 g3 := m_B_congr hB (a5 2 (by omega)) (fun j _ hj => a6 j (Or.inl (by clear a1 a2 a3 a4 a5 a6 a7 hR hG hB hGB; (simp only [ne_eq, i_lt, i_le, i_eq, i_add, i_sub, i_neg, i_mul, Int32.reduceToInt] at *; omega))))
  have GB3 : m_GB g3 := m_GB_congr hGB (fun j _ hj => a6 j (Or.inl (by clear a1 a2 a3 a4 a5 a6 a7 hR hG hB hGB; (simp only [ne_eq, i_lt, i_le, i_eq, i_add, i_sub, i_neg, i_mul, Int32.reduceToInt] at *; omega))))
  have rw3 : m_rw S3 r = m_rw S r := m_rw_c (a5 4 (by omega)) r
  obtain ⟨e, S5, g6, b1, b2, b3, b4, b5, b6, b7, b8, b9⟩ := m_tail (S' := S') hfu a3 a4 B3 GB3 hK (by rw [a5 0 (by omega), hT, e63]) (by rw [e63]; exact ht) r0 (by rw [e64]; exact r1) hw (by rw [a6 _ (by decide)]; exact hl)
  rw [rw3] at b1
  refine ⟨e, S5, g6, by rw [a1, b1], by rw [a2, b2], b3, b4, fun k hk => by rw [b5 k hk, a5 k hk], fun j hj => by rw [b6 j hj, a6 j (Or.inl hj)], ?_⟩
  have e646 : g6 64 = g 64 := by rw [b6 _ (by decide), e64]
  refine Or.inr (Or.inr (Or.inr ⟨r, r0, by rw [e646]; exact r1, by rw [b7, a8], ?_⟩))
  have hi : ∀ j : Int32, 131 ≤ j → g3 j = g j := fun j hj => a6 j (Or.inr hj)
  rcases b9 with ⟨c1, c2, c3⟩ | ⟨c1, c2, c3⟩
  · refine Or.inl ⟨c1, fun j hj => ?_, fun y => by rw [c3 y, a7 y]⟩
    rw [c2 j hj, b8, m_gW_hi hi _ _ j hj]
  · refine Or.inr ⟨c1, fun j hj => ?_, fun y => by rw [c3 y, a7 y, a8]⟩
    rw [c2 j hj, b8, m_wr_hi (m_gW_hi hi _ _) _ j hj]
theorem m_meet {fu : Nat} {S S' : fd_S} {g : Int32 → Int32} {x w q : Int32} (hfu : 10000 ≤ fu) (hR : m_R S g) (hG : m_GR g) (hB : m_B S g) (hGB : m_GB g) (hK : m_K S') (hT : S 0 6 = g 63) (h8 : S 0 8 = g 66) (h9 : S 0 9 = g 67) (h2 : S 3 2 = g 68) (ht : 0 ≤ g 63 ∧ g 63 ≤ 500000) (hx : 0 ≤ x ∧ x < 32) (hw : 0 ≤ w ∧ w ≤ 2000) (hq : 0 ≤ q) (hl : 0 ≤ g 131 ∧ g 131 ≤ 5) :
    ∃ e S1 g2, zS_judge fu S x w q = some (e, S1) ∧ zM_meet fu (fd_sg S' g) x w q = some (e, fd_sg S' g2) ∧ m_R S1 g2 ∧ m_GR g2 ∧ S1 0 8 = g2 66 ∧ S1 0 9 = g2 67 ∧ S1 3 2 = g2 68 ∧ (S1 0 6 = S 0 6 ∧ S1 0 7 = S 0 7 ∧ S1 0 10 = S 0 10) ∧ g2 65 = g 65 + 1 ∧
      (∀ k : Nat, (k = 1 ∨ k = 2 ∨ (5 ≤ k ∧ k < 8) ∨ 20 ≤ k) → S1 k = S k) ∧ (∀ j : Int32, (j < 64 ∨ j = 69 ∨ j = 70) → g2 j = g j) ∧ m_Ev g g2 x w e := by
  have h64 := hR.2.2.1
  generalize hg1 : m_gu g 65 (g 65 + 1) = g1
  have o1 : ∀ j : Int32, j ≠ 65 → g1 j = g j := by
    intro j hj
    rw [← hg1]
    unfold m_gu
    rw [if_neg hj]
  have e65 : g1 65 = g 65 + 1 := by rw [← hg1]; unfold m_gu; rw [if_pos rfl]
  have e64 : g1 64 = g 64 := o1 _ (by decide)
  have e63 : g1 63 = g 63 := o1 _ (by decide)
  have R1 : m_R S g1 := m_R_congr hR rfl rfl (fun _ _ _ => rfl) e64 (fun j h _ => o1 j (by clear hR hG hB hGB o1; (simp only [ne_eq, i_lt, i_le, i_eq, i_add, i_sub, i_neg, i_mul, Int32.reduceToInt] at *; omega)))
  have G1 : m_GR g1 := m_GR_congr hG h64.2 e64 (by rw [e63]; exact Int32.le_refl _) (fun j h _ => o1 j (by clear hR hG hB hGB o1 R1; (simp only [ne_eq, i_lt, i_le, i_eq, i_add, i_sub, i_neg, i_mul, Int32.reduceToInt] at *; omega)))
  have B1 : m_B S g1 := m_B_congr hB rfl (fun j _ h => o1 j (by clear hR hG hB hGB o1 R1 G1; (simp only [ne_eq, i_lt, i_le, i_eq, i_add, i_sub, i_neg, i_mul, Int32.reduceToInt] at *; omega)))
  have GB1 : m_GB g1 := m_GB_congr hGB (fun j _ h => o1 j (by clear hR hG hB hGB o1 R1 G1 B1; (simp only [ne_eq, i_lt, i_le, i_eq, i_add, i_sub, i_neg, i_mul, Int32.reduceToInt] at *; omega)))
  have hi1 : ∀ j : Int32, 131 ≤ j → g1 j = g j := fun j hj => o1 j (by clear hR hG hB hGB o1 R1 G1 B1 GB1; (simp only [ne_eq, i_lt, i_le, i_eq, i_add, i_sub, i_neg, i_mul, Int32.reduceToInt] at *; omega))
  have H1 : ∀ y, m_hd g1 y ↔ m_hd g y := fun y => m_hd_lo h64.2 e64 (fun j h _ => o1 j (by clear hR hG hB hGB o1 R1 G1 B1 GB1 hi1; (simp only [ne_eq, i_lt, i_le, i_eq, i_add, i_sub, i_neg, i_mul, Int32.reduceToInt] at *; omega))) y
  have E1 : ∀ {g2 : Int32 → Int32} {e : Int32}, m_Ev g1 g2 x w e → m_Ev g g2 x w e := by
    intro g2 e h
    rcases h with ⟨c1, c2, c3⟩ | ⟨c1, c2, c3⟩ | ⟨c1, c2, c3⟩ | ⟨r, r0, r1, c0, ⟨c1, c2, c3⟩ | ⟨c1, c2, c3⟩⟩
    · exact Or.inl ⟨c1, fun j hj => by rw [c2 j hj, hi1 j hj], fun y => by rw [c3 y, H1 y]⟩
    · exact Or.inr (Or.inl ⟨c1, fun j hj => by rw [c2 j hj, m_wr_hi hi1 _ j hj], fun y => by rw [c3 y, H1 y]⟩)
    · exact Or.inr (Or.inr (Or.inl ⟨c1, fun j hj => by rw [c2 j hj, m_wr_hi hi1 _ j hj], fun y => by rw [c3 y, H1 y]⟩))
    · exact Or.inr (Or.inr (Or.inr ⟨r, r0, r1, c0, Or.inl ⟨c1, fun j hj => by rw [c2 j hj, m_gW_hi hi1 _ _ j hj], fun y => by rw [c3 y, H1 y]⟩⟩))
    · exact Or.inr (Or.inr (Or.inr ⟨r, r0, r1, c0, Or.inr ⟨c1, fun j hj => by rw [c2 j hj, m_wr_hi (m_gW_hi hi1 _ _) _ j hj], fun y => by rw [c3 y, H1 y]⟩⟩))
  have l1 : 0 ≤ g1 131 ∧ g1 131 ≤ 5 := by rw [hi1 _ (by decide)]; exact hl
  have l1' : 0 ≤ g1 131 ∧ g1 131 ≤ 100 := ⟨l1.1, Int32.le_trans l1.2 (by decide)⟩
  obtain ⟨r, er, hix⟩ := zM_recordOf_eq (S := S') (g := g1) hfu (by rw [e64]; exact h64) x
  have ef := zQ_find_eq (x := x) hfu R1 G1 hix
  unfold zS_judge zM_meet
  simp only [fd_lt, sg_78, sg_up, hg1]
  rw [er, Option.bind_some]
  by_cases cw : w = 0
  · rw [if_pos cw, if_pos cw]
    exact ⟨0, S, g1, rfl, rfl, R1, G1, by rw [h8, o1 _ (by decide)], by rw [h9, o1 _ (by decide)], by rw [h2, o1 _ (by decide)], ⟨rfl, rfl, rfl⟩, e65, fun _ _ => rfl, fun j hj => o1 j (by clear hR hG hB hGB o1 R1 G1 B1 GB1 hi1 H1 E1 hix; (simp only [ne_eq, i_lt, i_le, i_eq, i_add, i_sub, i_neg, i_mul, Int32.reduceToInt] at *; omega)), E1 (Or.inl ⟨rfl, fun _ _ => rfl, fun _ => Iff.rfl⟩)⟩
  rw [if_neg cw, if_neg cw, ef, Option.bind_some]
  -- a counted event of a record that stands
  have cnt : ∀ {q' : Int32}, 0 ≤ q' → 0 ≤ r → r < g1 64 → g1 (zM_at r 0) = x → ∃ e S1 g2, ((zS_addTo fu S (m_rw S r) w q').bind fun q14 => (fd_pr q14 fun r13 S11 => (some (r13, S11)))) = some (e, S1) ∧ zM_meet_62 fu (fd_sg S' g1) x w q' = some (e, fd_sg S' g2) ∧ m_R S1 g2 ∧ m_GR g2 ∧ S1 0 8 = g2 66 ∧ S1 0 9 = g2 67 ∧ S1 3 2 = g2 68 ∧ (S1 0 6 = S 0 6 ∧ S1 0 7 = S 0 7 ∧ S1 0 10 = S 0 10) ∧ g2 65 = g 65 + 1 ∧ (∀ k : Nat, (k = 1 ∨ k = 2 ∨ (5 ≤ k ∧ k < 8) ∨ 20 ≤ k) → S1 k = S k) ∧ (∀ j : Int32, (j < 64 ∨ j = 69 ∨ j = 70) → g2 j = g j) ∧ m_Ev g g2 x w e := by
    intro q' hq' r0 r1 hrx
    obtain ⟨e, S1, g2, a1, a2, a3, a4, a5, a6, a7⟩ := m_cnt (S' := S') hfu R1 G1 B1 GB1 hK (by rw [hT, e63]) (by rw [e63]; exact ht) r0 r1 hw hq' l1
    rw [hrx] at a7
    refine ⟨e, S1, g2, by rw [a1]; rfl, ?_, a3, a4, ?_, ?_, ?_, ?_, ?_, fun k hk => a5 k (by omega), fun j hj => by rw [a6 j (by clear hR hG hB hGB o1 R1 G1 B1 GB1 hi1 H1 E1 hix a3 a4 a5 a6 a7; (simp only [ne_eq, i_lt, i_le, i_eq, i_add, i_sub, i_neg, i_mul, Int32.reduceToInt] at *; omega)), o1 j (by clear hR hG hB hGB o1 R1 G1 B1 GB1 hi1 H1 E1 hix a3 a4 a5 a6 a7; (simp only [ne_eq, i_lt, i_le, i_eq, i_add, i_sub, i_neg, i_mul, Int32.reduceToInt] at *; omega))], E1 a7⟩
    · unfold zM_meet_62 zM_makeRecord
      rw [er, Option.bind_some, if_neg (show ¬ r < 0 by clear hR hG hB hGB o1 R1 G1 B1 GB1 hi1 H1 E1 hix a3 a4 a5 a6 a7; (simp only [ne_eq, i_lt, i_le, i_eq, i_add, i_sub, i_neg, i_mul, Int32.reduceToInt] at *; omega)), Option.bind_some]
      unfold fd_pr
      dsimp only
      rw [if_pos r0, a2]
    · rw [a5 0 (by omega), h8, a6 _ (by decide), o1 _ (by decide)]
    · rw [a5 0 (by omega), h9, a6 _ (by decide), o1 _ (by decide)]
    · rw [a5 3 (by omega), h2, a6 _ (by decide), o1 _ (by decide)]
    · rw [a5 0 (by omega)]; exact ⟨rfl, rfl, rfl⟩
    · rw [a6 _ (by decide), e65]
  by_cases cr : r < 0
  · -- no record yet
    have hno : ∀ i : Int32, 0 ≤ i → i < g1 64 → ¬ g1 (zM_at i 0) = x := by
      rcases hix with ⟨-, h⟩ | ⟨a, -, -⟩
      · exact h
      · exact absurd cr (Int32.not_lt.mpr a)
    rw [if_pos cr, show m_fd S r = none by unfold m_fd; rw [if_pos cr]]
    unfold fd_on
    dsimp only
    rw [hT]
    rcases m_make (S' := S') (t := g 63) hfu R1 G1 (by rw [e63]) (by rw [e63]; exact ht.1) hx hno with ⟨a1, a2⟩ | ⟨S6, g6, r6, a1, a2, a3, a4, a5, a6, a7, a8, a9, a10, a11⟩
    · unfold zM_meet_62
      rw [a1, a2, Option.bind_some, Option.bind_some]
      unfold fd_pr
      simp only [fd_lt, sg_78, sg_up]
      rw [if_neg (show ¬ (0 : Int32) ≤ -6 by decide)]
      have o2 : ∀ j : Int32, j ≠ 67 → m_gu g1 67 (g1 67 + 1) j = g1 j := by
        intro j hj
        unfold m_gu
        rw [if_neg hj]
      have w2 : ∀ j : Int32, j < 131 → m_wr (m_gu g1 67 (g1 67 + 1)) 63 j = m_gu g1 67 (g1 67 + 1) j := fun j hj => m_wr_lo (by rw [o2 _ (by decide)]; exact l1') hj
      rw [zM_write_eq (by rw [o2 _ (by decide)]; exact l1'), Option.bind_some]
      have k67 : m_gu g1 67 (g1 67 + 1) 67 = g1 67 + 1 := by unfold m_gu; rw [if_pos rfl]
      refine ⟨2, _, _, rfl, rfl, ?_, ?_, ?_, ?_, ?_, ?_, ?_, ?_, ?_, E1 (Or.inr (Or.inr (Or.inl ⟨rfl, ?_, ?_⟩)))⟩
      · exact m_R_congr R1 (by rw [fd_up_ne (by decide)]) (by rw [fd_up_ne (by decide)]) (fun k h _ => by rw [fd_up_ne (by omega)]) (by rw [w2 _ (by decide), o2 _ (by decide)]) (fun j h h' => by rw [w2 j h', o2 j (by clear hR hG hB hGB o1 R1 G1 B1 GB1 hi1 H1 E1 hix a1 a2 hno cnt o2 w2; (simp only [ne_eq, i_lt, i_le, i_eq, i_add, i_sub, i_neg, i_mul, Int32.reduceToInt] at *; omega))])
      · exact m_GR_congr G1 (by rw [e64]; exact h64.2) (by rw [w2 _ (by decide), o2 _ (by decide)]) (by rw [w2 _ (by decide), o2 _ (by decide)]; exact Int32.le_refl _) (fun j h h' => by rw [w2 j h', o2 j (by clear hR hG hB hGB o1 R1 G1 B1 GB1 hi1 H1 E1 hix a1 a2 hno cnt o2 w2; (simp only [ne_eq, i_lt, i_le, i_eq, i_add, i_sub, i_neg, i_mul, Int32.reduceToInt] at *; omega))])
      · rw [fd_up_at, if_neg (by decide), h8, w2 _ (by decide), o2 _ (by decide), o1 _ (by decide)]
      · rw [fd_up_at, if_pos rfl, h9, w2 _ (by decide), k67, o1 _ (by decide)]
      · rw [fd_up_ne (by decide), h2, w2 _ (by decide), o2 _ (by decide), o1 _ (by decide)]
      · rw [fd_up_at, fd_up_at, fd_up_at, if_neg (by decide), if_neg (by decide), if_neg (by decide)]
        exact ⟨hT, rfl, rfl⟩
      · rw [w2 _ (by decide), o2 _ (by decide), e65]
      · intro k hk
        rw [fd_up_ne (by omega)]
      · intro j hj
        have hj2 : j < 131 ∧ j ≠ 67 ∧ j ≠ 65 := by clear hR hG hB hGB o1 R1 G1 B1 GB1 hi1 H1 E1 hix a1 a2 hno cnt o2 w2; (simp only [ne_eq, i_lt, i_le, i_eq, i_add, i_sub, i_neg, i_mul, Int32.reduceToInt] at *; omega)
        rw [w2 j hj2.1, o2 j hj2.2.1, o1 j hj2.2.2]
      · exact m_wr_hi (fun j hj => o2 j (by clear hR hG hB hGB o1 R1 G1 B1 GB1 hi1 H1 E1 hix a1 a2 hno cnt o2 w2; (simp only [ne_eq, i_lt, i_le, i_eq, i_add, i_sub, i_neg, i_mul, Int32.reduceToInt] at *; omega))) _
      · intro y
        exact m_hd_lo (by rw [e64]; exact h64.2) (by rw [w2 _ (by decide), o2 _ (by decide)]) (fun j h h' => by rw [w2 j h', o2 j (by clear hR hG hB hGB o1 R1 G1 B1 GB1 hi1 H1 E1 hix a1 a2 hno cnt o2 w2; (simp only [ne_eq, i_lt, i_le, i_eq, i_add, i_sub, i_neg, i_mul, Int32.reduceToInt] at *; omega))]) y
    · have f6 : ∀ j : Int32, (j < 64 ∨ (65 ≤ j ∧ j < 68) ∨ (69 ≤ j ∧ j < 71) ∨ 131 ≤ j) → g6 j = g1 j := a9
      have B6 : m_B S6 g6 := m_B_congr B1 (a8 2 (by omega)) (fun j _ hj => f6 j (Or.inl (by clear hR hG hB hGB o1 R1 G1 B1 GB1 hi1 H1 E1 hix a1 a2 hno cnt f6 a8 a9 a6 a7 a10 a11; (simp only [ne_eq, i_lt, i_le, i_eq, i_add, i_sub, i_neg, i_mul, Int32.reduceToInt] at *; omega))))
      have GB6 : m_GB g6 := m_GB_congr GB1 (fun j _ hj => f6 j (Or.inl (by clear hR hG hB hGB o1 R1 G1 B1 GB1 hi1 H1 E1 hix a1 a2 hno cnt f6 a8 a9 a6 a7 a10 a11 B6; (simp only [ne_eq, i_lt, i_le, i_eq, i_add, i_sub, i_neg, i_mul, Int32.reduceToInt] at *; omega))))
      obtain ⟨e, S1, g2, b1, b2, b3, b4, b5, b6, b7⟩ := m_cnt (S' := S') hfu a6 a7 B6 GB6 hK (by rw [a8 0 (by omega), hT, f6 _ (by decide), e63]) (by rw [f6 _ (by decide), e63]; exact ht) a3 a4 hw hq (by rw [f6 _ (by decide)]; exact l1)
      rw [a5] at b7
      unfold zM_meet_62
      rw [a1, a2, Option.bind_some, Option.bind_some]
      unfold fd_pr
      dsimp only
      rw [if_pos a3, b2, b1, Option.bind_some]
      refine ⟨e, S1, g2, rfl, rfl, b3, b4, ?_, ?_, ?_, ?_, ?_, ?_, ?_, E1 ?_⟩
      · rw [b5 0 (by omega), a8 0 (by omega), h8, b6 _ (by decide), f6 _ (by decide), o1 _ (by decide)]
      · rw [b5 0 (by omega), a8 0 (by omega), h9, b6 _ (by decide), f6 _ (by decide), o1 _ (by decide)]
      · rw [b5 3 (by omega), b6 _ (by decide)]
        rw [h2, o1 _ (by decide)] at a10
        clear hR hG hB hGB o1 R1 G1 B1 GB1 hi1 H1 E1 hix a1 a2 hno cnt f6 a8 a9 a6 a7 a11 B6 GB6 b1 b2 b3 b4 b5 b6 b7
        grind
      · rw [b5 0 (by omega), a8 0 (by omega)]; exact ⟨hT, rfl, rfl⟩
      · rw [b6 _ (by decide), f6 _ (by decide), e65]
      · intro k hk
        rw [b5 k (by omega), a8 k (by omega)]
      · intro j hj
        have hj2 : j < 71 ∧ (j < 64 ∨ (65 ≤ j ∧ j < 68) ∨ (69 ≤ j ∧ j < 71) ∨ 131 ≤ j) ∧ j ≠ 65 := by clear hR hG hB hGB o1 R1 G1 B1 GB1 hi1 H1 E1 hix a1 a2 hno cnt f6 a8 a9 a6 a7 a11 B6 GB6 b1 b2 b3 b4 b5 b6 b7; (simp only [ne_eq, i_lt, i_le, i_eq, i_add, i_sub, i_neg, i_mul, Int32.reduceToInt] at *; omega)
        rw [b6 j hj2.1, f6 j hj2.2.1, o1 j hj2.2.2]
      · have h6i : ∀ j : Int32, 131 ≤ j → g6 j = g1 j := fun j hj => f6 j (Or.inr (Or.inr (Or.inr hj)))
        rcases b7 with ⟨c1, c2, c3⟩ | ⟨c1, c2, c3⟩ | ⟨c1, c2, c3⟩ | ⟨r, r0, r1, c0, ⟨c1, c2, c3⟩ | ⟨c1, c2, c3⟩⟩
        · exact Or.inl ⟨c1, fun j hj => by rw [c2 j hj, h6i j hj], fun y => by rw [c3 y, a11 y]⟩
        · exact Or.inr (Or.inl ⟨c1, fun j hj => by rw [c2 j hj, m_wr_hi h6i _ j hj], fun y => by rw [c3 y, a11 y]⟩)
        · exact Or.inr (Or.inr (Or.inl ⟨c1, fun j hj => by rw [c2 j hj, m_wr_hi h6i _ j hj], fun y => by rw [c3 y, a11 y]⟩))
        · exact Or.inr (Or.inr (Or.inr ⟨r, r0, r1, c0, Or.inl ⟨c1, fun j hj => by rw [c2 j hj, m_gW_hi h6i _ _ j hj], fun y => by rw [c3 y, a11 y]⟩⟩))
        · exact Or.inr (Or.inr (Or.inr ⟨r, r0, r1, c0, Or.inr ⟨c1, fun j hj => by rw [c2 j hj, m_wr_hi (m_gW_hi h6i _ _) _ j hj], fun y => by rw [c3 y, a11 y]⟩⟩))
  · -- it has one
    have hrx : 0 ≤ r ∧ r < g1 64 ∧ g1 (zM_at r 0) = x := by
      rcases hix with ⟨e, -⟩ | h
      · exact absurd (by rw [e]; decide) cr
      · exact h
    have r6 : r < 6 := by have := hrx.2.1; rw [e64] at this; clear hR hG hB hGB o1 R1 G1 B1 GB1 hi1 H1 E1 hix cnt hrx; (simp only [ne_eq, i_lt, i_le, i_eq, i_add, i_sub, i_neg, i_mul, Int32.reduceToInt] at *; omega)
    rw [if_neg cr, show m_fd S r = some (m_rw S r) by unfold m_fd; rw [if_neg cr]]
    unfold fd_on
    dsimp only
    by_cases cq : q = 0
    · rw [if_pos cq, if_pos (show q ≤ 0 by rw [cq]; decide)]
      exact cnt hq hrx.1 hrx.2.1 hrx.2.2
    · obtain ⟨b, b1, b2, b3⟩ := m_hasCause (S' := S') (x := q) hfu R1 G1 hrx.1 hrx.2.1
      rw [if_neg cq, if_neg (show ¬ q ≤ 0 by clear hR hG hB hGB o1 R1 G1 B1 GB1 hi1 H1 E1 hix cnt hrx b1 b2; (simp only [ne_eq, i_lt, i_le, i_eq, i_add, i_sub, i_neg, i_mul, Int32.reduceToInt] at *; omega)), if_pos (R1.1.rk hrx.1 r6), b1, b2, Option.bind_some, Option.bind_some]
      by_cases cb : b = 0
      · rw [if_pos cb, if_pos cb]
        exact cnt hq hrx.1 hrx.2.1 hrx.2.2
      · rw [if_neg cb, if_neg cb]
        have o2 : ∀ j : Int32, j ≠ 66 → m_gu g1 66 (g1 66 + 1) j = g1 j := by
          intro j hj
          unfold m_gu
          rw [if_neg hj]
        have w2 : ∀ j : Int32, j < 131 → m_wr (m_gu g1 66 (g1 66 + 1)) 126 j = m_gu g1 66 (g1 66 + 1) j := fun j hj => m_wr_lo (by rw [o2 _ (by decide)]; exact l1') hj
        rw [zM_write_eq (by rw [o2 _ (by decide)]; exact l1'), Option.bind_some]
        have k66 : m_gu g1 66 (g1 66 + 1) 66 = g1 66 + 1 := by unfold m_gu; rw [if_pos rfl]
        refine ⟨1, _, _, rfl, rfl, ?_, ?_, ?_, ?_, ?_, ?_, ?_, ?_, ?_, E1 (Or.inr (Or.inl ⟨rfl, ?_, ?_⟩))⟩
        · exact m_R_congr R1 (by rw [fd_up_ne (by decide)]) (by rw [fd_up_ne (by decide)]) (fun k h _ => by rw [fd_up_ne (by omega)]) (by rw [w2 _ (by decide), o2 _ (by decide)]) (fun j h h' => by rw [w2 j h', o2 j (by clear hR hG hB hGB o1 R1 G1 B1 GB1 hi1 H1 E1 hix cnt o2 w2 hrx; (simp only [ne_eq, i_lt, i_le, i_eq, i_add, i_sub, i_neg, i_mul, Int32.reduceToInt] at *; omega))])
        · exact m_GR_congr G1 (by rw [e64]; exact h64.2) (by rw [w2 _ (by decide), o2 _ (by decide)]) (by rw [w2 _ (by decide), o2 _ (by decide)]; exact Int32.le_refl _) (fun j h h' => by rw [w2 j h', o2 j (by clear hR hG hB hGB o1 R1 G1 B1 GB1 hi1 H1 E1 hix cnt o2 w2 hrx; (simp only [ne_eq, i_lt, i_le, i_eq, i_add, i_sub, i_neg, i_mul, Int32.reduceToInt] at *; omega))])
        · rw [fd_up_at, if_pos rfl, h8, w2 _ (by decide), k66, o1 _ (by decide)]
        · rw [fd_up_at, if_neg (by decide), h9, w2 _ (by decide), o2 _ (by decide), o1 _ (by decide)]
        · rw [fd_up_ne (by decide), h2, w2 _ (by decide), o2 _ (by decide), o1 _ (by decide)]
        · rw [fd_up_at, fd_up_at, fd_up_at, if_neg (by decide), if_neg (by decide), if_neg (by decide)]
          exact ⟨rfl, rfl, rfl⟩
        · rw [w2 _ (by decide), o2 _ (by decide), e65]
        · intro k hk
          rw [fd_up_ne (by omega)]
        · intro j hj
          have hj2 : j < 131 ∧ j ≠ 66 ∧ j ≠ 65 := by clear hR hG hB hGB o1 R1 G1 B1 GB1 hi1 H1 E1 hix cnt o2 w2 hrx; (simp only [ne_eq, i_lt, i_le, i_eq, i_add, i_sub, i_neg, i_mul, Int32.reduceToInt] at *; omega)
          rw [w2 j hj2.1, o2 j hj2.2.1, o1 j hj2.2.2]
        · exact m_wr_hi (fun j hj => o2 j (by clear hR hG hB hGB o1 R1 G1 B1 GB1 hi1 H1 E1 hix cnt o2 w2 hrx; (simp only [ne_eq, i_lt, i_le, i_eq, i_add, i_sub, i_neg, i_mul, Int32.reduceToInt] at *; omega))) _
        · intro y
          exact m_hd_lo (by rw [e64]; exact h64.2) (by rw [w2 _ (by decide), o2 _ (by decide)]) (fun j h h' => by rw [w2 j h', o2 j (by clear hR hG hB hGB o1 R1 G1 B1 GB1 hi1 H1 E1 hix cnt o2 w2 hrx; (simp only [ne_eq, i_lt, i_le, i_eq, i_add, i_sub, i_neg, i_mul, Int32.reduceToInt] at *; omega))]) y
end
section
/-! ===== writeEvent ===== -/
def m_FL (S S1 : fd_S) : Prop := ∀ k : Nat, k ≠ 5 → k ≠ 6 → k ≠ 7 → S1 k = S k
theorem m_R_FL {S S1 : fd_S} {g : Int32 → Int32} (h : m_R S g) (hF : m_FL S S1) : m_R S1 g := m_R_congr h (by rw [hF 3 (by decide) (by decide) (by decide)]) (hF 4 (by decide) (by decide) (by decide)) (fun k _ _ => hF k (by omega) (by omega) (by omega)) rfl (fun _ _ _ => rfl)
theorem m_w83 {fu : Nat} {S : fd_S} {g g2 : Int32 → Int32} {x w e : Int32} (hfu : 10000 ≤ fu) (hR : m_R S g2) (hG : m_GR g2) (hL : m_L S g) (hl : 0 ≤ g 131 ∧ g 131 ≤ 5) (hw : 0 ≤ w ∧ w ≤ 2000) (e70 : g2 70 = g 70)
    (hE : (∃ r, 0 ≤ r ∧ r < g2 64 ∧ g2 (zM_at r 0) = x ∧ ((e = 3 ∧ (∀ j : Int32, 131 ≤ j → g2 j = m_gW g w (g2 (zM_at r 1)) j)) ∨ (e = 4 ∧ (∀ j : Int32, 131 ≤ j → g2 j = m_wr (m_gW g w (g2 (zM_at r 1))) 33 j)))) ∨ (e ≠ 3 ∧ e ≠ 4 ∧ ∀ j : Int32, 131 ≤ j → g2 j = g j)) :
    ∃ S1, zS_writeEvent_83 fu S x w e = some S1 ∧ m_L S1 g2 ∧ m_FL S S1 := by
  unfold zS_writeEvent_83
  rcases hE with ⟨r, r0, r1, hrx, hE⟩ | ⟨n3, n4, hE⟩
  · have h64 := hR.2.2.1
    have r6 : r < 6 := by clear hR hG hE hL; (simp only [ne_eq, i_lt, i_le, i_eq, i_add, i_sub, i_neg, i_mul, Int32.reduceToInt] at *; omega)
    have hgr := hG.1 r r0 r1
    rw [zQ_find_eq (r := r) hfu hR hG (Or.inr ⟨r0, r1, hrx⟩), Option.bind_some, show m_fd S r = some (m_rw S r) by unfold m_fd; rw [if_neg (by clear hR hG hE hL; (simp only [ne_eq, i_lt, i_le, i_eq, i_add, i_sub, i_neg, i_mul, Int32.reduceToInt] at *; omega))]]
    unfold fd_on zS_writeEvent_108
    dsimp only
    obtain ⟨S1, S2, S3, S4, s1, s2, s3, s4, s5, s6⟩ := m_cW (F := g2 (zM_at r 1)) hfu hL hl hw hgr.2.1
    have hrg := hR.1.rg r0 r6
    have hv := (hR.2.2.2.1 r r0 r1).2.1
    unfold m_cV at hv
    have ek : S3 (m_rw S r) 1 = g2 (zM_at r 1) := by rw [(s6 _ (by omega) (by omega)).1, hv]
    have a4 := (m_gW_ok hl hw hgr.2.1).2.2.2.1
    have chain : ((zL_put S 43).bind fun S16 => ((zL_putNumber fu S16 w).bind fun S18 => ((zL_put S18 61).bind fun S20 => (if fd_rk (m_rw S r) then ((zL_putNumber fu S20 (S20 (m_rw S r) 1)).bind fun S23 => (if e = 4 then ((zL_put S23 33).bind fun S26 => (some S26)) else (some S23))) else none)))) = (if e = 4 then ((zL_put S4 33).bind fun S26 => (some S26)) else (some S4)) := by
      rw [s1, Option.bind_some, s2, Option.bind_some, s3, Option.bind_some, if_pos (hR.1.rk r0 r6), ek, s4, Option.bind_some]
    rcases hE with ⟨c1, c2⟩ | ⟨c1, c2⟩
    · rw [if_pos c1, chain, if_neg (show ¬ e = 4 by rw [c1]; decide)]
      refine ⟨S4, rfl, m_L_congr s5 rfl rfl rfl (by rw [e70, (m_gW_lo hl hw hgr.2.1 (by decide)).1]) c2, fun k _ h6 h7 => (s6 k h6 h7).2⟩
    · rw [if_neg (show ¬ e = 3 by rw [c1]; decide), if_pos c1, chain, if_pos c1]
      obtain ⟨S5, t1, t2, t3⟩ := m_put (c := 33) s5 (by clear hR hG hL c2 s5; (simp only [ne_eq, i_lt, i_le, i_eq, i_add, i_sub, i_neg, i_mul, Int32.reduceToInt] at *; omega))
      rw [t1, Option.bind_some]
      refine ⟨S5, rfl, m_L_congr t2 rfl rfl rfl (by rw [e70, m_wr_lo ⟨a4.1, Int32.le_trans a4.2 (by decide)⟩ (by decide), (m_gW_lo hl hw hgr.2.1 (by decide)).1]) c2, fun k _ h6 h7 => by rw [t3 k h6 h7, (s6 k h6 h7).2]⟩
  · obtain ⟨r, er, hix⟩ := zM_recordOf_eq (S := S) (g := g2) hfu hR.2.2.1 x
    rw [zQ_find_eq hfu hR hG hix, Option.bind_some]
    refine ⟨S, ?_, m_L_congr hL rfl rfl rfl e70 hE, fun _ _ _ _ => rfl⟩
    cases m_fd S r with
    | none =>
      unfold fd_on
      dsimp only
      rw [if_neg n4]
    | some k =>
      unfold fd_on
      dsimp only
      rw [if_neg n3, if_neg n4, if_neg n4]
theorem m_wTail {fu : Nat} {S : fd_S} {g g2 : Int32 → Int32} {x w e : Int32} (hfu : 10000 ≤ fu) (hR : m_R S g2) (hG : m_GR g2) (hL : m_L S g) (hl : 0 ≤ g 131 ∧ g 131 ≤ 5) (hw : 0 ≤ w ∧ w ≤ 2000) (e70 : g2 70 = g 70) (hE : m_Ev g g2 x w e) :
    ∃ S1, (if e = 1 then ((zL_put S 126).bind fun S34 => (if e = 2 then ((zL_put S34 63).bind fun S37 => (zS_writeEvent_83 fu S37 x w e)) else (zS_writeEvent_83 fu S34 x w e))) else (if e = 2 then ((zL_put S 63).bind fun S32 => (zS_writeEvent_83 fu S32 x w e)) else (zS_writeEvent_83 fu S x w e))) = some S1 ∧ m_L S1 g2 ∧ m_FL S S1 := by
  have l20 : g 131 < 20 := by clear hR hG hL hE; (simp only [ne_eq, i_lt, i_le, i_eq, i_add, i_sub, i_neg, i_mul, Int32.reduceToInt] at *; omega)
  have sign : ∀ {c : Int32}, (∀ j : Int32, 131 ≤ j → g2 j = m_wr g c j) → e ≠ 3 → e ≠ 4 → ∃ S1, ((zL_put S c).bind fun S' => zS_writeEvent_83 fu S' x w e) = some S1 ∧ m_L S1 g2 ∧ m_FL S S1 := by
    intro c hc n3 n4
    obtain ⟨S2, t1, t2, t3⟩ := m_put (c := c) hL l20
    have t3' : m_FL S S2 := fun k _ h6 h7 => t3 k h6 h7
    have eL : m_L S2 g2 := m_L_congr t2 rfl rfl rfl (by rw [e70, m_wr_lo ⟨hl.1, Int32.le_trans hl.2 (by decide)⟩ (by decide)]) hc
    obtain ⟨r, er, hix⟩ := zM_recordOf_eq (S := S) (g := g2) hfu hR.2.2.1 x
    rw [t1, Option.bind_some]
    refine ⟨S2, ?_, eL, t3'⟩
    unfold zS_writeEvent_83
    rw [zQ_find_eq hfu (m_R_FL hR t3') hG hix, Option.bind_some]
    cases m_fd S2 r with
    | none =>
      unfold fd_on
      dsimp only
      rw [if_neg n4]
    | some k =>
      unfold fd_on
      dsimp only
      rw [if_neg n3, if_neg n4, if_neg n4]
  rcases hE with ⟨c1, c2, -⟩ | ⟨c1, c2, -⟩ | ⟨c1, c2, -⟩ | ⟨r, r0, r1, c0, ⟨c1, c2, -⟩ | ⟨c1, c2, -⟩⟩
  · rw [if_neg (show ¬ e = 1 by rw [c1]; decide), if_neg (show ¬ e = 2 by rw [c1]; decide)]
    exact m_w83 hfu hR hG hL hl hw e70 (Or.inr ⟨by rw [c1]; decide, by rw [c1]; decide, c2⟩)
  · rw [if_pos c1]
    simp only [if_neg (show ¬ e = 2 by rw [c1]; decide)]
    exact sign c2 (by rw [c1]; decide) (by rw [c1]; decide)
  · rw [if_neg (show ¬ e = 1 by rw [c1]; decide), if_pos c1]
    exact sign c2 (by rw [c1]; decide) (by rw [c1]; decide)
  · rw [if_neg (show ¬ e = 1 by rw [c1]; decide), if_neg (show ¬ e = 2 by rw [c1]; decide)]
    exact m_w83 hfu hR hG hL hl hw e70 (Or.inl ⟨r, r0, r1, c0, Or.inl ⟨c1, c2⟩⟩)
  · rw [if_neg (show ¬ e = 1 by rw [c1]; decide), if_neg (show ¬ e = 2 by rw [c1]; decide)]
    exact m_w83 hfu hR hG hL hl hw e70 (Or.inl ⟨r, r0, r1, c0, Or.inr ⟨c1, c2⟩⟩)
/-- the line's beginning, as the reference has it -/
def m_gc (g : Int32 → Int32) (x path : Int32) : Int32 → Int32 := if path = -6 then m_bl g 87 x else m_wr (m_wr (m_bl g 65 x) 58) (48 + path)
theorem m_gc_ok {g : Int32 → Int32} {x path : Int32} : (0 ≤ m_gc g x path 131 ∧ m_gc g x path 131 ≤ 5) ∧ ∀ j : Int32, j < 131 → m_gc g x path j = if j = 70 then g 70 + 1 else g j := by
  unfold m_gc
  split
  · exact ⟨by rw [m_bl_131]; decide, fun j hj => m_bl_lo hj⟩
  · refine ⟨by rw [m_wr_131, m_wr_131, m_bl_131]; decide, fun j hj => ?_⟩
    rw [m_wr_lo (by rw [m_wr_131, m_bl_131]; decide) hj, m_wr_lo (by rw [m_bl_131]; decide) hj, m_bl_lo hj]
theorem m_writeEvent {fu : Nat} {S : fd_S} {g g2 : Int32 → Int32} {x w e path : Int32} (hfu : 10000 ≤ fu) (hR : m_R S g2) (hG : m_GR g2) (hL : m_L S g) (hx : 0 ≤ x ∧ x < 32) (hp : path = -6 ∨ (0 ≤ path ∧ path ≤ 9)) (hS : S 20 x = path) (hw : 0 ≤ w ∧ w ≤ 2000) (e70 : g2 70 = m_gc g x path 70) (hE : m_Ev (m_gc g x path) g2 x w e) :
    ∃ S1, zS_writeEvent fu S x w e = some S1 ∧ m_L S1 g2 ∧ m_FL S S1 := by
  unfold zS_writeEvent
  simp only [fd_lt]
  rw [if_pos hx, hS]
  unfold zS_writeEvent_26
  have hl := (m_gc_ok (g := g) (x := x) (path := path)).1
  by_cases c : path = -6
  · have eg : m_gc g x path = m_bl g 87 x := by unfold m_gc; rw [if_pos c]
    rw [eg] at hl hE e70
    obtain ⟨S1, s1, s2, s3⟩ := m_begin (c := 87) hfu hL hx
    have s3' : m_FL S S1 := s3
    rw [if_pos c, s1, Option.bind_some, if_pos c]
    obtain ⟨S2, t1, t2, t3⟩ := m_wTail hfu (m_R_FL hR s3') hG s2 hl hw e70 hE
    exact ⟨S2, t1, t2, fun k h5 h6 h7 => by rw [t3 k h5 h6 h7, s3 k h5 h6 h7]⟩
  · have eg : m_gc g x path = m_wr (m_wr (m_bl g 65 x) 58) (48 + path) := by unfold m_gc; rw [if_neg c]
    rw [eg] at hl hE e70
    have hp' : 0 ≤ path ∧ path < 10 := by
      rcases hp with h | h
      · exact absurd h c
      · exact ⟨h.1, Int32.lt_of_le_of_lt h.2 (by decide)⟩
    obtain ⟨S1, s1, s2, s3⟩ := m_begin (c := 65) hfu hL hx
    obtain ⟨S2, t1, t2, t3⟩ := m_put (c := 58) s2 (by rw [m_bl_131]; decide)
    obtain ⟨S3, u1, u2, u3⟩ := m_num1 (x := path) hfu hp'.1 hp'.2 t2 (by rw [m_wr_131, m_bl_131]; decide)
    have s3' : m_FL S S3 := fun k h5 h6 h7 => by rw [u3 k h6 h7, t3 k h6 h7, s3 k h5 h6 h7]
    rw [if_neg c, s1, Option.bind_some, if_neg c, t1, Option.bind_some, u1, Option.bind_some]
    obtain ⟨S4, v1, v2, v3⟩ := m_wTail hfu (m_R_FL hR s3') hG u2 hl hw e70 hE
    exact ⟨S4, v1, v2, fun k h5 h6 h7 => by rw [v3 k h5 h6 h7, s3' k h5 h6 h7]⟩
end
section
/-! ===== the best of a prefix ===== -/
theorem b_8 {q p : Int32} (q0 : 0 ≤ q) (q1 : q < 4) (p0 : 0 ≤ p) (p1 : p < 8) : (8 * q + p).toInt = 8 * q.toInt + p.toInt ∧ 0 ≤ 8 * q + p ∧ 8 * q + p < 32 := by
  have a : (8 * q).toInt = 8 * q.toInt := by (simp only [ne_eq, i_lt, i_le, i_eq, i_add, i_sub, i_neg, i_mul, Int32.reduceToInt] at *; omega)
  have b : (8 * q + p).toInt = 8 * q.toInt + p.toInt := by
    rw [i_add, a]
    (simp only [ne_eq, i_lt, i_le, i_eq, i_add, i_sub, i_neg, i_mul, Int32.reduceToInt] at *; omega)
  refine ⟨b, ?_, ?_⟩
  · rw [i_le, b]; (simp only [ne_eq, i_lt, i_le, i_eq, i_add, i_sub, i_neg, i_mul, Int32.reduceToInt] at *; omega)
  · rw [i_lt, b]; (simp only [ne_eq, i_lt, i_le, i_eq, i_add, i_sub, i_neg, i_mul, Int32.reduceToInt] at *; omega)
theorem b_3 {p c : Int32} (p0 : 0 ≤ p) (p1 : p < 8) (c0 : 0 ≤ c) (c1 : c < 3) : (39 + 3 * p + c).toInt = 39 + 3 * p.toInt + c.toInt ∧ 39 ≤ 39 + 3 * p + c ∧ 39 + 3 * p + c < 63 := by
  have a : (3 * p).toInt = 3 * p.toInt := by (simp only [ne_eq, i_lt, i_le, i_eq, i_add, i_sub, i_neg, i_mul, Int32.reduceToInt] at *; omega)
  have a2 : (39 + 3 * p).toInt = 39 + 3 * p.toInt := by
    rw [i_add, a]
    (simp only [ne_eq, i_lt, i_le, i_eq, i_add, i_sub, i_neg, i_mul, Int32.reduceToInt] at *; omega)
  have b : (39 + 3 * p + c).toInt = 39 + 3 * p.toInt + c.toInt := by
    rw [i_add, a2]
    (simp only [ne_eq, i_lt, i_le, i_eq, i_add, i_sub, i_neg, i_mul, Int32.reduceToInt] at *; omega)
  refine ⟨b, ?_, ?_⟩
  · rw [i_le, b]; (simp only [ne_eq, i_lt, i_le, i_eq, i_add, i_sub, i_neg, i_mul, Int32.reduceToInt] at *; omega)
  · rw [i_lt, b]; (simp only [ne_eq, i_lt, i_le, i_eq, i_add, i_sub, i_neg, i_mul, Int32.reduceToInt] at *; omega)
theorem b_3in {p c : Int32} (p0 : 0 ≤ p) (p1 : p < 8) (c0 : 0 ≤ c) (c1 : c < 3) : 0 ≤ 39 + 3 * p + c ∧ 39 + 3 * p + c < 275 := by
  have := (b_3 p0 p1 c0 c1).2
  exact ⟨Int32.le_trans (by decide) this.1, Int32.lt_trans this.2 (by decide)⟩
theorem b_3inj {p c p' c' : Int32} (p0 : 0 ≤ p) (p1 : p < 8) (c0 : 0 ≤ c) (c1 : c < 3) (p0' : 0 ≤ p') (p1' : p' < 8) (c0' : 0 ≤ c') (c1' : c' < 3) : 39 + 3 * p + c = 39 + 3 * p' + c' ↔ p = p' ∧ c = c' := by
  have h1 := (b_3 p0 p1 c0 c1).1
  have h2 := (b_3 p0' p1' c0' c1').1
  rw [i_eq, h1, h2, i_eq, i_eq]
  (simp only [ne_eq, i_lt, i_le, i_eq, i_add, i_sub, i_neg, i_mul, Int32.reduceToInt] at *; omega)
def m_may (g : Int32 → Int32) (q p : Int32) : Prop := 0 ≤ g (8 * q + p) ∧ ¬ m_hd g (8 * q + p)
noncomputable def m_bs (g : Int32 → Int32) (p : Int32) : Nat → Int32
  | 0 => -6
  | n + 1 => @ite Int32 (m_may g (nI n) p ∧ (m_bs g p n < 0 ∨ g (8 * nI n + p) < g (8 * m_bs g p n + p))) (Classical.propDecidable _) (nI n) (m_bs g p n)
noncomputable def m_be (g : Int32 → Int32) (p : Int32) : Int32 := m_bs g p 4
noncomputable def m_bp (g : Int32 → Int32) (p : Int32) : Int32 := if m_be g p < 0 then -6 else g (8 * m_be g p + p)
def m_P (g : Int32 → Int32) : Prop := ∀ x : Int32, 0 ≤ x → x < 32 → g x = -6 ∨ (0 ≤ g x ∧ g x ≤ 9)
def m_Q (S : fd_S) (g : Int32 → Int32) : Prop := ∀ x : Int32, 0 ≤ x → x < 32 → S 20 x = g x
def m_rk (e b : Int32) : Int32 := if e < 0 then -6 else b * 4 + e
theorem m_bs_rg (g : Int32 → Int32) (p : Int32) : ∀ n : Nat, n ≤ 4 → m_bs g p n = -6 ∨ (0 ≤ m_bs g p n ∧ (m_bs g p n).toInt < n ∧ m_may g (m_bs g p n) p) := by
  intro n
  induction n with
  | zero => intro _; exact Or.inl rfl
  | succ n ih =>
    intro hn
    rw [m_bs]
    split
    · next h =>
      refine Or.inr ⟨?_, ?_, h.1⟩
      · rw [i_le, nI_toInt (by omega)]
        (simp only [ne_eq, i_lt, i_le, i_eq, i_add, i_sub, i_neg, i_mul, Int32.reduceToInt] at *; omega)
      · rw [nI_toInt (by omega)]
        omega
    · rcases ih (by omega) with h | h
      · exact Or.inl h
      · exact Or.inr ⟨h.1, by omega, h.2.2⟩
theorem m_bs_congr {g g1 : Int32 → Int32} {p : Int32} (h : ∀ q : Int32, 0 ≤ q → q < 4 → g1 (8 * q + p) = g (8 * q + p) ∧ (m_hd g1 (8 * q + p) ↔ m_hd g (8 * q + p))) : ∀ n : Nat, n ≤ 4 → m_bs g1 p n = m_bs g p n := by
  intro n
  induction n with
  | zero => intro _; rfl
  | succ n ih =>
    intro hn
    have e := ih (by omega)
    have hq := h (nI n) (by rw [i_le, nI_toInt (by omega)]; (simp only [ne_eq, i_lt, i_le, i_eq, i_add, i_sub, i_neg, i_mul, Int32.reduceToInt] at *; omega)) (by rw [i_lt, nI_toInt (by omega)]; (simp only [ne_eq, i_lt, i_le, i_eq, i_add, i_sub, i_neg, i_mul, Int32.reduceToInt] at *; omega))
    have hb := m_bs_rg g p n (by omega)
    have ec : (m_may g1 (nI n) p ∧ (m_bs g p n < 0 ∨ g1 (8 * nI n + p) < g1 (8 * m_bs g p n + p))) ↔ (m_may g (nI n) p ∧ (m_bs g p n < 0 ∨ g (8 * nI n + p) < g (8 * m_bs g p n + p))) := by
      unfold m_may
      rw [hq.1, hq.2]
      rcases hb with hb | hb
      · have : m_bs g p n < 0 := by rw [hb]; decide
        simp only [this, true_or]
      · rw [(h (m_bs g p n) hb.1 (by have := hb.2.1; rw [i_lt]; (simp only [ne_eq, i_lt, i_le, i_eq, i_add, i_sub, i_neg, i_mul, Int32.reduceToInt] at *; omega))).1]
    rw [m_bs, m_bs, e]
    by_cases c : (m_may g (nI n) p ∧ (m_bs g p n < 0 ∨ g (8 * nI n + p) < g (8 * m_bs g p n + p)))
    · rw [if_pos c, if_pos (ec.mpr c)]
    · rw [if_neg c, if_neg (fun z => c (ec.mp z))]
theorem m_be_congr {g g1 : Int32 → Int32} {p : Int32} (h : ∀ q : Int32, 0 ≤ q → q < 4 → g1 (8 * q + p) = g (8 * q + p) ∧ (m_hd g1 (8 * q + p) ↔ m_hd g (8 * q + p))) : m_be g1 p = m_be g p ∧ m_bp g1 p = m_bp g p := by
  have e : m_be g1 p = m_be g p := m_bs_congr h 4 (by omega)
  refine ⟨e, ?_⟩
  unfold m_bp
  rw [e]
  have hb := m_bs_rg g p 4 (by omega)
  change m_be g p = -6 ∨ (0 ≤ m_be g p ∧ (m_be g p).toInt < _ ∧ _) at hb
  rcases hb with hb | hb
  · rw [hb, if_pos (by decide), if_pos (by decide)]
  · rw [(h (m_be g p) hb.1 (by have := hb.2.1; rw [i_lt]; (simp only [ne_eq, i_lt, i_le, i_eq, i_add, i_sub, i_neg, i_mul, Int32.reduceToInt] at *; omega))).1]
def m_wf (e b : Int32) : Prop := (e = -6 ∧ b = -6) ∨ ((0 ≤ e ∧ e < 4) ∧ 0 ≤ b ∧ b ≤ 9)
theorem m_be_wf {g : Int32 → Int32} {p : Int32} (hP : m_P g) (p0 : 0 ≤ p) (p1 : p < 8) : m_wf (m_be g p) (m_bp g p) := by
  have hb := m_bs_rg g p 4 (by omega)
  change m_be g p = -6 ∨ (0 ≤ m_be g p ∧ (m_be g p).toInt < _ ∧ _) at hb
  unfold m_bp
  rcases hb with hb | hb
  · rw [hb, if_pos (by decide)]
    exact Or.inl ⟨rfl, rfl⟩
  · have h4 : m_be g p < 4 := by have := hb.2.1; rw [i_lt]; (simp only [ne_eq, i_lt, i_le, i_eq, i_add, i_sub, i_neg, i_mul, Int32.reduceToInt] at *; omega)
    rw [if_neg (Int32.not_lt.mpr hb.1)]
    have hx := b_8 hb.1 h4 p0 p1
    refine Or.inr ⟨⟨hb.1, h4⟩, hb.2.2.1, ?_⟩
    rcases hP _ hx.2.1 hx.2.2 with h | h
    · have : 0 ≤ g (8 * m_be g p + p) := hb.2.2.1
      rw [h] at this
      exact absurd this (by decide)
    · exact h.2
theorem m_rk_inj {e b e' b' : Int32} (h : m_wf e b) (h' : m_wf e' b') : m_rk e b = m_rk e' b' ↔ e = e' ∧ b = b' := by
  unfold m_rk
  rcases h with ⟨rfl, rfl⟩ | ⟨he, hb⟩ <;> rcases h' with ⟨rfl, rfl⟩ | ⟨he', hb'⟩
  · simp
  · rw [if_pos (by decide), if_neg (by (simp only [ne_eq, i_lt, i_le, i_eq, i_add, i_sub, i_neg, i_mul, Int32.reduceToInt] at *; omega))]
    (simp only [ne_eq, i_lt, i_le, i_eq, i_add, i_sub, i_neg, i_mul, Int32.reduceToInt] at *; omega)
  · rw [if_neg (by (simp only [ne_eq, i_lt, i_le, i_eq, i_add, i_sub, i_neg, i_mul, Int32.reduceToInt] at *; omega)), if_pos (by decide)]
    (simp only [ne_eq, i_lt, i_le, i_eq, i_add, i_sub, i_neg, i_mul, Int32.reduceToInt] at *; omega)
  · rw [if_neg (by (simp only [ne_eq, i_lt, i_le, i_eq, i_add, i_sub, i_neg, i_mul, Int32.reduceToInt] at *; omega)), if_neg (by (simp only [ne_eq, i_lt, i_le, i_eq, i_add, i_sub, i_neg, i_mul, Int32.reduceToInt] at *; omega))]
    (simp only [ne_eq, i_lt, i_le, i_eq, i_add, i_sub, i_neg, i_mul, Int32.reduceToInt] at *; omega)
end
section
theorem b_succ {k : Nat} (h : k < 4) : nI k + 1 = nI (k + 1) := by
  rw [i_eq, i_add, nI_toInt (by omega), nI_toInt (by omega)]
  (simp only [ne_eq, i_lt, i_le, i_eq, i_add, i_sub, i_neg, i_mul, Int32.reduceToInt] at *; omega)
theorem b_nI {k : Nat} (h : k < 4) : 0 ≤ nI k ∧ nI k < 4 ∧ ¬ 4 ≤ nI k := by
  refine ⟨?_, ?_, ?_⟩
  · rw [i_le, nI_toInt (by omega)]; (simp only [ne_eq, i_lt, i_le, i_eq, i_add, i_sub, i_neg, i_mul, Int32.reduceToInt] at *; omega)
  · rw [i_lt, nI_toInt (by omega)]; (simp only [ne_eq, i_lt, i_le, i_eq, i_add, i_sub, i_neg, i_mul, Int32.reduceToInt] at *; omega)
  · rw [i_le, nI_toInt (by omega)]; (simp only [ne_eq, i_lt, i_le, i_eq, i_add, i_sub, i_neg, i_mul, Int32.reduceToInt] at *; omega)
theorem m_bs_yes {g : Int32 → Int32} {p : Int32} {n : Nat} (c : m_may g (nI n) p ∧ (m_bs g p n < 0 ∨ g (8 * nI n + p) < g (8 * m_bs g p n + p))) : m_bs g p (n + 1) = nI n := by
  rw [m_bs, if_pos c]
theorem m_bs_no {g : Int32 → Int32} {p : Int32} {n : Nat} (c : ¬ (m_may g (nI n) p ∧ (m_bs g p n < 0 ∨ g (8 * nI n + p) < g (8 * m_bs g p n + p)))) : m_bs g p (n + 1) = m_bs g p n := by
  rw [m_bs, if_neg c]
theorem m_lb13 {fu : Nat} {S : fd_S} {g : Int32 → Int32} {p : Int32} (hfu : 10000 ≤ fu) (h64 : 0 ≤ g 64 ∧ g 64 ≤ 6) (hG : m_GR g) (p0 : 0 ≤ p) (p1 : p < 8) : ∀ (n k : Nat), k ≤ 4 → 4 - k < n → zM_lookAtBest_13 fu n (fd_sg S g) p (m_bs g p k) (nI k) = some (m_be g p) := by
  intro n
  induction n with
  | zero => intro k _ h; omega
  | succ n ih =>
    intro k hk hn
    rw [zM_lookAtBest_13]
    by_cases ck : k = 4
    · subst ck
      rw [if_pos (by decide)]
      rfl
    have hq := b_nI (k := k) (by omega)
    have hy := b_8 hq.1 hq.2.1 p0 p1
    have hyi : 0 ≤ 8 * nI k + p ∧ 8 * nI k + p < 275 := ⟨hy.2.1, Int32.lt_trans hy.2.2 (by decide)⟩
    obtain ⟨r, er, hix⟩ := zM_recordOf_eq (S := S) (g := g) hfu h64 (8 * nI k + p)
    have hhd := m_ix_hd hG hix
    have next := ih (k + 1) (by omega) (by omega)
    simp only [fd_lt, sg_78, Int32.zero_add]
    rw [if_neg hq.2.2, er, Option.bind_some, if_pos hyi, b_succ (by omega)]
    have go : ¬ g (8 * nI k + p) < 0 → ¬ m_hd g (8 * nI k + p) → (if m_bs g p k < 0 then zM_lookAtBest_13 fu n (fd_sg S g) p (nI k) (nI (k + 1)) else if 0 ≤ 8 * nI k + p ∧ 8 * nI k + p < 275 then if 0 ≤ 8 * m_bs g p k + p ∧ 8 * m_bs g p k + p < 275 then if g (8 * m_bs g p k + p) ≤ g (8 * nI k + p) then zM_lookAtBest_13 fu n (fd_sg S g) p (m_bs g p k) (nI (k + 1)) else zM_lookAtBest_13 fu n (fd_sg S g) p (nI k) (nI (k + 1)) else none else none) = some (m_be g p) := by
      intro a1 a2
      have may : m_may g (nI k) p := ⟨Int32.not_lt.mp a1, a2⟩
      by_cases c : m_bs g p k < 0
      · rw [if_pos c, ← m_bs_yes ⟨may, Or.inl c⟩, next]
      · rw [if_neg c, if_pos hyi]
        rcases m_bs_rg g p k (by omega) with hb | hb
        · rw [hb] at c
          exact absurd (by decide) c
        · have h4 : m_bs g p k < 4 := by have := hb.2.1; clear ih hG hix next; rw [i_lt]; (simp only [ne_eq, i_lt, i_le, i_eq, i_add, i_sub, i_neg, i_mul, Int32.reduceToInt] at *; omega)
          have hx := b_8 hb.1 h4 p0 p1
          rw [if_pos ⟨hx.2.1, Int32.lt_trans hx.2.2 (by decide)⟩]
          by_cases c2 : g (8 * m_bs g p k + p) ≤ g (8 * nI k + p)
          · rw [if_pos c2, ← m_bs_no (n := k) (by rintro ⟨-, z | z⟩; exact c z; exact absurd c2 (Int32.not_le.mpr z)), next]
          · rw [if_neg c2, ← m_bs_yes ⟨may, Or.inr (Int32.not_le.mp c2)⟩, next]
    by_cases c1 : g (8 * nI k + p) < 0
    · rw [if_pos c1, if_pos True.intro, ← m_bs_no (n := k) (by rintro ⟨z, -⟩; exact absurd c1 (Int32.not_lt.mpr z.1)), next]
    · rw [if_neg c1]
      by_cases c2 : r < 0
      · rw [if_pos c2, if_neg (show ¬ (1 : Int32) = 0 by decide)]
        exact go c1 (fun z => absurd c2 (Int32.not_lt.mpr (hhd.mp z).1))
      · have hr : 0 ≤ r ∧ r < g 64 := by
          rcases hix with ⟨e, -⟩ | h
          · exact absurd (by rw [e]; decide) c2
          · exact ⟨h.1, h.2.1⟩
        have r6 : r < 6 := by clear hhd hix hG ih next go; (simp only [ne_eq, i_lt, i_le, i_eq, i_add, i_sub, i_neg, i_mul, Int32.reduceToInt] at *; omega)
        rw [if_neg c2, zM_isHeld_eq hr.1 r6, Option.bind_some]
        by_cases c3 : g (zM_at r 3) = 1
        · rw [if_pos c3, if_neg (show ¬ (1 : Int32) = 0 by decide), if_pos True.intro, ← m_bs_no (n := k) (by rintro ⟨z, -⟩; exact z.2 (hhd.mpr ⟨hr.1, c3⟩)), next]
        · rw [if_neg c3, if_pos rfl, if_neg (show ¬ (1 : Int32) = 0 by decide)]
          exact go c1 (fun z => c3 (hhd.mp z).2)
theorem m_rk_lt {b b' q e : Int32} (hq : 0 ≤ q ∧ q < 4) (he : 0 ≤ e ∧ e.toInt < q.toInt) (hb : 0 ≤ b ∧ b ≤ 9) (hb' : 0 ≤ b' ∧ b' ≤ 9) : b * 4 + e ≤ b' * 4 + q ↔ b ≤ b' := by
  have a : (b * 4).toInt = b.toInt * 4 := by (simp only [ne_eq, i_lt, i_le, i_eq, i_add, i_sub, i_neg, i_mul, Int32.reduceToInt] at *; omega)
  have a' : (b' * 4).toInt = b'.toInt * 4 := by (simp only [ne_eq, i_lt, i_le, i_eq, i_add, i_sub, i_neg, i_mul, Int32.reduceToInt] at *; omega)
  rw [i_le, i_le, i_add, i_add, a, a']
  (simp only [ne_eq, i_lt, i_le, i_eq, i_add, i_sub, i_neg, i_mul, Int32.reduceToInt] at *; omega)
theorem m_rk_fr {b q : Int32} (hq : 0 ≤ q ∧ q < 4) (hb : 0 ≤ b ∧ b ≤ 9) : ¬ b * 4 + q = -6 := by
  have a : (b * 4).toInt = b.toInt * 4 := by (simp only [ne_eq, i_lt, i_le, i_eq, i_add, i_sub, i_neg, i_mul, Int32.reduceToInt] at *; omega)
  rw [i_eq, i_add, a]
  (simp only [ne_eq, i_lt, i_le, i_eq, i_add, i_sub, i_neg, i_mul, Int32.reduceToInt] at *; omega)
theorem zS_isHeld_eq {fu : Nat} {S : fd_S} {g : Int32 → Int32} {r x : Int32} (hR : m_R S g) (hG : m_GR g) (hr : m_ix g r x (g 64)) : ∃ v, zS_isHeld S (m_fd S r) = some v ∧ (v = 0 ↔ ¬ m_hd g x) ∧ (v = 0 ∨ v = 1) := by
  have hhd := m_ix_hd hG hr
  unfold zS_isHeld m_fd fd_on
  rcases hr with ⟨e, -⟩ | ⟨r0, r1, -⟩
  · subst e
    rw [if_pos (by decide)]
    exact ⟨0, rfl, ⟨fun _ z => absurd (hhd.mp z).1 (by decide), fun _ => rfl⟩, Or.inl rfl⟩
  · have h64 := hR.2.2.1
    have r6 : r < 6 := by clear hR hG hhd; (simp only [ne_eq, i_lt, i_le, i_eq, i_add, i_sub, i_neg, i_mul, Int32.reduceToInt] at *; omega)
    have hv := (hR.2.2.2.1 r r0 r1).2.2.2.1
    have hg := (hG.1 r r0 r1).2.2.2.1
    unfold m_cV at hv
    rw [if_neg (Int32.not_lt.mpr r0)]
    dsimp only
    rw [if_pos (hR.1.rk r0 r6), hv]
    by_cases c : g (zM_at r 3) = 0
    · rw [if_pos c]
      refine ⟨0, rfl, ⟨fun _ z => ?_, fun _ => rfl⟩, Or.inl rfl⟩
      have := (hhd.mp z).2
      rw [c] at this
      exact absurd this (by decide)
    · rw [if_neg c]
      refine ⟨1, rfl, ⟨fun z => absurd z (by decide), fun z => absurd (hhd.mpr ⟨r0, ?_⟩) z⟩, Or.inr rfl⟩
      rcases hg with h | h
      · exact absurd h c
      · exact h
noncomputable def m_rkn (g : Int32 → Int32) (p : Int32) (k : Nat) : Int32 := if m_bs g p k < 0 then -6 else g (8 * m_bs g p k + p) * 4 + m_bs g p k
theorem m_fb5 {fu : Nat} {S : fd_S} {g : Int32 → Int32} {p : Int32} (hfu : 10000 ≤ fu) (hR : m_R S g) (hG : m_GR g) (hP : m_P g) (hQ : m_Q S g) (p0 : 0 ≤ p) (p1 : p < 8) : ∀ (n k : Nat), k ≤ 4 → 4 - k < n → zS_findBest_5 fu n S p (m_rkn g p k) (nI k) = some (m_rk (m_be g p) (m_bp g p)) := by
  intro n
  induction n with
  | zero => intro k _ h; omega
  | succ n ih =>
    intro k hk hn
    rw [zS_findBest_5]
    by_cases ck : k = 4
    · subst ck
      rw [if_pos (by decide)]
      unfold m_rkn m_rk m_bp
      change some (if m_be g p < 0 then -6 else g (8 * m_be g p + p) * 4 + m_be g p) = _
      split <;> rfl
    have hq := b_nI (k := k) (by omega)
    have hy := b_8 hq.1 hq.2.1 p0 p1
    have ey : zF_routeOf (nI k) p = 8 * nI k + p := by unfold zF_routeOf; rw [Int32.mul_comm]
    obtain ⟨r, er, hix⟩ := zM_recordOf_eq (S := S) (g := g) hfu hR.2.2.1 (8 * nI k + p)
    obtain ⟨v, ev, hv, hv2⟩ := zS_isHeld_eq (fu := fu) hR hG hix
    have ef := zQ_find_eq hfu hR hG hix
    have next := ih (k + 1) (by omega) (by omega)
    simp only [fd_lt, ey]
    rw [if_neg hq.2.2, if_pos hy.2, hQ _ hy.2.1 hy.2.2, b_succ (by omega)]
    have no : (¬ (m_may g (nI k) p ∧ (m_bs g p k < 0 ∨ g (8 * nI k + p) < g (8 * m_bs g p k + p)))) → zS_findBest_5 fu n S p (m_rkn g p k) (nI (k + 1)) = some (m_rk (m_be g p) (m_bp g p)) := by
      intro c
      rw [← next]
      unfold m_rkn
      rw [m_bs_no c]
    have yes : (m_may g (nI k) p ∧ (m_bs g p k < 0 ∨ g (8 * nI k + p) < g (8 * m_bs g p k + p))) → zS_findBest_5 fu n S p (g (8 * nI k + p) * 4 + nI k) (nI (k + 1)) = some (m_rk (m_be g p) (m_bp g p)) := by
      intro c
      rw [← next]
      unfold m_rkn
      rw [m_bs_yes c, if_neg (Int32.not_lt.mpr hq.1)]
    by_cases c1 : g (8 * nI k + p) = -6
    · rw [if_pos c1]
      exact no (fun z => absurd z.1.1 (by rw [c1]; decide))
    · rw [if_neg c1, ef, Option.bind_some, ev, Option.bind_some]
      have hb9 : 0 ≤ g (8 * nI k + p) ∧ g (8 * nI k + p) ≤ 9 := by
        rcases hP _ hy.2.1 hy.2.2 with h | h
        · exact absurd h c1
        · exact h
      have tail : (m_bs g p k < 0 ∨ g (8 * nI k + p) < g (8 * m_bs g p k + p)) → (if v = 0 then zS_findBest_5 fu n S p (g (8 * nI k + p) * 4 + nI k) (nI (k + 1)) else zS_findBest_5 fu n S p (m_rkn g p k) (nI (k + 1))) = some (m_rk (m_be g p) (m_bp g p)) := by
        intro h
        by_cases c : v = 0
        · rw [if_pos c]
          exact yes ⟨⟨hb9.1, hv.mp c⟩, h⟩
        · rw [if_neg c]
          exact no (fun z => c (hv.mpr z.1.2))
      by_cases c2 : m_bs g p k < 0
      · have e6 : m_rkn g p k = -6 := by unfold m_rkn; rw [if_pos c2]
        rw [if_pos e6]
        exact tail (Or.inl c2)
      · have e6 : m_rkn g p k = g (8 * m_bs g p k + p) * 4 + m_bs g p k := by unfold m_rkn; rw [if_neg c2]
        rcases m_bs_rg g p k (by omega) with hb | hb
        · rw [hb] at c2
          exact absurd (by decide) c2
        have h4 : m_bs g p k < 4 := by have := hb.2.1; clear ih hG hix next no yes tail; rw [i_lt]; (simp only [ne_eq, i_lt, i_le, i_eq, i_add, i_sub, i_neg, i_mul, Int32.reduceToInt] at *; omega)
        have hx := b_8 hb.1 h4 p0 p1
        have hf9 : 0 ≤ g (8 * m_bs g p k + p) ∧ g (8 * m_bs g p k + p) ≤ 9 := by
          rcases hP _ hx.2.1 hx.2.2 with h | h
          · exact absurd hb.2.2.1 (by rw [h]; decide)
          · exact h
        have hlt : 0 ≤ m_bs g p k ∧ (m_bs g p k).toInt < (nI k).toInt := ⟨hb.1, by rw [nI_toInt (by omega)]; exact hb.2.1⟩
        rw [if_neg (show ¬ m_rkn g p k = -6 by rw [e6]; exact m_rk_fr ⟨hb.1, h4⟩ hf9)]
        by_cases c3 : g (8 * m_bs g p k + p) ≤ g (8 * nI k + p)
        · rw [if_pos (show m_rkn g p k ≤ g (8 * nI k + p) * 4 + nI k by rw [e6]; exact (m_rk_lt ⟨hq.1, hq.2.1⟩ hlt hf9 hb9).mpr c3)]
          exact no (by rintro ⟨-, z | z⟩; exact c2 z; exact absurd c3 (Int32.not_le.mpr z))
        · rw [if_neg (show ¬ m_rkn g p k ≤ g (8 * nI k + p) * 4 + nI k by rw [e6]; exact fun z => c3 ((m_rk_lt ⟨hq.1, hq.2.1⟩ hlt hf9 hb9).mp z))]
          exact tail (Or.inr (Int32.not_le.mp c3))
theorem m_findBest {fu : Nat} {S : fd_S} {g : Int32 → Int32} {p : Int32} (hfu : 10000 ≤ fu) (hR : m_R S g) (hG : m_GR g) (hP : m_P g) (hQ : m_Q S g) (p0 : 0 ≤ p) (p1 : p < 8) : zS_findBest fu S p = some (m_rk (m_be g p) (m_bp g p)) := m_fb5 hfu hR hG hP hQ p0 p1 fu 0 (by omega) (by omega)
end
section
/-! ===== the bests are looked at ===== -/
theorem b_30in {p : Int32} (p0 : 0 ≤ p) (p1 : p < 8) : 0 ≤ 39 + 3 * p ∧ 39 + 3 * p < 275 := by
  have := b_3in p0 p1 (show (0 : Int32) ≤ 0 by decide) (by decide)
  rwa [Int32.add_zero] at this
def m_up1 (g g' : Int32 → Int32) (p e b : Int32) : Prop := g' (39 + 3 * p + 0) = e ∧ g' (39 + 3 * p + 1) = b ∧ g' (39 + 3 * p + 2) = if e = g (39 + 3 * p + 0) ∧ b = g (39 + 3 * p + 1) then g (39 + 3 * p + 2) else g (39 + 3 * p + 2) + 1
def m_no1 (g g' : Int32 → Int32) (p : Int32) : Prop := g' (39 + 3 * p + 0) = g (39 + 3 * p + 0) ∧ g' (39 + 3 * p + 1) = g (39 + 3 * p + 1) ∧ g' (39 + 3 * p + 2) = g (39 + 3 * p + 2)
theorem m_lb1 {g g1 : Int32 → Int32} {p e b : Int32} (p0 : 0 ≤ p) (p1 : p < 8) (hg : g1 = if e = g (39 + 3 * p) ∧ b = g (39 + 3 * p + 1) then g else m_gu (m_gu (m_gu g (39 + 3 * p) e) (39 + 3 * p + 1) b) (39 + 3 * p + 2) (g (39 + 3 * p + 2) + 1)) :
    (∀ j : Int32, j < 39 ∨ 63 ≤ j → g1 j = g j) ∧ m_up1 g g1 p e b ∧ ∀ p' : Int32, 0 ≤ p' → p' < 8 → p' ≠ p → m_no1 g g1 p' := by
  have a0 := b_3 p0 p1 (show (0 : Int32) ≤ 0 by decide) (by decide)
  have a1 := b_3 p0 p1 (show (0 : Int32) ≤ 1 by decide) (by decide)
  have a2 := b_3 p0 p1 (show (0 : Int32) ≤ 2 by decide) (by decide)
  unfold m_up1 m_no1
  rw [Int32.add_zero] at a0
  by_cases c : e = g (39 + 3 * p) ∧ b = g (39 + 3 * p + 1)
  · rw [if_pos c] at hg
    subst hg
    rw [Int32.add_zero]
    exact ⟨fun _ _ => rfl, ⟨c.1.symm, c.2.symm, by rw [if_pos c]⟩, fun _ _ _ _ => ⟨rfl, rfl, rfl⟩⟩
  · rw [if_neg c] at hg
    have at_ : ∀ j, g1 j = if j = 39 + 3 * p + 2 then g (39 + 3 * p + 2) + 1 else if j = 39 + 3 * p + 1 then b else if j = 39 + 3 * p then e else g j := by
      intro j
      rw [hg]
      rfl
    refine ⟨fun j hj => ?_, ⟨?_, ?_, ?_⟩, fun p' q0 q1 hp => ?_⟩
    · rw [at_, if_neg (by clear at_ hg c; (simp only [ne_eq, i_lt, i_le, i_eq, i_add, i_sub, i_neg, i_mul, Int32.reduceToInt] at *; omega)), if_neg (by clear at_ hg c; (simp only [ne_eq, i_lt, i_le, i_eq, i_add, i_sub, i_neg, i_mul, Int32.reduceToInt] at *; omega)), if_neg (by clear at_ hg c; (simp only [ne_eq, i_lt, i_le, i_eq, i_add, i_sub, i_neg, i_mul, Int32.reduceToInt] at *; omega))]
    · rw [Int32.add_zero, at_, if_neg, if_neg, if_pos rfl]
      · rw [i_eq, a0.1, a1.1]; clear at_ hg c a0 a1 a2; (simp only [ne_eq, i_lt, i_le, i_eq, i_add, i_sub, i_neg, i_mul, Int32.reduceToInt] at *; omega)
      · rw [i_eq, a0.1, a2.1]; clear at_ hg c a0 a1 a2; (simp only [ne_eq, i_lt, i_le, i_eq, i_add, i_sub, i_neg, i_mul, Int32.reduceToInt] at *; omega)
    · rw [at_, if_neg, if_pos rfl]
      · rw [i_eq, a1.1, a2.1]; clear at_ hg c a0 a1 a2; (simp only [ne_eq, i_lt, i_le, i_eq, i_add, i_sub, i_neg, i_mul, Int32.reduceToInt] at *; omega)
    · rw [at_, if_pos rfl, Int32.add_zero, if_neg c]
    · have key : ∀ c : Int32, 0 ≤ c → c < 3 → g1 (39 + 3 * p' + c) = g (39 + 3 * p' + c) := by
        intro c c0 c1
        have ne : ∀ d : Int32, 0 ≤ d → d < 3 → ¬ 39 + 3 * p' + c = 39 + 3 * p + d := fun d d0 d1 z => hp ((b_3inj q0 q1 c0 c1 p0 p1 d0 d1).mp z).1
        rw [at_, if_neg (ne 2 (by decide) (by decide)), if_neg (ne 1 (by decide) (by decide)), if_neg (by have := ne 0 (by decide) (by decide); rwa [Int32.add_zero (39 + 3 * p)] at this)]
      exact ⟨key 0 (by decide) (by decide), key 1 (by decide) (by decide), key 2 (by decide) (by decide)⟩
theorem m_be_lo {g g1 : Int32 → Int32} {p : Int32} (h64 : g 64 ≤ 6) (p0 : 0 ≤ p) (p1 : p < 8) (h : ∀ j : Int32, j < 39 ∨ 63 ≤ j → g1 j = g j) : m_be g1 p = m_be g p ∧ m_bp g1 p = m_bp g p := by
  refine m_be_congr (fun q q0 q1 => ?_)
  have hx := b_8 q0 q1 p0 p1
  exact ⟨h _ (Or.inl (Int32.lt_trans hx.2.2 (by decide))), m_hd_lo h64 (h _ (by decide)) (fun j j0 _ => h j (Or.inr (Int32.le_trans (by decide) j0))) _⟩
theorem m_lb2 {fu : Nat} {S : fd_S} {g : Int32 → Int32} (hfu : 10000 ≤ fu) (h64 : 0 ≤ g 64 ∧ g 64 ≤ 6) (hG : m_GR g) : ∀ (n : Nat) (x : Int32) (g1 : Int32 → Int32), m_ms 8 x < n → 0 ≤ x → x ≤ 8 → (∀ j : Int32, j < 39 ∨ 63 ≤ j → g1 j = g j) → (∀ p : Int32, 0 ≤ p → p < x → m_up1 g g1 p (m_be g p) (m_bp g p)) → (∀ p : Int32, x ≤ p → p < 8 → m_no1 g g1 p) →
    ∃ g', zM_lookAtBest_2 fu n (fd_sg S g1) x = some (fd_sg S g') ∧ (∀ j : Int32, j < 39 ∨ 63 ≤ j → g' j = g j) ∧ ∀ p : Int32, 0 ≤ p → p < 8 → m_up1 g g' p (m_be g p) (m_bp g p) := by
  intro n
  induction n with
  | zero => intro x g1 h; omega
  | succ n ih =>
    intro x g1 hn x0 x8 h1 h2 h3
    rw [zM_lookAtBest_2]
    by_cases c1 : 8 ≤ x
    · rw [if_pos c1]
      exact ⟨g1, rfl, h1, fun p p0 p1 => h2 p p0 (Int32.lt_of_lt_of_le p1 c1)⟩
    have hx : x < 8 ∧ 0 ≤ x + 1 ∧ x + 1 ≤ 8 := by clear h1 h2 h3 ih hG; (simp only [ne_eq, i_lt, i_le, i_eq, i_add, i_sub, i_neg, i_mul, Int32.reduceToInt] at *; omega)
    have e64 : g1 64 = g 64 := h1 _ (by decide)
    have G1 : m_GR g1 := m_GR_congr hG h64.2 e64 (by rw [h1 _ (by decide)]; exact Int32.le_refl _) (fun j j0 _ => h1 j (Or.inr (Int32.le_trans (by decide) j0)))
    have hbe := m_be_lo h64.2 x0 hx.1 h1
    have e13 := m_lb13 (S := S) (g := g1) (p := x) hfu (by rw [e64]; exact h64) G1 x0 hx.1 fu 0 (by omega) (by omega)
    change zM_lookAtBest_13 fu fu (fd_sg S g1) x (-6) 0 = _ at e13
    have i0 := b_30in x0 hx.1
    have i1 := b_3in x0 hx.1 (show (0 : Int32) ≤ 1 by decide) (by decide)
    have i2 := b_3in x0 hx.1 (show (0 : Int32) ≤ 2 by decide) (by decide)
    have a0 := b_3 x0 hx.1 (show (0 : Int32) ≤ 0 by decide) (by decide)
    have a1 := b_3 x0 hx.1 (show (0 : Int32) ≤ 1 by decide) (by decide)
    have a2 := b_3 x0 hx.1 (show (0 : Int32) ≤ 2 by decide) (by decide)
    rw [Int32.add_zero] at a0
    have n20 : ¬ 39 + 3 * x + 2 = 39 + 3 * x + 1 := by rw [i_eq, a1.1, a2.1]; clear ih h1 h2 h3 hG G1 hbe e13 i0 i1 i2 a0 a1 a2; (simp only [ne_eq, i_lt, i_le, i_eq, i_add, i_sub, i_neg, i_mul, Int32.reduceToInt] at *; omega)
    have n21 : ¬ 39 + 3 * x + 2 = 39 + 3 * x := by rw [i_eq, a0.1, a2.1]; clear ih h1 h2 h3 hG G1 hbe e13 i0 i1 i2 a0 a1 a2; (simp only [ne_eq, i_lt, i_le, i_eq, i_add, i_sub, i_neg, i_mul, Int32.reduceToInt] at *; omega)
    have hms := m_ms_up c1
    -- the step
    have step : ∀ (b : Int32) (g2 : Int32 → Int32), b = m_bp g1 x → (g2 = if m_be g1 x = g1 (39 + 3 * x) ∧ b = g1 (39 + 3 * x + 1) then g1 else m_gu (m_gu (m_gu g1 (39 + 3 * x) (m_be g1 x)) (39 + 3 * x + 1) b) (39 + 3 * x + 2) (g1 (39 + 3 * x + 2) + 1)) →
        ∃ g', zM_lookAtBest_2 fu n (fd_sg S g2) (x + 1) = some (fd_sg S g') ∧ (∀ j : Int32, j < 39 ∨ 63 ≤ j → g' j = g j) ∧ ∀ p : Int32, 0 ≤ p → p < 8 → m_up1 g g' p (m_be g p) (m_bp g p) := by
      intro b g2 hb hg2
      obtain ⟨s1, s2, s3⟩ := m_lb1 x0 hx.1 hg2
      have hno := h3 x (Int32.le_refl _) hx.1
      refine ih (x + 1) g2 (by omega) hx.2.1 hx.2.2 (fun j hj => by rw [s1 j hj, h1 j hj]) ?_ ?_
      · intro p p0 p1
        by_cases cp : p = x
        · subst cp
          unfold m_up1 at s2 ⊢
          unfold m_no1 at hno
          rw [hb, hbe.1, hbe.2, hno.1, hno.2.1, hno.2.2] at s2
          exact s2
        · have hpx : p < x := by clear ih h1 h2 h3 hG G1 hbe e13 s1 s2 s3 hno; (simp only [ne_eq, i_lt, i_le, i_eq, i_add, i_sub, i_neg, i_mul, Int32.reduceToInt] at *; omega)
          have u := h2 p p0 hpx
          have v := s3 p p0 (Int32.lt_trans hpx hx.1) cp
          unfold m_up1 at u ⊢
          unfold m_no1 at v
          rw [v.1, v.2.1, v.2.2]
          exact u
      · intro p p0 p1
        have hpx : x ≤ p ∧ p ≠ x ∧ 0 ≤ p := by clear ih h1 h2 h3 hG G1 hbe e13 s1 s2 s3 hno; (simp only [ne_eq, i_lt, i_le, i_eq, i_add, i_sub, i_neg, i_mul, Int32.reduceToInt] at *; omega)
        have u := h3 p hpx.1 p1
        have v := s3 p hpx.2.2 p1 hpx.2.1
        unfold m_no1 at u v ⊢
        rw [v.1, v.2.1, v.2.2]
        exact u
    have k2 : ∀ b : Int32, m_gu (m_gu g1 (39 + 3 * x) (m_be g1 x)) (39 + 3 * x + 1) b (39 + 3 * x + 2) = g1 (39 + 3 * x + 2) := by
      intro b
      unfold m_gu
      rw [if_neg n20, if_neg n21]
    rw [if_neg c1, e13, Option.bind_some]
    simp only [fd_lt, sg_78, sg_up, Int32.zero_add]
    simp only [if_pos i0, if_pos i1, if_pos i2, k2]
    by_cases ce : m_be g1 x < 0
    · rw [if_neg (Int32.not_le.mpr ce)]
      have ebp : (-6 : Int32) = m_bp g1 x := by unfold m_bp; rw [if_pos ce]
      have st := step (-6) _ ebp rfl
      by_cases d1 : m_be g1 x = g1 (39 + 3 * x)
      · by_cases d2 : -6 = g1 (39 + 3 * x + 1)
        · rw [if_pos ⟨d1, d2⟩] at st
          rw [if_pos d1, if_pos d2]
          exact st
        · rw [if_neg (fun z => d2 z.2)] at st
          rw [if_pos d1, if_neg d2]
          exact st
      · rw [if_neg (fun z => d1 z.1)] at st
        rw [if_neg d1]
        exact st
    · have hb := m_bs_rg g1 x 4 (by omega)
      change m_be g1 x = -6 ∨ (0 ≤ m_be g1 x ∧ (m_be g1 x).toInt < _ ∧ _) at hb
      have hb2 : 0 ≤ m_be g1 x ∧ m_be g1 x < 4 := by
        rcases hb with hb | hb
        · exact absurd (by rw [hb]; decide) ce
        · exact ⟨hb.1, by have := hb.2.1; clear ih h1 h2 h3 hG G1 hbe e13 step hb; rw [i_lt]; (simp only [ne_eq, i_lt, i_le, i_eq, i_add, i_sub, i_neg, i_mul, Int32.reduceToInt] at *; omega)⟩
      have h8 := b_8 hb2.1 hb2.2 x0 hx.1
      rw [if_pos hb2.1, if_pos ⟨h8.2.1, Int32.lt_trans h8.2.2 (by decide)⟩]
      have ebp : g1 (8 * m_be g1 x + x) = m_bp g1 x := by unfold m_bp; rw [if_neg ce]
      have st := step (g1 (8 * m_be g1 x + x)) _ ebp rfl
      by_cases d1 : m_be g1 x = g1 (39 + 3 * x)
      · by_cases d2 : g1 (8 * m_be g1 x + x) = g1 (39 + 3 * x + 1)
        · rw [if_pos ⟨d1, d2⟩] at st
          rw [if_pos d1, if_pos d2]
          exact st
        · rw [if_neg (fun z => d2 z.2)] at st
          rw [if_pos d1, if_neg d2]
          exact st
      · rw [if_neg (fun z => d1 z.1)] at st
        rw [if_neg d1]
        exact st
theorem m_lookAtBest {fu : Nat} {S : fd_S} {g : Int32 → Int32} (hfu : 10000 ≤ fu) (h64 : 0 ≤ g 64 ∧ g 64 ≤ 6) (hG : m_GR g) : ∃ g', zM_lookAtBest fu (fd_sg S g) = some (fd_sg S g') ∧ (∀ j : Int32, j < 39 ∨ 63 ≤ j → g' j = g j) ∧ ∀ p : Int32, 0 ≤ p → p < 8 → m_up1 g g' p (m_be g p) (m_bp g p) :=
  m_lb2 hfu h64 hG fu 0 g (m_ms_fu (by decide) (by decide) hfu) (by decide) (by decide) (fun _ _ => rfl) (fun p p0 p1 => absurd p1 (Int32.not_lt.mpr p0)) (fun _ _ _ => ⟨rfl, rfl, rfl⟩)
theorem m_refresh {fu : Nat} {S : fd_S} {g : Int32 → Int32} {p : Int32} (hfu : 10000 ≤ fu) (hR : m_R S g) (hG : m_GR g) (hP : m_P g) (hQ : m_Q S g) (p0 : 0 ≤ p) (p1 : p < 8) :
    ∃ S1, zS_refreshBest fu S p = some S1 ∧ (∀ k : Nat, k ≠ 21 → k ≠ 22 → S1 k = S k) ∧ (∀ p' : Int32, p' ≠ p → S1 21 p' = S 21 p' ∧ S1 22 p' = S 22 p') ∧ S1 21 p = m_rk (m_be g p) (m_bp g p) ∧ S1 22 p = if m_rk (m_be g p) (m_bp g p) = S 21 p then S 22 p else S 22 p + 1 := by
  unfold zS_refreshBest
  simp only [fd_lt]
  rw [m_findBest hfu hR hG hP hQ p0 p1, Option.bind_some, if_pos ⟨p0, p1⟩]
  by_cases c : m_rk (m_be g p) (m_bp g p) = S 21 p
  · rw [if_pos c]
    exact ⟨S, rfl, fun _ _ _ => rfl, fun _ _ => ⟨rfl, rfl⟩, c.symm, by rw [if_pos c]⟩
  · rw [if_neg c, if_pos ⟨p0, p1⟩, if_pos ⟨p0, p1⟩, if_pos ⟨p0, p1⟩]
    refine ⟨_, rfl, fun k h1 h2 => ?_, fun p' hp => ⟨?_, ?_⟩, ?_, ?_⟩
    · rw [fd_up_ne h2, fd_up_ne h1]
    · rw [fd_up_ne (by decide), fd_up_at, if_neg hp]
    · rw [fd_up_at, if_neg hp, fd_up_ne (by decide)]
    · rw [fd_up_ne (by decide), fd_up_at, if_pos rfl]
    · rw [fd_up_at, if_pos rfl, fd_up_ne (by decide), if_neg c]
/-- bests of the component and of the reference -/
def m_T1 (S : fd_S) (g : Int32 → Int32) (p : Int32) : Prop := S 21 p = m_rk (g (39 + 3 * p + 0)) (g (39 + 3 * p + 1)) ∧ S 22 p = g (39 + 3 * p + 2) ∧ m_wf (g (39 + 3 * p + 0)) (g (39 + 3 * p + 1))
def m_T (S : fd_S) (g : Int32 → Int32) : Prop := ∀ p : Int32, 0 ≤ p → p < 8 → m_T1 S g p
/-- the bests are what they should be -/
def m_Ok (g : Int32 → Int32) : Prop := ∀ p : Int32, 0 ≤ p → p < 8 → g (39 + 3 * p + 0) = m_be g p ∧ g (39 + 3 * p + 1) = m_bp g p
theorem m_T1_up {S S1 : fd_S} {g g' : Int32 → Int32} {p : Int32} (hP : m_P g) (p0 : 0 ≤ p) (p1 : p < 8) (hT : m_T1 S g p) (hu : m_up1 g g' p (m_be g p) (m_bp g p)) (h1 : S1 21 p = m_rk (m_be g p) (m_bp g p)) (h2 : S1 22 p = if m_rk (m_be g p) (m_bp g p) = S 21 p then S 22 p else S 22 p + 1) : m_T1 S1 g' p := by
  have hw := m_be_wf hP p0 p1
  unfold m_T1 at hT ⊢
  unfold m_up1 at hu
  refine ⟨by rw [h1, hu.1, hu.2.1], ?_, by rw [hu.1, hu.2.1]; exact hw⟩
  rw [h2, hu.2.2, hT.1, hT.2.1]
  by_cases c : m_be g p = g (39 + 3 * p + 0) ∧ m_bp g p = g (39 + 3 * p + 1)
  · rw [if_pos c, if_pos ((m_rk_inj hw hT.2.2).mpr c)]
  · rw [if_neg c, if_neg (fun z => c ((m_rk_inj hw hT.2.2).mp z))]
theorem m_T1_same {S S1 : fd_S} {g g' : Int32 → Int32} {p : Int32} (hT : m_T1 S g p) (hu : m_up1 g g' p (m_be g p) (m_bp g p)) (ho : g (39 + 3 * p + 0) = m_be g p ∧ g (39 + 3 * p + 1) = m_bp g p) (h1 : S1 21 p = S 21 p) (h2 : S1 22 p = S 22 p) : m_T1 S1 g' p := by
  unfold m_T1 at hT ⊢
  unfold m_up1 at hu
  rw [if_pos ⟨ho.1.symm, ho.2.symm⟩] at hu
  rw [h1, h2, hu.1, hu.2.1, hu.2.2, ← ho.1, ← ho.2]
  exact hT
theorem m_Ok_up {g g' : Int32 → Int32} (h64 : g 64 ≤ 6) (h : ∀ j : Int32, j < 39 ∨ 63 ≤ j → g' j = g j) (hu : ∀ p : Int32, 0 ≤ p → p < 8 → m_up1 g g' p (m_be g p) (m_bp g p)) : m_Ok g' := by
  intro p p0 p1
  have e := m_be_lo h64 p0 p1 h
  have u := hu p p0 p1
  exact ⟨by rw [u.1, e.1], by rw [u.2.1, e.2]⟩
end
section
/-! ===== an event ===== -/
theorem b_rem : ∀ a : Nat, a < 4 → ∀ b : Nat, b < 8 → fd_rem (8 * nI a + nI b) 8 = nI b := by decide
theorem b_rem8 {a b : Int32} (a0 : 0 ≤ a) (a1 : a < 4) (b0 : 0 ≤ b) (b1 : b < 8) : fd_rem (8 * a + b) 8 = b := by
  obtain ⟨i, hi, rfl⟩ := m_nat (x := a) (M := 3) a0 (show a ≤ (3 : Int32) by (simp only [ne_eq, i_lt, i_le, i_eq, i_add, i_sub, i_neg, i_mul, Int32.reduceToInt] at *; omega)) (by decide)
  obtain ⟨j, hj, rfl⟩ := m_nat (x := b) (M := 7) b0 (show b ≤ (7 : Int32) by (simp only [ne_eq, i_lt, i_le, i_eq, i_add, i_sub, i_neg, i_mul, Int32.reduceToInt] at *; omega)) (by decide)
  exact b_rem i (by omega) j (by omega)
/-- a state of the component and one of the reference -/
abbrev m_St (S : fd_S) (g : Int32 → Int32) : Prop := m_R S g ∧ m_B S g ∧ m_L S g ∧ m_Q S g ∧ m_T S g ∧ S 0 6 = g 63 ∧ S 0 7 = g 65 ∧ S 0 8 = g 66 ∧ S 0 9 = g 67 ∧ S 0 10 = g 69 ∧ S 3 2 = g 68
theorem m_St.R {S : fd_S} {g : Int32 → Int32} (h : m_St S g) : m_R S g := h.1
theorem m_St.B {S : fd_S} {g : Int32 → Int32} (h : m_St S g) : m_B S g := h.2.1
theorem m_St.L {S : fd_S} {g : Int32 → Int32} (h : m_St S g) : m_L S g := h.2.2.1
theorem m_St.Q {S : fd_S} {g : Int32 → Int32} (h : m_St S g) : m_Q S g := h.2.2.2.1
theorem m_St.T {S : fd_S} {g : Int32 → Int32} (h : m_St S g) : m_T S g := h.2.2.2.2.1
theorem m_St.c6 {S : fd_S} {g : Int32 → Int32} (h : m_St S g) : S 0 6 = g 63 := h.2.2.2.2.2.1
theorem m_St.c7 {S : fd_S} {g : Int32 → Int32} (h : m_St S g) : S 0 7 = g 65 := h.2.2.2.2.2.2.1
theorem m_St.c8 {S : fd_S} {g : Int32 → Int32} (h : m_St S g) : S 0 8 = g 66 := h.2.2.2.2.2.2.2.1
theorem m_St.c9 {S : fd_S} {g : Int32 → Int32} (h : m_St S g) : S 0 9 = g 67 := h.2.2.2.2.2.2.2.2.1
theorem m_St.c10 {S : fd_S} {g : Int32 → Int32} (h : m_St S g) : S 0 10 = g 69 := h.2.2.2.2.2.2.2.2.2.1
theorem m_St.d2 {S : fd_S} {g : Int32 → Int32} (h : m_St S g) : S 3 2 = g 68 := h.2.2.2.2.2.2.2.2.2.2
/-- the reference's own laws -/
abbrev m_Go (g : Int32 → Int32) : Prop := m_GR g ∧ m_GB g ∧ m_P g ∧ m_Ok g ∧ 0 ≤ g 63
theorem m_Go.R {g : Int32 → Int32} (h : m_Go g) : m_GR g := h.1
theorem m_Go.B {g : Int32 → Int32} (h : m_Go g) : m_GB g := h.2.1
theorem m_Go.P {g : Int32 → Int32} (h : m_Go g) : m_P g := h.2.2.1
theorem m_Go.O {g : Int32 → Int32} (h : m_Go g) : m_Ok g := h.2.2.2.1
theorem m_Go.t {g : Int32 → Int32} (h : m_Go g) : 0 ≤ g 63 := h.2.2.2.2
theorem m_Ev_hd {g g2 : Int32 → Int32} {x w e : Int32} (h : m_Ev g g2 x w e) {y : Int32} (hy : y ≠ x) : m_hd g2 y ↔ m_hd g y := by
  rcases h with ⟨-, -, h⟩ | ⟨-, -, h⟩ | ⟨-, -, h⟩ | ⟨r, -, -, -, ⟨-, -, h⟩ | ⟨-, -, h⟩⟩
  · exact h y
  · exact h y
  · exact h y
  · exact h y
  · rw [h y]
    exact ⟨fun z => z.elim id (fun z => absurd z hy), Or.inl⟩
theorem m_happen {fu : Nat} {S S' : fd_S} {g : Int32 → Int32} {a b x path q w : Int32} (hfu : 10000 ≤ fu) (hS : m_St S g) (hg : m_Go g) (hK : m_K S') (ht : g 63 ≤ 500000) (a0 : 0 ≤ a) (a1 : a < 4) (b0 : 0 ≤ b) (b1 : b < 8) (hx : x = 8 * a + b) (hp : path = -6 ∨ (0 ≤ path ∧ path ≤ 9)) (hq : 0 ≤ q) (hw : w = if path = -6 then g 34 else if g x = -6 then 0 else g 35) :
    ∃ e S1 g2, zS_happen fu S x path q = some (e, S1) ∧ ((zM_meet fu (fd_sg S' (m_gc (m_gu g x path) x path)) x w q).bind fun q22 => (fd_pr q22 fun r21 S19 => ((zM_lookAtBest fu S19).bind fun S23 => (some (r21, S23))))) = some (e, fd_sg S' g2) ∧ m_St S1 g2 ∧ m_Go g2 ∧ g2 63 = g 63 ∧ g2 70 = g 70 + 1 ∧ ∀ k : Nat, 23 ≤ k → S1 k = S k := by
  have h64 := hS.R.2.2.1
  have hx32 : 0 ≤ x ∧ x < 32 := by rw [hx]; exact (b_8 a0 a1 b0 b1).2
  have hx2 : x ≠ 70 ∧ x ≠ 64 ∧ x ≠ 63 ∧ x < 131 := by clear hS hg hK hw hx; (simp only [ne_eq, i_lt, i_le, i_eq, i_add, i_sub, i_neg, i_mul, Int32.reduceToInt] at *; omega)
  generalize hg0 : m_gu g x path = g0
  have o0 : ∀ j : Int32, g0 j = if j = x then path else g j := fun j => by rw [← hg0]; rfl
  obtain ⟨hl, hgc⟩ := m_gc_ok (g := g0) (x := x) (path := path)
  generalize hc : m_gc g0 x path = gc at hl hgc ⊢
  have oc : ∀ j : Int32, j < 131 → j ≠ 70 → j ≠ x → gc j = g j := by
    intro j h1 h2 h3
    rw [hgc j h1, if_neg h2, o0, if_neg h3]
  have ocx : gc x = path := by rw [hgc x hx2.2.2.2, if_neg hx2.1, o0, if_pos rfl]
  have oc1 : ∀ j : Int32, 32 ≤ j → j < 131 → j ≠ 70 → gc j = g j := fun j h1 h2 h3 => oc j h2 h3 (by clear hS hg hK hw hx o0 hgc oc; (simp only [ne_eq, i_lt, i_le, i_eq, i_add, i_sub, i_neg, i_mul, Int32.reduceToInt] at *; omega))
  generalize hS5 : fd_up (fd_up S 20 x path) 0 7 (S 0 7 + 1) = S5
  have s5 : ∀ k : Nat, k ≠ 0 → k ≠ 20 → S5 k = S k := fun k h1 h2 => by rw [← hS5, fd_up_ne h1, fd_up_ne h2]
  have s50 : ∀ j : Int32, j ≠ 7 → S5 0 j = S 0 j := fun j hj => by rw [← hS5, fd_up_at, if_neg hj, fd_up_ne (by decide)]
  have s57 : S5 0 7 = S 0 7 + 1 := by rw [← hS5, fd_up_at, if_pos rfl]
  have s520 : ∀ j : Int32, S5 20 j = if j = x then path else S 20 j := fun j => by rw [← hS5, fd_up_ne (by decide), fd_up_at]
  have R5 : m_R S5 gc := m_R_congr hS.R (by rw [s5 3 (by decide) (by decide)]) (s5 4 (by decide) (by decide)) (fun k _ _ => s5 k (by omega) (by omega)) (oc1 _ (by decide) (by decide) (by decide)) (fun j h1 h2 => oc1 j (Int32.le_trans (by decide) h1) h2 (by clear hS hg hK hw hx o0 hgc oc oc1; (simp only [ne_eq, i_lt, i_le, i_eq, i_add, i_sub, i_neg, i_mul, Int32.reduceToInt] at *; omega)))
  have G5 : m_GR gc := m_GR_congr hg.R h64.2 (oc1 _ (by decide) (by decide) (by decide)) (by rw [oc1 _ (by decide) (by decide) (by decide)]; exact Int32.le_refl _) (fun j h1 h2 => oc1 j (Int32.le_trans (by decide) h1) h2 (by clear hS hg hK hw hx o0 hgc oc oc1; (simp only [ne_eq, i_lt, i_le, i_eq, i_add, i_sub, i_neg, i_mul, Int32.reduceToInt] at *; omega)))
  have B5 : m_B S5 gc := m_B_congr hS.B (s5 2 (by decide) (by decide)) (fun j h1 h2 => oc1 j h1 (Int32.lt_trans h2 (by decide)) (by clear hS hg hK hw hx o0 hgc oc oc1; (simp only [ne_eq, i_lt, i_le, i_eq, i_add, i_sub, i_neg, i_mul, Int32.reduceToInt] at *; omega)))
  have GB5 : m_GB gc := m_GB_congr hg.B (fun j h1 h2 => oc1 j h1 (Int32.lt_trans h2 (by decide)) (by clear hS hg hK hw hx o0 hgc oc oc1; (simp only [ne_eq, i_lt, i_le, i_eq, i_add, i_sub, i_neg, i_mul, Int32.reduceToInt] at *; omega)))
  have hw2 : 0 ≤ w ∧ w ≤ 2000 := by
    obtain ⟨-, -, b2, b3, -⟩ := hg.B
    rw [hw]
    repeat' split
    · exact b2
    · exact ⟨by decide, by decide⟩
    · exact b3
  have ew : zS_weigh S (S 20 x) path = w := by
    unfold zS_weigh
    rw [hS.Q x hx32.1 hx32.2, hS.B.e2, hS.B.e3, hw]
  have e63 : gc 63 = g 63 := oc1 _ (by decide) (by decide) (by decide)
  obtain ⟨e, S6, g6, m1, m2, R6, G6, k8, k9, k2, ⟨f6, f7, f10⟩, k65, fS, fg, hE⟩ := m_meet (S' := S') (x := x) (w := w) (q := q) hfu R5 G5 B5 GB5 hK (by rw [s50 _ (by decide), hS.c6, e63]) (by rw [s50 _ (by decide), hS.c8, oc1 _ (by decide) (by decide) (by decide)]) (by rw [s50 _ (by decide), hS.c9, oc1 _ (by decide) (by decide) (by decide)]) (by rw [s5 3 (by decide) (by decide), hS.d2, oc1 _ (by decide) (by decide) (by decide)]) (by rw [e63]; exact ⟨hg.t, ht⟩) hx32 hw2 hq hl
  have L6 : m_L S6 g0 := m_L_congr hS.L (by rw [fS 5 (by omega), s5 5 (by decide) (by decide)]) (by rw [fS 6 (by omega), s5 6 (by decide) (by decide)]) (by rw [fS 7 (by omega), s5 7 (by decide) (by decide)]) (by rw [o0, if_neg (Ne.symm hx2.1)]) (fun j hj => by rw [o0, if_neg (by clear hS hg hK hw hx o0 hgc oc oc1 fg hE R6 G6 R5 G5 B5 GB5; (simp only [ne_eq, i_lt, i_le, i_eq, i_add, i_sub, i_neg, i_mul, Int32.reduceToInt] at *; omega))])
  obtain ⟨S7, w1, w2, w3⟩ := m_writeEvent (path := path) hfu R6 G6 L6 hx32 hp (by rw [fS 20 (by omega), s520, if_pos rfl]) hw2 (by rw [hc, fg _ (by decide)]) (by rw [hc]; exact hE)
  have R7 := m_R_FL R6 w3
  have g6a : ∀ j : Int32, j < 64 → g6 j = if j = x then path else g j := by
    intro j hj
    rw [fg j (Or.inl hj)]
    by_cases cj : j = x
    · rw [if_pos cj, cj, ocx]
    · rw [if_neg cj, oc j (Int32.lt_trans hj (by decide)) (by clear hS hg hK hw hx o0 hgc oc oc1 fg hE R6 G6 R5 G5 B5 GB5; (simp only [ne_eq, i_lt, i_le, i_eq, i_add, i_sub, i_neg, i_mul, Int32.reduceToInt] at *; omega)) cj]
  have P6 : m_P g6 := by
    intro j j0 j1
    rw [g6a j (Int32.lt_trans j1 (by decide))]
    split
    · exact hp
    · exact hg.P j j0 j1
  have s7a : ∀ k : Nat, 20 ≤ k → S7 k = S5 k := fun k hk => by rw [w3 k (by omega) (by omega) (by omega), fS k (by omega)]
  have Q7 : m_Q S7 g6 := by
    intro j j0 j1
    rw [s7a 20 (by omega), s520, g6a j (Int32.lt_trans j1 (by decide)), hS.Q j j0 j1]
  have erem : fd_rem x 8 = b := by rw [hx]; exact b_rem8 a0 a1 b0 b1
  obtain ⟨S8, r1, r2, r3, r4, r5⟩ := m_refresh hfu R7 G6 P6 Q7 b0 b1
  obtain ⟨g7, l1, l2, l3⟩ := m_lookAtBest (S := S') hfu R6.2.2.1 G6
  have g7hi : ∀ j : Int32, 63 ≤ j → g7 j = g6 j := fun j hj => l2 j (Or.inr hj)
  have g7lo : ∀ j : Int32, j < 39 → g7 j = g6 j := fun j hj => l2 j (Or.inl hj)
  have hS7T : ∀ p : Int32, 0 ≤ p → p < 8 → m_T1 S7 g6 p := by
    intro p p0 p1
    have hT := hS.T p p0 p1
    have key : ∀ c : Int32, 0 ≤ c → c < 3 → g6 (39 + 3 * p + c) = g (39 + 3 * p + c) := by
      intro c c0 c1
      have := (b_3 p0 p1 c0 c1).2
      rw [g6a _ (Int32.lt_trans this.2 (by decide)), if_neg (by clear hS hg hK hw hx o0 hgc oc oc1 fg hE R6 G6 R5 G5 B5 GB5; (simp only [ne_eq, i_lt, i_le, i_eq, i_add, i_sub, i_neg, i_mul, Int32.reduceToInt] at *; omega))]
    unfold m_T1 at hT ⊢
    rw [key 0 (by decide) (by decide), key 1 (by decide) (by decide), key 2 (by decide) (by decide), s7a 21 (by omega), s7a 22 (by omega), s5 21 (by decide) (by decide), s5 22 (by decide) (by decide)]
    exact hT
  unfold zS_happen
  simp only [fd_lt]
  rw [if_pos hx32, if_pos hx32, ew, show fd_up S 20 x path 0 7 = S 0 7 by rw [fd_up_ne (by decide)], hS5, m1, m2, Option.bind_some, Option.bind_some]
  unfold fd_pr
  dsimp only
  rw [w1, Option.bind_some, erem, r1, Option.bind_some, l1, Option.bind_some]
  have s8 : ∀ k : Nat, k ≠ 5 → k ≠ 6 → k ≠ 7 → k ≠ 21 → k ≠ 22 → S8 k = S6 k := fun k h1 h2 h3 h4 h5 => by rw [r2 k h4 h5, w3 k h1 h2 h3]
  refine ⟨e, S8, g7, rfl, rfl, ?_, ?_, ?_, ?_, ?_⟩
  · refine ⟨?_, ?_, ?_, ?_, ?_, ?_, ?_, ?_, ?_, ?_, ?_⟩
    · exact m_R_congr R7 (by rw [r2 3 (by decide) (by decide)]) (r2 4 (by decide) (by decide)) (fun k _ _ => r2 k (by omega) (by omega)) (g7hi _ (by decide)) (fun j h1 _ => g7hi j (Int32.le_trans (by decide) h1))
    · refine m_B_congr hS.B (by rw [s8 2 (by decide) (by decide) (by decide) (by decide) (by decide), fS 2 (by omega), s5 2 (by decide) (by decide)]) (fun j h1 h2 => ?_)
      rw [g7lo j h2, g6a j (Int32.lt_trans h2 (by decide)), if_neg (by clear hS hg hK hw hx o0 hgc oc oc1 fg hE R6 G6 R5 G5 B5 GB5 l2 l3 g7hi g7lo; (simp only [ne_eq, i_lt, i_le, i_eq, i_add, i_sub, i_neg, i_mul, Int32.reduceToInt] at *; omega))]
    · exact m_L_congr w2 (r2 5 (by decide) (by decide)) (r2 6 (by decide) (by decide)) (r2 7 (by decide) (by decide)) (g7hi _ (by decide)) (fun j hj => g7hi j (Int32.le_trans (by decide) hj))
    · intro j j0 j1
      rw [r2 20 (by decide) (by decide), Q7 j j0 j1, g7lo j (Int32.lt_trans j1 (by decide))]
    · intro p p0 p1
      by_cases cp : p = b
      · subst cp
        exact m_T1_up P6 p0 p1 (hS7T p p0 p1) (l3 p p0 p1) r4 r5
      · refine m_T1_same (hS7T p p0 p1) (l3 p p0 p1) ?_ (r3 p cp).1 (r3 p cp).2
        have key : ∀ c : Int32, 0 ≤ c → c < 3 → g6 (39 + 3 * p + c) = g (39 + 3 * p + c) := by
          intro c c0 c1
          have := (b_3 p0 p1 c0 c1).2
          rw [g6a _ (Int32.lt_trans this.2 (by decide)), if_neg (by clear hS hg hK hw hx o0 hgc oc oc1 fg hE R6 G6 R5 G5 B5 GB5 l2 l3 g7hi g7lo; (simp only [ne_eq, i_lt, i_le, i_eq, i_add, i_sub, i_neg, i_mul, Int32.reduceToInt] at *; omega))]
        have hbe : m_be g6 p = m_be g p ∧ m_bp g6 p = m_bp g p := by
          refine m_be_congr (fun d d0 d1 => ?_)
          have h8 := b_8 d0 d1 p0 p1
          have hne : 8 * d + p ≠ x := by
            intro z
            apply cp
            have h1 := b_rem8 d0 d1 p0 p1
            rw [z, erem] at h1
            exact h1.symm
          refine ⟨?_, ?_⟩
          · rw [g6a _ (Int32.lt_trans h8.2.2 (by decide)), if_neg hne]
          · rw [m_Ev_hd hE hne]
            exact m_hd_lo h64.2 (oc1 _ (by decide) (by decide) (by decide)) (fun j h1 h2 => oc1 j (Int32.le_trans (by decide) h1) h2 (by clear hS hg hK hw hx o0 hgc oc oc1 fg hE R6 G6 R5 G5 B5 GB5 l2 l3 g7hi g7lo; (simp only [ne_eq, i_lt, i_le, i_eq, i_add, i_sub, i_neg, i_mul, Int32.reduceToInt] at *; omega))) _
        rw [key 0 (by decide) (by decide), key 1 (by decide) (by decide), hbe.1, hbe.2]
        exact hg.O p p0 p1
    · rw [s8 0 (by decide) (by decide) (by decide) (by decide) (by decide), f6, s50 _ (by decide), hS.c6, g7hi _ (by decide), fg _ (by decide), e63]
    · rw [s8 0 (by decide) (by decide) (by decide) (by decide) (by decide), f7, s57, hS.c7, g7hi _ (by decide), k65, oc1 _ (by decide) (by decide) (by decide)]
    · rw [s8 0 (by decide) (by decide) (by decide) (by decide) (by decide), k8, g7hi _ (by decide)]
    · rw [s8 0 (by decide) (by decide) (by decide) (by decide) (by decide), k9, g7hi _ (by decide)]
    · rw [s8 0 (by decide) (by decide) (by decide) (by decide) (by decide), f10, s50 _ (by decide), hS.c10, g7hi _ (by decide), fg _ (by decide), oc1 _ (by decide) (by decide) (by decide)]
    · rw [s8 3 (by decide) (by decide) (by decide) (by decide) (by decide), k2, g7hi _ (by decide)]
  · refine ⟨?_, ?_, ?_, ?_, ?_⟩
    · exact m_GR_congr G6 R6.2.2.1.2 (g7hi _ (by decide)) (by rw [g7hi _ (by decide)]; exact Int32.le_refl _) (fun j h1 _ => g7hi j (Int32.le_trans (by decide) h1))
    · refine m_GB_congr hg.B (fun j h1 h2 => ?_)
      rw [g7lo j h2, g6a j (Int32.lt_trans h2 (by decide)), if_neg (by clear hS hg hK hw hx o0 hgc oc oc1 fg hE R6 G6 R5 G5 B5 GB5 l2 l3 g7hi g7lo; (simp only [ne_eq, i_lt, i_le, i_eq, i_add, i_sub, i_neg, i_mul, Int32.reduceToInt] at *; omega))]
    · intro j j0 j1
      rw [g7lo j (Int32.lt_trans j1 (by decide))]
      exact P6 j j0 j1
    · exact m_Ok_up R6.2.2.1.2 l2 l3
    · rw [g7hi _ (by decide), fg _ (by decide), e63]
      exact hg.t
  · rw [g7hi _ (by decide), fg _ (by decide), e63]
  · rw [g7hi _ (by decide), fg _ (by decide), hgc _ (by decide), if_pos rfl, o0, if_neg (Ne.symm hx2.1)]
  · intro k hk
    rw [s8 k (by omega) (by omega) (by omega) (by omega) (by omega), fS k (by omega), s5 k (by omega) (by omega)]
end
section
/-! ===== announce, withdraw ===== -/
/-- two calls that answer alike and keep what is kept -/
def m_X (c m : fd_S → Option (Int32 × fd_S)) : Prop := ∀ (S S' : fd_S) (g : Int32 → Int32), m_St S g → m_Go g → m_K S' → g 63 ≤ 400000 → (0 ≤ g 70 ∧ g 70 ≤ 1100000) →
  ∃ r S1 g2, c S = some (r, S1) ∧ m (fd_sg S' g) = some (r, fd_sg S' g2) ∧ m_St S1 g2 ∧ m_Go g2 ∧ (g2 63).toInt ≤ (g 63).toInt + 200 ∧ ((g 70).toInt ≤ (g2 70).toInt ∧ (g2 70).toInt ≤ (g 70).toInt + 2000) ∧ ∀ k : Nat, 23 ≤ k → S1 k = S k
theorem m_X0 {S S' : fd_S} {g : Int32 → Int32} {r : Int32} {c m : Option (Int32 × fd_S)} (h1 : c = some (r, S)) (h2 : m = some (r, fd_sg S' g)) (hS : m_St S g) (hg : m_Go g) : ∃ r S1 g2, c = some (r, S1) ∧ m = some (r, fd_sg S' g2) ∧ m_St S1 g2 ∧ m_Go g2 ∧ (g2 63).toInt ≤ (g 63).toInt + 200 ∧ ((g 70).toInt ≤ (g2 70).toInt ∧ (g2 70).toInt ≤ (g 70).toInt + 2000) ∧ ∀ k : Nat, 23 ≤ k → S1 k = S k := ⟨r, S, g, h1, h2, hS, hg, by omega, by omega, fun _ _ => rfl⟩
theorem m_70 {a : Int32} (h : 0 ≤ a ∧ a ≤ 1100000) : a.toInt ≤ (a + 1).toInt ∧ (a + 1).toInt ≤ a.toInt + 2000 := by (simp only [ne_eq, i_lt, i_le, i_eq, i_add, i_sub, i_neg, i_mul, Int32.reduceToInt] at *; omega)
theorem m_in0 {a b c : Int32} (h : ¬ (b ≤ a ∧ a ≤ c)) : zM_in a b c = 0 := by
  rw [← zF_in]
  exact m_within0 h
theorem m_in1 {a b c : Int32} (h : b ≤ a ∧ a ≤ c) : ¬ zM_in a b c = 0 := by
  rw [← zF_in]
  exact m_within1 h
theorem m_isRoute (a b : Int32) : (zF_isRoute a b = 0 ∧ zM_isRoute a b = 0) ∨ (¬ zF_isRoute a b = 0 ∧ ¬ zM_isRoute a b = 0 ∧ (0 ≤ a ∧ a < 4) ∧ (0 ≤ b ∧ b < 8)) := by
  rw [show zM_isRoute a b = zF_isRoute a b from rfl]
  unfold zF_isRoute
  by_cases c1 : 0 ≤ a ∧ a ≤ 3
  · by_cases c2 : 0 ≤ b ∧ b ≤ 7
    · right
      rw [if_neg (m_within1 c1), if_neg (m_within1 c2)]
      refine ⟨by decide, by decide, ?_, ?_⟩ <;> (simp only [ne_eq, i_lt, i_le, i_eq, i_add, i_sub, i_neg, i_mul, Int32.reduceToInt] at *; omega)
    · left
      rw [if_neg (m_within1 c1), if_pos (m_within0 c2)]
      exact ⟨rfl, rfl⟩
  · left
    rw [if_pos (m_within0 c1)]
    exact ⟨rfl, rfl⟩
theorem m_routeOf (a b : Int32) : zF_routeOf a b = 8 * a + b := by
  unfold zF_routeOf
  rw [Int32.mul_comm]
theorem m_announce {fu : Nat} {a b p q : Int32} (hfu : 10000 ≤ fu) : m_X (fun S => zF_announce fu S a b p q) (fun S => zM_announce fu S a b p q) := by
  intro S S' g hS hg hK ht h70
  dsimp only
  unfold zF_announce zM_announce
  rcases m_isRoute a b with ⟨h1, h2⟩ | ⟨h1, h2, ha, hb⟩
  · rw [if_pos h1, if_pos h2]
    exact m_X0 rfl rfl hS hg
  rw [if_neg h1, if_neg h2]
  by_cases cp : ¬ (0 ≤ p ∧ p ≤ 9)
  · rw [if_pos (m_within0 cp), if_pos (m_in0 cp)]
    exact m_X0 rfl rfl hS hg
  have cp := Decidable.not_not.mp cp
  rw [if_neg (m_within1 cp), if_neg (m_in1 cp)]
  by_cases cq : ¬ (0 ≤ q ∧ q ≤ 99)
  · rw [if_pos (m_within0 cq), if_pos (m_in0 cq)]
    exact m_X0 rfl rfl hS hg
  have cq := Decidable.not_not.mp cq
  rw [if_neg (m_within1 cq), if_neg (m_in1 cq)]
  simp only [fd_lt, sg_78, sg_up, Int32.zero_add, m_routeOf]
  have hx := (b_8 ha.1 ha.2 hb.1 hb.2).2
  have hx2 : 0 ≤ 8 * a + b ∧ 8 * a + b < 275 := ⟨hx.1, Int32.lt_trans hx.2 (by decide)⟩
  rw [if_pos hx, if_pos hx2, if_pos hx2, hS.Q _ hx.1 hx.2]
  by_cases c : g (8 * a + b) = p
  · rw [if_pos c, if_pos c]
    exact m_X0 rfl rfl hS hg
  rw [if_neg c, if_neg c]
  have hp6 : ¬ p = -6 := by clear hS hg hK h1 h2; (simp only [ne_eq, i_lt, i_le, i_eq, i_add, i_sub, i_neg, i_mul, Int32.reduceToInt] at *; omega)
  generalize hxx : 8 * a + b = x at *
  have e0 : m_gc (m_gu g x p) x p = m_wr (m_wr (m_bl (m_gu g x p) 65 x) 58) (48 + p) := by unfold m_gc; rw [if_neg hp6]
  rw [zM_beginLine_eq hfu, Option.bind_some, zM_write_eq (by rw [m_bl_131]; decide), Option.bind_some, zM_write_eq (by rw [m_wr_131, m_bl_131]; decide), Option.bind_some, ← e0]
  have hgc := (m_gc_ok (g := m_gu g x p) (x := x) (path := p)).2
  have e35 : m_gc (m_gu g x p) x p 35 = g 35 := by
    rw [hgc 35 (by decide), if_neg (by decide)]
    unfold m_gu
    rw [if_neg (by clear hS hg hK h1 h2 hgc; (simp only [ne_eq, i_lt, i_le, i_eq, i_add, i_sub, i_neg, i_mul, Int32.reduceToInt] at *; omega))]
  have hPx := hg.P x hx.1 hx.2
  by_cases cx : g x = -6
  · obtain ⟨e, S1, g2, a1, a2, a3, a4, a5, a70, a6⟩ := m_happen (S' := S') (w := 0) hfu hS hg hK (Int32.le_trans ht (by decide)) ha.1 ha.2 hb.1 hb.2 hxx.symm (Or.inr cp) cq.1 (by rw [if_neg hp6, if_pos cx])
    rw [if_neg (show ¬ 0 ≤ g x by rw [cx]; decide), a1, a2, Option.bind_some]
    exact ⟨e, S1, g2, rfl, rfl, a3, a4, by rw [a5]; omega, by rw [a70]; exact m_70 h70, a6⟩
  · obtain ⟨e, S1, g2, a1, a2, a3, a4, a5, a70, a6⟩ := m_happen (S' := S') (w := g 35) hfu hS hg hK (Int32.le_trans ht (by decide)) ha.1 ha.2 hb.1 hb.2 hxx.symm (Or.inr cp) cq.1 (by rw [if_neg hp6, if_neg cx])
    rw [if_pos (show 0 ≤ g x from hPx.elim (fun z => absurd z cx) (fun z => z.1)), zM_bd3, Option.bind_some, e35, a1, a2, Option.bind_some]
    exact ⟨e, S1, g2, rfl, rfl, a3, a4, by rw [a5]; omega, by rw [a70]; exact m_70 h70, a6⟩
theorem m_withdraw {fu : Nat} {a b q : Int32} (hfu : 10000 ≤ fu) : m_X (fun S => zF_withdraw fu S a b q) (fun S => zM_withdraw fu S a b q) := by
  intro S S' g hS hg hK ht h70
  dsimp only
  unfold zF_withdraw zM_withdraw
  rcases m_isRoute a b with ⟨h1, h2⟩ | ⟨h1, h2, ha, hb⟩
  · rw [if_pos h1, if_pos h2]
    exact m_X0 rfl rfl hS hg
  rw [if_neg h1, if_neg h2]
  by_cases cq : ¬ (0 ≤ q ∧ q ≤ 99)
  · rw [if_pos (m_within0 cq), if_pos (m_in0 cq)]
    exact m_X0 rfl rfl hS hg
  have cq := Decidable.not_not.mp cq
  rw [if_neg (m_within1 cq), if_neg (m_in1 cq)]
  simp only [fd_lt, sg_78, sg_up, Int32.zero_add, m_routeOf]
  have hx := (b_8 ha.1 ha.2 hb.1 hb.2).2
  have hx2 : 0 ≤ 8 * a + b ∧ 8 * a + b < 275 := ⟨hx.1, Int32.lt_trans hx.2 (by decide)⟩
  rw [if_pos hx, if_pos hx2, if_pos hx2, hS.Q _ hx.1 hx.2]
  by_cases c : g (8 * a + b) = -6
  · rw [if_pos c, if_neg (show ¬ 0 ≤ g (8 * a + b) by rw [c]; decide)]
    exact m_X0 rfl rfl hS hg
  have hPx := hg.P _ hx.1 hx.2
  rw [if_neg c, if_pos (show 0 ≤ g (8 * a + b) from hPx.elim (fun z => absurd z c) (fun z => z.1))]
  generalize hxx : 8 * a + b = x at *
  have e0 : m_gc (m_gu g x (-6)) x (-6) = m_bl (m_gu g x (-6)) 87 x := by unfold m_gc; rw [if_pos rfl]
  rw [zM_beginLine_eq hfu, Option.bind_some, ← e0]
  have hgc := (m_gc_ok (g := m_gu g x (-6)) (x := x) (path := -6)).2
  have e34 : m_gc (m_gu g x (-6)) x (-6) 34 = g 34 := by
    rw [hgc 34 (by decide), if_neg (by decide)]
    unfold m_gu
    rw [if_neg (by clear hS hg hK h1 h2 hgc; (simp only [ne_eq, i_lt, i_le, i_eq, i_add, i_sub, i_neg, i_mul, Int32.reduceToInt] at *; omega))]
  obtain ⟨e, S1, g2, a1, a2, a3, a4, a5, a70, a6⟩ := m_happen (S' := S') (w := g 34) hfu hS hg hK (Int32.le_trans ht (by decide)) ha.1 ha.2 hb.1 hb.2 hxx.symm (Or.inl rfl) cq.1 (by rw [if_pos rfl])
  rw [zM_bd2, Option.bind_some, e34, a1, a2, Option.bind_some]
  exact ⟨e, S1, g2, rfl, rfl, a3, a4, by rw [a5]; omega, by rw [a70]; exact m_70 h70, a6⟩
end
section
/-! ===== a record is looked at ===== -/
abbrev m_Ph (S : fd_S) (g : Int32 → Int32) : Prop := m_R S g ∧ m_GR g ∧ m_B S g ∧ m_GB g ∧ m_L S g ∧ S 0 6 = g 63 ∧ S 0 10 = g 69 ∧ S 3 2 = g 68 ∧ (0 ≤ g 63 ∧ g 63 ≤ 500000)
abbrev m_PhF (S S1 : fd_S) (g g1 : Int32 → Int32) : Prop := (∀ k : Nat, (1 ≤ k ∧ k < 5) ∨ 20 ≤ k → S1 k = S k) ∧ (∀ j : Int32, j ≠ 10 → S1 0 j = S 0 j) ∧ (∀ j : Int32, j < 69 → g1 j = g j)
theorem m_lookAt {fu : Nat} {S S' : fd_S} {g : Int32 → Int32} {i : Int32} (hfu : 10000 ≤ fu) (hPh : m_Ph S g) (hK : m_K S') (i0 : 0 ≤ i) (i1 : i < g 64) :
    ∃ S1 g1, zS_lookAt fu S (m_rw S i) = some S1 ∧ (∀ n, zM_lookAtRecords_2 fu (n + 1) (fd_sg S' g) i = zM_lookAtRecords_2 fu n (fd_sg S' g1) (i + 1)) ∧ m_Ph S1 g1 ∧ m_PhF S S1 g g1 ∧ ((g1 69 = g 69 ∧ g1 70 = g 70 ∧ ∀ y, m_hd g1 y ↔ m_hd g y) ∨ (g1 69 = g 69 + 1 ∧ g1 70 = g 70 + 1)) := by
  have hPh0 := hPh
  obtain ⟨hR, hG, hB, hGB, hL, hT, hD, h2, ht⟩ := hPh
  have h64 := hR.2.2.1
  have i6 : i < 6 := by clear hR hG hB hGB hL hPh0 hK; (simp only [ne_eq, i_lt, i_le, i_eq, i_add, i_sub, i_neg, i_mul, Int32.reduceToInt] at *; omega)
  have hrk := hR.1.rk i0 i6
  have hrg := hR.1.rg i0 i6
  have hv := hR.2.2.2.1 i i0 i1
  have hgr := hG.1 i i0 i1
  unfold m_cV at hv
  unfold zS_lookAt
  simp only [fd_lt]
  rw [if_pos hrk, hv.2.2.2.1, hv.2.2.2.2.1, hT]
  have same : ∀ {c : Option fd_S}, c = some S → (∀ n, zM_lookAtRecords_2 fu (n + 1) (fd_sg S' g) i = zM_lookAtRecords_2 fu n (fd_sg S' g) (i + 1)) → ∃ S1 g1, c = some S1 ∧ (∀ n, zM_lookAtRecords_2 fu (n + 1) (fd_sg S' g) i = zM_lookAtRecords_2 fu n (fd_sg S' g1) (i + 1)) ∧ m_Ph S1 g1 ∧ m_PhF S S1 g g1 ∧ ((g1 69 = g 69 ∧ g1 70 = g 70 ∧ ∀ y, m_hd g1 y ↔ m_hd g y) ∨ (g1 69 = g 69 + 1 ∧ g1 70 = g 70 + 1)) := by
    intro c hc hm
    exact ⟨S, g, hc, hm, hPh0, ⟨fun _ _ => rfl, fun _ _ => rfl, fun _ _ => rfl⟩, Or.inl ⟨rfl, rfl, fun _ => Iff.rfl⟩⟩
  have unf : ∀ n, zM_lookAtRecords_2 fu (n + 1) (fd_sg S' g) i = if g (zM_at i 3) = 1 then (if g 63 < g (zM_at i 4) then zM_lookAtRecords_2 fu n (fd_sg S' g) (i + 1) else ((zM_penaltyAt fu (fd_sg S' g) i (g 63)).bind fun r24 => (if g 37 ≤ r24 then ((zM_dueAfter fu (fd_sg S' g) i (g 63)).bind fun r29 => zM_lookAtRecords_2 fu n (fd_sg S' (m_gu g (zM_at i 4) r29)) (i + 1)) else (zM_beginLine fu (fd_sg S' (m_gu (m_gu g (zM_at i 3) 0) 69 (g 69 + 1))) 82 (g (zM_at i 0))).bind fun S38 => (zM_write S38 64).bind fun S40 => (zM_writeNumber fu S40 (S40 78 63)).bind fun S42 => zM_lookAtRecords_2 fu n S42 (i + 1)))) else zM_lookAtRecords_2 fu n (fd_sg S' g) (i + 1) := by
    intro n
    have a0 := m_at_in i0 i6 (show (0 : Int32) ≤ 0 by decide) (by decide)
    have a3 := m_at_in i0 i6 (show (0 : Int32) ≤ 3 by decide) (by decide)
    have a4 := m_at_in i0 i6 (show (0 : Int32) ≤ 4 by decide) (by decide)
    have e69 : m_gu g (zM_at i 3) 0 69 = g 69 := m_gu_out i0 i6 (by decide) (by decide) (by decide)
    have e0 : m_gu (m_gu g (zM_at i 3) 0) 69 (g 69 + 1) (zM_at i 0) = g (zM_at i 0) := by
      have := m_at_rg i0 i6 (show (0 : Int32) ≤ 0 by decide) (by decide)
      unfold m_gu
      rw [if_neg (by clear hR hG hB hGB hL hPh0 hK same hv hgr; (simp only [ne_eq, i_lt, i_le, i_eq, i_add, i_sub, i_neg, i_mul, Int32.reduceToInt] at *; omega)), if_neg (fun z => absurd (m_at_inj i0 i6 (by decide) (by decide) i0 i6 (by decide) (by decide) z).2 (by decide))]
    rw [zM_lookAtRecords_2]
    simp only [fd_lt, sg_78, sg_up]
    rw [if_neg (Int32.not_le.mpr i1), zM_isHeld_eq i0 i6, Option.bind_some]
    by_cases c : g (zM_at i 3) = 1
    · rw [if_pos c, if_neg (show ¬ (1 : Int32) = 0 by decide), if_pos c]
      simp only [if_pos a0, if_pos a3, if_pos a4, zM_bd5, Option.bind_some, e69, e0]
    · rw [if_neg c, if_pos rfl, if_neg c]
  by_cases c0 : g (zM_at i 3) = 0
  · rw [if_pos c0]
    exact same rfl (fun n => by rw [unf, if_neg (show ¬ g (zM_at i 3) = 1 by rw [c0]; decide)])
  have c1 : g (zM_at i 3) = 1 := hgr.2.2.2.1.elim (fun z => absurd z c0) id
  rw [if_neg c0]
  by_cases cd : ¬ g (zM_at i 4) ≤ g 63
  · rw [if_neg cd]
    exact same rfl (fun n => by rw [unf, if_pos c1, if_pos (Int32.not_le.mp cd)])
  have cd := Decidable.not_not.mp cd
  rw [if_pos cd]
  obtain ⟨P, p1, p2, p3⟩ := m_below (S' := S') (t := g 63) hfu hR hG hB hGB hK i0 i1 hgr.2.2.1.2 (Int32.le_trans ht.2 (by decide))
  rw [p1, Option.bind_some]
  by_cases cP : P < g 37
  · -- it is let go
    rw [if_pos cP, if_neg (show ¬ (1 : Int32) = 0 by decide)]
    generalize hg8 : m_gu (m_gu g (zM_at i 3) 0) 69 (g 69 + 1) = g8
    have o8 : ∀ j : Int32, j ≠ 69 → (j < 71 ∨ 131 ≤ j) → g8 j = g j := by
      intro j h1 h2
      rw [← hg8, m_gu, if_neg h1, m_gu_out i0 i6 (by decide) (by decide) h2]
    have o869 : g8 69 = g 69 + 1 := by rw [← hg8, m_gu, if_pos rfl]
    have o8m : ∀ j : Int32, j ≠ 69 → g8 j = m_gu g (zM_at i 3) 0 j := by
      intro j h1
      rw [← hg8]
      unfold m_gu
      rw [if_neg h1]
    have k10 : fd_up S (m_rw S i) 3 0 0 10 = S 0 10 := by rw [fd_up_ne (by omega)]
    have k0 : fd_up (fd_up S (m_rw S i) 3 0) 0 10 (S 0 10 + 1) (m_rw S i) 0 = g (zM_at i 0) := by rw [fd_up_ne (by omega), fd_up_at, if_neg (by decide), hv.1]
    rw [k10, k0]
    generalize hS8 : fd_up (fd_up S (m_rw S i) 3 0) 0 10 (S 0 10 + 1) = S8
    have s8 : ∀ k : Nat, k ≠ 0 → k ≠ m_rw S i → S8 k = S k := fun k h1 h2 => by rw [← hS8, fd_up_ne h1, fd_up_ne h2]
    have s80 : ∀ j : Int32, S8 0 j = if j = 10 then S 0 10 + 1 else S 0 j := fun j => by rw [← hS8, fd_up_at, fd_up_ne (by omega)]
    have R8 : m_R S8 g8 := by
      have := m_R_fld (v := 0) hR i0 i1 3 (by decide)
      refine m_R_congr this (by rw [s8 3 (by decide) (by omega), fd_up_ne (by omega)]) (by rw [s8 4 (by decide) (by omega), fd_up_ne (by omega)]) (fun k h1 h2 => by rw [← hS8, fd_up_ne (by omega)]) (o8m _ (by decide)) (fun j h1 h2 => o8m j (by clear hR hG hB hGB hL hPh0 hK same hv hgr unf o8 o8m s8 s80 this; (simp only [ne_eq, i_lt, i_le, i_eq, i_add, i_sub, i_neg, i_mul, Int32.reduceToInt] at *; omega)))
    have G8 : m_GR g8 := by
      have := m_GR_fld (f := 3) (v := 0) h64 hG i0 i1 (by decide) (by decide) ⟨fun z => absurd z (by decide), fun z => absurd z (by decide), fun _ => Or.inl rfl, fun z => absurd z (by decide)⟩
      have q64 : m_gu g (zM_at i 3) 0 64 = g 64 := m_gu_out i0 i6 (by decide) (by decide) (by decide)
      refine m_GR_congr this (by rw [q64]; exact h64.2) (o8m _ (by decide)) (by rw [o8m _ (by decide)]; exact Int32.le_refl _) (fun j h1 h2 => o8m j (by clear hR hG hB hGB hL hPh0 hK same hv hgr unf o8 o8m s8 s80 this R8 q64; (simp only [ne_eq, i_lt, i_le, i_eq, i_add, i_sub, i_neg, i_mul, Int32.reduceToInt] at *; omega)))
    have L8 : m_L S8 g8 := m_L_congr hL (s8 5 (by decide) (by omega)) (s8 6 (by decide) (by omega)) (s8 7 (by decide) (by omega)) (o8 _ (by decide) (by decide)) (fun j hj => o8 j (by clear hR hG hB hGB hL hPh0 hK same hv hgr unf o8 o8m s8 s80 R8 G8; (simp only [ne_eq, i_lt, i_le, i_eq, i_add, i_sub, i_neg, i_mul, Int32.reduceToInt] at *; omega)) (Or.inr hj))
    generalize hx : g (zM_at i 0) = x at hgr hv k0 ⊢
    obtain ⟨S9, t1, t2, t3⟩ := m_begin (c := 82) (x := x) hfu L8 hgr.1
    obtain ⟨S11, u1, u2, u3⟩ := m_put (c := 64) t2 (by rw [m_bl_131]; decide)
    have q131 : m_wr (m_bl g8 82 x) 64 131 = 4 := by rw [m_wr_131, m_bl_131]; decide
    have t6 : g 63 < nI (10 ^ (5 + 1)) := Int32.lt_of_le_of_lt ht.2 (by decide)
    have q63 : m_wr (m_bl g8 82 x) 64 63 = g 63 := by rw [m_wr_lo (by rw [m_bl_131]; decide) (by decide), m_bl_lo (by decide), if_neg (by decide), o8 _ (by decide) (by decide)]
    have e06 : S11 0 6 = g 63 := by rw [u3 0 (by decide) (by decide), t3 0 (by decide) (by decide) (by decide), s80, if_neg (by decide), hT]
    obtain ⟨S13, v1, v2, v3⟩ := m_pn (x := g 63) 5 hfu (by decide) ht.1 t6 u2 (by rw [q131]; decide)
    rw [t1, Option.bind_some, u1, Option.bind_some, e06, v1, Option.bind_some]
    have f13 : m_FL S8 S13 := fun k h5 h6 h7 => by rw [v3 k h6 h7, u3 k h6 h7, t3 k h5 h6 h7]
    generalize hgE : m_wn (m_wr (m_bl g8 82 x) 64) (g 63) = gE at v2
    have oE : ∀ j : Int32, j < 131 → gE j = if j = 70 then g8 70 + 1 else g8 j := by
      intro j hj
      rw [← hgE, m_wn_lo 5 (by decide) ht.1 t6 (by rw [q131]; decide) hj, m_wr_lo (by rw [m_bl_131]; decide) hj, m_bl_lo hj]
    have oE1 : ∀ j : Int32, j < 131 → j ≠ 70 → gE j = g8 j := fun j h1 h2 => by rw [oE j h1, if_neg h2]
    refine ⟨S13, gE, rfl, ?_, ⟨?_, ?_, ?_, ?_, v2, ?_, ?_, ?_, ?_⟩, ⟨?_, ?_, ?_⟩, Or.inr ⟨?_, ?_⟩⟩
    · intro n
      rw [unf, if_pos c1, if_neg (Int32.not_lt.mpr cd), p2, Option.bind_some, if_neg (Int32.not_le.mpr cP), hg8, hx, zM_beginLine_eq hfu, Option.bind_some, zM_write_eq (by rw [m_bl_131]; decide), Option.bind_some, sg_78, q63, zM_writeNumber_eq 5 hfu (by decide) ht.1 t6 (by rw [q131]; decide) (by rw [q131]; decide), Option.bind_some, hgE]
    · exact m_R_congr (m_R_FL R8 f13) rfl rfl (fun _ _ _ => rfl) (oE1 _ (by decide) (by decide)) (fun j h1 h2 => oE1 j h2 (by clear hR hG hB hGB hL hPh0 hK same hv hgr unf o8 o8m s8 s80 R8 G8 L8 oE oE1 v2; (simp only [ne_eq, i_lt, i_le, i_eq, i_add, i_sub, i_neg, i_mul, Int32.reduceToInt] at *; omega)))
    · exact m_GR_congr G8 (by rw [o8 _ (by decide) (by decide)]; exact h64.2) (oE1 _ (by decide) (by decide)) (by rw [oE1 _ (by decide) (by decide)]; exact Int32.le_refl _) (fun j h1 h2 => oE1 j h2 (by clear hR hG hB hGB hL hPh0 hK same hv hgr unf o8 o8m s8 s80 R8 G8 L8 oE oE1 v2; (simp only [ne_eq, i_lt, i_le, i_eq, i_add, i_sub, i_neg, i_mul, Int32.reduceToInt] at *; omega)))
    · refine m_B_congr hB (by rw [f13 2 (by decide) (by decide) (by decide), s8 2 (by decide) (by omega)]) (fun j h1 h2 => ?_)
      rw [oE1 j (Int32.lt_trans h2 (by decide)) (by clear hR hG hB hGB hL hPh0 hK same hv hgr unf o8 o8m s8 s80 R8 G8 L8 oE oE1 v2; (simp only [ne_eq, i_lt, i_le, i_eq, i_add, i_sub, i_neg, i_mul, Int32.reduceToInt] at *; omega)), o8 j (by clear hR hG hB hGB hL hPh0 hK same hv hgr unf o8 o8m s8 s80 R8 G8 L8 oE oE1 v2; (simp only [ne_eq, i_lt, i_le, i_eq, i_add, i_sub, i_neg, i_mul, Int32.reduceToInt] at *; omega)) (Or.inl (Int32.lt_trans h2 (by decide)))]
    · refine m_GB_congr hGB (fun j h1 h2 => ?_)
      rw [oE1 j (Int32.lt_trans h2 (by decide)) (by clear hR hG hB hGB hL hPh0 hK same hv hgr unf o8 o8m s8 s80 R8 G8 L8 oE oE1 v2; (simp only [ne_eq, i_lt, i_le, i_eq, i_add, i_sub, i_neg, i_mul, Int32.reduceToInt] at *; omega)), o8 j (by clear hR hG hB hGB hL hPh0 hK same hv hgr unf o8 o8m s8 s80 R8 G8 L8 oE oE1 v2; (simp only [ne_eq, i_lt, i_le, i_eq, i_add, i_sub, i_neg, i_mul, Int32.reduceToInt] at *; omega)) (Or.inl (Int32.lt_trans h2 (by decide)))]
    · rw [f13 0 (by decide) (by decide) (by decide), s80, if_neg (by decide), hT, oE1 _ (by decide) (by decide), o8 _ (by decide) (by decide)]
    · rw [f13 0 (by decide) (by decide) (by decide), s80, if_pos rfl, hD, oE1 _ (by decide) (by decide), o869]
    · rw [f13 3 (by decide) (by decide) (by decide), s8 3 (by decide) (by omega), h2, oE1 _ (by decide) (by decide), o8 _ (by decide) (by decide)]
    · rw [oE1 _ (by decide) (by decide), o8 _ (by decide) (by decide)]
      exact ht
    · intro k hk
      rw [f13 k (by omega) (by omega) (by omega), s8 k (by omega) (by omega)]
    · intro j hj
      rw [f13 0 (by decide) (by decide) (by decide), s80, if_neg hj]
    · intro j hj
      rw [oE1 j (Int32.lt_trans hj (by decide)) (by clear hR hG hB hGB hL hPh0 hK same hv hgr unf o8 o8m s8 s80 R8 G8 L8 oE oE1 v2; (simp only [ne_eq, i_lt, i_le, i_eq, i_add, i_sub, i_neg, i_mul, Int32.reduceToInt] at *; omega)), o8 j (by clear hR hG hB hGB hL hPh0 hK same hv hgr unf o8 o8m s8 s80 R8 G8 L8 oE oE1 v2; (simp only [ne_eq, i_lt, i_le, i_eq, i_add, i_sub, i_neg, i_mul, Int32.reduceToInt] at *; omega)) (Or.inl (Int32.lt_trans hj (by decide)))]
    · rw [oE1 _ (by decide) (by decide), o869]
    · rw [oE _ (by decide), if_pos rfl, o8 _ (by decide) (by decide)]
  · -- its due is laid anew
    rw [if_neg cP, if_pos rfl]
    obtain ⟨d, d1, d2⟩ := m_due (S' := S') (t := g 63) hfu hR hG hB hGB hK i0 i1 ht.1 hgr.2.2.1.2 ht.2
    rw [d1, Option.bind_some]
    have oo : ∀ j : Int32, (j < 71 ∨ 131 ≤ j) → m_gu g (zM_at i 4) d j = g j := fun j hj => m_gu_out i0 i6 (by decide) (by decide) hj
    refine ⟨_, m_gu g (zM_at i 4) d, rfl, ?_, ⟨m_R_fld hR i0 i1 4 (by decide), ?_, ?_, ?_, ?_, ?_, ?_, ?_, ?_⟩, ⟨?_, ?_, ?_⟩, Or.inl ⟨?_, ?_, ?_⟩⟩
    · intro n
      rw [unf, if_pos c1, if_neg (Int32.not_lt.mpr cd), p2, Option.bind_some, if_pos (Int32.not_lt.mp cP), d2, Option.bind_some]
    · exact m_GR_fld h64 hG i0 i1 (by decide) (by decide) ⟨fun z => absurd z (by decide), fun z => absurd z (by decide), fun z => absurd z (by decide), fun z => absurd z (by decide)⟩
    · exact m_B_congr hB (by rw [fd_up_ne (by omega)]) (fun j h1 h2 => oo j (Or.inl (Int32.lt_trans h2 (by decide))))
    · exact m_GB_congr hGB (fun j h1 h2 => oo j (Or.inl (Int32.lt_trans h2 (by decide))))
    · exact m_L_congr hL (by rw [fd_up_ne (by omega)]) (by rw [fd_up_ne (by omega)]) (by rw [fd_up_ne (by omega)]) (oo _ (by decide)) (fun j hj => oo j (Or.inr hj))
    · rw [fd_up_ne (by omega), hT, oo _ (by decide)]
    · rw [fd_up_ne (by omega), hD, oo _ (by decide)]
    · rw [fd_up_ne (by omega), h2, oo _ (by decide)]
    · rw [oo _ (by decide)]
      exact ht
    · intro k hk
      rw [fd_up_ne (by omega)]
    · intro j hj
      rw [fd_up_ne (by omega)]
    · intro j hj
      exact oo j (Or.inl (Int32.lt_trans hj (by decide)))
    · exact oo _ (by decide)
    · exact oo _ (by decide)
    · refine m_hd_congr (oo _ (by decide)) (fun j j0 j1 => ?_)
      have j6 : j < 6 := by clear hR hG hB hGB hL hPh0 hK same hv hgr unf oo p1 p2 d1 d2; (simp only [ne_eq, i_lt, i_le, i_eq, i_add, i_sub, i_neg, i_mul, Int32.reduceToInt] at *; omega)
      rw [m_gu_at i0 i6 (by decide) (by decide) j0 j6 (by decide) (by decide), m_gu_at i0 i6 (by decide) (by decide) j0 j6 (by decide) (by decide), if_neg (fun z => absurd z.2 (by decide)), if_neg (fun z => absurd z.2 (by decide))]
      exact ⟨rfl, rfl⟩
end
section
/-! ===== a tick ===== -/
theorem b_nIs {c : Nat} (h : c ≤ 100) (a : Int32) : a + 1 + nI c = a + nI (c + 1) := by
  have e : (1 : Int32) + nI c = nI (c + 1) := by
    rw [i_eq, i_add, nI_toInt (by omega), nI_toInt (by omega)]
    (simp only [ne_eq, i_lt, i_le, i_eq, i_add, i_sub, i_neg, i_mul, Int32.reduceToInt] at *; omega)
  rw [← e, Int32.add_assoc]
theorem m_lookLoop {fu : Nat} {S' : fd_S} (hfu : 10000 ≤ fu) (hK : m_K S') : ∀ (n : Nat) (S : fd_S) (g : Int32 → Int32) (i : Int32), m_ms (g 64) i < n → m_Ph S g → 0 ≤ i → i ≤ g 64 →
    ∃ S1 g1, ∃ c : Nat, (∀ b, zS_nextTick_29 fu n S b i = (zS_dropSmallOnes fu S1).bind fun S7 => (if (S7 0 10) = b then (some S7) else (zS_nextTick_73 fu fu S7 0))) ∧ zM_lookAtRecords_2 fu n (fd_sg S' g) i = zM_lookAtRecords_157 fu fu (fd_sg S' g1) (g1 64 - 1) ∧ m_Ph S1 g1 ∧ m_PhF S S1 g g1 ∧ c ≤ m_ms (g 64) i ∧ g1 69 = g 69 + nI c ∧ g1 70 = g 70 + nI c ∧ (c = 0 → ∀ y, m_hd g1 y ↔ m_hd g y) := by
  intro n
  induction n with
  | zero => intro S g i h; omega
  | succ n ih =>
    intro S g i hn hPh i0 i1
    have hR := hPh.1
    have h64 := hR.2.2.1
    by_cases ci : g 64 ≤ i
    · refine ⟨S, g, 0, ?_, ?_, hPh, ⟨fun _ _ => rfl, fun _ _ => rfl, fun _ _ => rfl⟩, by omega, by rw [show nI 0 = 0 from rfl, Int32.add_zero], by rw [show nI 0 = 0 from rfl, Int32.add_zero], fun _ _ => Iff.rfl⟩
      · intro b
        rw [zS_nextTick_29, hR.2.1, if_pos ci]
      · rw [zM_lookAtRecords_2]
        simp only [fd_lt, sg_78]
        rw [if_pos ci]
    · have il : i < g 64 ∧ i < 6 ∧ 0 ≤ i + 1 ∧ i + 1 ≤ g 64 := by clear hPh hR ih hK; (simp only [ne_eq, i_lt, i_le, i_eq, i_add, i_sub, i_neg, i_mul, Int32.reduceToInt] at *; omega)
      obtain ⟨S1, g1, a1, a2, a3, a4, a5⟩ := m_lookAt hfu hPh hK i0 il.1
      have e64 : g1 64 = g 64 := a4.2.2 _ (by decide)
      have hms := m_ms_up ci
      have hms6 : m_ms (g 64) i ≤ 6 := by
        unfold m_ms
        clear hPh hR ih hK a1 a2 a3 a4 a5 hn hms
        (simp only [ne_eq, i_lt, i_le, i_eq, i_add, i_sub, i_neg, i_mul, Int32.reduceToInt] at *; omega)
      obtain ⟨S2, g2, c, b1, b2, b3, b4, b5, b6, b60, b7⟩ := ih S1 g1 (i + 1) (by rw [e64]; omega) a3 il.2.2.1 (by rw [e64]; exact il.2.2.2)
      rw [e64] at b5
      have fr : m_PhF S S2 g g2 := ⟨fun k hk => by rw [b4.1 k hk, a4.1 k hk], fun j hj => by rw [b4.2.1 j hj, a4.2.1 j hj], fun j hj => by rw [b4.2.2 j hj, a4.2.2 j hj]⟩
      have hu : ∀ b, zS_nextTick_29 fu (n + 1) S b i = zS_nextTick_29 fu n S1 b (i + 1) := by
        intro b
        rw [zS_nextTick_29]
        simp only [fd_lt, m_rc]
        rw [hR.2.1, if_neg ci, if_pos ⟨i0, il.2.1⟩]
        change (zS_lookAt fu S (m_rw S i)).bind _ = _
        rw [a1, Option.bind_some]
      rcases a5 with ⟨d1, d10, d2⟩ | ⟨d1, d10⟩
      · refine ⟨S2, g2, c, fun b => by rw [hu, b1], by rw [a2, b2], b3, fr, by omega, by rw [b6, d1], by rw [b60, d10], fun z y => by rw [b7 z y, d2 y]⟩
      · refine ⟨S2, g2, c + 1, fun b => by rw [hu, b1], by rw [a2, b2], b3, fr, by omega, ?_, ?_, fun z => by omega⟩
        · rw [b6, d1]
          exact b_nIs (by omega) _
        · rw [b60, d10]
          exact b_nIs (by omega) _
theorem m_dropLoop {fu : Nat} {S' : fd_S} (hfu : 10000 ≤ fu) (hK : m_K S') : ∀ (n : Nat) (S : fd_S) (g : Int32 → Int32) (i : Int32), m_md 0 i < n → m_Ph S g → -1 ≤ i → i < g 64 →
    ∃ S1 g1, zS_dropSmallOnes_10 fu n S i = some S1 ∧ zM_lookAtRecords_157 fu n (fd_sg S' g) i = some (fd_sg S' g1) ∧ m_Ph S1 g1 ∧ (∀ k : Nat, k ≠ 3 → k ≠ 4 → S1 k = S k) ∧ (∀ j : Int32, (j < 71 ∨ 131 ≤ j) → j ≠ 64 → j ≠ 68 → g1 j = g j) ∧ ∀ y, m_hd g1 y ↔ m_hd g y := by
  intro n
  induction n with
  | zero => intro S g i h; omega
  | succ n ih =>
    intro S g i hn hPh im il
    have hPh0 := hPh
    obtain ⟨hR, hG, hB, hGB, hL, hT, hD, h2, ht⟩ := hPh
    have h64 := hR.2.2.1
    rw [zS_dropSmallOnes_10, zM_lookAtRecords_157]
    by_cases ci : i < 0
    · rw [if_pos ci, if_pos ci]
      exact ⟨S, g, rfl, rfl, hPh0, fun _ _ _ => rfl, fun _ _ _ _ => rfl, fun _ => Iff.rfl⟩
    have i0 : 0 ≤ i := Int32.not_lt.mp ci
    have i6 : i < 6 ∧ -1 ≤ i + -1 ∧ i + -1 < g 64 ∧ i + -1 < g 64 - 1 := by clear hR hG hB hGB hL hPh0 hK ih; (simp only [ne_eq, i_lt, i_le, i_eq, i_add, i_sub, i_neg, i_mul, Int32.reduceToInt] at *; omega)
    have h641 : 1 ≤ g 64 ∧ g 64 ≤ 6 := by clear hR hG hB hGB hL hPh0 hK ih; (simp only [ne_eq, i_lt, i_le, i_eq, i_add, i_sub, i_neg, i_mul, Int32.reduceToInt] at *; omega)
    have hms := m_md_dn ci (by decide)
    have hgr := hG.1 i i0 il
    have hv := (hR.2.2.2.1 i i0 il).2.2.2.1
    unfold m_cV at hv
    obtain ⟨P, p1, p2, p3⟩ := m_penaltyAt (S' := S') (t := g 63) hfu hR hG hB.e0 hGB hK i0 il hgr.2.2.1.2 (Int32.le_trans ht.2 (by decide))
    simp only [fd_lt, m_rc, sg_78]
    rw [if_neg ci, if_neg ci, if_pos ⟨i0, i6.1⟩]
    change ∃ S1 g1, (if fd_rk (m_rw S i) then (if (S (m_rw S i) 3) = 0 then ((zS_penaltyAt S (some (m_rw S i)) (S 0 6)).bind _) else _) else _) = _ ∧ _
    rw [if_pos (hR.1.rk i0 i6.1), hv, zM_isHeld_eq i0 i6.1, Option.bind_some, hT, p1, p2]
    simp only [Option.bind_some, zM_bd5, hB.e5]
    have next := ih S g (i + -1) (by omega) hPh0 i6.2.1 i6.2.2.1
    by_cases c0 : g (zM_at i 3) = 0
    · rw [if_pos c0, if_neg (show ¬ g (zM_at i 3) = 1 by rw [c0]; decide), if_pos rfl]
      by_cases cP : g 37 ≤ 2 * P
      · rw [if_pos cP, if_pos cP]
        exact next
      · rw [if_neg cP, if_neg cP]
        obtain ⟨S1, d1, d2, d3, d4, d5, d6⟩ := m_drop (S' := S') hfu hR hG i0 il
        rw [d1, d2, Option.bind_some, Option.bind_some]
        have o : ∀ j : Int32, (j < 71 ∨ 131 ≤ j) → j ≠ 64 → j ≠ 68 → m_rm g i j = g j := fun j h1 h2 h3 => m_rm_out h641 ⟨i0, i6.1⟩ h1 h2 h3
        have Ph1 : m_Ph S1 (m_rm g i) := by
          refine ⟨d3, d4, ?_, ?_, ?_, ?_, ?_, ?_, ?_⟩
          · exact m_B_congr hB (d5 2 (by decide) (by decide)) (fun j h1 h2 => o j (Or.inl (Int32.lt_trans h2 (by decide))) (by clear hR hG hB hGB hL hPh0 hK ih o next; (simp only [ne_eq, i_lt, i_le, i_eq, i_add, i_sub, i_neg, i_mul, Int32.reduceToInt] at *; omega)) (by clear hR hG hB hGB hL hPh0 hK ih o next; (simp only [ne_eq, i_lt, i_le, i_eq, i_add, i_sub, i_neg, i_mul, Int32.reduceToInt] at *; omega)))
          · exact m_GB_congr hGB (fun j h1 h2 => o j (Or.inl (Int32.lt_trans h2 (by decide))) (by clear hR hG hB hGB hL hPh0 hK ih o next; (simp only [ne_eq, i_lt, i_le, i_eq, i_add, i_sub, i_neg, i_mul, Int32.reduceToInt] at *; omega)) (by clear hR hG hB hGB hL hPh0 hK ih o next; (simp only [ne_eq, i_lt, i_le, i_eq, i_add, i_sub, i_neg, i_mul, Int32.reduceToInt] at *; omega)))
          · exact m_L_congr hL (d5 5 (by decide) (by decide)) (d5 6 (by decide) (by decide)) (d5 7 (by decide) (by decide)) (o _ (by decide) (by decide) (by decide)) (fun j hj => o j (Or.inr hj) (by clear hR hG hB hGB hL hPh0 hK ih o next; (simp only [ne_eq, i_lt, i_le, i_eq, i_add, i_sub, i_neg, i_mul, Int32.reduceToInt] at *; omega)) (by clear hR hG hB hGB hL hPh0 hK ih o next; (simp only [ne_eq, i_lt, i_le, i_eq, i_add, i_sub, i_neg, i_mul, Int32.reduceToInt] at *; omega)))
          · rw [d5 0 (by decide) (by decide), hT, o _ (by decide) (by decide) (by decide)]
          · rw [d5 0 (by decide) (by decide), hD, o _ (by decide) (by decide) (by decide)]
          · rw [d6, h2, m_rm_68 ⟨i0, i6.1⟩]
          · rw [o _ (by decide) (by decide) (by decide)]
            exact ht
        obtain ⟨S2, g2, b1, b2, b3, b4, b5, b6⟩ := ih S1 (m_rm g i) (i + -1) (by omega) Ph1 i6.2.1 (by rw [m_rm_64 ⟨i0, i6.1⟩]; exact i6.2.2.2)
        refine ⟨S2, g2, b1, b2, b3, fun k h1 h2 => by rw [b4 k h1 h2, d5 k h1 h2], fun j h1 h2 h3 => by rw [b5 j h1 h2 h3, o j h1 h2 h3], fun y => ?_⟩
        rw [b6 y]
        exact m_hd_rm h641 ⟨i0, il⟩ (by rw [c0]; decide) y
    · have c1 : g (zM_at i 3) = 1 := hgr.2.2.2.1.elim (fun z => absurd z c0) id
      rw [if_neg c0, if_pos c1, if_neg (show ¬ (1 : Int32) = 0 by decide)]
      exact next
theorem m_refreshAll {fu : Nat} {g : Int32 → Int32} {S0 : fd_S} (hfu : 10000 ≤ fu) (hG : m_GR g) (hP : m_P g) (hR : m_R S0 g) (hQ : m_Q S0 g) : ∀ (n : Nat) (S : fd_S) (x : Int32), m_ms 8 x < n → 0 ≤ x → x ≤ 8 → (∀ k : Nat, k ≠ 21 → k ≠ 22 → S k = S0 k) →
    (∀ p : Int32, 0 ≤ p → p < x → S 21 p = m_rk (m_be g p) (m_bp g p) ∧ S 22 p = if m_rk (m_be g p) (m_bp g p) = S0 21 p then S0 22 p else S0 22 p + 1) → (∀ p : Int32, x ≤ p → p < 8 → S 21 p = S0 21 p ∧ S 22 p = S0 22 p) →
    ∃ S1, zS_nextTick_73 fu n S x = some S1 ∧ (∀ k : Nat, k ≠ 21 → k ≠ 22 → S1 k = S0 k) ∧ ∀ p : Int32, 0 ≤ p → p < 8 → S1 21 p = m_rk (m_be g p) (m_bp g p) ∧ S1 22 p = if m_rk (m_be g p) (m_bp g p) = S0 21 p then S0 22 p else S0 22 p + 1 := by
  intro n
  induction n with
  | zero => intro S x h; omega
  | succ n ih =>
    intro S x hn x0 x8 h1 h2 h3
    rw [zS_nextTick_73]
    by_cases c1 : 8 ≤ x
    · rw [if_pos c1]
      exact ⟨S, rfl, h1, fun p p0 p1 => h2 p p0 (Int32.lt_of_lt_of_le p1 c1)⟩
    have hx : x < 8 ∧ 0 ≤ x + 1 ∧ x + 1 ≤ 8 := by clear h1 h2 h3 ih hG hP hR hQ; (simp only [ne_eq, i_lt, i_le, i_eq, i_add, i_sub, i_neg, i_mul, Int32.reduceToInt] at *; omega)
    have hms := m_ms_up c1
    have R1 : m_R S g := m_R_congr hR (by rw [h1 3 (by decide) (by decide)]) (h1 4 (by decide) (by decide)) (fun k _ _ => h1 k (by omega) (by omega)) rfl (fun _ _ _ => rfl)
    have Q1 : m_Q S g := fun j j0 j1 => by rw [h1 20 (by decide) (by decide), hQ j j0 j1]
    obtain ⟨S1, r1, r2, r3, r4, r5⟩ := m_refresh hfu R1 hG hP Q1 x0 hx.1
    simp only [fd_lt]
    rw [if_neg c1, r1, Option.bind_some]
    have h3x := h3 x (Int32.le_refl _) hx.1
    refine ih S1 (x + 1) (by omega) hx.2.1 hx.2.2 (fun k k1 k2 => by rw [r2 k k1 k2, h1 k k1 k2]) (fun p p0 p1 => ?_) (fun p p0 p1 => ?_)
    · by_cases cp : p = x
      · subst cp
        rw [h3x.1, h3x.2] at r5
        exact ⟨r4, r5⟩
      · have hpx : p < x := by clear h1 h2 h3 ih hG hP hR hQ R1 Q1 r1 r2 r3 r4 r5; (simp only [ne_eq, i_lt, i_le, i_eq, i_add, i_sub, i_neg, i_mul, Int32.reduceToInt] at *; omega)
        rw [(r3 p cp).1, (r3 p cp).2]
        exact h2 p p0 hpx
    · have hpx : x ≤ p ∧ p ≠ x := by clear h1 h2 h3 ih hG hP hR hQ R1 Q1 r1 r2 r3 r4 r5; (simp only [ne_eq, i_lt, i_le, i_eq, i_add, i_sub, i_neg, i_mul, Int32.reduceToInt] at *; omega)
      rw [(r3 p hpx.2).1, (r3 p hpx.2).2]
      exact h3 p hpx.1 p1
theorem m_looked {S : fd_S} {g : Int32 → Int32} {t : Int32} (hB : m_B S g) (hGB : m_GB g) : zS_isLookedAt S t = some (if fd_rem t (g 33) = 0 then 1 else 0) ∧ ¬ g 33 = 0 := by
  have hs := hGB.2.1
  have hmx : fd_max (S 2 1) 1 = g 33 := by
    unfold fd_max
    rw [hB.e1]
    clear hB hGB
    grind
  have hn : ¬ g 33 = 0 := by clear hB hGB; (simp only [ne_eq, i_lt, i_le, i_eq, i_add, i_sub, i_neg, i_mul, Int32.reduceToInt] at *; omega)
  unfold zS_isLookedAt
  rw [hmx, if_pos hn]
  refine ⟨?_, hn⟩
  split <;> rfl
theorem m_nextTick {fu : Nat} {S S' : fd_S} {g : Int32 → Int32} (hfu : 10000 ≤ fu) (hS : m_St S g) (hg : m_Go g) (hK : m_K S') (ht : g 63 ≤ 499999) :
    ∃ S1 g1, zS_nextTick fu S = some S1 ∧ (∀ (n : Nat) (x1 x2 : Int32), ¬ x1 ≤ x2 → zM_pass_16 fu (n + 1) (fd_sg S' g) x1 x2 = zM_pass_16 fu n (fd_sg S' g1) x1 (x2 + 1)) ∧ m_St S1 g1 ∧ m_Go g1 ∧ g1 63 = g 63 + 1 ∧ (∃ c : Nat, c ≤ 6 ∧ g1 70 = g 70 + nI c) ∧ ∀ k : Nat, 23 ≤ k → S1 k = S k := by
  have h64 := hS.R.2.2.1
  have ht0 := hg.t
  generalize hg1 : m_gu g 63 (g 63 + 1) = g1
  have o1 : ∀ j : Int32, j ≠ 63 → g1 j = g j := fun j hj => by rw [← hg1, m_gu, if_neg hj]
  have e63 : g1 63 = g 63 + 1 := by rw [← hg1, m_gu, if_pos rfl]
  have ht1 : g 63 ≤ g1 63 ∧ 0 ≤ g1 63 ∧ g1 63 ≤ 500000 := by rw [e63]; clear hS hg hK h64 hg1 o1 e63; (simp only [ne_eq, i_lt, i_le, i_eq, i_add, i_sub, i_neg, i_mul, Int32.reduceToInt] at *; omega)
  generalize hS1 : fd_up S 0 6 (S 0 6 + 1) = S1
  have s1 : ∀ k : Nat, k ≠ 0 → S1 k = S k := fun k hk => by rw [← hS1, fd_up_ne hk]
  have s10 : ∀ j : Int32, S1 0 j = if j = 6 then S 0 6 + 1 else S 0 j := fun j => by rw [← hS1, fd_up_at]
  have R1 : m_R S1 g1 := m_R_congr hS.R (by rw [s1 3 (by decide)]) (s1 4 (by decide)) (fun k _ _ => s1 k (by omega)) (o1 _ (by decide)) (fun j h1 h2 => o1 j (by clear hS hg hK o1; (simp only [ne_eq, i_lt, i_le, i_eq, i_add, i_sub, i_neg, i_mul, Int32.reduceToInt] at *; omega)))
  have G1 : m_GR g1 := m_GR_congr hg.R h64.2 (o1 _ (by decide)) ht1.1 (fun j h1 h2 => o1 j (by clear hS hg hK o1; (simp only [ne_eq, i_lt, i_le, i_eq, i_add, i_sub, i_neg, i_mul, Int32.reduceToInt] at *; omega)))
  have B1 : m_B S1 g1 := m_B_congr hS.B (s1 2 (by decide)) (fun j h1 h2 => o1 j (by clear hS hg hK o1; (simp only [ne_eq, i_lt, i_le, i_eq, i_add, i_sub, i_neg, i_mul, Int32.reduceToInt] at *; omega)))
  have GB1 : m_GB g1 := m_GB_congr hg.B (fun j h1 h2 => o1 j (by clear hS hg hK o1; (simp only [ne_eq, i_lt, i_le, i_eq, i_add, i_sub, i_neg, i_mul, Int32.reduceToInt] at *; omega)))
  have L1 : m_L S1 g1 := m_L_congr hS.L (s1 5 (by decide)) (s1 6 (by decide)) (s1 7 (by decide)) (o1 _ (by decide)) (fun j hj => o1 j (by clear hS hg hK o1; (simp only [ne_eq, i_lt, i_le, i_eq, i_add, i_sub, i_neg, i_mul, Int32.reduceToInt] at *; omega)))
  have Ph1 : m_Ph S1 g1 := ⟨R1, G1, B1, GB1, L1, by rw [s10, if_pos rfl, hS.c6, e63], by rw [s10, if_neg (by decide), hS.c10, o1 _ (by decide)], by rw [s1 3 (by decide), hS.d2, o1 _ (by decide)], ht1.2⟩
  have HD1 : ∀ y, m_hd g1 y ↔ m_hd g y := fun y => m_hd_lo h64.2 (o1 _ (by decide)) (fun j h1 h2 => o1 j (by clear hS hg hK o1; (simp only [ne_eq, i_lt, i_le, i_eq, i_add, i_sub, i_neg, i_mul, Int32.reduceToInt] at *; omega))) y
  have lk := m_looked (t := g1 63) B1 GB1
  have k06 : S1 0 6 = g1 63 := by rw [s10, if_pos rfl, hS.c6, e63]
  unfold zS_nextTick
  simp only [fd_lt]
  rw [hS1, k06, lk.1, Option.bind_some]
  have unf : ∀ (n : Nat) (x1 x2 : Int32), ¬ x1 ≤ x2 → zM_pass_16 fu (n + 1) (fd_sg S' g) x1 x2 = if fd_rem (g1 63) (g1 33) = 0 then ((zM_lookAtRecords fu (fd_sg S' g1)).bind fun S11 => ((zM_lookAtBest fu S11).bind fun S13 => zM_pass_16 fu n S13 x1 (x2 + 1))) else zM_pass_16 fu n (fd_sg S' g1) x1 (x2 + 1) := by
    intro n x1 x2 hx
    rw [zM_pass_16]
    simp only [fd_lt, sg_78, sg_up, hg1]
    rw [if_neg hx, zM_bd1, Option.bind_some, if_pos lk.2]
  have T1 : ∀ p : Int32, 0 ≤ p → p < 8 → ∀ c : Int32, 0 ≤ c → c < 3 → g1 (39 + 3 * p + c) = g (39 + 3 * p + c) := by
    intro p p0 p1 c c0 c1
    have := (b_3 p0 p1 c0 c1).2
    exact o1 _ (by clear hS hg hK o1 R1 G1 B1 GB1 L1 Ph1 lk unf HD1; (simp only [ne_eq, i_lt, i_le, i_eq, i_add, i_sub, i_neg, i_mul, Int32.reduceToInt] at *; omega))
  have be1 : ∀ p : Int32, 0 ≤ p → p < 8 → m_be g1 p = m_be g p ∧ m_bp g1 p = m_bp g p := by
    intro p p0 p1
    refine m_be_congr (fun q q0 q1 => ⟨?_, HD1 _⟩)
    have h8 := b_8 q0 q1 p0 p1
    exact o1 _ (by clear hS hg hK o1 R1 G1 B1 GB1 L1 Ph1 lk unf HD1; (simp only [ne_eq, i_lt, i_le, i_eq, i_add, i_sub, i_neg, i_mul, Int32.reduceToInt] at *; omega))
  have P1 : m_P g1 := fun x x0 x1 => by rw [o1 x (by clear hS hg hK o1 R1 G1 B1 GB1 L1 Ph1 lk unf HD1; (simp only [ne_eq, i_lt, i_le, i_eq, i_add, i_sub, i_neg, i_mul, Int32.reduceToInt] at *; omega))]; exact hg.P x x0 x1
  have Q1 : m_Q S1 g1 := fun x x0 x1 => by rw [s1 20 (by decide), hS.Q x x0 x1, o1 x (by clear hS hg hK o1 R1 G1 B1 GB1 L1 Ph1 lk unf HD1; (simp only [ne_eq, i_lt, i_le, i_eq, i_add, i_sub, i_neg, i_mul, Int32.reduceToInt] at *; omega))]
  by_cases cl : fd_rem (g1 63) (g1 33) = 0
  · rw [if_pos cl, if_neg (show ¬ (1 : Int32) = 0 by decide)]
    obtain ⟨S2, g2, c, a1, a2, a3, a4, a5, a6, a60, a7⟩ := m_lookLoop (S' := S') hfu hK fu S1 g1 0 (m_ms_fu (by decide) (Int32.le_trans R1.2.2.1.2 (by decide)) hfu) Ph1 (by decide) R1.2.2.1.1
    have hc6 : c ≤ 6 := by
      have := R1.2.2.1
      unfold m_ms at a5
      clear hS hg hK o1 R1 G1 B1 GB1 L1 Ph1 lk unf HD1 T1 be1 P1 Q1 a1 a2 a3 a4 a6 a7
      (simp only [ne_eq, i_lt, i_le, i_eq, i_add, i_sub, i_neg, i_mul, Int32.reduceToInt] at *; omega)
    have e64 : g2 64 = g1 64 := a4.2.2 _ (by decide)
    have h642 := a3.1.2.2.1
    obtain ⟨S3, g3, b1, b2, b3, b4, b5, b6⟩ := m_dropLoop (S' := S') hfu hK fu S2 g2 (g2 64 - 1) (by unfold m_md; clear hS hg hK o1 R1 G1 B1 GB1 L1 Ph1 lk unf HD1 T1 be1 P1 Q1 a1 a2 a3 a4 a6 a7; (simp only [ne_eq, i_lt, i_le, i_eq, i_add, i_sub, i_neg, i_mul, Int32.reduceToInt] at *; omega)) a3 (by clear hS hg hK o1 R1 G1 B1 GB1 L1 Ph1 lk unf HD1 T1 be1 P1 Q1 a1 a2 a3 a4 a6 a7; (simp only [ne_eq, i_lt, i_le, i_eq, i_add, i_sub, i_neg, i_mul, Int32.reduceToInt] at *; omega)) (by clear hS hg hK o1 R1 G1 B1 GB1 L1 Ph1 lk unf HD1 T1 be1 P1 Q1 a1 a2 a3 a4 a6 a7; (simp only [ne_eq, i_lt, i_le, i_eq, i_add, i_sub, i_neg, i_mul, Int32.reduceToInt] at *; omega))
    have ed : zS_dropSmallOnes fu S2 = some S3 := by
      unfold zS_dropSmallOnes
      simp only [fd_lt]
      rw [a3.1.2.1]
      exact b1
    have f3 : ∀ j : Int32, j < 64 → g3 j = g1 j := fun j hj => by
      rw [b5 j (Or.inl (Int32.lt_trans hj (by decide))) (by clear hS hg hK o1 R1 G1 B1 GB1 L1 Ph1 lk unf HD1 T1 be1 P1 Q1 a1 a2 a3 a4 a6 a7 b3 b5 b6; (simp only [ne_eq, i_lt, i_le, i_eq, i_add, i_sub, i_neg, i_mul, Int32.reduceToInt] at *; omega)) (by clear hS hg hK o1 R1 G1 B1 GB1 L1 Ph1 lk unf HD1 T1 be1 P1 Q1 a1 a2 a3 a4 a6 a7 b3 b5 b6; (simp only [ne_eq, i_lt, i_le, i_eq, i_add, i_sub, i_neg, i_mul, Int32.reduceToInt] at *; omega)), a4.2.2 j (Int32.lt_trans hj (by decide))]
    have f3c : ∀ j : Int32, 65 ≤ j → j < 68 → g3 j = g1 j := fun j h1 h2 => by
      rw [b5 j (Or.inl (Int32.lt_trans h2 (by decide))) (by clear hS hg hK o1 R1 G1 B1 GB1 L1 Ph1 lk unf HD1 T1 be1 P1 Q1 a1 a2 a3 a4 a6 a7 b3 b5 b6; (simp only [ne_eq, i_lt, i_le, i_eq, i_add, i_sub, i_neg, i_mul, Int32.reduceToInt] at *; omega)) (by clear hS hg hK o1 R1 G1 B1 GB1 L1 Ph1 lk unf HD1 T1 be1 P1 Q1 a1 a2 a3 a4 a6 a7 b3 b5 b6; (simp only [ne_eq, i_lt, i_le, i_eq, i_add, i_sub, i_neg, i_mul, Int32.reduceToInt] at *; omega)), a4.2.2 j (Int32.lt_trans h2 (by decide))]
    have s3 : ∀ k : Nat, 20 ≤ k → S3 k = S1 k := fun k hk => by rw [b4 k (by omega) (by omega), a4.1 k (Or.inr hk)]
    have s30 : ∀ j : Int32, j ≠ 10 → S3 0 j = S1 0 j := fun j hj => by rw [b4 0 (by decide) (by decide), a4.2.1 j hj]
    have P3 : m_P g3 := fun x x0 x1 => by rw [f3 x (Int32.lt_trans x1 (by decide))]; exact P1 x x0 x1
    have Q3 : m_Q S3 g3 := fun x x0 x1 => by rw [s3 20 (by omega), Q1 x x0 x1, f3 x (Int32.lt_trans x1 (by decide))]
    have T3 : m_T S3 g3 := by
      intro p p0 p1
      have hT := hS.T p p0 p1
      have key : ∀ c : Int32, 0 ≤ c → c < 3 → g3 (39 + 3 * p + c) = g (39 + 3 * p + c) := by
        intro c c0 c1
        have := (b_3 p0 p1 c0 c1).2
        rw [f3 _ (Int32.lt_trans this.2 (by decide)), T1 p p0 p1 c c0 c1]
      unfold m_T1 at hT ⊢
      rw [key 0 (by decide) (by decide), key 1 (by decide) (by decide), key 2 (by decide) (by decide), s3 21 (by omega), s3 22 (by omega), s1 21 (by decide), s1 22 (by decide)]
      exact hT
    obtain ⟨g4, l1, l2, l3⟩ := m_lookAtBest (S := S') hfu b3.1.2.2.1 b3.2.1
    have g4hi : ∀ j : Int32, 63 ≤ j → g4 j = g3 j := fun j hj => l2 j (Or.inr hj)
    have g4lo : ∀ j : Int32, j < 39 → g4 j = g3 j := fun j hj => l2 j (Or.inl hj)
    have hS310 : S3 0 10 = g1 69 + nI c := by rw [b3.2.2.2.2.2.2.1, b5 _ (by decide) (by decide) (by decide), a6]
    have hS110 : S1 0 10 = g1 69 := Ph1.2.2.2.2.2.2.1
    have fin : ∀ S4 : fd_S, (∀ k : Nat, k ≠ 21 → k ≠ 22 → S4 k = S3 k) → m_T S4 g4 → m_St S4 g4 ∧ m_Go g4 ∧ g4 63 = g 63 + 1 ∧ (∃ c : Nat, c ≤ 6 ∧ g4 70 = g 70 + nI c) ∧ ∀ k : Nat, 23 ≤ k → S4 k = S k := by
      intro S4 h4 hT4
      refine ⟨⟨?_, ?_, ?_, ?_, hT4, ?_, ?_, ?_, ?_, ?_, ?_⟩, ⟨?_, ?_, ?_, ?_, ?_⟩, ?_, ⟨c, hc6, ?_⟩, ?_⟩
      · exact m_R_congr b3.1 (by rw [h4 3 (by decide) (by decide)]) (h4 4 (by decide) (by decide)) (fun k _ _ => h4 k (by omega) (by omega)) (g4hi _ (by decide)) (fun j h1 _ => g4hi j (Int32.le_trans (by decide) h1))
      · exact m_B_congr b3.2.2.1 (h4 2 (by decide) (by decide)) (fun j h1 h2 => g4lo j h2)
      · exact m_L_congr b3.2.2.2.2.1 (h4 5 (by decide) (by decide)) (h4 6 (by decide) (by decide)) (h4 7 (by decide) (by decide)) (g4hi _ (by decide)) (fun j hj => g4hi j (Int32.le_trans (by decide) hj))
      · intro j j0 j1
        rw [h4 20 (by decide) (by decide), Q3 j j0 j1, g4lo j (Int32.lt_trans j1 (by decide))]
      · rw [h4 0 (by decide) (by decide), b3.2.2.2.2.2.1, g4hi _ (by decide)]
      · rw [h4 0 (by decide) (by decide), s30 _ (by decide), s10, if_neg (by decide), hS.c7, g4hi _ (by decide), f3c _ (by decide) (by decide), o1 _ (by decide)]
      · rw [h4 0 (by decide) (by decide), s30 _ (by decide), s10, if_neg (by decide), hS.c8, g4hi _ (by decide), f3c _ (by decide) (by decide), o1 _ (by decide)]
      · rw [h4 0 (by decide) (by decide), s30 _ (by decide), s10, if_neg (by decide), hS.c9, g4hi _ (by decide), f3c _ (by decide) (by decide), o1 _ (by decide)]
      · rw [h4 0 (by decide) (by decide), b3.2.2.2.2.2.2.1, g4hi _ (by decide)]
      · rw [h4 3 (by decide) (by decide), b3.2.2.2.2.2.2.2.1, g4hi _ (by decide)]
      · exact m_GR_congr b3.2.1 b3.1.2.2.1.2 (g4hi _ (by decide)) (by rw [g4hi _ (by decide)]; exact Int32.le_refl _) (fun j h1 _ => g4hi j (Int32.le_trans (by decide) h1))
      · exact m_GB_congr b3.2.2.2.1 (fun j h1 h2 => g4lo j h2)
      · intro j j0 j1
        rw [g4lo j (Int32.lt_trans j1 (by decide))]
        exact P3 j j0 j1
      · exact m_Ok_up b3.1.2.2.1.2 l2 l3
      · rw [g4hi _ (by decide), f3 _ (by decide)]
        exact ht1.2.1
      · rw [g4hi _ (by decide), f3 _ (by decide), e63]
      · rw [g4hi _ (by decide), b5 _ (by decide) (by decide) (by decide), a60, o1 _ (by decide)]
      · intro k hk
        rw [h4 k (by omega) (by omega), s3 k (by omega), s1 k (by omega)]
    have ref : ∀ (n : Nat) (x1 x2 : Int32), ¬ x1 ≤ x2 → zM_pass_16 fu (n + 1) (fd_sg S' g) x1 x2 = zM_pass_16 fu n (fd_sg S' g4) x1 (x2 + 1) := by
      intro n x1 x2 hx
      rw [unf n x1 x2 hx, if_pos cl]
      unfold zM_lookAtRecords
      rw [a2, b2, Option.bind_some, l1, Option.bind_some]
    rw [a1, ed, Option.bind_some]
    by_cases cc : c = 0
    · subst cc
      rw [if_pos (by rw [hS310, hS110, show nI 0 = 0 from rfl, Int32.add_zero])]
      refine ⟨S3, g4, rfl, ref, fin S3 (fun _ _ _ => rfl) (fun p p0 p1 => m_T1_same (T3 p p0 p1) (l3 p p0 p1) ?_ rfl rfl)⟩
      have hbe : m_be g3 p = m_be g1 p ∧ m_bp g3 p = m_bp g1 p := by
        refine m_be_congr (fun q q0 q1 => ⟨?_, by rw [b6 _, a7 rfl _]⟩)
        have h8 := b_8 q0 q1 p0 p1
        exact f3 _ (Int32.lt_trans h8.2.2 (by decide))
      have key : ∀ c : Int32, 0 ≤ c → c < 3 → g3 (39 + 3 * p + c) = g (39 + 3 * p + c) := by
        intro c c0 c1
        have := (b_3 p0 p1 c0 c1).2
        rw [f3 _ (Int32.lt_trans this.2 (by decide)), T1 p p0 p1 c c0 c1]
      rw [key 0 (by decide) (by decide), key 1 (by decide) (by decide), hbe.1, hbe.2, (be1 p p0 p1).1, (be1 p p0 p1).2]
      exact hg.O p p0 p1
    · rw [if_neg (show ¬ S3 0 10 = S1 0 10 by
        rw [hS310, hS110, i_eq, i_add, nI_toInt (by omega)]
        clear hS hg hK o1 R1 G1 B1 GB1 L1 Ph1 lk unf HD1 T1 be1 P1 Q1 a1 a2 a3 a4 a6 a7 b3 b5 b6 f3 f3c s3 s30 P3 Q3 T3 l2 l3 g4hi g4lo fin ref hS310 hS110 a60 ht ht0 ht1 h64 h642 e63 e64 cl s1 s10 b1 b2 b4 ed l1 a5 k06
        have := Int32.le_toInt (g1 69)
        have := Int32.toInt_lt (g1 69)
        omega)]
      obtain ⟨S4, q1, q2, q3⟩ := m_refreshAll hfu b3.2.1 P3 b3.1 Q3 fu S3 0 (m_ms_fu (by decide) (by decide) hfu) (by decide) (by decide) (fun _ _ _ => rfl) (fun p p0 p1 => absurd p1 (Int32.not_lt.mpr p0)) (fun _ _ _ => ⟨rfl, rfl⟩)
      exact ⟨S4, g4, q1, ref, fin S4 q2 (fun p p0 p1 => m_T1_up P3 p0 p1 (T3 p p0 p1) (l3 p p0 p1) (q3 p p0 p1).1 (q3 p p0 p1).2)⟩
  · rw [if_neg cl, if_pos rfl]
    refine ⟨S1, g1, rfl, fun n x1 x2 hx => by rw [unf n x1 x2 hx, if_neg cl], ⟨R1, B1, L1, Q1, ?_, k06, ?_, ?_, ?_, ?_, ?_⟩, ⟨G1, GB1, P1, ?_, ht1.2.1⟩, e63, ⟨0, by omega, by rw [o1 _ (by decide), show nI 0 = 0 from rfl, Int32.add_zero]⟩, fun k hk => s1 k (by omega)⟩
    · intro p p0 p1
      have hT := hS.T p p0 p1
      unfold m_T1 at hT ⊢
      rw [T1 p p0 p1 0 (by decide) (by decide), T1 p p0 p1 1 (by decide) (by decide), T1 p p0 p1 2 (by decide) (by decide), s1 21 (by decide), s1 22 (by decide)]
      exact hT
    · rw [s10, if_neg (by decide), hS.c7, o1 _ (by decide)]
    · rw [s10, if_neg (by decide), hS.c8, o1 _ (by decide)]
    · rw [s10, if_neg (by decide), hS.c9, o1 _ (by decide)]
    · rw [s10, if_neg (by decide), hS.c10, o1 _ (by decide)]
    · rw [s1 3 (by decide), hS.d2, o1 _ (by decide)]
    · intro p p0 p1
      rw [T1 p p0 p1 0 (by decide) (by decide), T1 p p0 p1 1 (by decide) (by decide), (be1 p p0 p1).1, (be1 p p0 p1).2]
      exact hg.O p p0 p1
end
section
/-! ===== pass ===== -/
theorem m_held_loop {fu : Nat} {S S' : fd_S} {g : Int32 → Int32} (hR : m_R S g) (hG : m_GR g) : ∀ (n : Nat) (v i : Int32), m_ms (g 64) i < n → 0 ≤ i → i ≤ g 64 → ∃ r, zQ_heldOnes_4 fu n S v i = some r ∧ zM_heldOnes_4 fu n (fd_sg S' g) v i = some r := by
  have h64 := hR.2.2.1
  intro n
  induction n with
  | zero => intro v i h; omega
  | succ n ih =>
    intro v i hn i0 i1
    rw [zQ_heldOnes_4, zM_heldOnes_4]
    simp only [fd_lt, sg_78, m_rc]
    rw [hR.2.1]
    by_cases ci : g 64 ≤ i
    · rw [if_pos ci, if_pos ci]
      exact ⟨v, rfl, rfl⟩
    have il : i < g 64 ∧ i < 6 ∧ 0 ≤ i + 1 ∧ i + 1 ≤ g 64 := by clear hR hG ih; (simp only [ne_eq, i_lt, i_le, i_eq, i_add, i_sub, i_neg, i_mul, Int32.reduceToInt] at *; omega)
    have hms := m_ms_up ci
    have hv := (hR.2.2.2.1 i i0 il.1).2.2.2.1
    have hgr := (hG.1 i i0 il.1).2.2.2.1
    unfold m_cV at hv
    rw [if_neg ci, if_neg ci, if_pos ⟨i0, il.2.1⟩, zM_isHeld_eq i0 il.2.1, Option.bind_some, Int32.add_zero]
    change ∃ r, (if fd_rk (m_rw S i) then (if (S (m_rw S i) 3) = 0 then _ else _) else _) = _ ∧ _
    rw [if_pos (hR.1.rk i0 il.2.1), hv]
    by_cases c0 : g (zM_at i 3) = 0
    · rw [if_pos c0, if_neg (show ¬ g (zM_at i 3) = 1 by rw [c0]; decide), if_pos rfl]
      exact ih v (i + 1) (by omega) il.2.2.1 il.2.2.2
    · have c1 : g (zM_at i 3) = 1 := hgr.elim (fun z => absurd z c0) id
      rw [if_neg c0, if_pos c1, if_neg (show ¬ (1 : Int32) = 0 by decide)]
      exact ih (v + 1) (i + 1) (by omega) il.2.2.1 il.2.2.2
theorem m_heldOnes {fu : Nat} {S S' : fd_S} {g : Int32 → Int32} (hfu : 10000 ≤ fu) (hR : m_R S g) (hG : m_GR g) : ∃ r, zQ_heldOnes fu S = some r ∧ zM_heldOnes fu (fd_sg S' g) = some r :=
  m_held_loop hR hG fu 0 0 (m_ms_fu (by decide) (Int32.le_trans hR.2.2.1.2 (by decide)) hfu) (by decide) hR.2.2.1.1
theorem m_pass_loop {fu : Nat} {S' : fd_S} {x : Int32} (hfu : 10000 ≤ fu) (hK : m_K S') (hx : 1 ≤ x ∧ x ≤ 200) : ∀ (n : Nat) (S : fd_S) (g : Int32 → Int32) (i : Int32), m_ms x i < n → 0 ≤ i → i ≤ x → m_St S g → m_Go g → (g 63).toInt ≤ 499000 + i.toInt → (0 ≤ g 70 ∧ (g 70).toInt ≤ 1100000 + 6 * i.toInt) →
    ∃ r S1 g2, zF_pass_16 fu n S x i = some (r, S1) ∧ zM_pass_16 fu n (fd_sg S' g) x i = some (r, fd_sg S' g2) ∧ m_St S1 g2 ∧ m_Go g2 ∧ (g2 63).toInt ≤ (g 63).toInt + (x.toInt - i.toInt) ∧ ((g 70).toInt ≤ (g2 70).toInt ∧ (g2 70).toInt ≤ (g 70).toInt + 6 * (x.toInt - i.toInt)) ∧ ∀ k : Nat, 23 ≤ k → S1 k = S k := by
  intro n
  induction n with
  | zero => intro S g i h; omega
  | succ n ih =>
    intro S g i hn i0 i1 hS hg ht h70
    by_cases ci : x ≤ i
    · obtain ⟨r, r1, r2⟩ := m_heldOnes (S' := S') hfu hS.R hg.R
      rw [zF_pass_16, zM_pass_16, if_pos ci, if_pos ci, r1, r2]
      refine ⟨r, S, g, rfl, rfl, hS, hg, ?_, ?_, fun _ _ => rfl⟩
      · have := i_le.mp i1
        omega
      · have := i_le.mp i1
        omega
    · have hms := m_ms_up ci
      have il : 0 ≤ i + 1 ∧ i + 1 ≤ x ∧ (i + 1).toInt = i.toInt + 1 := by clear hS hg ih hK; (simp only [ne_eq, i_lt, i_le, i_eq, i_add, i_sub, i_neg, i_mul, Int32.reduceToInt] at *; omega)
      have ht2 : g 63 ≤ 499999 := by clear hS hg ih hK; (simp only [ne_eq, i_lt, i_le, i_eq, i_add, i_sub, i_neg, i_mul, Int32.reduceToInt] at *; omega)
      have ht0 := hg.t
      obtain ⟨S1, g1, a1, a2, a3, a4, a5, ⟨c, hc, a70⟩, a6⟩ := m_nextTick (S' := S') hfu hS hg hK ht2
      have e63 : (g1 63).toInt = (g 63).toInt + 1 := by
        rw [a5]
        clear hS hg ih hK a1 a2 a3 a4 a5 a6 a70
        (simp only [ne_eq, i_lt, i_le, i_eq, i_add, i_sub, i_neg, i_mul, Int32.reduceToInt] at *; omega)
      have e70 : (g1 70).toInt = (g 70).toInt + c := by
        have e := nI_toInt (n := c) (by omega)
        have i2 := i_le.mp hx.2
        have i3 := i_lt.mp (Int32.not_le.mp ci)
        rw [a70, i_add, e]
        clear hS hg ih hK a1 a2 a3 a4 a5 a6 a70 e
        (simp only [ne_eq, i_lt, i_le, i_eq, i_add, i_sub, i_neg, i_mul, Int32.reduceToInt] at *; omega)
      obtain ⟨r, S2, g2, b1, b2, b3, b4, b5, b50, b6⟩ := ih S1 g1 (i + 1) (by omega) il.1 il.2.1 a3 a4 (by omega) ⟨by have := i_le.mp h70.1; rw [i_le]; simp only [Int32.reduceToInt] at *; omega, by omega⟩
      rw [zF_pass_16, if_neg ci, a1, Option.bind_some, a2 n x i ci]
      exact ⟨r, S2, g2, b1, b2, b3, b4, by omega, by omega, fun k hk => by rw [b6 k hk, a6 k hk]⟩
theorem m_pass {fu : Nat} {x : Int32} (hfu : 10000 ≤ fu) : m_X (fun S => zF_pass fu S x) (fun S => zM_pass fu S x) := by
  intro S S' g hS hg hK ht h70
  dsimp only
  unfold zF_pass zM_pass
  by_cases c : 1 ≤ x ∧ x ≤ 200
  · rw [if_neg (m_within1 c), if_neg (m_in1 c)]
    have ht' : (g 63).toInt ≤ 400000 := i_le.mp ht
    obtain ⟨r, S1, g2, a1, a2, a3, a4, a5, a50, a6⟩ := m_pass_loop (S' := S') hfu hK c fu S g 0 (m_ms_fu (by decide) (Int32.le_trans c.2 (by decide)) hfu) (by decide) (by clear hS hg hK; (simp only [ne_eq, i_lt, i_le, i_eq, i_add, i_sub, i_neg, i_mul, Int32.reduceToInt] at *; omega)) hS hg (by simp only [Int32.reduceToInt]; omega) ⟨h70.1, by have := i_le.mp h70.2; simp only [Int32.reduceToInt] at this ⊢; omega⟩
    have := i_le.mp c.2
    simp only [Int32.reduceToInt] at a5 a50 this
    exact ⟨r, S1, g2, a1, a2, a3, a4, by omega, by omega, a6⟩
  · rw [if_pos (m_within0 c), if_pos (m_in0 c)]
    exact m_X0 rfl rfl hS hg
end
section
/-! ===== what is told ===== -/
def m_Y (c m : fd_S → Option Int32) : Prop := ∀ (S S' : fd_S) (g : Int32 → Int32), m_St S g → m_Go g → m_K S' → g 63 ≤ 400000 → (0 ≤ g 70 ∧ g 70 ≤ 1100000) → ∃ r, c S = some r ∧ m (fd_sg S' g) = some r
theorem m_bound {x : Int32} : m_Y (fun S => zF_bound S x) (fun S => zM_bound S x) := by
  intro S S' g hS hg hK ht h70
  dsimp only
  unfold zF_bound zM_bound
  by_cases c : 0 ≤ x ∧ x ≤ 6
  · have hx : x < 7 ∧ 0 ≤ 32 + x ∧ 32 + x < 275 := by clear hS hg hK; (simp only [ne_eq, i_lt, i_le, i_eq, i_add, i_sub, i_neg, i_mul, Int32.reduceToInt] at *; omega)
    rw [if_neg (m_within1 c), if_neg (m_in1 c), if_pos ⟨c.1, hx.1⟩, hS.B x c.1 hx.1, zM_bounded_eq x hx.2]
    exact ⟨_, rfl, rfl⟩
  · rw [if_pos (m_within0 c), if_pos (m_in0 c)]
    exact ⟨_, rfl, rfl⟩
theorem m_record {x : Int32} : m_Y (fun S => zF_record S x) (fun S => zM_record S x) := by
  intro S S' g hS hg hK ht h70
  dsimp only
  unfold zF_record zM_record
  have h64 := hS.R.2.2.1
  simp only [sg_78, fd_lt, m_rc]
  rw [hS.R.2.1]
  by_cases c : 0 ≤ x ∧ x ≤ g 64 - 1
  · have hx : x < g 64 ∧ x < 6 := by clear hS hg hK; (simp only [ne_eq, i_lt, i_le, i_eq, i_add, i_sub, i_neg, i_mul, Int32.reduceToInt] at *; omega)
    have hv := (hS.R.2.2.2.1 x c.1 hx.1).1
    unfold m_cV at hv
    rw [if_neg (m_within1 c), if_neg (m_in1 c), if_pos ⟨c.1, hx.2⟩, if_pos (m_at_in c.1 hx.2 (by decide) (by decide))]
    change ∃ r, (if fd_rk (m_rw S x) then some (S (m_rw S x) 0) else none) = some r ∧ _
    rw [if_pos (hS.R.1.rk c.1 hx.2), hv]
    exact ⟨_, rfl, rfl⟩
  · rw [if_pos (m_within0 c), if_pos (m_in0 c)]
    exact ⟨_, rfl, rfl⟩
theorem b_rk4 : ∀ b : Nat, b < 10 → ∀ e : Nat, e < 4 → fd_rem (nI b * 4 + nI e) 4 = nI e ∧ (nI b * 4 + nI e) / 4 = nI b := by decide
theorem m_best {x y : Int32} : m_Y (fun S => zF_best S x y) (fun S => zM_best S x y) := by
  intro S S' g hS hg hK ht h70
  dsimp only
  unfold zF_best zM_best
  by_cases c1 : ¬ (0 ≤ x ∧ x ≤ 7)
  · rw [if_pos (m_within0 c1), if_pos (m_in0 c1)]
    exact ⟨_, rfl, rfl⟩
  have c1 := Decidable.not_not.mp c1
  rw [if_neg (m_within1 c1), if_neg (m_in1 c1)]
  by_cases c2 : ¬ (0 ≤ y ∧ y ≤ 2)
  · rw [if_pos (m_within0 c2), if_pos (m_in0 c2)]
    exact ⟨_, rfl, rfl⟩
  have c2 := Decidable.not_not.mp c2
  have x8 : x < 8 ∧ y < 3 := by clear hS hg hK; (simp only [ne_eq, i_lt, i_le, i_eq, i_add, i_sub, i_neg, i_mul, Int32.reduceToInt] at *; omega)
  rw [if_neg (m_within1 c2), if_neg (m_in1 c2), if_pos (b_3in c1.1 x8.1 c2.1 x8.2), sg_78]
  have hT := hS.T x c1.1 x8.1
  unfold m_T1 at hT
  unfold zS_tellBest
  simp only [if_pos (show 0 ≤ x ∧ x < 8 from ⟨c1.1, x8.1⟩)]
  rw [hT.1, hT.2.1]
  by_cases y2 : y = 2
  · rw [if_pos y2, y2]
    exact ⟨_, rfl, rfl⟩
  rw [if_neg y2]
  rcases hT.2.2 with ⟨w1, w2⟩ | ⟨w1, w2⟩
  · rw [w1, w2, if_pos (by decide)]
    refine ⟨-6, rfl, ?_⟩
    by_cases y0 : y = 0
    · rw [y0, w1]
    · have y1 : y = 1 := by clear hS hg hK hT; (simp only [ne_eq, i_lt, i_le, i_eq, i_add, i_sub, i_neg, i_mul, Int32.reduceToInt] at *; omega)
      rw [y1, w2]
  · have hnr : ¬ m_rk (g (39 + 3 * x + 0)) (g (39 + 3 * x + 1)) = -6 := by
      unfold m_rk
      rw [if_neg (Int32.not_lt.mpr w1.1)]
      exact m_rk_fr w1 w2
    have er : m_rk (g (39 + 3 * x + 0)) (g (39 + 3 * x + 1)) = g (39 + 3 * x + 1) * 4 + g (39 + 3 * x + 0) := by
      unfold m_rk
      rw [if_neg (Int32.not_lt.mpr w1.1)]
    obtain ⟨e, he, ee⟩ := m_nat (x := g (39 + 3 * x + 0)) (M := 3) w1.1 (show g (39 + 3 * x + 0) ≤ (3 : Int32) by clear hS hg hK hT hnr er; (simp only [ne_eq, i_lt, i_le, i_eq, i_add, i_sub, i_neg, i_mul, Int32.reduceToInt] at *; omega)) (by decide)
    obtain ⟨b, hb, eb⟩ := m_nat (x := g (39 + 3 * x + 1)) (M := 9) w2.1 w2.2 (by decide)
    rw [if_neg hnr, er, ee, eb, (b_rk4 b (by omega) e (by omega)).1, (b_rk4 b (by omega) e (by omega)).2]
    by_cases y0 : y = 0
    · rw [if_pos y0, y0, ee]
      exact ⟨_, rfl, rfl⟩
    · have y1 : y = 1 := by clear hS hg hK hT hnr er ee eb; (simp only [ne_eq, i_lt, i_le, i_eq, i_add, i_sub, i_neg, i_mul, Int32.reduceToInt] at *; omega)
      rw [if_neg y0, y1, eb]
      exact ⟨_, rfl, rfl⟩
theorem m_lgLoop {fu : Nat} {S S' : fd_S} {g : Int32 → Int32} (hfu : 10000 ≤ fu) (hB : m_B S g) (hGB : m_GB g) (hK : m_K S') : ∀ (n : Nat) (x : Int32), m_ms 5001 x < n → 0 ≤ x → x ≤ 5001 → ∃ r, zF_longest_10 fu n S x = some r ∧ zM_longest_2 fu n (fd_sg S' g) x = some r := by
  intro n
  induction n with
  | zero => intro x h; omega
  | succ n ih =>
    intro x hn x0 x1
    rw [zF_longest_10, zM_longest_2]
    by_cases c : 5000 < x
    · rw [if_pos c, if_pos c]
      exact ⟨_, rfl, rfl⟩
    have hx : ¬ 5001 ≤ x ∧ 0 ≤ x + 1 ∧ x + 1 ≤ 5001 ∧ x ≤ 1000000 := by clear hB hGB hK ih; (simp only [ne_eq, i_lt, i_le, i_eq, i_add, i_sub, i_neg, i_mul, Int32.reduceToInt] at *; omega)
    have hms := m_ms_up hx.1
    have hb6 := hGB.2.2.2.2.2.2
    obtain ⟨P, p1, p2, -, -⟩ := m_less (S' := S') (v := g 38) (t := x) hfu hB.e0 hGB.1 hK.1 ⟨Int32.le_trans (by decide) hb6.1, hb6.2⟩ ⟨x0, hx.2.2.2⟩
    simp only [fd_lt, zM_bd6, zM_bd5, Option.bind_some]
    rw [if_neg c, if_neg c, hB.e6, hB.e5, p1, p2, Option.bind_some, Option.bind_some]
    by_cases cP : g 37 ≤ P
    · rw [if_pos cP, if_pos cP]
      exact ih (x + 1) (by omega) hx.2.1 hx.2.2.1
    · rw [if_neg cP, if_neg cP]
      exact ⟨_, rfl, rfl⟩
theorem m_longest {fu : Nat} (hfu : 10000 ≤ fu) : m_Y (fun S => zF_longest fu S) (fun S => zM_longest fu S) := by
  intro S S' g hS hg hK ht h70
  dsimp only
  unfold zF_longest zM_longest
  exact m_lgLoop hfu hS.B hg.B hK fu 0 (m_ms_fu (by decide) (by decide) hfu) (by decide) (by decide)
theorem m_whLoop {fu : Nat} {S S' : fd_S} {g : Int32 → Int32} {i : Int32} (hfu : 10000 ≤ fu) (hS : m_St S g) (hg : m_Go g) (hK : m_K S') (ht : g 63 ≤ 400000) (i0 : 0 ≤ i) (i1 : i < g 64) : ∀ (n : Nat) (d x : Int32), m_ms 5001 x < n → 1 ≤ x → x ≤ 5001 → ∃ r, zS_letGoAt_21 fu n S (m_rw S i) d x = some r ∧ zM_when_59 fu n (fd_sg S' g) i d (g 63 + x) = some r := by
  have ht0 := hg.t
  have hgr := hg.R.1 i i0 i1
  intro n
  induction n with
  | zero => intro d x h; omega
  | succ n ih =>
    intro d x hn x0 x1
    rw [zS_letGoAt_21, zM_when_59]
    simp only [fd_lt, sg_78]
    by_cases c : 5000 < x
    · rw [if_pos c, if_pos (by clear hS hg hK ih hgr; (simp only [ne_eq, i_lt, i_le, i_eq, i_add, i_sub, i_neg, i_mul, Int32.reduceToInt] at *; omega))]
      exact ⟨_, rfl, rfl⟩
    have hx : ¬ 5001 ≤ x ∧ 1 ≤ x + 1 ∧ x + 1 ≤ 5001 ∧ ¬ g 63 + 5000 < g 63 + x ∧ g 63 ≤ g 63 + x ∧ 0 ≤ g 63 + x ∧ g 63 + x ≤ 500000 ∧ g 63 + x ≤ 1000000 := by clear hS hg hK ih hgr; (simp only [ne_eq, i_lt, i_le, i_eq, i_add, i_sub, i_neg, i_mul, Int32.reduceToInt] at *; omega)
    have hms := m_ms_up hx.1
    have lk := m_looked (t := g 63 + x) hS.B hg.B
    obtain ⟨P, p1, p2, p3⟩ := m_below (S' := S') (t := g 63 + x) hfu hS.R hg.R hS.B hg.B hK i0 i1 (Int32.le_trans hgr.2.2.1.2 hx.2.2.2.2.1) hx.2.2.2.2.2.2.2
    obtain ⟨D, d1, d2⟩ := m_due (S' := S') (t := g 63 + x) hfu hS.R hg.R hS.B hg.B hK i0 i1 hx.2.2.2.2.2.1 (Int32.le_trans hgr.2.2.1.2 hx.2.2.2.2.1) hx.2.2.2.2.2.2.1
    rw [if_neg c, if_neg hx.2.2.2.1, hS.c6, lk.1, p1, p2, d1, d2, zM_bd1, zM_bd5]
    simp only [Option.bind_some]
    rw [if_pos lk.2, show g 63 + x + 1 = g 63 + (x + 1) from Int32.add_assoc _ _ _]
    have nx : ∀ e, ∃ r, zS_letGoAt_21 fu n S (m_rw S i) e (x + 1) = some r ∧ zM_when_59 fu n (fd_sg S' g) i e (g 63 + (x + 1)) = some r := fun e => ih e (x + 1) (by omega) hx.2.1 hx.2.2.1
    by_cases cd : g 63 + x < d
    · rw [if_pos cd]
      by_cases cl : fd_rem (g 63 + x) (g 33) = 0
      · rw [if_pos cl, if_pos cd]
        exact nx d
      · rw [if_neg cl]
        exact nx d
    · rw [if_neg cd]
      by_cases cl : fd_rem (g 63 + x) (g 33) = 0
      · rw [if_pos cl, if_neg (show ¬ (1 : Int32) = 0 by decide), if_pos cl, if_neg cd]
        by_cases cP : P < g 37
        · rw [if_pos cP, if_neg (show ¬ (1 : Int32) = 0 by decide), if_neg (Int32.not_le.mpr cP)]
          exact ⟨_, rfl, rfl⟩
        · rw [if_neg cP, if_pos rfl, if_pos (Int32.not_lt.mp cP)]
          exact nx D
      · rw [if_neg cl, if_pos rfl, if_neg cl]
        exact nx d
theorem m_when {fu : Nat} {a b : Int32} (hfu : 10000 ≤ fu) : m_Y (fun S => zF_when fu S a b) (fun S => zM_when fu S a b) := by
  intro S S' g hS hg hK ht h70
  dsimp only
  unfold zF_when zM_when
  rcases m_isRoute a b with ⟨h1, h2⟩ | ⟨h1, h2, ha, hb⟩
  · rw [if_pos h1, if_pos h2]
    exact ⟨_, rfl, rfl⟩
  have h64 := hS.R.2.2.1
  obtain ⟨r, er, hix⟩ := zM_recordOf_eq (S := S') (g := g) hfu h64 (8 * a + b)
  rw [if_neg h1, if_neg h2, m_routeOf, er, Option.bind_some, zQ_find_eq hfu hS.R hg.R hix, Option.bind_some]
  simp only [fd_lt, sg_78]
  unfold zS_letGoAt m_fd fd_on
  rcases hix with ⟨e, -⟩ | ⟨r0, r1, hr⟩
  · subst e
    rw [if_pos (by decide), if_pos (by decide)]
    exact ⟨_, rfl, rfl⟩
  · have r6 : r < 6 := by clear hS hg hK; (simp only [ne_eq, i_lt, i_le, i_eq, i_add, i_sub, i_neg, i_mul, Int32.reduceToInt] at *; omega)
    have hv := hS.R.2.2.2.1 r r0 r1
    have hgr := (hg.R.1 r r0 r1).2.2.2.1
    unfold m_cV at hv
    rw [if_neg (Int32.not_lt.mpr r0), if_neg (Int32.not_lt.mpr r0), zM_isHeld_eq r0 r6, Option.bind_some, if_pos (m_at_in r0 r6 (by decide) (by decide))]
    dsimp only
    simp only [fd_lt]
    rw [if_pos (hS.R.1.rk r0 r6), hv.2.2.2.1, hv.2.2.2.2.1]
    by_cases c0 : g (zM_at r 3) = 0
    · rw [if_pos c0, if_neg (show ¬ g (zM_at r 3) = 1 by rw [c0]; decide), if_pos rfl]
      exact ⟨_, rfl, rfl⟩
    · have c1 : g (zM_at r 3) = 1 := hgr.elim (fun z => absurd z c0) id
      rw [if_neg c0, if_pos c1, if_neg (show ¬ (1 : Int32) = 0 by decide)]
      obtain ⟨v, v1, v2⟩ := m_whLoop (S' := S') hfu hS hg hK ht r0 r1 fu (g (zM_at r 4)) 1 (m_ms_fu (by decide) (by decide) hfu) (by decide) (by decide)
      rw [v1, v2]
      exact ⟨_, rfl, rfl⟩
end
section
theorem m_later {fu : Nat} {a b t : Int32} (hfu : 10000 ≤ fu) : m_Y (fun S => zF_later fu S a b t) (fun S => zM_later fu S a b t) := by
  intro S S' g hS hg hK ht h70
  dsimp only
  unfold zF_later zM_later
  rcases m_isRoute a b with ⟨h1, h2⟩ | ⟨h1, h2, ha, hb⟩
  · rw [if_pos h1, if_pos h2]
    exact ⟨_, rfl, rfl⟩
  rw [if_neg h1, if_neg h2]
  by_cases c : ¬ (0 ≤ t ∧ t ≤ 2000)
  · rw [if_pos (m_within0 c), if_pos (m_in0 c)]
    exact ⟨_, rfl, rfl⟩
  have c := Decidable.not_not.mp c
  have h64 := hS.R.2.2.1
  have ht0 := hg.t
  obtain ⟨r, er, hix⟩ := zM_recordOf_eq (S := S') (g := g) hfu h64 (8 * a + b)
  rw [if_neg (m_within1 c), if_neg (m_in1 c), m_routeOf, er, Option.bind_some, zQ_find_eq hfu hS.R hg.R hix, Option.bind_some, sg_78, hS.c6]
  unfold m_fd
  rcases hix with ⟨e, -⟩ | ⟨r0, r1, hr⟩
  · subst e
    rw [if_pos (by decide), if_neg (by decide)]
    exact ⟨_, rfl, rfl⟩
  · have hgr := hg.R.1 r r0 r1
    have htt : g 63 ≤ g 63 + t ∧ g 63 + t ≤ 1000000 := by clear hS hg hK hgr; (simp only [ne_eq, i_lt, i_le, i_eq, i_add, i_sub, i_neg, i_mul, Int32.reduceToInt] at *; omega)
    obtain ⟨P, p1, p2, -, -⟩ := m_penaltyAt (S' := S') (t := g 63 + t) hfu hS.R hg.R hS.B.e0 hg.B hK r0 r1 (Int32.le_trans hgr.2.2.1.2 htt.1) htt.2
    rw [if_neg (Int32.not_lt.mpr r0), if_pos r0, p1, p2]
    exact ⟨_, rfl, rfl⟩
theorem m_route {fu : Nat} {a b w : Int32} (hfu : 10000 ≤ fu) : m_Y (fun S => zF_route fu S a b w) (fun S => zM_route fu S a b w) := by
  intro S S' g hS hg hK ht h70
  dsimp only
  unfold zF_route zM_route
  rcases m_isRoute a b with ⟨h1, h2⟩ | ⟨h1, h2, ha, hb⟩
  · rw [if_pos h1, if_pos h2]
    exact ⟨_, rfl, rfl⟩
  rw [if_neg h1, if_neg h2]
  by_cases c : ¬ (0 ≤ w ∧ w ≤ 6)
  · rw [if_pos (m_within0 c), if_pos (m_in0 c)]
    exact ⟨_, rfl, rfl⟩
  have c := Decidable.not_not.mp c
  have h64 := hS.R.2.2.1
  have ht0 := hg.t
  obtain ⟨r, er, hix⟩ := zM_recordOf_eq (S := S') (g := g) hfu h64 (8 * a + b)
  have hx := (b_8 ha.1 ha.2 hb.1 hb.2).2
  have hx2 : 0 ≤ 8 * a + b ∧ 8 * a + b < 275 := ⟨hx.1, Int32.lt_trans hx.2 (by decide)⟩
  simp only [fd_lt, sg_78, Int32.zero_add, m_routeOf]
  rw [if_neg (m_within1 c), if_neg (m_in1 c), er, Option.bind_some, zQ_find_eq hfu hS.R hg.R hix, Option.bind_some]
  by_cases c0 : w = 0
  · rw [if_pos c0, if_pos c0, if_pos hx, if_pos hx2, hS.Q _ hx.1 hx.2]
    exact ⟨_, rfl, rfl⟩
  rw [if_neg c0, if_neg c0]
  obtain ⟨v, ev, hv, hv2⟩ := zS_isHeld_eq (fu := fu) hS.R hg.R hix
  have hhd := m_ix_hd hg.R hix
  unfold zS_tellRecord m_fd fd_on
  unfold m_fd at ev
  rcases hix with ⟨e, -⟩ | ⟨r0, r1, hr⟩
  · subst e
    rw [if_pos (by decide)] at ev ⊢
    have v0 : v = 0 := hv.mpr (fun z => absurd (hhd.mp z).1 (by decide))
    dsimp only
    rw [ev, hS.c6, v0]
    simp only [Option.bind_some, if_neg (show ¬ (0 : Int32) ≤ -6 by decide), if_pos (show (-6 : Int32) < 0 by decide)]
    by_cases w1 : w = 1
    · simp only [if_pos w1]
      exact ⟨_, rfl, rfl⟩
    simp only [if_neg w1]
    by_cases w2 : w = 2
    · simp only [if_pos w2]
      exact ⟨_, rfl, rfl⟩
    simp only [if_neg w2]
    by_cases w3 : w = 3
    · simp only [if_pos w3]
      exact ⟨_, rfl, rfl⟩
    simp only [if_neg w3]
    by_cases w4 : w = 4
    · simp only [if_pos w4]
      exact ⟨_, rfl, rfl⟩
    simp only [if_neg w4]
    by_cases w5 : w = 5
    · simp only [if_pos w5]
      exact ⟨_, rfl, rfl⟩
    simp only [if_neg w5]
    exact ⟨_, rfl, rfl⟩
  · have r6 : r < 6 := by clear hS hg hK; (simp only [ne_eq, i_lt, i_le, i_eq, i_add, i_sub, i_neg, i_mul, Int32.reduceToInt] at *; omega)
    have hgr := hg.R.1 r r0 r1
    have hrv := hS.R.2.2.2.1 r r0 r1
    unfold m_cV at hrv
    obtain ⟨P, p1, p2, -, -⟩ := m_penaltyAt (S' := S') (t := g 63) hfu hS.R hg.R hS.B.e0 hg.B hK r0 r1 hgr.2.2.1.2 (Int32.le_trans ht (by decide))
    rw [if_neg (Int32.not_lt.mpr r0)] at ev ⊢
    have a1 := m_at_in r0 r6 (show (0 : Int32) ≤ 1 by decide) (by decide)
    have a2 := m_at_in r0 r6 (show (0 : Int32) ≤ 2 by decide) (by decide)
    have a4 := m_at_in r0 r6 (show (0 : Int32) ≤ 4 by decide) (by decide)
    have a5 := m_at_in r0 r6 (show (0 : Int32) ≤ 5 by decide) (by decide)
    dsimp only
    rw [ev, hS.c6, p1, p2, zM_isHeld_eq r0 r6, hrv.2.1, hrv.2.2.1, hrv.2.2.2.2.1, hrv.2.2.2.2.2]
    simp only [Option.bind_some, if_pos r0, if_neg (Int32.not_lt.mpr r0), if_pos a1, if_pos a2, if_pos a4, if_pos a5, if_pos (hS.R.1.rk r0 r6)]
    by_cases w1 : w = 1
    · simp only [if_pos w1]
      exact ⟨_, rfl, rfl⟩
    simp only [if_neg w1]
    have hvv : (v = 0 ∧ ¬ g (zM_at r 3) = 1) ∨ (v = 1 ∧ g (zM_at r 3) = 1) := by
      rcases hv2 with h | h
      · exact Or.inl ⟨h, fun z => hv.mp h (hhd.mpr ⟨r0, z⟩)⟩
      · refine Or.inr ⟨h, ?_⟩
        rcases hgr.2.2.2.1 with z | z
        · have : v = 0 := hv.mpr (fun y => absurd (hhd.mp y).2 (by rw [z]; decide))
          rw [h] at this
          exact absurd this (by decide)
        · exact z
    by_cases w2 : w = 2
    · simp only [if_pos w2]
      rcases hvv with ⟨e1, e2⟩ | ⟨e1, e2⟩
      · rw [e1, if_neg e2]
        exact ⟨_, rfl, rfl⟩
      · rw [e1, if_pos e2]
        exact ⟨_, rfl, rfl⟩
    simp only [if_neg w2]
    by_cases w3 : w = 3
    · simp only [if_pos w3]
      rcases hvv with ⟨e1, e2⟩ | ⟨e1, e2⟩
      · rw [e1, if_neg e2]
        exact ⟨_, rfl, rfl⟩
      · rw [e1, if_pos e2]
        exact ⟨_, rfl, rfl⟩
    simp only [if_neg w3]
    by_cases w4 : w = 4
    · simp only [if_pos w4]
      exact ⟨_, rfl, rfl⟩
    simp only [if_neg w4]
    by_cases w5 : w = 5
    · simp only [if_pos w5]
      exact ⟨_, rfl, rfl⟩
    simp only [if_neg w5]
    exact ⟨_, rfl, rfl⟩
theorem b_pp : ∀ v : Nat, v < 6 → ∀ i : Nat, i < 6 → fd_rem (nI v - nI i + 6) 6 = m_pp (nI v) (nI i) := by decide
theorem m_ln24 {fu : Nat} {S S' : fd_S} {g : Int32 → Int32} {i k : Int32} (hL : m_L S g) (i0 : 0 ≤ i) (i6 : i < 6) : ∃ r, (if k = -1 then (if 0 ≤ m_pp (S 5 2) i ∧ m_pp (S 5 2) i < 6 then some (S 7 (m_pp (S 5 2) i)) else none) else (if 0 ≤ m_pp (S 5 2) i ∧ m_pp (S 5 2) i < 6 then (if (zF_isWithin k 0 (S 7 (m_pp (S 5 2) i) - 1)) = 0 then some (-6) else (if 0 ≤ m_pp (S 5 2) i * 20 + k ∧ m_pp (S 5 2) i * 20 + k < 120 then some (S 6 (m_pp (S 5 2) i * 20 + k)) else none)) else none)) = some r ∧
    (if 0 ≤ 131 + 24 * i ∧ 131 + 24 * i < 275 then (if zM_in k (-1) (g (131 + 24 * i) - 1) = 0 then some (-6) else (if 0 ≤ zM_lineAt i k ∧ zM_lineAt i k < 275 then some (g (zM_lineAt i k)) else none)) else none) = some r := by
  obtain ⟨hv, h53, hi⟩ := hL
  have hpp := m_pp_rg hv.1 hv.2 i0 i6
  obtain ⟨l1, l2, l3⟩ := hi i i0 i6
  have hll := m_ll_num i0 i6
  have hlr : 0 ≤ m_ll i ∧ m_ll i < 275 := by
    rw [i_le, i_lt, hll]
    clear hi l1 l2 l3 hll
    (simp only [ne_eq, i_lt, i_le, i_eq, i_add, i_sub, i_neg, i_mul, Int32.reduceToInt] at *; omega)
  change ∃ r, _ ∧ (if 0 ≤ m_ll i ∧ m_ll i < 275 then (if zM_in k (-1) (g (m_ll i) - 1) = 0 then some (-6) else _) else none) = some r
  rw [if_pos hpp, if_pos hpp, if_pos hlr, l2]
  by_cases ck : k = -1
  · have e : zM_lineAt i (-1) = m_ll i := by
      unfold zM_lineAt m_ll
      rw [Int32.add_assoc, show (1 : Int32) + -1 = 0 by decide, Int32.add_zero]
    rw [if_pos ck, if_neg (m_in1 (by rw [ck]; clear hi l2 l3 hll hlr; (simp only [ne_eq, i_lt, i_le, i_eq, i_add, i_sub, i_neg, i_mul, Int32.reduceToInt] at *; omega))), ck, e, if_pos hlr]
    exact ⟨_, rfl, rfl⟩
  · rw [if_neg ck]
    by_cases c : 0 ≤ k ∧ k ≤ g (m_ll i) - 1
    · have hk : k < g (m_ll i) ∧ k ≤ 20 ∧ k ≤ 100 ∧ -1 ≤ k := by clear hi l2 l3 hll hlr; (simp only [ne_eq, i_lt, i_le, i_eq, i_add, i_sub, i_neg, i_mul, Int32.reduceToInt] at *; omega)
      have hla := m_la_num i0 i6 c.1 hk.2.2.1
      have h20 := m_20_num hpp.1 hpp.2 c.1 hk.2.1
      have k20 : k < 20 := by clear hi l2 l3 hll hlr hla h20; (simp only [ne_eq, i_lt, i_le, i_eq, i_add, i_sub, i_neg, i_mul, Int32.reduceToInt] at *; omega)
      have hlar : 0 ≤ zM_lineAt i k ∧ zM_lineAt i k < 275 := by
        rw [i_le, i_lt, hla]
        clear hi l1 l2 l3 hll hlr hla h20
        (simp only [ne_eq, i_lt, i_le, i_eq, i_add, i_sub, i_neg, i_mul, Int32.reduceToInt] at *; omega)
      have h20r : 0 ≤ m_pp (S 5 2) i * 20 + k ∧ m_pp (S 5 2) i * 20 + k < 120 := by
        rw [i_le, i_lt, h20]
        clear hi l1 l2 l3 hll hlr hla h20 hlar
        (simp only [ne_eq, i_lt, i_le, i_eq, i_add, i_sub, i_neg, i_mul, Int32.reduceToInt] at *; omega)
      rw [if_neg (m_within1 c), if_neg (m_in1 ⟨hk.2.2.2, c.2⟩), if_pos h20r, if_pos hlar, l3 k c.1 hk.1]
      exact ⟨_, rfl, rfl⟩
    · rw [if_pos (m_within0 c), if_pos (m_in0 (by clear hi l2 l3 hll hlr; (simp only [ne_eq, i_lt, i_le, i_eq, i_add, i_sub, i_neg, i_mul, Int32.reduceToInt] at *; omega)))]
      exact ⟨_, rfl, rfl⟩
theorem m_line {fu : Nat} {i k : Int32} : m_Y (fun S => zF_line S i k) (fun S => zM_line fu S i k) := by
  intro S S' g hS hg hK ht h70
  dsimp only
  unfold zF_line zL_tell zM_line zM_line_24
  have hL := hS.L
  obtain ⟨hv, h53, -⟩ := hL
  have emn : fd_min (S 5 3) 6 = if 6 ≤ g 70 then 6 else g 70 := by
    rw [h53]
    unfold fd_min
    by_cases c : 6 ≤ g 70
    · rw [if_pos c]
      by_cases c2 : 6 < g 70
      · rw [if_pos c2]
      · rw [if_neg c2]
        clear hS hg hK
        (simp only [ne_eq, i_lt, i_le, i_eq, i_add, i_sub, i_neg, i_mul, Int32.reduceToInt] at *; omega)
    · rw [if_neg c, if_neg (by clear hS hg hK; (simp only [ne_eq, i_lt, i_le, i_eq, i_add, i_sub, i_neg, i_mul, Int32.reduceToInt] at *; omega))]
  simp only [fd_lt, sg_78]
  rw [emn]
  generalize hN : (if 6 ≤ g 70 then 6 else g 70) = N
  have hN6 : 0 ≤ N ∧ N ≤ 6 := by
    rw [← hN]
    split
    · exact ⟨by decide, by decide⟩
    · clear hS hg hK
      (simp only [ne_eq, i_lt, i_le, i_eq, i_add, i_sub, i_neg, i_mul, Int32.reduceToInt] at *; omega)
  have goal : ∃ r, ((if zF_isWithin i 0 (N - 1) = 0 then some (-6) else (if k = -1 then (if 0 ≤ fd_rem (S 5 2 - i + 6) 6 ∧ fd_rem (S 5 2 - i + 6) 6 < 6 then some (S 7 (fd_rem (S 5 2 - i + 6) 6)) else none) else (if 0 ≤ fd_rem (S 5 2 - i + 6) 6 ∧ fd_rem (S 5 2 - i + 6) 6 < 6 then (if (zF_isWithin k 0 (S 7 (fd_rem (S 5 2 - i + 6) 6) - 1)) = 0 then some (-6) else (if 0 ≤ fd_rem (S 5 2 - i + 6) 6 * 20 + k ∧ fd_rem (S 5 2 - i + 6) 6 * 20 + k < 120 then some (S 6 (fd_rem (S 5 2 - i + 6) 6 * 20 + k)) else none)) else none))).bind fun r1 => some r1) = some r ∧ (if zM_in i 0 (N - 1) = 0 then some (-6) else (if 0 ≤ 131 + 24 * i ∧ 131 + 24 * i < 275 then (if zM_in k (-1) (g (131 + 24 * i) - 1) = 0 then some (-6) else (if 0 ≤ zM_lineAt i k ∧ zM_lineAt i k < 275 then some (g (zM_lineAt i k)) else none)) else none)) = some r := by
    by_cases c : 0 ≤ i ∧ i ≤ N - 1
    · have i6 : i < 6 := by clear hS hg hK hN emn; (simp only [ne_eq, i_lt, i_le, i_eq, i_add, i_sub, i_neg, i_mul, Int32.reduceToInt] at *; omega)
      have e : fd_rem (S 5 2 - i + 6) 6 = m_pp (S 5 2) i := by
        obtain ⟨v, hv2, ev⟩ := m_nat (x := S 5 2) (M := 5) hv.1 (show S 5 2 ≤ (5 : Int32) by clear hS hg hK hN emn; (simp only [ne_eq, i_lt, i_le, i_eq, i_add, i_sub, i_neg, i_mul, Int32.reduceToInt] at *; omega)) (by decide)
        obtain ⟨j, hj, ej⟩ := m_nat (x := i) (M := 5) c.1 (show i ≤ (5 : Int32) by clear hS hg hK hN emn; (simp only [ne_eq, i_lt, i_le, i_eq, i_add, i_sub, i_neg, i_mul, Int32.reduceToInt] at *; omega)) (by decide)
        rw [ev, ej]
        exact b_pp v (by omega) j (by omega)
      rw [if_neg (m_within1 c), if_neg (m_in1 c), e]
      obtain ⟨r, r1, r2⟩ := m_ln24 (fu := fu) (S' := S') (k := k) hS.L c.1 i6
      rw [r1, r2]
      exact ⟨r, rfl, rfl⟩
    · rw [if_pos (m_within0 c), if_pos (m_in0 c)]
      exact ⟨_, rfl, rfl⟩
  by_cases c : 6 ≤ g 70
  · rw [if_pos c] at hN ⊢
    subst hN
    exact goal
  · rw [if_neg c] at hN ⊢
    subst hN
    exact goal
theorem m_count {fu : Nat} {S S' : fd_S} {g : Int32 → Int32} {w : Int32} (hfu : 10000 ≤ fu) (hS : m_St S g) (hg : m_Go g) (hk0 : S 70 0 = S' 80 0) (hk1 : S 70 1 = S' 80 1) : ∃ r, zF_count fu S w = some r ∧ zM_count fu (fd_sg S' g) w = some r := by
  unfold zF_count zM_count zS_tellCount zF_keptImages
  simp only [sg_78]
  rw [sg_ne (k := 80) (by decide), hk0, hk1]
  obtain ⟨v, v1, v2⟩ := m_heldOnes (S' := S') hfu hS.R hg.R
  rw [v1, v2, hS.c6, hS.R.2.1, hS.c7, hS.c8, hS.c9, hS.d2, hS.c10, hS.L.2.1]
  by_cases c : 0 ≤ w ∧ w ≤ 9
  · rw [if_neg (m_within1 c)]
    by_cases w9 : w = 9
    · subst w9
      rw [if_pos rfl]
      simp only [if_neg (show ¬ (9 : Int32) = 0 by decide), if_neg (show ¬ (9 : Int32) = 1 by decide), if_neg (show ¬ (9 : Int32) = 2 by decide), if_neg (show ¬ (9 : Int32) = 3 by decide), if_neg (show ¬ (9 : Int32) = 4 by decide), if_neg (show ¬ (9 : Int32) = 5 by decide), if_neg (show ¬ (9 : Int32) = 6 by decide), if_neg (show ¬ (9 : Int32) = 7 by decide), if_neg (show ¬ (9 : Int32) = 8 by decide)]
      rw [if_pos True.intro]
      refine ⟨_, rfl, ?_⟩
      repeat' split
      all_goals rfl
    · rw [if_neg w9]
      by_cases w0 : w = 0
      · simp only [if_pos w0]; exact ⟨_, rfl, rfl⟩
      simp only [if_neg w0]
      by_cases w1 : w = 1
      · simp only [if_pos w1]; exact ⟨_, rfl, rfl⟩
      simp only [if_neg w1]
      by_cases w2 : w = 2
      · simp only [if_pos w2]; exact ⟨_, rfl, rfl⟩
      simp only [if_neg w2]
      by_cases w3 : w = 3
      · simp only [if_pos w3]; exact ⟨_, rfl, rfl⟩
      simp only [if_neg w3]
      by_cases w4 : w = 4
      · simp only [if_pos w4]; exact ⟨_, rfl, rfl⟩
      simp only [if_neg w4]
      by_cases w5 : w = 5
      · simp only [if_pos w5]; exact ⟨_, rfl, rfl⟩
      simp only [if_neg w5]
      by_cases w6 : w = 6
      · simp only [if_pos w6]; exact ⟨_, rfl, rfl⟩
      simp only [if_neg w6]
      by_cases w7 : w = 7
      · simp only [if_pos w7]; exact ⟨_, rfl, rfl⟩
      have w8 : w = 8 := by clear hS hg; (simp only [ne_eq, i_lt, i_le, i_eq, i_add, i_sub, i_neg, i_mul, Int32.reduceToInt] at *; omega)
      rw [if_neg w7, if_neg w7, if_pos w8]
      exact ⟨_, rfl, rfl⟩
  · rw [if_pos (m_within0 c)]
    have n : ¬ w = 0 ∧ ¬ w = 1 ∧ ¬ w = 2 ∧ ¬ w = 3 ∧ ¬ w = 4 ∧ ¬ w = 5 ∧ ¬ w = 6 ∧ ¬ w = 7 ∧ ¬ w = 8 ∧ ¬ w = 9 := by clear hS hg; (simp only [ne_eq, i_lt, i_le, i_eq, i_add, i_sub, i_neg, i_mul, Int32.reduceToInt] at *; omega)
    obtain ⟨n0, n1, n2, n3, n4, n5, n6, n7, n8, n9⟩ := n
    rw [if_neg n0, if_neg n1, if_neg n2, if_neg n3, if_neg n4, if_neg n5, if_neg n6, if_neg n7, if_neg n8, if_neg n9]
    exact ⟨_, rfl, rfl⟩
end
section
/-! ===== THE TEXT ===== -/
/-- the text of the component and of the reference -/
def m_TX (S S' : fd_S) : Prop := S 71 1 = S' 73 8 ∧ (0 ≤ S' 73 8 ∧ S' 73 8 ≤ 12) ∧ ∀ j : Int32, 0 ≤ j → j < S' 73 8 → S 72 j = S' 81 j
theorem m_say {S S' : fd_S} {x : Int32} (h : m_TX S S') : ∃ r S1 S1', zF_say S x = some (r, S1) ∧ zM_say S' x = some (r, S1') ∧ m_TX S1 S1' ∧ (∀ k : Nat, k ≠ 71 → k ≠ 72 → S1 k = S k) ∧ ∀ k : Nat, k ≠ 73 → k ≠ 81 → S1' k = S' k := by
  have h0 := h
  obtain ⟨h1, h2, h3⟩ := h
  unfold zF_say zM_say zT_append
  simp only [fd_lt]
  by_cases c : 33 ≤ x ∧ x ≤ 126
  · rw [if_neg (m_within1 c), if_neg (m_in1 c), h1]
    by_cases c2 : S' 73 8 = 12
    · rw [if_pos c2, if_neg (show ¬ S' 73 8 < 12 by rw [c2]; decide)]
      exact ⟨-4, S, S', rfl, rfl, h0, fun _ _ _ => rfl, fun _ _ _ => rfl⟩
    · have hl : S' 73 8 < 12 := by clear h0 h1 h3; (simp only [ne_eq, i_lt, i_le, i_eq, i_add, i_sub, i_neg, i_mul, Int32.reduceToInt] at *; omega)
      rw [if_neg c2, if_pos hl, if_pos ⟨h2.1, hl⟩, if_pos ⟨h2.1, hl⟩, Option.bind_some]
      unfold fd_pr
      dsimp only
      rw [if_neg (show ¬ (1 : Int32) = 0 by decide)]
      have e1 : fd_up S 72 (S' 73 8) x 71 1 = S' 73 8 := by rw [fd_up_ne (by decide), h1]
      have e2 : fd_up S' 81 (S' 73 8) x 73 8 = S' 73 8 := by rw [fd_up_ne (by decide)]
      rw [e1, e2]
      refine ⟨S' 73 8 + 1, _, _, by rw [fd_up_at, if_pos rfl], by rw [fd_up_at, if_pos rfl], ⟨?_, ?_, ?_⟩, ?_, ?_⟩
      · rw [fd_up_at, if_pos rfl, fd_up_at, if_pos rfl]
      · rw [fd_up_at, if_pos rfl]
        clear h0 h1 h3 e1 e2
        (simp only [ne_eq, i_lt, i_le, i_eq, i_add, i_sub, i_neg, i_mul, Int32.reduceToInt] at *; omega)
      · intro j j0 j1
        rw [fd_up_at, if_pos rfl] at j1
        rw [fd_up_ne (by decide), fd_up_at, fd_up_ne (by decide), fd_up_at]
        by_cases cj : j = S' 73 8
        · rw [if_pos cj, if_pos cj]
        · rw [if_neg cj, if_neg cj]
          exact h3 j j0 (by clear h0 h1 h3 e1 e2; (simp only [ne_eq, i_lt, i_le, i_eq, i_add, i_sub, i_neg, i_mul, Int32.reduceToInt] at *; omega))
      · intro k k1 k2
        rw [fd_up_ne k1, fd_up_ne k2]
      · intro k k1 k2
        rw [fd_up_ne k1, fd_up_ne k2]
  · rw [if_pos (m_within0 c), if_pos (m_in0 c)]
    exact ⟨-2, S, S', rfl, rfl, h0, fun _ _ _ => rfl, fun _ _ _ => rfl⟩
theorem m_wipe {S S' : fd_S} (h : m_TX S S') : ∃ r S1 S1', zF_wipe S = some (r, S1) ∧ zM_wipe S' = some (r, S1') ∧ m_TX S1 S1' ∧ (∀ k : Nat, k ≠ 71 → k ≠ 72 → S1 k = S k) ∧ ∀ k : Nat, k ≠ 73 → k ≠ 81 → S1' k = S' k := by
  obtain ⟨h1, h2, h3⟩ := h
  unfold zF_wipe zM_wipe zT_clear
  simp only [fd_lt, Option.bind_some]
  unfold fd_pr
  dsimp only
  refine ⟨S' 73 8, _, _, by rw [h1], rfl, ⟨?_, ?_, ?_⟩, ?_, ?_⟩
  · rw [fd_up_at, if_pos rfl, fd_up_at, if_pos rfl]
  · rw [fd_up_at, if_pos rfl]
    exact ⟨by decide, by decide⟩
  · intro j j0 j1
    rw [fd_up_at, if_pos rfl] at j1
    exact absurd j0 (Int32.not_le.mpr j1)
  · intro k k1 k2
    rw [fd_up_ne k1]
  · intro k k1 k2
    rw [fd_up_ne k1]
/-- a sign that may stand at a place of a text of a bound -/
def m_fit (s : Int32 → Int32) (w x : Int32) : Prop := (x < zM_size w ∧ s x = fd_sc (zT_nameOf w) x) ∨ (x = zM_size w ∧ s x = 61) ∨ (zM_size w < x ∧ x ≤ zM_size w + 5 ∧ 48 ≤ s x ∧ s x ≤ 57)
def m_ft (s : Int32 → Int32) (L w r : Int32) : Prop := (0 ≤ r ∧ r ≤ L) ∧ (∀ k : Int32, 0 ≤ k → k < r → m_fit s w k) ∧ (r = L ∨ ¬ m_fit s w r)
theorem m_ft_uniq {s : Int32 → Int32} {L w r r' : Int32} (h : m_ft s L w r) (h' : m_ft s L w r') : r = r' := by
  obtain ⟨a1, a2, a3⟩ := h
  obtain ⟨b1, b2, b3⟩ := h'
  by_cases c : r < r'
  · have f := b2 r a1.1 c
    rcases a3 with h | h
    · clear a2 b2 f b3
      (simp only [ne_eq, i_lt, i_le, i_eq, i_add, i_sub, i_neg, i_mul, Int32.reduceToInt] at *; omega)
    · exact absurd f h
  · by_cases c2 : r' < r
    · have f := a2 r' b1.1 c2
      rcases b3 with h | h
      · clear a2 b2 f a3
        (simp only [ne_eq, i_lt, i_le, i_eq, i_add, i_sub, i_neg, i_mul, Int32.reduceToInt] at *; omega)
      · exact absurd f h
    · clear a2 b2 a3 b3
      (simp only [ne_eq, i_lt, i_le, i_eq, i_add, i_sub, i_neg, i_mul, Int32.reduceToInt] at *; omega)
theorem m_size_rg (w : Int32) : 3 ≤ zM_size w ∧ zM_size w ≤ 4 := by
  unfold zM_size
  split <;> exact ⟨by decide, by decide⟩
theorem b_sl : ∀ a : Nat, a < 7 → fd_sl (zT_nameOf (nI a)) = zM_size (nI a) ∧ zT_nameOf (nI a) < 7 := by decide
theorem m_slz {w : Int32} (w0 : 0 ≤ w) (w7 : w < 7) : fd_sl (zT_nameOf w) = zM_size w ∧ zT_nameOf w < 7 := by
  obtain ⟨a, ha, rfl⟩ := m_nat (x := w) (M := 6) w0 (show w ≤ (6 : Int32) by (simp only [ne_eq, i_lt, i_le, i_eq, i_add, i_sub, i_neg, i_mul, Int32.reduceToInt] at *; omega)) (by decide)
  exact b_sl a (by omega)
theorem m_fig (s : Int32) : (zT_isFigure s = 0 ∧ ¬ (48 ≤ s ∧ s ≤ 57)) ∨ (¬ zT_isFigure s = 0 ∧ 48 ≤ s ∧ s ≤ 57) := by
  unfold zT_isFigure
  by_cases c1 : s < 48
  · left
    rw [if_pos c1]
    exact ⟨rfl, by (simp only [ne_eq, i_lt, i_le, i_eq, i_add, i_sub, i_neg, i_mul, Int32.reduceToInt] at *; omega)⟩
  · rw [if_neg c1]
    by_cases c2 : 57 < s
    · left
      rw [if_pos c2]
      exact ⟨rfl, by (simp only [ne_eq, i_lt, i_le, i_eq, i_add, i_sub, i_neg, i_mul, Int32.reduceToInt] at *; omega)⟩
    · right
      rw [if_neg c2]
      refine ⟨by decide, ?_⟩
      (simp only [ne_eq, i_lt, i_le, i_eq, i_add, i_sub, i_neg, i_mul, Int32.reduceToInt] at *; omega)
theorem m_fits {S : fd_S} {w x : Int32} (w0 : 0 ≤ w) (w7 : w < 7) (x0 : 0 ≤ x) (x12 : x < 12) : ∃ v, zT_fits S (zT_nameOf w) x = some v ∧ (v = 0 ↔ ¬ m_fit (S 72) w x) := by
  have hz := m_size_rg w
  unfold zT_fits
  rw [(m_slz w0 w7).1, if_pos (m_slz w0 w7).2]
  by_cases c1 : zM_size w ≤ x
  · rw [if_pos c1]
    by_cases c2 : x = zM_size w
    · rw [if_pos c2, if_pos ⟨x0, x12⟩]
      by_cases c3 : S 72 x = 61
      · rw [if_pos c3]
        exact ⟨1, rfl, ⟨fun z => absurd z (by decide), fun z => absurd (Or.inr (Or.inl ⟨c2, c3⟩)) z⟩⟩
      · rw [if_neg c3]
        refine ⟨0, rfl, ⟨fun _ => ?_, fun _ => rfl⟩⟩
        rintro (⟨h, -⟩ | ⟨-, h⟩ | ⟨h, -⟩)
        · exact absurd h (Int32.not_lt.mpr c1)
        · exact c3 h
        · rw [c2] at h
          exact absurd h (Int32.lt_irrefl)
    · rw [if_neg c2]
      by_cases c3 : zM_size w + 5 < x
      · rw [if_pos c3]
        refine ⟨0, rfl, ⟨fun _ => ?_, fun _ => rfl⟩⟩
        rintro (⟨h, -⟩ | ⟨h, -⟩ | ⟨-, h, -⟩)
        · exact absurd h (Int32.not_lt.mpr c1)
        · exact c2 h
        · exact absurd h (Int32.not_le.mpr c3)
      · rw [if_neg c3, if_pos ⟨x0, x12⟩]
        have hlt : zM_size w < x := by (simp only [ne_eq, i_lt, i_le, i_eq, i_add, i_sub, i_neg, i_mul, Int32.reduceToInt] at *; omega)
        rcases m_fig (S 72 x) with ⟨f1, f2⟩ | ⟨f1, f2⟩
        · rw [if_pos f1]
          refine ⟨0, rfl, ⟨fun _ => ?_, fun _ => rfl⟩⟩
          rintro (⟨h, -⟩ | ⟨h, -⟩ | ⟨-, -, h⟩)
          · exact absurd h (Int32.not_lt.mpr c1)
          · exact c2 h
          · exact f2 h
        · rw [if_neg f1]
          exact ⟨1, rfl, ⟨fun z => absurd z (by decide), fun z => absurd (Or.inr (Or.inr ⟨hlt, Int32.not_lt.mp c3, f2⟩)) z⟩⟩
  · have hlt := Int32.not_le.mp c1
    rw [if_neg c1, if_pos ⟨x0, x12⟩, if_pos ⟨x0, hlt⟩]
    by_cases c3 : S 72 x = fd_sc (zT_nameOf w) x
    · rw [if_pos c3]
      exact ⟨1, rfl, ⟨fun z => absurd z (by decide), fun z => absurd (Or.inl ⟨hlt, c3⟩) z⟩⟩
    · rw [if_neg c3]
      refine ⟨0, rfl, ⟨fun _ => ?_, fun _ => rfl⟩⟩
      rintro (⟨-, h⟩ | ⟨h, -⟩ | ⟨h, -⟩)
      · exact c3 h
      · rw [h] at hlt
        exact absurd hlt Int32.lt_irrefl
      · exact absurd (Int32.lt_trans h hlt) Int32.lt_irrefl
theorem m_fit_c {s s' : Int32 → Int32} {w x : Int32} (h : s x = s' x) : m_fit s w x ↔ m_fit s' w x := by
  unfold m_fit
  rw [h]
theorem m_fs2 {fu : Nat} {S S' : fd_S} {w : Int32} (h : m_TX S S') (w0 : 0 ≤ w) (w7 : w < 7) : ∀ (n : Nat) (x : Int32), m_ms (S' 73 8) x < n → 0 ≤ x → x ≤ S' 73 8 → (∀ k : Int32, 0 ≤ k → k < x → m_fit (S' 81) w k) → ∃ r, zT_fittingSigns_2 fu n S (zT_nameOf w) x = some r ∧ m_ft (S' 81) (S' 73 8) w r := by
  obtain ⟨h1, h2, h3⟩ := h
  intro n
  induction n with
  | zero => intro x h; omega
  | succ n ih =>
    intro x hn x0 x1 hx
    rw [zT_fittingSigns_2, h1]
    by_cases c : S' 73 8 ≤ x
    · rw [if_pos c]
      exact ⟨x, rfl, ⟨x0, x1⟩, hx, Or.inl (by clear h1 h3 hx ih; (simp only [ne_eq, i_lt, i_le, i_eq, i_add, i_sub, i_neg, i_mul, Int32.reduceToInt] at *; omega))⟩
    have hlt : x < S' 73 8 ∧ x < 12 ∧ 0 ≤ x + 1 ∧ x + 1 ≤ S' 73 8 := by clear h1 h3 hx ih; (simp only [ne_eq, i_lt, i_le, i_eq, i_add, i_sub, i_neg, i_mul, Int32.reduceToInt] at *; omega)
    have hms := m_ms_up c
    obtain ⟨v, v1, v2⟩ := m_fits (S := S) w0 w7 x0 hlt.2.1
    rw [m_fit_c (h3 x x0 hlt.1)] at v2
    rw [if_neg c, v1, Option.bind_some]
    by_cases cv : v = 0
    · rw [if_pos cv]
      exact ⟨x, rfl, ⟨x0, x1⟩, hx, Or.inr (v2.mp cv)⟩
    · rw [if_neg cv]
      refine ih (x + 1) (by omega) hlt.2.2.1 hlt.2.2.2 (fun k k0 k1 => ?_)
      by_cases ck : k = x
      · subst ck
        exact Decidable.byContradiction (dec := Classical.propDecidable _) (fun z => cv (v2.mpr z))
      · exact hx k k0 (by clear h1 h3 hx ih v1 v2; (simp only [ne_eq, i_lt, i_le, i_eq, i_add, i_sub, i_neg, i_mul, Int32.reduceToInt] at *; omega))
theorem m_fittingSigns {fu : Nat} {S S' : fd_S} {w : Int32} (hfu : 10000 ≤ fu) (h : m_TX S S') (w0 : 0 ≤ w) (w7 : w < 7) : ∃ r, zT_fittingSigns fu S (zT_nameOf w) = some r ∧ m_ft (S' 81) (S' 73 8) w r :=
  m_fs2 h w0 w7 fu 0 (m_ms_fu (by decide) (Int32.le_trans h.2.1.2 (by decide)) hfu) (by decide) h.2.1.1 (fun k k0 k1 => absurd k0 (Int32.not_le.mpr k1))
theorem m_f72 {fu : Nat} {S' : fd_S} {w : Int32} (h2 : 0 ≤ S' 73 8 ∧ S' 73 8 ≤ 12) : ∀ (n : Nat) (x : Int32), m_ms (S' 73 8) x < n → 0 ≤ x → x ≤ S' 73 8 → zM_size w < x → x ≤ zM_size w + 6 → (∀ k : Int32, 0 ≤ k → k < x → m_fit (S' 81) w k) → ∃ r, zM_fitting_72 fu n S' (zM_size w) x = some r ∧ m_ft (S' 81) (S' 73 8) w r := by
  have hz := m_size_rg w
  intro n
  induction n with
  | zero => intro x h; omega
  | succ n ih =>
    intro x hn x0 x1 xz xz2 hx
    rw [zM_fitting_72]
    by_cases c : S' 73 8 ≤ x
    · rw [if_pos c]
      exact ⟨x, rfl, ⟨x0, x1⟩, hx, Or.inl (by clear hx ih; (simp only [ne_eq, i_lt, i_le, i_eq, i_add, i_sub, i_neg, i_mul, Int32.reduceToInt] at *; omega))⟩
    rw [if_neg c]
    by_cases c2 : zM_size w + 6 ≤ x
    · rw [if_pos c2]
      refine ⟨x, rfl, ⟨x0, x1⟩, hx, Or.inr ?_⟩
      rintro (⟨h, -⟩ | ⟨h, -⟩ | ⟨-, h, -⟩) <;> (clear hx ih; (simp only [ne_eq, i_lt, i_le, i_eq, i_add, i_sub, i_neg, i_mul, Int32.reduceToInt] at *; omega))
    have hlt : x < S' 73 8 ∧ x < 12 ∧ 0 ≤ x + 1 ∧ x + 1 ≤ S' 73 8 ∧ zM_size w < x + 1 ∧ x + 1 ≤ zM_size w + 6 ∧ x ≤ zM_size w + 5 := by clear hx ih; (simp only [ne_eq, i_lt, i_le, i_eq, i_add, i_sub, i_neg, i_mul, Int32.reduceToInt] at *; omega)
    have hms := m_ms_up c
    simp only [fd_lt]
    rw [if_neg c2, if_pos ⟨x0, hlt.2.1⟩]
    change ∃ r, (if zT_isFigure (S' 81 x) = 0 then some x else _) = some r ∧ _
    rcases m_fig (S' 81 x) with ⟨f1, f2⟩ | ⟨f1, f2⟩
    · rw [if_pos f1]
      refine ⟨x, rfl, ⟨x0, x1⟩, hx, Or.inr ?_⟩
      rintro (⟨h, -⟩ | ⟨h, -⟩ | ⟨-, -, h⟩)
      · exact absurd (Int32.lt_trans h xz) Int32.lt_irrefl
      · rw [h] at xz
        exact absurd xz Int32.lt_irrefl
      · exact f2 h
    · rw [if_neg f1]
      refine ih (x + 1) (by omega) hlt.2.2.1 hlt.2.2.2.1 hlt.2.2.2.2.1 hlt.2.2.2.2.2.1 (fun k k0 k1 => ?_)
      by_cases ck : k = x
      · subst ck
        exact Or.inr (Or.inr ⟨xz, hlt.2.2.2.2.2.2, f2⟩)
      · exact hx k k0 (by clear hx ih; (simp only [ne_eq, i_lt, i_le, i_eq, i_add, i_sub, i_neg, i_mul, Int32.reduceToInt] at *; omega))
theorem m_f45 {fu : Nat} {S' : fd_S} {w x : Int32} (hfu : 10000 ≤ fu) (h2 : 0 ≤ S' 73 8 ∧ S' 73 8 ≤ 12) (x0 : 0 ≤ x) (x1 : x ≤ S' 73 8) (xz : x ≤ zM_size w) (hx : ∀ k : Int32, 0 ≤ k → k < x → m_fit (S' 81) w k) (hend : x = zM_size w ∨ x = S' 73 8 ∨ ¬ m_fit (S' 81) w x) : ∃ r, zM_fitting_45 fu S' (zM_size w) x = some r ∧ m_ft (S' 81) (S' 73 8) w r := by
  have hz := m_size_rg w
  unfold zM_fitting_45
  simp only [fd_lt]
  by_cases c1 : x = zM_size w
  · rw [if_pos c1]
    by_cases c2 : S' 73 8 ≤ x
    · rw [if_pos c2]
      exact ⟨x, rfl, ⟨x0, x1⟩, hx, Or.inl (by clear hx hend; (simp only [ne_eq, i_lt, i_le, i_eq, i_add, i_sub, i_neg, i_mul, Int32.reduceToInt] at *; omega))⟩
    have hlt : x < 12 ∧ x < S' 73 8 ∧ 0 ≤ x + 1 ∧ x + 1 ≤ S' 73 8 ∧ zM_size w < x + 1 ∧ x + 1 ≤ zM_size w + 6 := by clear hx hend; (simp only [ne_eq, i_lt, i_le, i_eq, i_add, i_sub, i_neg, i_mul, Int32.reduceToInt] at *; omega)
    rw [if_neg c2, if_pos ⟨x0, hlt.1⟩]
    by_cases c3 : S' 81 x = 61
    · rw [if_pos c3]
      refine m_f72 h2 fu (x + 1) (m_ms_fu hlt.2.2.1 (Int32.le_trans h2.2 (by decide)) hfu) hlt.2.2.1 hlt.2.2.2.1 hlt.2.2.2.2.1 hlt.2.2.2.2.2 (fun k k0 k1 => ?_)
      by_cases ck : k = x
      · subst ck
        exact Or.inr (Or.inl ⟨c1, c3⟩)
      · exact hx k k0 (by clear hx hend; (simp only [ne_eq, i_lt, i_le, i_eq, i_add, i_sub, i_neg, i_mul, Int32.reduceToInt] at *; omega))
    · rw [if_neg c3]
      refine ⟨x, rfl, ⟨x0, x1⟩, hx, Or.inr ?_⟩
      rintro (⟨h, -⟩ | ⟨-, h⟩ | ⟨h, -⟩)
      · rw [c1] at h
        exact absurd h Int32.lt_irrefl
      · exact c3 h
      · rw [c1] at h
        exact absurd h Int32.lt_irrefl
  · rw [if_neg c1]
    exact ⟨x, rfl, ⟨x0, x1⟩, hx, hend.elim (fun z => absurd z c1) id⟩
theorem m_f7 {fu : Nat} {S' : fd_S} {w : Int32} (hfu : 10000 ≤ fu) (hK : m_K S') (h2 : 0 ≤ S' 73 8 ∧ S' 73 8 ≤ 12) (w0 : 0 ≤ w) (w7 : w < 7) : ∀ (n : Nat) (x : Int32), m_ms (S' 73 8) x < n → 0 ≤ x → x ≤ S' 73 8 → x ≤ zM_size w → (∀ k : Int32, 0 ≤ k → k < x → m_fit (S' 81) w k) → ∃ r, zM_fitting_7 fu n S' w (zM_size w) x = some r ∧ m_ft (S' 81) (S' 73 8) w r := by
  have hz := m_size_rg w
  intro n
  induction n with
  | zero => intro x h; omega
  | succ n ih =>
    intro x hn x0 x1 xz hx
    rw [zM_fitting_7]
    by_cases c1 : S' 73 8 ≤ x
    · rw [if_pos c1]
      exact m_f45 hfu h2 x0 x1 xz hx (Or.inr (Or.inl (by clear hx ih hK; (simp only [ne_eq, i_lt, i_le, i_eq, i_add, i_sub, i_neg, i_mul, Int32.reduceToInt] at *; omega))))
    rw [if_neg c1]
    by_cases c2 : zM_size w ≤ x
    · rw [if_pos c2]
      exact m_f45 hfu h2 x0 x1 xz hx (Or.inl (by clear hx ih hK; (simp only [ne_eq, i_lt, i_le, i_eq, i_add, i_sub, i_neg, i_mul, Int32.reduceToInt] at *; omega)))
    have hlt : x < S' 73 8 ∧ x < 12 ∧ 0 ≤ x + 1 ∧ x + 1 ≤ S' 73 8 ∧ x < zM_size w ∧ x + 1 ≤ zM_size w := by clear hx ih hK; (simp only [ne_eq, i_lt, i_le, i_eq, i_add, i_sub, i_neg, i_mul, Int32.reduceToInt] at *; omega)
    have h4 : (4 * w).toInt = 4 * w.toInt := by clear hx ih hK; (simp only [ne_eq, i_lt, i_le, i_eq, i_add, i_sub, i_neg, i_mul, Int32.reduceToInt] at *; omega)
    have hin : 0 ≤ 4 * w + x ∧ 4 * w + x < 28 := by
      rw [i_le, i_lt, i_add, h4]
      clear hx ih hK
      (simp only [ne_eq, i_lt, i_le, i_eq, i_add, i_sub, i_neg, i_mul, Int32.reduceToInt] at *; omega)
    have hms := m_ms_up c1
    simp only [fd_lt]
    rw [if_neg c2, if_pos ⟨x0, hlt.2.1⟩, if_pos hin, hK.2.2 w x w0 w7 x0 hlt.2.2.2.2.1]
    by_cases c3 : S' 81 x = fd_sc (zT_nameOf w) x
    · rw [if_pos c3]
      refine ih (x + 1) (by omega) hlt.2.2.1 hlt.2.2.2.1 hlt.2.2.2.2.2 (fun k k0 k1 => ?_)
      by_cases ck : k = x
      · subst ck
        exact Or.inl ⟨hlt.2.2.2.2.1, c3⟩
      · exact hx k k0 (by clear hx ih hK; (simp only [ne_eq, i_lt, i_le, i_eq, i_add, i_sub, i_neg, i_mul, Int32.reduceToInt] at *; omega))
    · rw [if_neg c3]
      refine m_f45 hfu h2 x0 x1 xz hx (Or.inr (Or.inr ?_))
      rintro (⟨-, h⟩ | ⟨h, -⟩ | ⟨h, -⟩)
      · exact c3 h
      · exact absurd hlt.2.2.2.2.1 (by rw [h]; exact Int32.lt_irrefl)
      · exact absurd (Int32.lt_trans h hlt.2.2.2.2.1) Int32.lt_irrefl
theorem m_fitting {fu : Nat} {S' : fd_S} {w : Int32} (hfu : 10000 ≤ fu) (hK : m_K S') (h2 : 0 ≤ S' 73 8 ∧ S' 73 8 ≤ 12) (w0 : 0 ≤ w) (w7 : w < 7) : ∃ r, zM_fitting fu S' w = some r ∧ m_ft (S' 81) (S' 73 8) w r :=
  m_f7 hfu hK h2 w0 w7 fu 0 (m_ms_fu (by decide) (Int32.le_trans h2.2 (by decide)) hfu) (by decide) h2.1 (Int32.le_trans (by decide) (m_size_rg w).1) (fun k k0 k1 => absurd k0 (Int32.not_le.mpr k1))
end
section
/-! ===== which bound a text tells ===== -/
def m_tl (s : Int32 → Int32) (L w : Int32) : Prop := zM_size w + 1 < L ∧ m_ft s L w L
theorem m_tl_k {s : Int32 → Int32} {L w : Int32} (h : m_tl s L w) {k : Int32} (k0 : 0 ≤ k) (k1 : k < L) : m_fit s w k := h.2.2.1 k k0 k1
def m_rq (w : Nat) (k : Nat) : Int32 := if nI k < zM_size (nI w) then fd_sc (zT_nameOf (nI w)) (nI k) else 61
theorem b_rq : ∀ w : Nat, w < 7 → ∀ v : Nat, v < 7 → m_rq w 0 = m_rq v 0 ∧ m_rq w 1 = m_rq v 1 ∧ m_rq w 2 = m_rq v 2 ∧ m_rq w 3 = m_rq v 3 → w = v := by decide
theorem m_tl_rq {s : Int32 → Int32} {L : Int32} {w k : Nat} (hL : L ≤ 12) (hw : w < 7) (h : m_tl s L (nI w)) (hk : k < 4) : s (nI k) = m_rq w k := by
  have hz := m_size_rg (nI w)
  have hl := h.1
  have ek := nI_toInt (n := k) (by omega)
  have k0 : 0 ≤ nI k ∧ nI k < L ∧ nI k ≤ zM_size (nI w) := by
    clear h
    refine ⟨?_, ?_, ?_⟩
    · rw [i_le, ek]; (simp only [ne_eq, i_lt, i_le, i_eq, i_add, i_sub, i_neg, i_mul, Int32.reduceToInt] at *; omega)
    · rw [i_lt, ek]; (simp only [ne_eq, i_lt, i_le, i_eq, i_add, i_sub, i_neg, i_mul, Int32.reduceToInt] at *; omega)
    · rw [i_le, ek]; (simp only [ne_eq, i_lt, i_le, i_eq, i_add, i_sub, i_neg, i_mul, Int32.reduceToInt] at *; omega)
  unfold m_rq
  rcases m_tl_k h k0.1 k0.2.1 with ⟨a, b⟩ | ⟨a, b⟩ | ⟨a, -⟩
  · rw [if_pos a]
    exact b
  · rw [if_neg (by rw [a]; exact Int32.lt_irrefl)]
    exact b
  · exact absurd a (Int32.not_lt.mpr k0.2.2)
theorem m_tl_uniq {s : Int32 → Int32} {L w v : Int32} (hL : L ≤ 12) (w0 : 0 ≤ w) (w7 : w < 7) (v0 : 0 ≤ v) (v7 : v < 7) (h : m_tl s L w) (h' : m_tl s L v) : w = v := by
  obtain ⟨a, ha, rfl⟩ := m_nat (x := w) (M := 6) w0 (show w ≤ (6 : Int32) by clear h; (simp only [ne_eq, i_lt, i_le, i_eq, i_add, i_sub, i_neg, i_mul, Int32.reduceToInt] at *; omega)) (by decide)
  obtain ⟨b, hb, rfl⟩ := m_nat (x := v) (M := 6) v0 (show v ≤ (6 : Int32) by clear h h'; (simp only [ne_eq, i_lt, i_le, i_eq, i_add, i_sub, i_neg, i_mul, Int32.reduceToInt] at *; omega)) (by decide)
  have key : ∀ k : Nat, k < 4 → m_rq a k = m_rq b k := fun k hk => by rw [← m_tl_rq hL (by omega) h hk, ← m_tl_rq hL (by omega) h' hk]
  rw [b_rq a (by omega) b (by omega) ⟨key 0 (by omega), key 1 (by omega), key 2 (by omega), key 3 (by omega)⟩]
def m_td (s : Int32 → Int32) (L t : Int32) : Prop := (t = -6 ∧ ∀ w : Int32, 0 ≤ w → w < 7 → ¬ m_tl s L w) ∨ (0 ≤ t ∧ t < 7 ∧ m_tl s L t)
theorem m_td_uniq {s : Int32 → Int32} {L t t' : Int32} (hL : L ≤ 12) (h : m_td s L t) (h' : m_td s L t') : t = t' := by
  rcases h with ⟨a, b⟩ | ⟨a, b, c⟩ <;> rcases h' with ⟨a', b'⟩ | ⟨a', b', c'⟩
  · rw [a, a']
  · exact absurd c' (b t' a' b')
  · exact absurd c (b' t a b)
  · exact m_tl_uniq hL a b a' b' c c'
theorem m_tells {fu : Nat} {S S' : fd_S} {w : Int32} (hfu : 10000 ≤ fu) (h : m_TX S S') (w0 : 0 ≤ w) (w7 : w < 7) : ∃ v, zT_tells fu S (zT_nameOf w) = some v ∧ (v = 0 ↔ ¬ m_tl (S' 81) (S' 73 8) w) := by
  obtain ⟨r, r1, r2⟩ := m_fittingSigns hfu h w0 w7
  unfold zT_tells
  rw [if_pos (m_slz w0 w7).2, (m_slz w0 w7).1, h.1, r1, Option.bind_some]
  by_cases c : S' 73 8 ≤ zM_size w + 1
  · rw [if_pos c]
    exact ⟨0, rfl, ⟨fun _ z => absurd z.1 (Int32.not_lt.mpr c), fun _ => rfl⟩⟩
  · rw [if_neg c]
    by_cases c2 : r = S' 73 8
    · rw [if_pos c2]
      refine ⟨1, rfl, ⟨fun z => absurd z (by decide), fun z => absurd ⟨Int32.not_le.mp c, ?_⟩ z⟩⟩
      rw [c2] at r2
      exact r2
    · rw [if_neg c2]
      exact ⟨0, rfl, ⟨fun _ z => c2 (m_ft_uniq r2 z.2), fun _ => rfl⟩⟩
theorem m_tb2 {fu : Nat} {S S' : fd_S} (hfu : 10000 ≤ fu) (h : m_TX S S') : ∀ (n : Nat) (x : Int32), m_ms 7 x < n → 0 ≤ x → x ≤ 7 → (∀ w : Int32, 0 ≤ w → w < x → ¬ m_tl (S' 81) (S' 73 8) w) → ∃ t, zT_toldBound_2 fu n S x = some t ∧ m_td (S' 81) (S' 73 8) t := by
  intro n
  induction n with
  | zero => intro x h; omega
  | succ n ih =>
    intro x hn x0 x1 hx
    rw [zT_toldBound_2]
    by_cases c : 7 ≤ x
    · rw [if_pos c]
      exact ⟨-6, rfl, Or.inl ⟨rfl, fun w w0 w1 => hx w w0 (Int32.lt_of_lt_of_le w1 c)⟩⟩
    have hlt : x < 7 ∧ 0 ≤ x + 1 ∧ x + 1 ≤ 7 := by clear h hx ih; (simp only [ne_eq, i_lt, i_le, i_eq, i_add, i_sub, i_neg, i_mul, Int32.reduceToInt] at *; omega)
    have hms := m_ms_up c
    obtain ⟨v, v1, v2⟩ := m_tells hfu h x0 hlt.1
    simp only [fd_lt]
    rw [if_neg c, v1, Option.bind_some]
    by_cases cv : v = 0
    · rw [if_pos cv]
      refine ih (x + 1) (by omega) hlt.2.1 hlt.2.2 (fun w w0 w1 => ?_)
      by_cases cw : w = x
      · rw [cw]
        exact v2.mp cv
      · exact hx w w0 (by clear h hx ih v1 v2; (simp only [ne_eq, i_lt, i_le, i_eq, i_add, i_sub, i_neg, i_mul, Int32.reduceToInt] at *; omega))
    · rw [if_neg cv]
      exact ⟨x, rfl, Or.inr ⟨x0, hlt.1, Decidable.byContradiction (dec := Classical.propDecidable _) (fun z => cv (v2.mpr z))⟩⟩
theorem m_toldBound {fu : Nat} {S S' : fd_S} (hfu : 10000 ≤ fu) (h : m_TX S S') : ∃ t, zT_toldBound fu S = some t ∧ m_td (S' 81) (S' 73 8) t :=
  m_tb2 hfu h fu 0 (m_ms_fu (by decide) (by decide) hfu) (by decide) (by decide) (fun w w0 w1 => absurd w0 (Int32.not_le.mpr w1))
theorem m_t5 {fu : Nat} {S' : fd_S} (hfu : 10000 ≤ fu) (hK : m_K S') (h2 : 0 ≤ S' 73 8 ∧ S' 73 8 ≤ 12) : ∀ (n : Nat) (t x : Int32), m_ms 7 x < n → 0 ≤ x → x ≤ 7 → ((t = -6 ∧ ∀ w : Int32, 0 ≤ w → w < x → ¬ m_tl (S' 81) (S' 73 8) w) ∨ (0 ≤ t ∧ t < 7 ∧ m_tl (S' 81) (S' 73 8) t)) → ∃ t', zM_told_5 fu n S' t x = some t' ∧ m_td (S' 81) (S' 73 8) t' := by
  intro n
  induction n with
  | zero => intro t x h; omega
  | succ n ih =>
    intro t x hn x0 x1 hx
    rw [zM_told_5]
    by_cases c : 7 ≤ x
    · rw [if_pos c]
      refine ⟨t, rfl, ?_⟩
      rcases hx with ⟨a, b⟩ | b
      · exact Or.inl ⟨a, fun w w0 w1 => b w w0 (Int32.lt_of_lt_of_le w1 c)⟩
      · exact Or.inr b
    have hlt : x < 7 ∧ 0 ≤ x + 1 ∧ x + 1 ≤ 7 := by clear hK hx ih; (simp only [ne_eq, i_lt, i_le, i_eq, i_add, i_sub, i_neg, i_mul, Int32.reduceToInt] at *; omega)
    have hms := m_ms_up c
    obtain ⟨r, r1, r2⟩ := m_fitting hfu hK h2 x0 hlt.1
    simp only [fd_lt]
    have no : ¬ m_tl (S' 81) (S' 73 8) x → ∃ t', zM_told_5 fu n S' t (x + 1) = some t' ∧ m_td (S' 81) (S' 73 8) t' := by
      intro hn
      refine ih t (x + 1) (by omega) hlt.2.1 hlt.2.2 ?_
      rcases hx with ⟨a, b⟩ | b
      · refine Or.inl ⟨a, fun w w0 w1 => ?_⟩
        by_cases cw : w = x
        · rw [cw]
          exact hn
        · exact b w w0 (by clear hK ih r1 r2 b hn; (simp only [ne_eq, i_lt, i_le, i_eq, i_add, i_sub, i_neg, i_mul, Int32.reduceToInt] at *; omega))
      · exact Or.inr b
    rw [if_neg c]
    by_cases c1 : S' 73 8 ≤ zM_size x + 1
    · rw [if_pos c1]
      exact no (fun z => absurd z.1 (Int32.not_lt.mpr c1))
    · rw [if_neg c1, r1, Option.bind_some]
      by_cases c2 : r = S' 73 8
      · rw [if_pos c2]
        rw [c2] at r2
        exact ih x (x + 1) (by omega) hlt.2.1 hlt.2.2 (Or.inr ⟨x0, hlt.1, Int32.not_le.mp c1, r2⟩)
      · rw [if_neg c2]
        exact no (fun z => c2 (m_ft_uniq r2 z.2))
theorem m_told {fu : Nat} {S' : fd_S} (hfu : 10000 ≤ fu) (hK : m_K S') (h2 : 0 ≤ S' 73 8 ∧ S' 73 8 ≤ 12) : ∃ t, zM_told fu S' = some t ∧ m_td (S' 81) (S' 73 8) t :=
  m_t5 hfu hK h2 fu (-6) 0 (m_ms_fu (by decide) (by decide) hfu) (by decide) (by decide) (Or.inl ⟨rfl, fun w w0 w1 => absurd w0 (Int32.not_le.mpr w1)⟩)
theorem m_ffLoop {fu : Nat} {S S' : fd_S} (hfu : 10000 ≤ fu) (h : m_TX S S') (hK : m_K S') {t : Int32} (et : zM_told fu S' = some t) : ∀ (n : Nat) (v x : Int32), m_ms 7 x < n → 0 ≤ x → x ≤ 7 → ∃ r, zT_findFault_16 fu n S v x = some r ∧ zM_faultNow_4 fu n S' v x = some (if t < 0 then r else -6) := by
  intro n
  induction n with
  | zero => intro v x h; omega
  | succ n ih =>
    intro v x hn x0 x1
    rw [zT_findFault_16, zM_faultNow_4]
    by_cases c : 7 ≤ x
    · rw [if_pos c, if_pos c, et, Option.bind_some]
      refine ⟨v, rfl, ?_⟩
      split <;> rfl
    have hlt : x < 7 ∧ 0 ≤ x + 1 ∧ x + 1 ≤ 7 := by clear hK h ih; (simp only [ne_eq, i_lt, i_le, i_eq, i_add, i_sub, i_neg, i_mul, Int32.reduceToInt] at *; omega)
    have hms := m_ms_up c
    obtain ⟨r, r1, r2⟩ := m_fittingSigns hfu h x0 hlt.1
    obtain ⟨r', r1', r2'⟩ := m_fitting hfu hK h.2.1 x0 hlt.1
    have e := m_ft_uniq r2 r2'
    subst e
    simp only [fd_lt]
    rw [if_neg c, if_neg c, r1, r1', Option.bind_some, Option.bind_some, Option.bind_some]
    have em : fd_max v r = if r ≤ v then v else r := by
      unfold fd_max
      by_cases cv : r ≤ v
      · rw [if_pos cv, if_neg (Int32.not_lt.mpr cv)]
      · rw [if_neg cv, if_pos (Int32.not_le.mp cv)]
    rw [em]
    by_cases cv : r ≤ v
    · rw [if_pos cv, if_pos cv]
      exact ih v (x + 1) (by omega) hlt.2.1 hlt.2.2
    · rw [if_neg cv, if_neg cv]
      exact ih r (x + 1) (by omega) hlt.2.1 hlt.2.2
theorem m_fault {fu : Nat} {S S' : fd_S} (hfu : 10000 ≤ fu) (h : m_TX S S') (hK : m_K S') : ∃ r, zF_fault fu S = some r ∧ zM_fault fu S' = some r := by
  obtain ⟨t, t1, t2⟩ := m_toldBound hfu h
  obtain ⟨t', t1', t2'⟩ := m_told hfu hK h.2.1
  have e := m_td_uniq h.2.1.2 t2 t2'
  subst e
  obtain ⟨r, r1, r2⟩ := m_ffLoop hfu h hK t1' fu 0 0 (m_ms_fu (by decide) (by decide) hfu) (by decide) (by decide)
  unfold zF_fault zM_fault zT_findFault zM_faultNow
  rw [t1, r1, r2, Option.bind_some, Option.bind_some]
  rcases t2 with ⟨a, -⟩ | ⟨a, -, -⟩
  · rw [if_pos a, if_pos (show t < 0 by rw [a]; decide)]
    exact ⟨r, rfl, rfl⟩
  · rw [if_neg (show ¬ t = -6 by clear t1 t1' t2' r1 r2 h hK; (simp only [ne_eq, i_lt, i_le, i_eq, i_add, i_sub, i_neg, i_mul, Int32.reduceToInt] at *; omega)), if_neg (Int32.not_lt.mpr a)]
    exact ⟨-6, rfl, rfl⟩
theorem b_letter : ∀ w : Nat, w < 7 → ∀ k : Nat, k < 4 → nI k < zM_size (nI w) → zT_isFigure (fd_sc (zT_nameOf (nI w)) (nI k)) = 0 := by decide
theorem m_nofig {s : Int32 → Int32} {w k : Int32} (w0 : 0 ≤ w) (w7 : w < 7) (k0 : 0 ≤ k) (k1 : k ≤ zM_size w) (h : m_fit s w k) : zT_isFigure (s k) = 0 := by
  have hz := m_size_rg w
  rcases h with ⟨a, b⟩ | ⟨a, b⟩ | ⟨a, -⟩
  · rw [b]
    obtain ⟨c, hc, rfl⟩ := m_nat (x := w) (M := 6) w0 (show w ≤ (6 : Int32) by clear a b; (simp only [ne_eq, i_lt, i_le, i_eq, i_add, i_sub, i_neg, i_mul, Int32.reduceToInt] at *; omega)) (by decide)
    obtain ⟨d, hd, rfl⟩ := m_nat (x := k) (M := 3) k0 (show k ≤ (3 : Int32) by clear b; (simp only [ne_eq, i_lt, i_le, i_eq, i_add, i_sub, i_neg, i_mul, Int32.reduceToInt] at *; omega)) (by decide)
    exact b_letter c (by omega) d (by omega) a
  · rw [b]
    decide
  · exact absurd a (Int32.not_lt.mpr k1)
theorem m_tn_a {fu : Nat} {S S' : fd_S} {w : Int32} (h : m_TX S S') (w0 : 0 ≤ w) (w7 : w < 7) (ht : m_tl (S' 81) (S' 73 8) w) : ∀ (m n : Nat) (x : Int32), m_ms (zM_size w + 1) x = m → 0 ≤ x → x ≤ zM_size w + 1 → zT_toldNumber_4 fu (m + n) S 0 x = zT_toldNumber_4 fu n S 0 (zM_size w + 1) := by
  have hz := m_size_rg w
  have hl := ht.1
  have h12 := h.2.1
  intro m
  induction m with
  | zero =>
    intro n x hm x0 x1
    have : x = zM_size w + 1 := by
      unfold m_ms at hm
      clear h ht
      (simp only [ne_eq, i_lt, i_le, i_eq, i_add, i_sub, i_neg, i_mul, Int32.reduceToInt] at *; omega)
    rw [this, Nat.zero_add]
  | succ m ih =>
    intro n x hm x0 x1
    have hlt : ¬ zM_size w + 1 ≤ x ∧ x ≤ zM_size w ∧ ¬ S' 73 8 ≤ x ∧ x < S' 73 8 ∧ x < 12 ∧ 0 ≤ x + 1 ∧ x + 1 ≤ zM_size w + 1 := by
      unfold m_ms at hm
      clear h ht ih
      (simp only [ne_eq, i_lt, i_le, i_eq, i_add, i_sub, i_neg, i_mul, Int32.reduceToInt] at *; omega)
    have hms : m_ms (zM_size w + 1) (x + 1) = m := by
      have e := m_toInt_succ hlt.1
      unfold m_ms at hm ⊢
      rw [e]
      omega
    rw [show m + 1 + n = m + n + 1 by omega, zT_toldNumber_4, h.1]
    simp only [fd_lt]
    rw [if_neg hlt.2.2.1, if_pos ⟨x0, hlt.2.2.2.2.1⟩, h.2.2 x x0 hlt.2.2.2.1, if_pos (m_nofig w0 w7 x0 hlt.2.1 (m_tl_k ht x0 hlt.2.2.2.1))]
    exact ih n (x + 1) hms hlt.2.2.2.2.2.1 hlt.2.2.2.2.2.2
theorem m_tn_b {fu : Nat} {S S' : fd_S} {w : Int32} (h : m_TX S S') (w0 : 0 ≤ w) (w7 : w < 7) (ht : m_tl (S' 81) (S' 73 8) w) : ∀ (n n' : Nat) (v x : Int32), m_ms (S' 73 8) x < n → m_ms (S' 73 8) x < n' → zM_size w + 1 ≤ x → x ≤ S' 73 8 → ∃ N, zT_toldNumber_4 fu n S v x = some N ∧ zM_set_21 fu n' S' w v x = zM_set_21 fu 1 S' w N (S' 73 8) := by
  have hz := m_size_rg w
  have h12 := h.2.1
  intro n
  induction n with
  | zero => intro n' v x h; omega
  | succ n ih =>
    intro n' v x hn hn' xz x1
    rw [zT_toldNumber_4, h.1]
    obtain ⟨m, rfl⟩ : ∃ m, n' = m + 1 := ⟨n' - 1, by omega⟩
    by_cases c : S' 73 8 ≤ x
    · rw [if_pos c]
      refine ⟨v, rfl, ?_⟩
      have e : x = S' 73 8 := by clear h ht ih; (simp only [ne_eq, i_lt, i_le, i_eq, i_add, i_sub, i_neg, i_mul, Int32.reduceToInt] at *; omega)
      rw [zM_set_21, zM_set_21, if_pos c, if_pos (Int32.le_refl _)]
    have hlt : 0 ≤ x ∧ x < S' 73 8 ∧ x < 12 ∧ zM_size w + 1 ≤ x + 1 ∧ x + 1 ≤ S' 73 8 ∧ zM_size w < x := by clear h ht ih; (simp only [ne_eq, i_lt, i_le, i_eq, i_add, i_sub, i_neg, i_mul, Int32.reduceToInt] at *; omega)
    have hms := m_ms_up c
    have hf : ¬ zT_isFigure (S' 81 x) = 0 := by
      rcases m_tl_k ht hlt.1 hlt.2.1 with ⟨a, -⟩ | ⟨a, -⟩ | ⟨-, -, a⟩
      · exact absurd (Int32.lt_trans a hlt.2.2.2.2.2) Int32.lt_irrefl
      · exact absurd hlt.2.2.2.2.2 (by rw [a]; exact Int32.lt_irrefl)
      · rcases m_fig (S' 81 x) with ⟨-, z⟩ | ⟨z, -⟩
        · exact absurd a z
        · exact z
    rw [zM_set_21]
    simp only [fd_lt]
    have hr : 0 ≤ x ∧ x < 12 := ⟨hlt.1, hlt.2.2.1⟩
    simp only [if_neg c, if_pos hr]
    rw [h.2.2 x hlt.1 hlt.2.1, if_neg hf, Int32.mul_comm v 10]
    exact ih m _ (x + 1) (by omega) (by omega) hlt.2.2.2.1 hlt.2.2.2.2.1
theorem m_GB_set {g : Int32 → Int32} {w n : Int32} (hg : m_GB g) (w0 : 0 ≤ w) (w7 : w < 7) (hn : fd_tl fd_least w ≤ n ∧ n ≤ fd_tl fd_most w) : m_GB (m_gu g (32 + w) n) := by
  obtain ⟨a, ha, rfl⟩ := m_nat (x := w) (M := 6) w0 (show w ≤ (6 : Int32) by clear hg hn; (simp only [ne_eq, i_lt, i_le, i_eq, i_add, i_sub, i_neg, i_mul, Int32.reduceToInt] at *; omega)) (by decide)
  have ha7 : a = 0 ∨ a = 1 ∨ a = 2 ∨ a = 3 ∨ a = 4 ∨ a = 5 ∨ a = 6 := by omega
  obtain ⟨g0, g1, g2, g3, g4, g5, g6⟩ := hg
  unfold m_GB m_gu
  rcases ha7 with rfl | rfl | rfl | rfl | rfl | rfl | rfl
  · exact ⟨hn, g1, g2, g3, g4, g5, g6⟩
  · exact ⟨g0, hn, g2, g3, g4, g5, g6⟩
  · exact ⟨g0, g1, hn, g3, g4, g5, g6⟩
  · exact ⟨g0, g1, g2, hn, g4, g5, g6⟩
  · exact ⟨g0, g1, g2, g3, hn, g5, g6⟩
  · exact ⟨g0, g1, g2, g3, g4, hn, g6⟩
  · exact ⟨g0, g1, g2, g3, g4, g5, hn⟩
theorem m_set {fu : Nat} {S S' : fd_S} (hfu : 10000 ≤ fu) (h : m_TX S S') (hK : m_K S') (hS : m_St S (S' 78)) (hg : m_Go (S' 78)) :
    ∃ r S1 S1', zF_set fu S = some (r, S1) ∧ zM_set fu S' = some (r, S1') ∧ m_TX S1 S1' ∧ m_St S1 (S1' 78) ∧ m_Go (S1' 78) ∧ S1' 78 63 = S' 78 63 ∧ S1' 78 70 = S' 78 70 ∧ (∀ k : Nat, k ≠ 71 → k ≠ 2 → S1 k = S k) ∧ ∀ k : Nat, k ≠ 73 → k ≠ 78 → S1' k = S' k := by
  obtain ⟨t, t1, t2⟩ := m_toldBound hfu h
  obtain ⟨t', t1', t2'⟩ := m_told hfu hK h.2.1
  have e := m_td_uniq h.2.1.2 t2 t2'
  subst e
  unfold zF_set zM_set
  rw [t1, t1', Option.bind_some, Option.bind_some]
  rcases t2 with ⟨a, -⟩ | ⟨a, b, ht⟩
  · rw [if_pos a, if_neg (show ¬ 0 ≤ t by rw [a]; decide)]
    exact ⟨-7, S, S', rfl, rfl, h, hS, hg, rfl, rfl, fun _ _ _ => rfl, fun _ _ _ => rfl⟩
  · have hz := m_size_rg t
    have hl := ht.1
    have h12 := h.2.1
    have hzz : zM_size t + 1 ≤ S' 73 8 ∧ 0 ≤ zM_size t + 1 ∧ zM_size t + 1 ≤ 6000 := by clear h hK hS hg t1 t1' t2' ht; (simp only [ne_eq, i_lt, i_le, i_eq, i_add, i_sub, i_neg, i_mul, Int32.reduceToInt] at *; omega)
    have hm1 := m_ms_fu (N := S' 73 8) hzz.2.1 (Int32.le_trans h12.2 (by decide)) hfu
    have hm0 : m_ms (zM_size t + 1) 0 ≤ 100 := by
      unfold m_ms
      clear h hK hS hg t1 t1' t2' ht hm1
      (simp only [ne_eq, i_lt, i_le, i_eq, i_add, i_sub, i_neg, i_mul, Int32.reduceToInt] at *; omega)
    have hm12 : m_ms (S' 73 8) (zM_size t + 1) ≤ 100 := by
      unfold m_ms
      clear h hK hS hg t1 t1' t2' ht hm1 hm0
      (simp only [ne_eq, i_lt, i_le, i_eq, i_add, i_sub, i_neg, i_mul, Int32.reduceToInt] at *; omega)
    obtain ⟨N, n1, n2⟩ := m_tn_b (fu := fu) h a b ht (fu - m_ms (zM_size t + 1) 0) fu 0 (zM_size t + 1) (by omega) hm1 (Int32.le_refl _) hzz.1
    have ea := m_tn_a (fu := fu) h a b ht _ (fu - m_ms (zM_size t + 1) 0) 0 rfl (by decide) hzz.2.1
    rw [show m_ms (zM_size t + 1) 0 + (fu - m_ms (zM_size t + 1) 0) = fu by omega, n1] at ea
    have eN : zT_toldNumber fu S = some N := ea
    have hr : 0 ≤ t ∧ t < 7 := ⟨a, b⟩
    simp only [fd_lt]
    rw [if_neg (show ¬ t = -6 by clear h hK hS hg t1 t1' t2' ht; (simp only [ne_eq, i_lt, i_le, i_eq, i_add, i_sub, i_neg, i_mul, Int32.reduceToInt] at *; omega)), eN, Option.bind_some, if_pos a, n2, zM_set_21]
    simp only [fd_lt, if_pos hr, if_pos (Int32.le_refl (S' 73 8))]
    have hk := hK.2.1 t a b
    rw [hk.1, hk.2]
    by_cases c : fd_tl fd_least t ≤ N ∧ N ≤ fd_tl fd_most t
    · rw [if_neg (m_within1 c), if_neg (m_in1 c)]
      have h32 : 0 ≤ 32 + t ∧ 32 + t < 275 := by clear h hK hS hg t1 t1' t2' ht hk c; (simp only [ne_eq, i_lt, i_le, i_eq, i_add, i_sub, i_neg, i_mul, Int32.reduceToInt] at *; omega)
      have h32b : 32 ≤ 32 + t ∧ 32 + t < 39 := by clear h hK hS hg t1 t1' t2' ht hk c; (simp only [ne_eq, i_lt, i_le, i_eq, i_add, i_sub, i_neg, i_mul, Int32.reduceToInt] at *; omega)
      have ebd : zM_bounded S' t = some (S' 78 (32 + t)) := by
        unfold zM_bounded
        rw [if_pos h32]
      unfold zT_clear zB_replace
      simp only [fd_lt, if_pos hr, Option.bind_some, ebd, if_pos h32]
      unfold fd_pr
      dsimp only
      have hs : S' 78 (32 + t) = S 2 t := (hS.B t a b).symm
      have oo : ∀ j : Int32, j < 32 ∨ 39 ≤ j → fd_up (fd_up S' 78 (32 + t) N) 73 8 0 78 j = S' 78 j := by
        intro j hj
        rw [fd_up_ne (by decide), fd_up_at, if_neg (by clear h hK hS hg t1 t1' t2' ht hk c; (simp only [ne_eq, i_lt, i_le, i_eq, i_add, i_sub, i_neg, i_mul, Int32.reduceToInt] at *; omega))]
      have o2 : ∀ j : Int32, fd_up (fd_up S' 78 (32 + t) N) 73 8 0 78 j = m_gu (S' 78) (32 + t) N j := by
        intro j
        rw [fd_up_ne (by decide), fd_up_at, m_gu]
      have s2 : ∀ k : Nat, k ≠ 71 → k ≠ 2 → fd_up (fd_up S 71 1 0) 2 t N k = S k := fun k k1 k2 => by rw [fd_up_ne k2, fd_up_ne k1]
      have h64 := hS.R.2.2.1
      refine ⟨S 2 t, _, _, by rw [fd_up_ne (by decide)], by rw [hs], ⟨?_, ?_, ?_⟩, ⟨?_, ?_, ?_, ?_, ?_, ?_, ?_, ?_, ?_, ?_, ?_⟩, ⟨?_, ?_, ?_, ?_, ?_⟩, oo _ (by decide), oo _ (by decide), s2, ?_⟩
      · rw [fd_up_ne (by decide), fd_up_at, if_pos rfl, fd_up_at, if_pos rfl]
      · rw [fd_up_at, if_pos rfl]
        exact ⟨by decide, by decide⟩
      · intro j j0 j1
        rw [fd_up_at, if_pos rfl] at j1
        exact absurd j0 (Int32.not_le.mpr j1)
      · exact m_R_congr hS.R (by rw [s2 3 (by decide) (by decide)]) (s2 4 (by decide) (by decide)) (fun k _ _ => s2 k (by omega) (by omega)) (oo _ (by decide)) (fun j h1 h2 => oo j (Or.inr (Int32.le_trans (by decide) h1)))
      · intro i i0 i1
        rw [o2, fd_up_at, m_gu]
        by_cases ci : i = t
        · rw [if_pos ci, if_pos (by rw [ci])]
        · rw [if_neg ci, if_neg (by clear h hK hS hg t1 t1' t2' ht hk c oo o2 s2; (simp only [ne_eq, i_lt, i_le, i_eq, i_add, i_sub, i_neg, i_mul, Int32.reduceToInt] at *; omega)), fd_up_ne (by decide), hS.B i i0 i1]
      · exact m_L_congr hS.L (s2 5 (by decide) (by decide)) (s2 6 (by decide) (by decide)) (s2 7 (by decide) (by decide)) (oo _ (by decide)) (fun j hj => oo j (Or.inr (Int32.le_trans (by decide) hj)))
      · intro j j0 j1
        rw [s2 20 (by decide) (by decide), hS.Q j j0 j1, oo j (Or.inl j1)]
      · intro p p0 p1
        have hT := hS.T p p0 p1
        have key : ∀ c : Int32, 0 ≤ c → c < 3 → fd_up (fd_up S' 78 (32 + t) N) 73 8 0 78 (39 + 3 * p + c) = S' 78 (39 + 3 * p + c) := by
          intro c c0 c1
          exact oo _ (Or.inr (b_3 p0 p1 c0 c1).2.1)
        unfold m_T1 at hT ⊢
        rw [key 0 (by decide) (by decide), key 1 (by decide) (by decide), key 2 (by decide) (by decide), s2 21 (by decide) (by decide), s2 22 (by decide) (by decide)]
        exact hT
      · rw [s2 0 (by decide) (by decide), hS.c6, oo _ (by decide)]
      · rw [s2 0 (by decide) (by decide), hS.c7, oo _ (by decide)]
      · rw [s2 0 (by decide) (by decide), hS.c8, oo _ (by decide)]
      · rw [s2 0 (by decide) (by decide), hS.c9, oo _ (by decide)]
      · rw [s2 0 (by decide) (by decide), hS.c10, oo _ (by decide)]
      · rw [s2 3 (by decide) (by decide), hS.d2, oo _ (by decide)]
      · exact m_GR_congr hg.R h64.2 (oo _ (by decide)) (by rw [oo _ (by decide)]; exact Int32.le_refl _) (fun j h1 h2 => oo j (Or.inr (Int32.le_trans (by decide) h1)))
      · have := m_GB_set hg.B a b c
        exact m_GB_congr this (fun j _ _ => o2 j)
      · intro j j0 j1
        rw [oo j (Or.inl j1)]
        exact hg.P j j0 j1
      · intro p p0 p1
        have hbe : m_be (fd_up (fd_up S' 78 (32 + t) N) 73 8 0 78) p = m_be (S' 78) p ∧ m_bp (fd_up (fd_up S' 78 (32 + t) N) 73 8 0 78) p = m_bp (S' 78) p := by
          refine m_be_congr (fun q q0 q1 => ⟨?_, ?_⟩)
          · exact oo _ (Or.inl (b_8 q0 q1 p0 p1).2.2)
          · exact m_hd_lo h64.2 (oo _ (by decide)) (fun j h1 h2 => oo j (Or.inr (Int32.le_trans (by decide) h1))) _
        rw [hbe.1, hbe.2, oo _ (Or.inr (b_3 p0 p1 (by decide) (by decide)).2.1), oo _ (Or.inr (b_3 p0 p1 (by decide) (by decide)).2.1)]
        exact hg.O p p0 p1
      · rw [oo _ (by decide)]
        exact hg.t
      · intro k k1 k2
        rw [fd_up_ne k1, fd_up_ne k2]
    · rw [if_pos (m_within0 c), if_pos (m_in0 c)]
      exact ⟨-2, S, S', rfl, rfl, h, hS, hg, rfl, rfl, fun _ _ _ => rfl, fun _ _ _ => rfl⟩
end
