section
-- ===== PART A: goes FIRST, ahead of the names: the tables' words, and 'selects' of the private methods out of them =====
/-- a private method of a class that the tables say can be made, by its rows of tables_1 -/
def lw_okq (q : MethodName × Nat) : Prop := (q.1.cls ≠ "java/lang/invoke/MethodHandle" ∧ q.1.cls ≠ "java/lang/invoke/VarHandle") ∧ Cond.instantiable q.1.cls q.2 ∈ tables_1 ∧ Cond.privateMethod q.1 ∈ tables_1 ∧ Cond.instanceMethod q.1 ∈ tables_1
theorem lw_p0 : lw_okq (⟨"FlapDamper$Text", "tells", "(Ljava/lang/String;)Z"⟩, 2) := ⟨⟨by decide +kernel, by decide +kernel⟩, List.mem_of_getElem? (i := 25) (by decide +kernel), List.mem_of_getElem? (i := 246) (by decide +kernel), List.mem_of_getElem? (i := 247) (by decide +kernel)⟩
theorem lw_p1 : lw_okq (⟨"FlapDamper$Text", "fittingSigns", "(Ljava/lang/String;)I"⟩, 2) := ⟨⟨by decide +kernel, by decide +kernel⟩, List.mem_of_getElem? (i := 25) (by decide +kernel), List.mem_of_getElem? (i := 260) (by decide +kernel), List.mem_of_getElem? (i := 261) (by decide +kernel)⟩
theorem lw_p2 : lw_okq (⟨"FlapDamper$Text", "fits", "(Ljava/lang/String;I)Z"⟩, 2) := ⟨⟨by decide +kernel, by decide +kernel⟩, List.mem_of_getElem? (i := 25) (by decide +kernel), List.mem_of_getElem? (i := 264) (by decide +kernel), List.mem_of_getElem? (i := 265) (by decide +kernel)⟩
theorem lw_p3 : lw_okq (⟨"FlapDamper$State", "weigh", "(II)I"⟩, 11) := ⟨⟨by decide +kernel, by decide +kernel⟩, List.mem_of_getElem? (i := 40) (by decide +kernel), List.mem_of_getElem? (i := 348) (by decide +kernel), List.mem_of_getElem? (i := 349) (by decide +kernel)⟩
theorem lw_p4 : lw_okq (⟨"FlapDamper$State", "judge", "(III)I"⟩, 11) := ⟨⟨by decide +kernel, by decide +kernel⟩, List.mem_of_getElem? (i := 40) (by decide +kernel), List.mem_of_getElem? (i := 352) (by decide +kernel), List.mem_of_getElem? (i := 353) (by decide +kernel)⟩
theorem lw_p5 : lw_okq (⟨"FlapDamper$RecordList", "dropFirstFree", "()Z"⟩, 3) := ⟨⟨by decide +kernel, by decide +kernel⟩, List.mem_of_getElem? (i := 67) (by decide +kernel), List.mem_of_getElem? (i := 368) (by decide +kernel), List.mem_of_getElem? (i := 369) (by decide +kernel)⟩
theorem lw_p6 : lw_okq (⟨"FlapDamper$State", "addTo", "(LFlapDamper$RouteRecord;II)I"⟩, 11) := ⟨⟨by decide +kernel, by decide +kernel⟩, List.mem_of_getElem? (i := 40) (by decide +kernel), List.mem_of_getElem? (i := 381) (by decide +kernel), List.mem_of_getElem? (i := 382) (by decide +kernel)⟩
theorem lw_p7 : lw_okq (⟨"FlapDamper$State", "dueAfter", "(LFlapDamper$RouteRecord;I)I"⟩, 11) := ⟨⟨by decide +kernel, by decide +kernel⟩, List.mem_of_getElem? (i := 40) (by decide +kernel), List.mem_of_getElem? (i := 406) (by decide +kernel), List.mem_of_getElem? (i := 407) (by decide +kernel)⟩
theorem lw_p8 : lw_okq (⟨"FlapDamper$State", "isBelowBack", "(LFlapDamper$RouteRecord;I)Z"⟩, 11) := ⟨⟨by decide +kernel, by decide +kernel⟩, List.mem_of_getElem? (i := 40) (by decide +kernel), List.mem_of_getElem? (i := 411) (by decide +kernel), List.mem_of_getElem? (i := 412) (by decide +kernel)⟩
theorem lw_p9 : lw_okq (⟨"FlapDamper$State", "writeEvent", "(III)V"⟩, 11) := ⟨⟨by decide +kernel, by decide +kernel⟩, List.mem_of_getElem? (i := 40) (by decide +kernel), List.mem_of_getElem? (i := 415) (by decide +kernel), List.mem_of_getElem? (i := 416) (by decide +kernel)⟩
theorem lw_p10 : lw_okq (⟨"FlapDamper$State", "refreshBest", "(I)V"⟩, 11) := ⟨⟨by decide +kernel, by decide +kernel⟩, List.mem_of_getElem? (i := 40) (by decide +kernel), List.mem_of_getElem? (i := 433) (by decide +kernel), List.mem_of_getElem? (i := 434) (by decide +kernel)⟩
theorem lw_p11 : lw_okq (⟨"FlapDamper$State", "findBest", "(I)I"⟩, 11) := ⟨⟨by decide +kernel, by decide +kernel⟩, List.mem_of_getElem? (i := 40) (by decide +kernel), List.mem_of_getElem? (i := 437) (by decide +kernel), List.mem_of_getElem? (i := 438) (by decide +kernel)⟩
theorem lw_p12 : lw_okq (⟨"FlapDamper$State", "isLookedAt", "(I)Z"⟩, 11) := ⟨⟨by decide +kernel, by decide +kernel⟩, List.mem_of_getElem? (i := 40) (by decide +kernel), List.mem_of_getElem? (i := 457) (by decide +kernel), List.mem_of_getElem? (i := 458) (by decide +kernel)⟩
theorem lw_p13 : lw_okq (⟨"FlapDamper$State", "lookAt", "(LFlapDamper$RouteRecord;)V"⟩, 11) := ⟨⟨by decide +kernel, by decide +kernel⟩, List.mem_of_getElem? (i := 40) (by decide +kernel), List.mem_of_getElem? (i := 461) (by decide +kernel), List.mem_of_getElem? (i := 462) (by decide +kernel)⟩
theorem lw_p14 : lw_okq (⟨"FlapDamper$State", "dropSmallOnes", "()V"⟩, 11) := ⟨⟨by decide +kernel, by decide +kernel⟩, List.mem_of_getElem? (i := 40) (by decide +kernel), List.mem_of_getElem? (i := 465) (by decide +kernel), List.mem_of_getElem? (i := 466) (by decide +kernel)⟩
theorem lw_p15 : lw_okq (⟨"FlapDamper", "keptImages", "()I"⟩, 5) := ⟨⟨by decide +kernel, by decide +kernel⟩, List.mem_of_getElem? (i := 17) (by decide +kernel), List.mem_of_getElem? (i := 527) (by decide +kernel), List.mem_of_getElem? (i := 528) (by decide +kernel)⟩
def lw_privs_1 : List (MethodName × Nat) := [(⟨"FlapDamper$Text", "tells", "(Ljava/lang/String;)Z"⟩, 2), (⟨"FlapDamper$Text", "fittingSigns", "(Ljava/lang/String;)I"⟩, 2), (⟨"FlapDamper$Text", "fits", "(Ljava/lang/String;I)Z"⟩, 2), (⟨"FlapDamper$State", "weigh", "(II)I"⟩, 11), (⟨"FlapDamper$State", "judge", "(III)I"⟩, 11), (⟨"FlapDamper$RecordList", "dropFirstFree", "()Z"⟩, 3), (⟨"FlapDamper$State", "addTo", "(LFlapDamper$RouteRecord;II)I"⟩, 11), (⟨"FlapDamper$State", "dueAfter", "(LFlapDamper$RouteRecord;I)I"⟩, 11), (⟨"FlapDamper$State", "isBelowBack", "(LFlapDamper$RouteRecord;I)Z"⟩, 11), (⟨"FlapDamper$State", "writeEvent", "(III)V"⟩, 11), (⟨"FlapDamper$State", "refreshBest", "(I)V"⟩, 11), (⟨"FlapDamper$State", "findBest", "(I)I"⟩, 11), (⟨"FlapDamper$State", "isLookedAt", "(I)Z"⟩, 11), (⟨"FlapDamper$State", "lookAt", "(LFlapDamper$RouteRecord;)V"⟩, 11), (⟨"FlapDamper$State", "dropSmallOnes", "()V"⟩, 11), (⟨"FlapDamper", "keptImages", "()I"⟩, 5)]
theorem lw_r1 : ∀ q ∈ lw_privs_1, lw_okq q := List.forall_mem_cons.mpr ⟨lw_p0, List.forall_mem_cons.mpr ⟨lw_p1, List.forall_mem_cons.mpr ⟨lw_p2, List.forall_mem_cons.mpr ⟨lw_p3, List.forall_mem_cons.mpr ⟨lw_p4, List.forall_mem_cons.mpr ⟨lw_p5, List.forall_mem_cons.mpr ⟨lw_p6, List.forall_mem_cons.mpr ⟨lw_p7, List.forall_mem_cons.mpr ⟨lw_p8, List.forall_mem_cons.mpr ⟨lw_p9, List.forall_mem_cons.mpr ⟨lw_p10, List.forall_mem_cons.mpr ⟨lw_p11, List.forall_mem_cons.mpr ⟨lw_p12, List.forall_mem_cons.mpr ⟨lw_p13, List.forall_mem_cons.mpr ⟨lw_p14, List.forall_mem_cons.mpr ⟨lw_p15, fun _ h => absurd h List.not_mem_nil⟩⟩⟩⟩⟩⟩⟩⟩⟩⟩⟩⟩⟩⟩⟩⟩
theorem lw_p16 : lw_okq (⟨"FlapDamper", "imageOf", "(I)LFlapDamper$State;"⟩, 5) := ⟨⟨by decide +kernel, by decide +kernel⟩, List.mem_of_getElem? (i := 17) (by decide +kernel), List.mem_of_getElem? (i := 540) (by decide +kernel), List.mem_of_getElem? (i := 541) (by decide +kernel)⟩
theorem lw_p17 : lw_okq (⟨"FlapDamperModel", "faultNow", "()I"⟩, 9) := ⟨⟨by decide +kernel, by decide +kernel⟩, List.mem_of_getElem? (i := 571) (by decide +kernel), List.mem_of_getElem? (i := 628) (by decide +kernel), List.mem_of_getElem? (i := 629) (by decide +kernel)⟩
theorem lw_p18 : lw_okq (⟨"FlapDamperModel", "fitting", "(I)I"⟩, 9) := ⟨⟨by decide +kernel, by decide +kernel⟩, List.mem_of_getElem? (i := 571) (by decide +kernel), List.mem_of_getElem? (i := 632) (by decide +kernel), List.mem_of_getElem? (i := 633) (by decide +kernel)⟩
theorem lw_p19 : lw_okq (⟨"FlapDamperModel", "told", "()I"⟩, 9) := ⟨⟨by decide +kernel, by decide +kernel⟩, List.mem_of_getElem? (i := 571) (by decide +kernel), List.mem_of_getElem? (i := 642) (by decide +kernel), List.mem_of_getElem? (i := 643) (by decide +kernel)⟩
theorem lw_p20 : lw_okq (⟨"FlapDamperModel", "bounded", "(I)I"⟩, 9) := ⟨⟨by decide +kernel, by decide +kernel⟩, List.mem_of_getElem? (i := 571) (by decide +kernel), List.mem_of_getElem? (i := 650) (by decide +kernel), List.mem_of_getElem? (i := 651) (by decide +kernel)⟩
theorem lw_p21 : lw_okq (⟨"FlapDamperModel", "beginLine", "(II)V"⟩, 9) := ⟨⟨by decide +kernel, by decide +kernel⟩, List.mem_of_getElem? (i := 571) (by decide +kernel), List.mem_of_getElem? (i := 665) (by decide +kernel), List.mem_of_getElem? (i := 666) (by decide +kernel)⟩
theorem lw_p22 : lw_okq (⟨"FlapDamperModel", "write", "(I)V"⟩, 9) := ⟨⟨by decide +kernel, by decide +kernel⟩, List.mem_of_getElem? (i := 571) (by decide +kernel), List.mem_of_getElem? (i := 669) (by decide +kernel), List.mem_of_getElem? (i := 670) (by decide +kernel)⟩
theorem lw_p23 : lw_okq (⟨"FlapDamperModel", "lineAt", "(II)I"⟩, 9) := ⟨⟨by decide +kernel, by decide +kernel⟩, List.mem_of_getElem? (i := 571) (by decide +kernel), List.mem_of_getElem? (i := 673) (by decide +kernel), List.mem_of_getElem? (i := 674) (by decide +kernel)⟩
theorem lw_p24 : lw_okq (⟨"FlapDamperModel", "meet", "(III)I"⟩, 9) := ⟨⟨by decide +kernel, by decide +kernel⟩, List.mem_of_getElem? (i := 571) (by decide +kernel), List.mem_of_getElem? (i := 677) (by decide +kernel), List.mem_of_getElem? (i := 678) (by decide +kernel)⟩
theorem lw_p25 : lw_okq (⟨"FlapDamperModel", "recordOf", "(I)I"⟩, 9) := ⟨⟨by decide +kernel, by decide +kernel⟩, List.mem_of_getElem? (i := 571) (by decide +kernel), List.mem_of_getElem? (i := 681) (by decide +kernel), List.mem_of_getElem? (i := 682) (by decide +kernel)⟩
theorem lw_p26 : lw_okq (⟨"FlapDamperModel", "isCounted", "(II)Z"⟩, 9) := ⟨⟨by decide +kernel, by decide +kernel⟩, List.mem_of_getElem? (i := 571) (by decide +kernel), List.mem_of_getElem? (i := 688) (by decide +kernel), List.mem_of_getElem? (i := 689) (by decide +kernel)⟩
theorem lw_p27 : lw_okq (⟨"FlapDamperModel", "makeRecord", "(I)I"⟩, 9) := ⟨⟨by decide +kernel, by decide +kernel⟩, List.mem_of_getElem? (i := 571) (by decide +kernel), List.mem_of_getElem? (i := 692) (by decide +kernel), List.mem_of_getElem? (i := 693) (by decide +kernel)⟩
theorem lw_p28 : lw_okq (⟨"FlapDamperModel", "isHeld", "(I)Z"⟩, 9) := ⟨⟨by decide +kernel, by decide +kernel⟩, List.mem_of_getElem? (i := 571) (by decide +kernel), List.mem_of_getElem? (i := 696) (by decide +kernel), List.mem_of_getElem? (i := 697) (by decide +kernel)⟩
theorem lw_p29 : lw_okq (⟨"FlapDamperModel", "remove", "(I)V"⟩, 9) := ⟨⟨by decide +kernel, by decide +kernel⟩, List.mem_of_getElem? (i := 571) (by decide +kernel), List.mem_of_getElem? (i := 700) (by decide +kernel), List.mem_of_getElem? (i := 701) (by decide +kernel)⟩
theorem lw_p30 : lw_okq (⟨"FlapDamperModel", "penaltyAt", "(II)I"⟩, 9) := ⟨⟨by decide +kernel, by decide +kernel⟩, List.mem_of_getElem? (i := 571) (by decide +kernel), List.mem_of_getElem? (i := 704) (by decide +kernel), List.mem_of_getElem? (i := 705) (by decide +kernel)⟩
theorem lw_p31 : lw_okq (⟨"FlapDamperModel", "lessened", "(II)I"⟩, 9) := ⟨⟨by decide +kernel, by decide +kernel⟩, List.mem_of_getElem? (i := 571) (by decide +kernel), List.mem_of_getElem? (i := 708) (by decide +kernel), List.mem_of_getElem? (i := 709) (by decide +kernel)⟩
def lw_privs_2 : List (MethodName × Nat) := [(⟨"FlapDamper", "imageOf", "(I)LFlapDamper$State;"⟩, 5), (⟨"FlapDamperModel", "faultNow", "()I"⟩, 9), (⟨"FlapDamperModel", "fitting", "(I)I"⟩, 9), (⟨"FlapDamperModel", "told", "()I"⟩, 9), (⟨"FlapDamperModel", "bounded", "(I)I"⟩, 9), (⟨"FlapDamperModel", "beginLine", "(II)V"⟩, 9), (⟨"FlapDamperModel", "write", "(I)V"⟩, 9), (⟨"FlapDamperModel", "lineAt", "(II)I"⟩, 9), (⟨"FlapDamperModel", "meet", "(III)I"⟩, 9), (⟨"FlapDamperModel", "recordOf", "(I)I"⟩, 9), (⟨"FlapDamperModel", "isCounted", "(II)Z"⟩, 9), (⟨"FlapDamperModel", "makeRecord", "(I)I"⟩, 9), (⟨"FlapDamperModel", "isHeld", "(I)Z"⟩, 9), (⟨"FlapDamperModel", "remove", "(I)V"⟩, 9), (⟨"FlapDamperModel", "penaltyAt", "(II)I"⟩, 9), (⟨"FlapDamperModel", "lessened", "(II)I"⟩, 9)]
theorem lw_r2 : ∀ q ∈ lw_privs_2, lw_okq q := List.forall_mem_cons.mpr ⟨lw_p16, List.forall_mem_cons.mpr ⟨lw_p17, List.forall_mem_cons.mpr ⟨lw_p18, List.forall_mem_cons.mpr ⟨lw_p19, List.forall_mem_cons.mpr ⟨lw_p20, List.forall_mem_cons.mpr ⟨lw_p21, List.forall_mem_cons.mpr ⟨lw_p22, List.forall_mem_cons.mpr ⟨lw_p23, List.forall_mem_cons.mpr ⟨lw_p24, List.forall_mem_cons.mpr ⟨lw_p25, List.forall_mem_cons.mpr ⟨lw_p26, List.forall_mem_cons.mpr ⟨lw_p27, List.forall_mem_cons.mpr ⟨lw_p28, List.forall_mem_cons.mpr ⟨lw_p29, List.forall_mem_cons.mpr ⟨lw_p30, List.forall_mem_cons.mpr ⟨lw_p31, fun _ h => absurd h List.not_mem_nil⟩⟩⟩⟩⟩⟩⟩⟩⟩⟩⟩⟩⟩⟩⟩⟩
theorem lw_p32 : lw_okq (⟨"FlapDamperModel", "addCause", "(II)V"⟩, 9) := ⟨⟨by decide +kernel, by decide +kernel⟩, List.mem_of_getElem? (i := 571) (by decide +kernel), List.mem_of_getElem? (i := 712) (by decide +kernel), List.mem_of_getElem? (i := 713) (by decide +kernel)⟩
theorem lw_p33 : lw_okq (⟨"FlapDamperModel", "writeNumber", "(I)V"⟩, 9) := ⟨⟨by decide +kernel, by decide +kernel⟩, List.mem_of_getElem? (i := 571) (by decide +kernel), List.mem_of_getElem? (i := 716) (by decide +kernel), List.mem_of_getElem? (i := 717) (by decide +kernel)⟩
theorem lw_p34 : lw_okq (⟨"FlapDamperModel", "dueAfter", "(II)I"⟩, 9) := ⟨⟨by decide +kernel, by decide +kernel⟩, List.mem_of_getElem? (i := 571) (by decide +kernel), List.mem_of_getElem? (i := 720) (by decide +kernel), List.mem_of_getElem? (i := 721) (by decide +kernel)⟩
theorem lw_p35 : lw_okq (⟨"FlapDamperModel", "lookAtBest", "()V"⟩, 9) := ⟨⟨by decide +kernel, by decide +kernel⟩, List.mem_of_getElem? (i := 571) (by decide +kernel), List.mem_of_getElem? (i := 724) (by decide +kernel), List.mem_of_getElem? (i := 725) (by decide +kernel)⟩
theorem lw_p36 : lw_okq (⟨"FlapDamperModel", "lookAtRecords", "()V"⟩, 9) := ⟨⟨by decide +kernel, by decide +kernel⟩, List.mem_of_getElem? (i := 571) (by decide +kernel), List.mem_of_getElem? (i := 736) (by decide +kernel), List.mem_of_getElem? (i := 737) (by decide +kernel)⟩
theorem lw_p37 : lw_okq (⟨"FlapDamperModel", "heldOnes", "()I"⟩, 9) := ⟨⟨by decide +kernel, by decide +kernel⟩, List.mem_of_getElem? (i := 571) (by decide +kernel), List.mem_of_getElem? (i := 740) (by decide +kernel), List.mem_of_getElem? (i := 741) (by decide +kernel)⟩
def lw_privs_3 : List (MethodName × Nat) := [(⟨"FlapDamperModel", "addCause", "(II)V"⟩, 9), (⟨"FlapDamperModel", "writeNumber", "(I)V"⟩, 9), (⟨"FlapDamperModel", "dueAfter", "(II)I"⟩, 9), (⟨"FlapDamperModel", "lookAtBest", "()V"⟩, 9), (⟨"FlapDamperModel", "lookAtRecords", "()V"⟩, 9), (⟨"FlapDamperModel", "heldOnes", "()I"⟩, 9)]
theorem lw_r3 : ∀ q ∈ lw_privs_3, lw_okq q := List.forall_mem_cons.mpr ⟨lw_p32, List.forall_mem_cons.mpr ⟨lw_p33, List.forall_mem_cons.mpr ⟨lw_p34, List.forall_mem_cons.mpr ⟨lw_p35, List.forall_mem_cons.mpr ⟨lw_p36, List.forall_mem_cons.mpr ⟨lw_p37, fun _ h => absurd h List.not_mem_nil⟩⟩⟩⟩⟩⟩
def lw_privs : List (MethodName × Nat) := lw_privs_1 ++ (lw_privs_2 ++ (lw_privs_3))
def lw_tbl : List Cond := k2_sels lw_privs ++ tables_1
theorem lw_privs_ok : ∀ q ∈ lw_privs, lw_okq q := by
  show ∀ q ∈ lw_privs_1 ++ (lw_privs_2 ++ (lw_privs_3)), lw_okq q
  exact List.forall_mem_append.mpr ⟨lw_r1, List.forall_mem_append.mpr ⟨lw_r2, lw_r3⟩⟩

/-! ===== BEGIN words of one list among another's, by their places ===== -/
theorem goodIn_r {big : List Cond} (ws : List Cond) (ps : List Nat) (hp : ws = ps.filterMap (fun i => big[i]?)) (h : ws.all goodWord = true) : GoodIn big ws := by
  intro w hw
  have h1 := List.all_eq_true.mp h w hw
  rw [hp] at hw
  obtain ⟨i, -, hi⟩ := List.mem_filterMap.mp hw
  have hm : w ∈ big := by first | exact List.mem_of_getElem? hi | exact List.getElem?_mem hi
  exact ⟨hm, good_of_word h1⟩
theorem goodIn_app {big a b : List Cond} (ha : GoodIn big a) (hb : GoodIn big b) : GoodIn big (a ++ b) := fun w h => (List.mem_append.mp h).elim (ha w) (hb w)
theorem goodIn_ca {big a b : List Cond} {c : Cond} (ha : GoodIn big (c :: a)) (hb : GoodIn big b) : GoodIn big (c :: (a ++ b)) := fun w h => (List.mem_cons.mp h).elim (fun e => ha w (List.mem_cons.mpr (Or.inl e))) (fun h => (List.mem_append.mp h).elim (fun h => ha w (List.mem_cons.mpr (Or.inr h))) (hb w))
theorem goodIn_sub {big ws : List Cond} (hm : ∀ w ∈ ws, w ∈ big) (h : ws.all goodWord = true) : GoodIn big ws := fun w hw => ⟨hm w hw, good_of_word (List.all_eq_true.mp h w hw)⟩
/-! ===== END ===== -/

/-! ===== BEGIN printed: names, fields, word lists, decode rows ===== -/
def RX0 : String := "FlapDamper$Bounds"
def TX0 : u_T := fun k => match k with
  | _ => ("FlapDamper$Bounds", "values", "[I", true)
def tyX0 : Nat → FieldType := fun k => match k with
  | _ => .array .int
abbrev wsX00 : List Cond := u_ws RX0 TX0 1
theorem nmX0 : ∀ a, a < 1 → ∀ b, b < 1 → a ≠ b → (TX0 a).2.1 ≠ (TX0 b).2.1 := by decide +kernel
theorem tyX0_ok : ∀ k, k < 1 → parseFieldDescriptor (TX0 k).2.2.1 = some (tyX0 k) := by decide +kernel
abbrev cX0_init : ByteArray := prog_2_method_1_code
def yX0_init : MethodName := ⟨RX0, "<init>", "()V"⟩
abbrev cX0_replace : ByteArray := prog_2_method_2_code
def yX0_replace : MethodName := ⟨RX0, "replace", "(II)I"⟩
abbrev cX0_lessened : ByteArray := prog_2_method_3_code
def yX0_lessened : MethodName := ⟨RX0, "lessened", "(II)I"⟩
abbrev cX0_copyFrom : ByteArray := prog_2_method_4_code
def yX0_copyFrom : MethodName := ⟨RX0, "copyFrom", "(LFlapDamper$Bounds;)V"⟩
def RX1 : String := "FlapDamper$Lines"
def TX1 : u_T := fun k => match k with
  | 0 => ("FlapDamper$Lines", "signs", "[I", true)
  | 1 => ("FlapDamper$Lines", "lengths", "[I", true)
  | 2 => ("FlapDamper$Lines", "newest", "I", false)
  | _ => ("FlapDamper$Lines", "written", "I", false)
def tyX1 : Nat → FieldType := fun k => match k with
  | 0 => .array .int
  | 1 => .array .int
  | 2 => .int
  | _ => .int
abbrev wsX10 : List Cond := u_ws RX1 TX1 4
theorem nmX1 : ∀ a, a < 4 → ∀ b, b < 4 → a ≠ b → (TX1 a).2.1 ≠ (TX1 b).2.1 := by decide +kernel
theorem tyX1_ok : ∀ k, k < 4 → parseFieldDescriptor (TX1 k).2.2.1 = some (tyX1 k) := by decide +kernel
abbrev cX1_init : ByteArray := prog_3_method_1_code
def yX1_init : MethodName := ⟨RX1, "<init>", "()V"⟩
abbrev cX1_begin : ByteArray := prog_3_method_2_code
def yX1_begin : MethodName := ⟨RX1, "begin", "(II)V"⟩
abbrev cX1_put : ByteArray := prog_3_method_3_code
def yX1_put : MethodName := ⟨RX1, "put", "(I)V"⟩
abbrev cX1_putNumber : ByteArray := prog_3_method_4_code
def yX1_putNumber : MethodName := ⟨RX1, "putNumber", "(I)V"⟩
abbrev cX1_tell : ByteArray := prog_3_method_5_code
def yX1_tell : MethodName := ⟨RX1, "tell", "(II)I"⟩
abbrev cX1_copyFrom : ByteArray := prog_3_method_6_code
def yX1_copyFrom : MethodName := ⟨RX1, "copyFrom", "(LFlapDamper$Lines;)V"⟩
def RX2 : String := "FlapDamper$RecordList"
def TX2 : u_T := fun k => match k with
  | 0 => ("FlapDamper$RecordList", "rows", "[LFlapDamper$RouteRecord;", true)
  | 1 => ("FlapDamper$RecordList", "size", "I", false)
  | _ => ("FlapDamper$RecordList", "dropped", "I", false)
def tyX2 : Nat → FieldType := fun k => match k with
  | 0 => .array (.object "FlapDamper$RouteRecord")
  | 1 => .int
  | _ => .int
abbrev wsX20 : List Cond := u_ws RX2 TX2 3
theorem nmX2 : ∀ a, a < 3 → ∀ b, b < 3 → a ≠ b → (TX2 a).2.1 ≠ (TX2 b).2.1 := by decide +kernel
theorem tyX2_ok : ∀ k, k < 3 → parseFieldDescriptor (TX2 k).2.2.1 = some (tyX2 k) := by decide +kernel
abbrev cX2_init : ByteArray := prog_4_method_1_code
def yX2_init : MethodName := ⟨RX2, "<init>", "()V"⟩
abbrev cX2_find : ByteArray := prog_4_method_2_code
def yX2_find : MethodName := ⟨RX2, "find", "(I)LFlapDamper$RouteRecord;"⟩
abbrev cX2_make : ByteArray := prog_4_method_3_code
def yX2_make : MethodName := ⟨RX2, "make", "(II)LFlapDamper$RouteRecord;"⟩
abbrev cX2_dropFirstFree : ByteArray := prog_4_method_4_code
def yX2_dropFirstFree : MethodName := ⟨RX2, "dropFirstFree", "()Z"⟩
abbrev cX2_drop : ByteArray := prog_4_method_5_code
def yX2_drop : MethodName := ⟨RX2, "drop", "(I)V"⟩
abbrev cX2_heldOnes : ByteArray := prog_4_method_6_code
def yX2_heldOnes : MethodName := ⟨RX2, "heldOnes", "()I"⟩
abbrev cX2_copyFrom : ByteArray := prog_4_method_7_code
def yX2_copyFrom : MethodName := ⟨RX2, "copyFrom", "(LFlapDamper$RecordList;)V"⟩
def RX3 : String := "FlapDamper$RouteRecord"
def TX3 : u_T := fun k => match k with
  | 0 => ("FlapDamper$RouteRecord", "route", "I", false)
  | 1 => ("FlapDamper$RouteRecord", "figure", "I", false)
  | 2 => ("FlapDamper$RouteRecord", "told", "I", false)
  | 3 => ("FlapDamper$RouteRecord", "held", "Z", false)
  | 4 => ("FlapDamper$RouteRecord", "due", "I", false)
  | 5 => ("FlapDamper$RouteRecord", "causes", "[I", true)
  | _ => ("FlapDamper$RouteRecord", "causeCount", "I", false)
def tyX3 : Nat → FieldType := fun k => match k with
  | 0 => .int
  | 1 => .int
  | 2 => .int
  | 3 => .boolean
  | 4 => .int
  | 5 => .array .int
  | _ => .int
abbrev wsX30 : List Cond := u_ws RX3 TX3 7
theorem nmX3 : ∀ a, a < 7 → ∀ b, b < 7 → a ≠ b → (TX3 a).2.1 ≠ (TX3 b).2.1 := by decide +kernel
theorem tyX3_ok : ∀ k, k < 7 → parseFieldDescriptor (TX3 k).2.2.1 = some (tyX3 k) := by decide +kernel
abbrev cX3_init : ByteArray := prog_5_method_1_code
def yX3_init : MethodName := ⟨RX3, "<init>", "()V"⟩
abbrev cX3_begin : ByteArray := prog_5_method_2_code
def yX3_begin : MethodName := ⟨RX3, "begin", "(II)V"⟩
abbrev cX3_hasCause : ByteArray := prog_5_method_3_code
def yX3_hasCause : MethodName := ⟨RX3, "hasCause", "(I)Z"⟩
abbrev cX3_addCause : ByteArray := prog_5_method_4_code
def yX3_addCause : MethodName := ⟨RX3, "addCause", "(I)V"⟩
abbrev cX3_copyFrom : ByteArray := prog_5_method_5_code
def yX3_copyFrom : MethodName := ⟨RX3, "copyFrom", "(LFlapDamper$RouteRecord;)V"⟩
def RX4 : String := "FlapDamper$State"
def TX4 : u_T := fun k => match k with
  | 0 => ("FlapDamper$State", "bounds", "LFlapDamper$Bounds;", true)
  | 1 => ("FlapDamper$State", "records", "LFlapDamper$RecordList;", true)
  | 2 => ("FlapDamper$State", "lines", "LFlapDamper$Lines;", true)
  | 3 => ("FlapDamper$State", "paths", "[I", true)
  | 4 => ("FlapDamper$State", "bests", "[I", true)
  | 5 => ("FlapDamper$State", "changes", "[I", true)
  | 6 => ("FlapDamper$State", "tick", "I", false)
  | 7 => ("FlapDamper$State", "events", "I", false)
  | 8 => ("FlapDamper$State", "echoes", "I", false)
  | 9 => ("FlapDamper$State", "lost", "I", false)
  | _ => ("FlapDamper$State", "letGo", "I", false)
def tyX4 : Nat → FieldType := fun k => match k with
  | 0 => .object "FlapDamper$Bounds"
  | 1 => .object "FlapDamper$RecordList"
  | 2 => .object "FlapDamper$Lines"
  | 3 => .array .int
  | 4 => .array .int
  | 5 => .array .int
  | 6 => .int
  | 7 => .int
  | 8 => .int
  | 9 => .int
  | _ => .int
abbrev wsX40 : List Cond := u_ws RX4 TX4 11
theorem nmX4 : ∀ a, a < 11 → ∀ b, b < 11 → a ≠ b → (TX4 a).2.1 ≠ (TX4 b).2.1 := by decide +kernel
theorem tyX4_ok : ∀ k, k < 11 → parseFieldDescriptor (TX4 k).2.2.1 = some (tyX4 k) := by decide +kernel
abbrev cX4_init : ByteArray := prog_6_method_1_code
def yX4_init : MethodName := ⟨RX4, "<init>", "()V"⟩
abbrev cX4_happen : ByteArray := prog_6_method_2_code
def yX4_happen : MethodName := ⟨RX4, "happen", "(III)I"⟩
abbrev cX4_weigh : ByteArray := prog_6_method_3_code
def yX4_weigh : MethodName := ⟨RX4, "weigh", "(II)I"⟩
abbrev cX4_judge : ByteArray := prog_6_method_4_code
def yX4_judge : MethodName := ⟨RX4, "judge", "(III)I"⟩
abbrev cX4_addTo : ByteArray := prog_6_method_5_code
def yX4_addTo : MethodName := ⟨RX4, "addTo", "(LFlapDamper$RouteRecord;II)I"⟩
abbrev cX4_writeEvent : ByteArray := prog_6_method_6_code
def yX4_writeEvent : MethodName := ⟨RX4, "writeEvent", "(III)V"⟩
abbrev cX4_penaltyAt : ByteArray := prog_6_method_7_code
def yX4_penaltyAt : MethodName := ⟨RX4, "penaltyAt", "(LFlapDamper$RouteRecord;I)I"⟩
abbrev cX4_isBelowBack : ByteArray := prog_6_method_8_code
def yX4_isBelowBack : MethodName := ⟨RX4, "isBelowBack", "(LFlapDamper$RouteRecord;I)Z"⟩
abbrev cX4_dueAfter : ByteArray := prog_6_method_9_code
def yX4_dueAfter : MethodName := ⟨RX4, "dueAfter", "(LFlapDamper$RouteRecord;I)I"⟩
abbrev cX4_isLookedAt : ByteArray := prog_6_method_10_code
def yX4_isLookedAt : MethodName := ⟨RX4, "isLookedAt", "(I)Z"⟩
abbrev cX4_nextTick : ByteArray := prog_6_method_11_code
def yX4_nextTick : MethodName := ⟨RX4, "nextTick", "()V"⟩
abbrev cX4_lookAt : ByteArray := prog_6_method_12_code
def yX4_lookAt : MethodName := ⟨RX4, "lookAt", "(LFlapDamper$RouteRecord;)V"⟩
abbrev cX4_dropSmallOnes : ByteArray := prog_6_method_13_code
def yX4_dropSmallOnes : MethodName := ⟨RX4, "dropSmallOnes", "()V"⟩
abbrev cX4_letGoAt : ByteArray := prog_6_method_14_code
def yX4_letGoAt : MethodName := ⟨RX4, "letGoAt", "(LFlapDamper$RouteRecord;)I"⟩
abbrev cX4_refreshBest : ByteArray := prog_6_method_15_code
def yX4_refreshBest : MethodName := ⟨RX4, "refreshBest", "(I)V"⟩
abbrev cX4_findBest : ByteArray := prog_6_method_16_code
def yX4_findBest : MethodName := ⟨RX4, "findBest", "(I)I"⟩
abbrev cX4_isHeld : ByteArray := prog_6_method_17_code
def yX4_isHeld : MethodName := ⟨RX4, "isHeld", "(LFlapDamper$RouteRecord;)Z"⟩
abbrev cX4_tellRecord : ByteArray := prog_6_method_18_code
def yX4_tellRecord : MethodName := ⟨RX4, "tellRecord", "(LFlapDamper$RouteRecord;I)I"⟩
abbrev cX4_tellBest : ByteArray := prog_6_method_19_code
def yX4_tellBest : MethodName := ⟨RX4, "tellBest", "(II)I"⟩
abbrev cX4_tellCount : ByteArray := prog_6_method_20_code
def yX4_tellCount : MethodName := ⟨RX4, "tellCount", "(I)I"⟩
abbrev cX4_copyFrom : ByteArray := prog_6_method_21_code
def yX4_copyFrom : MethodName := ⟨RX4, "copyFrom", "(LFlapDamper$State;)V"⟩
def RX5 : String := "FlapDamper$Text"
def TX5 : u_T := fun k => match k with
  | 0 => ("FlapDamper$Text", "signs", "[I", true)
  | _ => ("FlapDamper$Text", "length", "I", false)
def tyX5 : Nat → FieldType := fun k => match k with
  | 0 => .array .int
  | _ => .int
abbrev wsX50 : List Cond := u_ws RX5 TX5 2
theorem nmX5 : ∀ a, a < 2 → ∀ b, b < 2 → a ≠ b → (TX5 a).2.1 ≠ (TX5 b).2.1 := by decide +kernel
theorem tyX5_ok : ∀ k, k < 2 → parseFieldDescriptor (TX5 k).2.2.1 = some (tyX5 k) := by decide +kernel
abbrev cX5_init : ByteArray := prog_7_method_1_code
def yX5_init : MethodName := ⟨RX5, "<init>", "()V"⟩
abbrev cX5_append : ByteArray := prog_7_method_2_code
def yX5_append : MethodName := ⟨RX5, "append", "(I)Z"⟩
abbrev cX5_clear : ByteArray := prog_7_method_3_code
def yX5_clear : MethodName := ⟨RX5, "clear", "()I"⟩
abbrev cX5_findFault : ByteArray := prog_7_method_4_code
def yX5_findFault : MethodName := ⟨RX5, "findFault", "()I"⟩
abbrev cX5_toldBound : ByteArray := prog_7_method_5_code
def yX5_toldBound : MethodName := ⟨RX5, "toldBound", "()I"⟩
abbrev cX5_toldNumber : ByteArray := prog_7_method_6_code
def yX5_toldNumber : MethodName := ⟨RX5, "toldNumber", "()I"⟩
abbrev cX5_tells : ByteArray := prog_7_method_7_code
def yX5_tells : MethodName := ⟨RX5, "tells", "(Ljava/lang/String;)Z"⟩
abbrev cX5_fittingSigns : ByteArray := prog_7_method_8_code
def yX5_fittingSigns : MethodName := ⟨RX5, "fittingSigns", "(Ljava/lang/String;)I"⟩
abbrev cX5_fits : ByteArray := prog_7_method_9_code
def yX5_fits : MethodName := ⟨RX5, "fits", "(Ljava/lang/String;I)Z"⟩
abbrev cX5_isFigure : ByteArray := prog_7_method_10_code
def yX5_isFigure : MethodName := ⟨RX5, "isFigure", "(I)Z"⟩
abbrev cX5_nameOf : ByteArray := prog_7_method_11_code
def yX5_nameOf : MethodName := ⟨RX5, "nameOf", "(I)Ljava/lang/String;"⟩
def RX6 : String := "FlapDamper"
def TX6 : u_T := fun k => match k with
  | 0 => ("FlapDamper", "text", "LFlapDamper$Text;", true)
  | 1 => ("FlapDamper", "now", "LFlapDamper$State;", true)
  | 2 => ("FlapDamper", "firstImage", "LFlapDamper$State;", true)
  | 3 => ("FlapDamper", "secondImage", "LFlapDamper$State;", true)
  | _ => ("FlapDamper", "kept", "[Z", true)
def tyX6 : Nat → FieldType := fun k => match k with
  | 0 => .object "FlapDamper$Text"
  | 1 => .object "FlapDamper$State"
  | 2 => .object "FlapDamper$State"
  | 3 => .object "FlapDamper$State"
  | _ => .array .boolean
abbrev wsX60 : List Cond := u_ws RX6 TX6 5
theorem nmX6 : ∀ a, a < 5 → ∀ b, b < 5 → a ≠ b → (TX6 a).2.1 ≠ (TX6 b).2.1 := by decide +kernel
theorem tyX6_ok : ∀ k, k < 5 → parseFieldDescriptor (TX6 k).2.2.1 = some (tyX6 k) := by decide +kernel
abbrev cX6_init : ByteArray := prog_1_method_1_code
def yX6_init : MethodName := ⟨RX6, "<init>", "()V"⟩
abbrev cX6_say : ByteArray := prog_1_method_2_code
def yX6_say : MethodName := ⟨RX6, "say", "(I)I"⟩
abbrev cX6_wipe : ByteArray := prog_1_method_3_code
def yX6_wipe : MethodName := ⟨RX6, "wipe", "()I"⟩
abbrev cX6_fault : ByteArray := prog_1_method_4_code
def yX6_fault : MethodName := ⟨RX6, "fault", "()I"⟩
abbrev cX6_set : ByteArray := prog_1_method_5_code
def yX6_set : MethodName := ⟨RX6, "set", "()I"⟩
abbrev cX6_bound : ByteArray := prog_1_method_6_code
def yX6_bound : MethodName := ⟨RX6, "bound", "(I)I"⟩
abbrev cX6_announce : ByteArray := prog_1_method_7_code
def yX6_announce : MethodName := ⟨RX6, "announce", "(IIII)I"⟩
abbrev cX6_withdraw : ByteArray := prog_1_method_8_code
def yX6_withdraw : MethodName := ⟨RX6, "withdraw", "(III)I"⟩
abbrev cX6_pass : ByteArray := prog_1_method_9_code
def yX6_pass : MethodName := ⟨RX6, "pass", "(I)I"⟩
abbrev cX6_route : ByteArray := prog_1_method_10_code
def yX6_route : MethodName := ⟨RX6, "route", "(III)I"⟩
abbrev cX6_later : ByteArray := prog_1_method_11_code
def yX6_later : MethodName := ⟨RX6, "later", "(III)I"⟩
abbrev cX6_when : ByteArray := prog_1_method_12_code
def yX6_when : MethodName := ⟨RX6, "when", "(II)I"⟩
abbrev cX6_longest : ByteArray := prog_1_method_13_code
def yX6_longest : MethodName := ⟨RX6, "longest", "()I"⟩
abbrev cX6_best : ByteArray := prog_1_method_14_code
def yX6_best : MethodName := ⟨RX6, "best", "(II)I"⟩
abbrev cX6_record : ByteArray := prog_1_method_15_code
def yX6_record : MethodName := ⟨RX6, "record", "(I)I"⟩
abbrev cX6_line : ByteArray := prog_1_method_16_code
def yX6_line : MethodName := ⟨RX6, "line", "(II)I"⟩
abbrev cX6_count : ByteArray := prog_1_method_17_code
def yX6_count : MethodName := ⟨RX6, "count", "(I)I"⟩
abbrev cX6_image : ByteArray := prog_1_method_18_code
def yX6_image : MethodName := ⟨RX6, "image", "(I)I"⟩
abbrev cX6_restore : ByteArray := prog_1_method_19_code
def yX6_restore : MethodName := ⟨RX6, "restore", "(I)I"⟩
abbrev cX6_imageOf : ByteArray := prog_1_method_20_code
def yX6_imageOf : MethodName := ⟨RX6, "imageOf", "(I)LFlapDamper$State;"⟩
abbrev cX6_keptImages : ByteArray := prog_1_method_21_code
def yX6_keptImages : MethodName := ⟨RX6, "keptImages", "()I"⟩
abbrev cX6_isWithin : ByteArray := prog_1_method_22_code
def yX6_isWithin : MethodName := ⟨RX6, "isWithin", "(III)Z"⟩
abbrev cX6_isRoute : ByteArray := prog_1_method_23_code
def yX6_isRoute : MethodName := ⟨RX6, "isRoute", "(II)Z"⟩
abbrev cX6_routeOf : ByteArray := prog_1_method_24_code
def yX6_routeOf : MethodName := ⟨RX6, "routeOf", "(II)I"⟩
def RX7 : String := "FlapDamperModel"
def TX7 : u_T := fun k => match k with
  | 0 => ("FlapDamperModel", "row", "[I", true)
  | 1 => ("FlapDamperModel", "names", "[I", true)
  | 2 => ("FlapDamperModel", "lows", "[I", true)
  | 3 => ("FlapDamperModel", "highs", "[I", true)
  | 4 => ("FlapDamperModel", "state", "[I", true)
  | 5 => ("FlapDamperModel", "images", "[I", true)
  | 6 => ("FlapDamperModel", "isKept", "[Z", true)
  | 7 => ("FlapDamperModel", "text", "[I", true)
  | _ => ("FlapDamperModel", "signs", "I", false)
def tyX7 : Nat → FieldType := fun k => match k with
  | 0 => .array .int
  | 1 => .array .int
  | 2 => .array .int
  | 3 => .array .int
  | 4 => .array .int
  | 5 => .array .int
  | 6 => .array .boolean
  | 7 => .array .int
  | _ => .int
abbrev wsX70 : List Cond := u_ws RX7 TX7 9
theorem nmX7 : ∀ a, a < 9 → ∀ b, b < 9 → a ≠ b → (TX7 a).2.1 ≠ (TX7 b).2.1 := by decide +kernel
theorem tyX7_ok : ∀ k, k < 9 → parseFieldDescriptor (TX7 k).2.2.1 = some (tyX7 k) := by decide +kernel
abbrev cX7_init : ByteArray := prog_9_method_1_code
def yX7_init : MethodName := ⟨RX7, "<init>", "()V"⟩
abbrev cX7_in : ByteArray := prog_9_method_2_code
def yX7_in : MethodName := ⟨RX7, "in", "(III)Z"⟩
abbrev cX7_bounded : ByteArray := prog_9_method_3_code
def yX7_bounded : MethodName := ⟨RX7, "bounded", "(I)I"⟩
abbrev cX7_say : ByteArray := prog_9_method_4_code
def yX7_say : MethodName := ⟨RX7, "say", "(I)I"⟩
abbrev cX7_wipe : ByteArray := prog_9_method_5_code
def yX7_wipe : MethodName := ⟨RX7, "wipe", "()I"⟩
abbrev cX7_size : ByteArray := prog_9_method_6_code
def yX7_size : MethodName := ⟨RX7, "size", "(I)I"⟩
abbrev cX7_isFigure : ByteArray := prog_9_method_7_code
def yX7_isFigure : MethodName := ⟨RX7, "isFigure", "(I)Z"⟩
abbrev cX7_fitting : ByteArray := prog_9_method_8_code
def yX7_fitting : MethodName := ⟨RX7, "fitting", "(I)I"⟩
abbrev cX7_told : ByteArray := prog_9_method_9_code
def yX7_told : MethodName := ⟨RX7, "told", "()I"⟩
abbrev cX7_faultNow : ByteArray := prog_9_method_10_code
def yX7_faultNow : MethodName := ⟨RX7, "faultNow", "()I"⟩
abbrev cX7_fault : ByteArray := prog_9_method_11_code
def yX7_fault : MethodName := ⟨RX7, "fault", "()I"⟩
abbrev cX7_set : ByteArray := prog_9_method_12_code
def yX7_set : MethodName := ⟨RX7, "set", "()I"⟩
abbrev cX7_bound : ByteArray := prog_9_method_13_code
def yX7_bound : MethodName := ⟨RX7, "bound", "(I)I"⟩
abbrev cX7_at : ByteArray := prog_9_method_14_code
def yX7_at : MethodName := ⟨RX7, "at", "(II)I"⟩
abbrev cX7_recordOf : ByteArray := prog_9_method_15_code
def yX7_recordOf : MethodName := ⟨RX7, "recordOf", "(I)I"⟩
abbrev cX7_isHeld : ByteArray := prog_9_method_16_code
def yX7_isHeld : MethodName := ⟨RX7, "isHeld", "(I)Z"⟩
abbrev cX7_lessened : ByteArray := prog_9_method_17_code
def yX7_lessened : MethodName := ⟨RX7, "lessened", "(II)I"⟩
abbrev cX7_penaltyAt : ByteArray := prog_9_method_18_code
def yX7_penaltyAt : MethodName := ⟨RX7, "penaltyAt", "(II)I"⟩
abbrev cX7_dueAfter : ByteArray := prog_9_method_19_code
def yX7_dueAfter : MethodName := ⟨RX7, "dueAfter", "(II)I"⟩
abbrev cX7_remove : ByteArray := prog_9_method_20_code
def yX7_remove : MethodName := ⟨RX7, "remove", "(I)V"⟩
abbrev cX7_makeRecord : ByteArray := prog_9_method_21_code
def yX7_makeRecord : MethodName := ⟨RX7, "makeRecord", "(I)I"⟩
abbrev cX7_isCounted : ByteArray := prog_9_method_22_code
def yX7_isCounted : MethodName := ⟨RX7, "isCounted", "(II)Z"⟩
abbrev cX7_addCause : ByteArray := prog_9_method_23_code
def yX7_addCause : MethodName := ⟨RX7, "addCause", "(II)V"⟩
abbrev cX7_lineAt : ByteArray := prog_9_method_24_code
def yX7_lineAt : MethodName := ⟨RX7, "lineAt", "(II)I"⟩
abbrev cX7_write : ByteArray := prog_9_method_25_code
def yX7_write : MethodName := ⟨RX7, "write", "(I)V"⟩
abbrev cX7_writeNumber : ByteArray := prog_9_method_26_code
def yX7_writeNumber : MethodName := ⟨RX7, "writeNumber", "(I)V"⟩
abbrev cX7_beginLine : ByteArray := prog_9_method_27_code
def yX7_beginLine : MethodName := ⟨RX7, "beginLine", "(II)V"⟩
abbrev cX7_lookAtBest : ByteArray := prog_9_method_28_code
def yX7_lookAtBest : MethodName := ⟨RX7, "lookAtBest", "()V"⟩
abbrev cX7_meet : ByteArray := prog_9_method_29_code
def yX7_meet : MethodName := ⟨RX7, "meet", "(III)I"⟩
abbrev cX7_isRoute : ByteArray := prog_9_method_30_code
def yX7_isRoute : MethodName := ⟨RX7, "isRoute", "(II)Z"⟩
abbrev cX7_announce : ByteArray := prog_9_method_31_code
def yX7_announce : MethodName := ⟨RX7, "announce", "(IIII)I"⟩
abbrev cX7_withdraw : ByteArray := prog_9_method_32_code
def yX7_withdraw : MethodName := ⟨RX7, "withdraw", "(III)I"⟩
abbrev cX7_lookAtRecords : ByteArray := prog_9_method_33_code
def yX7_lookAtRecords : MethodName := ⟨RX7, "lookAtRecords", "()V"⟩
abbrev cX7_heldOnes : ByteArray := prog_9_method_34_code
def yX7_heldOnes : MethodName := ⟨RX7, "heldOnes", "()I"⟩
abbrev cX7_pass : ByteArray := prog_9_method_35_code
def yX7_pass : MethodName := ⟨RX7, "pass", "(I)I"⟩
abbrev cX7_route : ByteArray := prog_9_method_36_code
def yX7_route : MethodName := ⟨RX7, "route", "(III)I"⟩
abbrev cX7_later : ByteArray := prog_9_method_37_code
def yX7_later : MethodName := ⟨RX7, "later", "(III)I"⟩
abbrev cX7_when : ByteArray := prog_9_method_38_code
def yX7_when : MethodName := ⟨RX7, "when", "(II)I"⟩
abbrev cX7_longest : ByteArray := prog_9_method_39_code
def yX7_longest : MethodName := ⟨RX7, "longest", "()I"⟩
abbrev cX7_best : ByteArray := prog_9_method_40_code
def yX7_best : MethodName := ⟨RX7, "best", "(II)I"⟩
abbrev cX7_record : ByteArray := prog_9_method_41_code
def yX7_record : MethodName := ⟨RX7, "record", "(I)I"⟩
abbrev cX7_line : ByteArray := prog_9_method_42_code
def yX7_line : MethodName := ⟨RX7, "line", "(II)I"⟩
abbrev cX7_count : ByteArray := prog_9_method_43_code
def yX7_count : MethodName := ⟨RX7, "count", "(I)I"⟩
abbrev cX7_image : ByteArray := prog_9_method_44_code
def yX7_image : MethodName := ⟨RX7, "image", "(I)I"⟩
abbrev cX7_restore : ByteArray := prog_9_method_45_code
def yX7_restore : MethodName := ⟨RX7, "restore", "(I)I"⟩
def RJx145de : String := "java/io/Serializable"
def TJx145de : u_T := fun k => match k with
  | _ => ("", "", "", false)
def tyJx145de : Nat → FieldType := fun k => match k with
  | _ => .int
abbrev wsJx145de0 : List Cond := u_ws RJx145de TJx145de 0
theorem nmJx145de : ∀ a, a < 0 → ∀ b, b < 0 → a ≠ b → (TJx145de a).2.1 ≠ (TJx145de b).2.1 := by decide +kernel
theorem tyJx145de_ok : ∀ k, k < 0 → parseFieldDescriptor (TJx145de k).2.2.1 = some (tyJx145de k) := by decide +kernel
def RJx9f9b0 : String := "java/lang/CharSequence"
def TJx9f9b0 : u_T := fun k => match k with
  | _ => ("", "", "", false)
def tyJx9f9b0 : Nat → FieldType := fun k => match k with
  | _ => .int
abbrev wsJx9f9b00 : List Cond := u_ws RJx9f9b0 TJx9f9b0 0
theorem nmJx9f9b0 : ∀ a, a < 0 → ∀ b, b < 0 → a ≠ b → (TJx9f9b0 a).2.1 ≠ (TJx9f9b0 b).2.1 := by decide +kernel
theorem tyJx9f9b0_ok : ∀ k, k < 0 → parseFieldDescriptor (TJx9f9b0 k).2.2.1 = some (tyJx9f9b0 k) := by decide +kernel
def RJx8e188 : String := "java/lang/Cloneable"
def TJx8e188 : u_T := fun k => match k with
  | _ => ("", "", "", false)
def tyJx8e188 : Nat → FieldType := fun k => match k with
  | _ => .int
abbrev wsJx8e1880 : List Cond := u_ws RJx8e188 TJx8e188 0
theorem nmJx8e188 : ∀ a, a < 0 → ∀ b, b < 0 → a ≠ b → (TJx8e188 a).2.1 ≠ (TJx8e188 b).2.1 := by decide +kernel
theorem tyJx8e188_ok : ∀ k, k < 0 → parseFieldDescriptor (TJx8e188 k).2.2.1 = some (tyJx8e188 k) := by decide +kernel
def RJxb160c : String := "java/lang/Comparable"
def TJxb160c : u_T := fun k => match k with
  | _ => ("", "", "", false)
def tyJxb160c : Nat → FieldType := fun k => match k with
  | _ => .int
abbrev wsJxb160c0 : List Cond := u_ws RJxb160c TJxb160c 0
theorem nmJxb160c : ∀ a, a < 0 → ∀ b, b < 0 → a ≠ b → (TJxb160c a).2.1 ≠ (TJxb160c b).2.1 := by decide +kernel
theorem tyJxb160c_ok : ∀ k, k < 0 → parseFieldDescriptor (TJxb160c k).2.2.1 = some (tyJxb160c k) := by decide +kernel
def RJ9 : String := "java/lang/Math"
def TJ9 : u_T := fun k => match k with
  | _ => ("", "", "", false)
def tyJ9 : Nat → FieldType := fun k => match k with
  | _ => .int
abbrev wsJ90 : List Cond := u_ws RJ9 TJ9 0
theorem nmJ9 : ∀ a, a < 0 → ∀ b, b < 0 → a ≠ b → (TJ9 a).2.1 ≠ (TJ9 b).2.1 := by decide +kernel
theorem tyJ9_ok : ∀ k, k < 0 → parseFieldDescriptor (TJ9 k).2.2.1 = some (tyJ9 k) := by decide +kernel
abbrev cJ9_max_7cf53 : ByteArray := prog_11_method_65_code
def yJ9_max_7cf53 : MethodName := ⟨RJ9, "max", "(II)I"⟩
abbrev cJ9_min_7cf53 : ByteArray := prog_11_method_69_code
def yJ9_min_7cf53 : MethodName := ⟨RJ9, "min", "(II)I"⟩
def RJ0 : String := "java/lang/String"
def TJ0 : u_T := fun k => match k with
  | _ => ("", "", "", false)
def tyJ0 : Nat → FieldType := fun k => match k with
  | _ => .int
abbrev wsJ00 : List Cond := u_ws RJ0 TJ0 0
theorem nmJ0 : ∀ a, a < 0 → ∀ b, b < 0 → a ≠ b → (TJ0 a).2.1 ≠ (TJ0 b).2.1 := by decide +kernel
theorem tyJ0_ok : ∀ k, k < 0 → parseFieldDescriptor (TJ0 k).2.2.1 = some (tyJ0 k) := by decide +kernel
abbrev cJ0_length_8abf5 : ByteArray := prog_12_method_54_code
def yJ0_length_8abf5 : MethodName := ⟨RJ0, "length", "()I"⟩
abbrev cJ0_charAt_5068e : ByteArray := prog_12_method_56_code
def yJ0_charAt_5068e : MethodName := ⟨RJ0, "charAt", "(I)C"⟩
abbrev cJ0_coder_7d493 : ByteArray := prog_12_method_152_code
def yJ0_coder_7d493 : MethodName := ⟨RJ0, "coder", "()B"⟩
abbrev cJ0_isLatin1_aae02 : ByteArray := prog_12_method_154_code
def yJ0_isLatin1_aae02 : MethodName := ⟨RJ0, "isLatin1", "()Z"⟩
abbrev cJ0_checkIndex_df160 : ByteArray := prog_12_method_155_code
def yJ0_checkIndex_df160 : MethodName := ⟨RJ0, "checkIndex", "(II)V"⟩
def RJ1 : String := "java/lang/StringLatin1"
def TJ1 : u_T := fun k => match k with
  | _ => ("", "", "", false)
def tyJ1 : Nat → FieldType := fun k => match k with
  | _ => .int
abbrev wsJ10 : List Cond := u_ws RJ1 TJ1 0
theorem nmJ1 : ∀ a, a < 0 → ∀ b, b < 0 → a ≠ b → (TJ1 a).2.1 ≠ (TJ1 b).2.1 := by decide +kernel
theorem tyJ1_ok : ∀ k, k < 0 → parseFieldDescriptor (TJ1 k).2.2.1 = some (tyJ1 k) := by decide +kernel
abbrev cJ1_charAt_3b067 : ByteArray := prog_13_method_2_code
def yJ1_charAt_3b067 : MethodName := ⟨RJ1, "charAt", "([BI)C"⟩
def RJ2 : String := "java/lang/StringUTF16"
def TJ2 : u_T := fun k => match k with
  | _ => ("", "", "", false)
def tyJ2 : Nat → FieldType := fun k => match k with
  | _ => .int
abbrev wsJ20 : List Cond := u_ws RJ2 TJ2 0
theorem nmJ2 : ∀ a, a < 0 → ∀ b, b < 0 → a ≠ b → (TJ2 a).2.1 ≠ (TJ2 b).2.1 := by decide +kernel
theorem tyJ2_ok : ∀ k, k < 0 → parseFieldDescriptor (TJ2 k).2.2.1 = some (tyJ2 k) := by decide +kernel
abbrev cJ2_getChar_3b067 : ByteArray := prog_14_method_5_code
def yJ2_getChar_3b067 : MethodName := ⟨RJ2, "getChar", "([BI)C"⟩
abbrev cJ2_length_9d52b : ByteArray := prog_14_method_6_code
def yJ2_length_9d52b : MethodName := ⟨RJ2, "length", "([B)I"⟩
abbrev cJ2_charAt_3b067 : ByteArray := prog_14_method_83_code
def yJ2_charAt_3b067 : MethodName := ⟨RJ2, "charAt", "([BI)C"⟩
abbrev cJ2_checkIndex_2214a : ByteArray := prog_14_method_91_code
def yJ2_checkIndex_2214a : MethodName := ⟨RJ2, "checkIndex", "(I[B)V"⟩
def RJ10 : String := "java/lang/System"
def TJ10 : u_T := fun k => match k with
  | _ => ("", "", "", false)
def tyJ10 : Nat → FieldType := fun k => match k with
  | _ => .int
abbrev wsJ100 : List Cond := u_ws RJ10 TJ10 0
theorem nmJ10 : ∀ a, a < 0 → ∀ b, b < 0 → a ≠ b → (TJ10 a).2.1 ≠ (TJ10 b).2.1 := by decide +kernel
theorem tyJ10_ok : ∀ k, k < 0 → parseFieldDescriptor (TJ10 k).2.2.1 = some (tyJ10 k) := by decide +kernel
def RJxfd54e : String := "java/lang/constant/Constable"
def TJxfd54e : u_T := fun k => match k with
  | _ => ("", "", "", false)
def tyJxfd54e : Nat → FieldType := fun k => match k with
  | _ => .int
abbrev wsJxfd54e0 : List Cond := u_ws RJxfd54e TJxfd54e 0
theorem nmJxfd54e : ∀ a, a < 0 → ∀ b, b < 0 → a ≠ b → (TJxfd54e a).2.1 ≠ (TJxfd54e b).2.1 := by decide +kernel
theorem tyJxfd54e_ok : ∀ k, k < 0 → parseFieldDescriptor (TJxfd54e k).2.2.1 = some (tyJxfd54e k) := by decide +kernel
def RJx3cf43 : String := "java/lang/constant/ConstantDesc"
def TJx3cf43 : u_T := fun k => match k with
  | _ => ("", "", "", false)
def tyJx3cf43 : Nat → FieldType := fun k => match k with
  | _ => .int
abbrev wsJx3cf430 : List Cond := u_ws RJx3cf43 TJx3cf43 0
theorem nmJx3cf43 : ∀ a, a < 0 → ∀ b, b < 0 → a ≠ b → (TJx3cf43 a).2.1 ≠ (TJx3cf43 b).2.1 := by decide +kernel
theorem tyJx3cf43_ok : ∀ k, k < 0 → parseFieldDescriptor (TJx3cf43 k).2.2.1 = some (tyJx3cf43 k) := by decide +kernel
def RJ7 : String := "java/util/Arrays"
def TJ7 : u_T := fun k => match k with
  | _ => ("", "", "", false)
def tyJ7 : Nat → FieldType := fun k => match k with
  | _ => .int
abbrev wsJ70 : List Cond := u_ws RJ7 TJ7 0
theorem nmJ7 : ∀ a, a < 0 → ∀ b, b < 0 → a ≠ b → (TJ7 a).2.1 ≠ (TJ7 b).2.1 := by decide +kernel
theorem tyJ7_ok : ∀ k, k < 0 → parseFieldDescriptor (TJ7 k).2.2.1 = some (tyJ7 k) := by decide +kernel
abbrev cJ7_fill_53178 : ByteArray := prog_16_method_103_code
def yJ7_fill_53178 : MethodName := ⟨RJ7, "fill", "([II)V"⟩
def RJ3 : String := "jdk/internal/util/Preconditions"
def TJ3 : u_T := fun k => match k with
  | _ => ("", "", "", false)
def tyJ3 : Nat → FieldType := fun k => match k with
  | _ => .int
abbrev wsJ30 : List Cond := u_ws RJ3 TJ3 0
theorem nmJ3 : ∀ a, a < 0 → ∀ b, b < 0 → a ≠ b → (TJ3 a).2.1 ≠ (TJ3 b).2.1 := by decide +kernel
theorem tyJ3_ok : ∀ k, k < 0 → parseFieldDescriptor (TJ3 k).2.2.1 = some (tyJ3 k) := by decide +kernel
abbrev cJ3_checkIndex_8e157 : ByteArray := prog_17_method_11_code
def yJ3_checkIndex_8e157 : MethodName := ⟨RJ3, "checkIndex", "(IILjava/util/function/BiFunction;)I"⟩
def RL : String := "FlapDamperLaw"
abbrev cL_law : ByteArray := code
def yL_law : MethodName := ⟨RL, "law", "([I)Z"⟩
end
section
/-! ===== THE WORLD: 82 cells at addresses E.2.2 k; what they hold is S k j (cell, place); the object graph is fixed but for the rows of a RecordList ===== -/
abbrev fd_E : Type := va_G × (Nat → ClassId) × (Nat → Nat)
abbrev fd_S : Type := Nat → Int32 → Int32
def fd_up (S : fd_S) (k : Nat) (j v : Int32) : fd_S := fun a b => if a = k then (if b = j then v else S a b) else S a b
def fd_ix (n : Nat) : Int32 := if n < 2147483648 then nI n else -1
def fd_T : List Cond := lw_tbl.filter goodWord
abbrev fd_CL : List vw_C := [(RX0, TX0, 1), (RX1, TX1, 4), (RX2, TX2, 3), (RX3, TX3, 7), (RX4, TX4, 11), (RX5, TX5, 2), (RX6, TX6, 5), (RX7, TX7, 9)]
abbrev fd_ty (E : fd_E) : List (ClassId × FieldType) := [(E.2.1 0, .int), (E.2.1 1, .boolean), (E.2.1 2, .object "FlapDamper$RouteRecord")]
/-- kinds: 0 Bounds, 1 Lines, 2 RecordList, 3 RouteRecord, 4 State, 5 Text, 6 FlapDamper, 7 FlapDamperModel, 8 int[], 9 boolean[], 10 RouteRecord[] -/
def fd_kl : List Nat := [4, 0, 8, 2, 10, 1, 8, 8, 3, 3, 3, 3, 3, 3, 8, 8, 8, 8, 8, 8, 8, 8, 8, 4, 0, 8, 2, 10, 1, 8, 8, 3, 3, 3, 3, 3, 3, 8, 8, 8, 8, 8, 8, 8, 8, 8, 4, 0, 8, 2, 10, 1, 8, 8, 3, 3, 3, 3, 3, 3, 8, 8, 8, 8, 8, 8, 8, 8, 8, 6, 9, 5, 8, 7, 8, 8, 8, 8, 8, 8, 9, 8]
def fd_ll : List Nat := [0, 0, 7, 0, 6, 0, 120, 6, 0, 0, 0, 0, 0, 0, 4, 4, 4, 4, 4, 4, 32, 8, 8, 0, 0, 7, 0, 6, 0, 120, 6, 0, 0, 0, 0, 0, 0, 4, 4, 4, 4, 4, 4, 32, 8, 8, 0, 0, 7, 0, 6, 0, 120, 6, 0, 0, 0, 0, 0, 0, 4, 4, 4, 4, 4, 4, 32, 8, 8, 0, 2, 0, 12, 0, 8, 28, 7, 7, 275, 550, 2, 12]
def fd_kd (k : Nat) : Nat := fd_kl.getD k 99
def fd_ln (k : Nat) : Nat := fd_ll.getD k 0
/-- a record's cell, out of what a row of a RecordList holds -/
def fd_rc (k : Nat) (v : Int32) : Nat := 23 * (k / 23) + 8 + v.toNatClampNeg
def fd_fs (E : fd_E) (S : fd_S) (k : Nat) : Nat → List Value
  | 0 => [.ref (E.2.2 (k + 1))]
  | 1 => [.ref (E.2.2 (k + 1)), .ref (E.2.2 (k + 2)), .int (S k 2), .int (S k 3)]
  | 2 => [.ref (E.2.2 (k + 1)), .int (S k 1), .int (S k 2)]
  | 3 => [.int (S k 0), .int (S k 1), .int (S k 2), .int (S k 3), .int (S k 4), .ref (E.2.2 (k + 6)), .int (S k 6)]
  | 4 => [.ref (E.2.2 (k + 1)), .ref (E.2.2 (k + 3)), .ref (E.2.2 (k + 5)), .ref (E.2.2 (k + 20)), .ref (E.2.2 (k + 21)), .ref (E.2.2 (k + 22)), .int (S k 6), .int (S k 7), .int (S k 8), .int (S k 9), .int (S k 10)]
  | 5 => [.ref (E.2.2 (k + 1)), .int (S k 1)]
  | 6 => [.ref (E.2.2 71), .ref (E.2.2 0), .ref (E.2.2 23), .ref (E.2.2 46), .ref (E.2.2 70)]
  | _ => [.ref (E.2.2 74), .ref (E.2.2 75), .ref (E.2.2 76), .ref (E.2.2 77), .ref (E.2.2 78), .ref (E.2.2 79), .ref (E.2.2 80), .ref (E.2.2 81), .int (S k 8)]
def fd_ceK (E : fd_E) (S : fd_S) (k c : Nat) : va_E :=
  if c = 8 then .inl (E.2.1 0, fd_ln k, .inl (fun n => S k (fd_ix n)))
  else if c = 9 then .inl (E.2.1 1, fd_ln k, .inl (fun n => S k (fd_ix n)))
  else if c = 10 then .inl (E.2.1 2, fd_ln k, .inr (.inr (.inr (.inr (fun n => some (E.2.2 (fd_rc k (S k (fd_ix n)))))))))
  else .inr (c, fd_fs E S k c)
def fd_ce (E : fd_E) (S : fd_S) (k : Nat) : va_E := fd_ceK E S k (fd_kd k)
def fd_ws (E : fd_E) (S : fd_S) : va_W := (List.range 82).map (fun k => (E.2.2 k, fd_ce E S k))
def fd_A (E : fd_E) : Nat → Prop := fun q => ∃ k : Nat, k < 82 ∧ q = E.2.2 k
theorem fd_ws_at (E : fd_E) (S : fd_S) {k c : Nat} (hk : k < 82) (hc : fd_kd k = c) : (fd_ws E S)[k]? = some (E.2.2 k, fd_ceK E S k c) := by
  subst hc
  simp [fd_ws, List.getElem?_map, List.getElem?_range hk, fd_ce]
theorem fd_ws_o (E : fd_E) (S : fd_S) {k c : Nat} (hk : k < 82) (hc : fd_kd k = c) (h8 : c < 8) : (fd_ws E S)[k]? = some (E.2.2 k, .inr (c, fd_fs E S k c)) := by
  rw [fd_ws_at E S hk hc]
  unfold fd_ceK
  rw [if_neg (by omega), if_neg (by omega), if_neg (by omega)]
theorem fd_ws_set {E : fd_E} {S S' : fd_S} {k : Nat} {e : va_E} (hk : k < 82) (hs : ∀ a, a ≠ k → S' a = S a) (he : e = fd_ce E S' k) : (fd_ws E S).set k (E.2.2 k, e) = fd_ws E S' := by
  subst he
  apply List.ext_getElem?
  intro i
  by_cases hi : i = k
  · subst hi
    rw [List.getElem?_set_self (by simp [fd_ws]; exact hk), fd_ws_at E S' hk rfl]
    rfl
  · rw [List.getElem?_set_ne (Ne.symm hi)]
    by_cases h82 : i < 82
    · rw [fd_ws_at E S h82 rfl, fd_ws_at E S' h82 rfl]
      have hsi := hs i hi
      have : fd_ceK E S i (fd_kd i) = fd_ceK E S' i (fd_kd i) := by
        unfold fd_ceK
        have hf : fd_fs E S i (fd_kd i) = fd_fs E S' i (fd_kd i) := by
          unfold fd_fs
          split <;> simp only [hsi]
        rw [hsi, hf]
      rw [this]
    · rw [List.getElem?_eq_none (by simp [fd_ws]; omega), List.getElem?_eq_none (by simp [fd_ws]; omega)]
theorem fd_up_ne {S : fd_S} {k a : Nat} {j v : Int32} (h : a ≠ k) : fd_up S k j v a = S a := by
  funext b
  simp [fd_up, h]
/-- which fields hold ints -/
def fd_isI : Nat → Nat → Bool
  | 1, 2 => true | 1, 3 => true | 2, 1 => true | 2, 2 => true
  | 3, 0 => true | 3, 1 => true | 3, 2 => true | 3, 3 => true | 3, 4 => true | 3, 6 => true
  | 4, 6 => true | 4, 7 => true | 4, 8 => true | 4, 9 => true | 4, 10 => true
  | 5, 1 => true | 7, 8 => true
  | _, _ => false
theorem fd_fs_set (E : fd_E) (S : fd_S) (k : Nat) (v : Int32) (ci j : Nat) (h : fd_isI ci j = true) : (fd_fs E S k ci).set j (.int v) = fd_fs E (fd_up S k (nI j) v) k ci := by
  unfold fd_isI at h
  split at h <;> first | (simp [fd_fs, fd_up, nI]; done) | cases h
theorem fd_ix_of {i : Int32} (h : 0 ≤ i) : fd_ix i.toNatClampNeg = i := by
  have h1 : i.toNatClampNeg < 2147483648 := by
    have := Int32.toInt_lt i
    unfold Int32.toNatClampNeg
    omega
  have h0 : ¬ i < 0 := Int32.not_lt.mpr h
  obtain ⟨j, hj, rfl⟩ := nI_of h0
  rw [nI_clamp hj]
  unfold fd_ix
  rw [if_pos (by omega)]
theorem fd_ix_eq {i : Int32} {n : Nat} (h : 0 ≤ i) : fd_ix n = i ↔ n = i.toNatClampNeg := by
  have h0 : ¬ i < 0 := Int32.not_lt.mpr h
  obtain ⟨j, hj, rfl⟩ := nI_of h0
  rw [nI_clamp hj]
  unfold fd_ix
  by_cases hn : n < 2147483648
  · rw [if_pos hn]
    exact nI_eq (by omega) (by omega)
  · rw [if_neg hn]
    refine ⟨fun e => ?_, fun e => by omega⟩
    have : (nI j).toInt = (-1 : Int32).toInt := by rw [← e]
    rw [nI_toInt hj] at this
    have h2 : ((-1 : Int32).toInt) = -1 := by decide
    omega
theorem fd_in {i : Int32} {n : Nat} (hn : n < 2 ^ 31) (h : 0 ≤ i ∧ i < nI n) : vp_in i n := by
  rw [vp_in_iff]
  refine ⟨by simpa using Int32.le_iff_toInt_le.mp h.1, ?_⟩
  have := Int32.lt_iff_toInt_lt.mp h.2
  rwa [nI_toInt hn] at this
theorem fd_ln_lt (k : Nat) : fd_ln k < 2 ^ 31 := by
  have h : ∀ x ∈ fd_ll, x < 2 ^ 31 := by decide
  unfold fd_ln
  rw [List.getD_eq_getElem?_getD]
  cases hk : fd_ll[k]? with
  | none => simp
  | some x => exact h x (List.mem_of_getElem? hk)
/-- an array's contents behind a store -/
theorem fd_upd (S : fd_S) (k : Nat) {i : Int32} (x : Int32) (h : 0 ≤ i) : upd (fun n => S k (fd_ix n)) i.toNatClampNeg x = fun n => fd_up S k i x k (fd_ix n) := by
  funext n
  unfold upd fd_up
  rw [if_pos rfl]
  by_cases hn : n = i.toNatClampNeg
  · rw [if_pos hn, if_pos ((fd_ix_eq h).mpr hn)]
  · rw [if_neg hn, if_neg (fun q => hn ((fd_ix_eq h).mp q))]
end
section
/-! ===== what is there from the start and nobody writes: static tables, texts, words of the nest ===== -/
def fd_tl (l : List Int32) (i : Int32) : Int32 := l.getD i.toNatClampNeg 0
def fd_least : List Int32 := [4, 1, 0, 0, 100, 50, 100]
def fd_most : List Int32 := [200, 50, 2000, 2000, 9999, 9999, 20000]
def fd_row : List Int32 := [65536, 60097, 55109, 50535, 46341, 42495, 38968, 35734]
def fd_slen : List Nat := [4, 4, 4, 4, 4, 4, 3]
def fd_sbyt : List (List Int32) := [[104, 97, 108, 102], [115, 108, 111, 116], [103, 111, 110, 101], [115, 119, 97, 112], [111, 118, 101, 114], [98, 97, 99, 107], [116, 111, 112]]
def fd_stx : List String := ["half", "slot", "gone", "swap", "over", "back", "top"]
def fd_N1 : Cond := .methodLinkNest "FlapDamper$RecordList" 41 ⟨"FlapDamper", "isWithin", "(III)Z"⟩ "FlapDamper"
def fd_N2 : Cond := .methodLinkNest "FlapDamper$Lines" 38 ⟨"FlapDamper", "isWithin", "(III)Z"⟩ "FlapDamper"
def fd_N3 : Cond := .methodLinkNest "FlapDamper$State" 176 ⟨"FlapDamper", "routeOf", "(II)I"⟩ "FlapDamper"
def fd_N4 : Cond := .fieldLinkNest "FlapDamper$Bounds" 23 "FlapDamper" "ROW" "[I" "FlapDamper"
def fd_Z (E : fd_E) (U : State) (H : Heap) : Prop :=
  (va_Nw fd_N1 U ∧ va_Nw fd_N2 U ∧ va_Nw fd_N3 U ∧ va_Nw fd_N4 U) ∧
  (va_Z "FlapDamper" "LEAST" "[I" (.ref (E.2.2 100)) (fd_A E) U H ∧ va_T .int (E.2.2 100) 7 (fun j => .int (fd_least.getD j 0)) (fd_A E) U H) ∧
  (va_Z "FlapDamper" "MOST" "[I" (.ref (E.2.2 101)) (fd_A E) U H ∧ va_T .int (E.2.2 101) 7 (fun j => .int (fd_most.getD j 0)) (fd_A E) U H) ∧
  (va_Z "FlapDamper" "ROW" "[I" (.ref (E.2.2 102)) (fd_A E) U H ∧ va_T .int (E.2.2 102) 8 (fun j => .int (fd_row.getD j 0)) (fd_A E) U H) ∧
  (vk_S 7 fd_slen fd_sbyt (fun i => E.2.2 (110 + i)) (fun i => E.2.2 (120 + i)) (fd_A E) U H ∧ ∀ i : Nat, i < 7 → vk_R "FlapDamper$Text" (57 + 2 * i) (fd_stx.getD i "") (E.2.2 (110 + i)) U) ∧
  va_Z "java/lang/String" "COMPACT_STRINGS" "Z" (.int 1) (fd_A E) U H ∧ va_Zq "jdk/internal/util/Preconditions" "SIOOBE_FORMATTER" "Ljava/util/function/BiFunction;" (fd_A E) U H
theorem fd_Z.go {E : fd_E} {s U : State} {H : Heap} {locs : List Loc} (hW : s.WarmedH U.vm) (hU : U.heap = H) (hS : va_S (fd_A E) s.heap H locs) (h : fd_Z E s s.heap) : fd_Z E U U.heap := by
  rw [hU]
  obtain ⟨⟨n1, n2, n3, n4⟩, ⟨a1, a2⟩, ⟨b1, b2⟩, ⟨c1, c2⟩, ⟨d1, d2⟩, e1, f1⟩ := h
  have hv := hW.alike
  exact ⟨⟨va_Nw.warmM hW n1, va_Nw.warmM hW n2, va_Nw.warmM hW n3, va_Nw.warmF hW n4⟩, ⟨(va_Z.moved hv a1).kept hS.2.1, (va_T.moved hv a2).kept hS.2.1⟩, ⟨(va_Z.moved hv b1).kept hS.2.1, (va_T.moved hv b2).kept hS.2.1⟩, ⟨(va_Z.moved hv c1).kept hS.2.1, (va_T.moved hv c2).kept hS.2.1⟩, ⟨(vk_S.moved hv d1).kept hS.2.1, fun i hi => vk_R.warm hW (d2 i hi)⟩, (va_Z.moved hv e1).kept hS.2.1, (va_Zq.moved hv f1).kept hS.2.1⟩
theorem fd_Z.calling {E : fd_E} {U : State} {g : JFrame} {mk : MethodId} {a : Array Value} (h : fd_Z E U U.heap) : fd_Z E (U.calling g mk a) (U.calling g mk a).heap := by
  obtain ⟨⟨n1, n2, n3, n4⟩, ⟨a1, a2⟩, ⟨b1, b2⟩, ⟨c1, c2⟩, ⟨d1, d2⟩, e1, f1⟩ := h
  have hv : U.vm.Alike (U.calling g mk a).vm := Vm.Alike.refl U.vm
  exact ⟨⟨va_Nw.same rfl rfl n1, va_Nw.same rfl rfl n2, va_Nw.same rfl rfl n3, va_Nw.same rfl rfl n4⟩, ⟨va_Z.moved hv a1, va_T.moved hv a2⟩, ⟨va_Z.moved hv b1, va_T.moved hv b2⟩, ⟨va_Z.moved hv c1, va_T.moved hv c2⟩, ⟨vk_S.moved hv d1, fun i hi => vk_R.same rfl (d2 i hi)⟩, va_Z.moved hv e1, va_Zq.moved hv f1⟩
/-- what a walk stands on -/
def fd_C (p : Program) (s : State) (m : MethodId) (args : Array Value) (c : Code) (own : String) (cc : ByteArray) (nL : Nat) (E : fd_E) : Prop :=
  p.tables.exec = Jvm.exec ∧ c.code = cc ∧ c.maxLocals = nL ∧ s.vm.findClass own = some m.cls ∧ (∀ w ∈ fd_T, w.before args s = true) ∧ va_K E.1 fd_CL (fd_ty E) s ∧ fd_Z E s s.heap
/-- the heap holds the store -/
def fd_H (E : fd_E) (S : fd_S) (s : State) (H : Heap) (locs : List Loc) : Prop := va_P E.1 fd_CL (fd_ws E S) H ∧ va_D (fd_A E) (fd_ws E S) ∧ va_S (fd_A E) s.heap H locs
def fd_W (E : fd_E) (S : fd_S) (U : State) : Prop := va_P E.1 fd_CL (fd_ws E S) U.heap ∧ va_D (fd_A E) (fd_ws E S) ∧ va_K E.1 fd_CL (fd_ty E) U
def fd_Q (E : fd_E) (v : Option Value) (S : fd_S) : Array Value → State → Outcome → State → Prop := fun _ st oc t => (oc = .returned v ∧ fd_W E S t) ∧ va_F (fd_A E) st t
def fd_Ct (l : Launch) (y : MethodName) (cc : ByteArray) (nL : Nat) (ret : Option FieldType) (rm : Room) (E : fd_E) (S : fd_S) (av : List Value) (v : Option Value) (S' : fd_S) : Prop :=
  Met l y (Cond.code y cc nL ret :: fd_T) rm (va_Pc av (fun U => fd_W E S U ∧ fd_Z E U U.heap)) (fd_Q E v S') 0 0 (fd_A E)
abbrev fd_rm (f n : Nat) : Room := { frames := f, cells := 0, slots := 0, locals := n }
theorem fd_Ct_of {l : Launch} {y : MethodName} {cc : ByteArray} {nL : Nat} {ret : Option FieldType} {rm : Room} {E : fd_E} {S S' : fd_S} {av : List Value} {v : Option Value} (hy : plainName y.cls = true) (hn : (lg_sl av).length ≤ nL)
    (body : ∀ (p : Program) (e : Env) (s : State) (m : MethodId) (below : List Frame) (meth : Method) (c : Code) (ls : Array Slot), fd_C p s m av.toArray c y.cls cc nL E → meth.sig.returnType = ret → meth.locks = false → fd_H E S s s.heap [] → lv_has ls nL (lv_args 0 av) →
      W p l e rm s m av.toArray below meth c s.heap [] 0 0 (MQ below (fd_Q E v S') av.toArray s 0 0 (fd_A E)) (F0 m 0 ls [])) : fd_Ct l y cc nL ret rm E S av v S' := by
  refine Met.ofW (cc := cc) (maxL := nL) (ret := ret) hy rfl ?_
  intro p e s m args below meth c s₁ B hml hv
  obtain ⟨rfl, ⟨hP, hD, hK⟩, hZ⟩ := hv
  have hts := atoms_spec (ws := Cond.code y cc nL ret :: fd_T) B.pre
  rw [lg_entry_eq]
  exact body p e s m below meth c _ ⟨B.exec, B.bytes, hml, findClass_of_methodNamed B.named, fun w hw => hts w (List.mem_cons_of_mem _ hw), hK, hZ⟩ B.returns B.notSynchronized ⟨hP, hD, va_S.rf⟩ (lv_entry av hn)
theorem fd_blind {E : fd_E} {S : fd_S} {av : List Value} : FrameBlind (va_Pc av (fun U => fd_W E S U ∧ fd_Z E U U.heap)) := by
  intro a U g mk h
  obtain ⟨h1, ⟨hP, hD, hK⟩, hZ⟩ := h
  exact ⟨h1, ⟨hP, hD, va_K.moved (u := U) (U := U.calling g mk a) (Vm.Alike.refl U.vm) hK⟩, hZ.calling⟩
theorem fd_pre {E : fd_E} {S : fd_S} {av : List Value} {s : State} {H : Heap} {locs : List Loc} (hK : va_K E.1 fd_CL (fd_ty E) s) (hZ : fd_Z E s s.heap) (hH : fd_H E S s H locs) : ∀ U : State, U.heap = H → s.WarmedH U.vm → va_Pc av (fun U => fd_W E S U ∧ fd_Z E U U.heap) av.toArray U :=
  fun U hU hW => ⟨rfl, ⟨by rw [hU]; exact hH.1, hH.2.1, va_K.moved hW.alike hK⟩, hZ.go hW hU hH.2.2⟩
/-- the classes, and that their fields' words are among the tables' -/
def fd_cq : Nat → vw_C
  | 0 => (RX0, TX0, 1) | 1 => (RX1, TX1, 4) | 2 => (RX2, TX2, 3) | 3 => (RX3, TX3, 7) | 4 => (RX4, TX4, 11) | 5 => (RX5, TX5, 2) | 6 => (RX6, TX6, 5) | _ => (RX7, TX7, 9)
theorem fd_CL_at {ci : Nat} (h : ci < 8) : fd_CL[ci]? = some (fd_cq ci) := by
  match ci, h with
  | 0, _ => rfl
  | 1, _ => rfl
  | 2, _ => rfl
  | 3, _ => rfl
  | 4, _ => rfl
  | 5, _ => rfl
  | 6, _ => rfl
  | 7, _ => rfl
theorem fd_in0 : ∀ w ∈ u_ws RX0 TX0 1, w ∈ fd_T := by decide +kernel
theorem fd_in1 : ∀ w ∈ u_ws RX1 TX1 4, w ∈ fd_T := by decide +kernel
theorem fd_in2 : ∀ w ∈ u_ws RX2 TX2 3, w ∈ fd_T := by decide +kernel
theorem fd_in3 : ∀ w ∈ u_ws RX3 TX3 7, w ∈ fd_T := by decide +kernel
theorem fd_in4 : ∀ w ∈ u_ws RX4 TX4 11, w ∈ fd_T := by decide +kernel
theorem fd_in5 : ∀ w ∈ u_ws RX5 TX5 2, w ∈ fd_T := by decide +kernel
theorem fd_in6 : ∀ w ∈ u_ws RX6 TX6 5, w ∈ fd_T := by decide +kernel
theorem fd_in7 : ∀ w ∈ u_ws RX7 TX7 9, w ∈ fd_T := by decide +kernel
theorem fd_inc {ci : Nat} (h : ci < 8) : ∀ w ∈ u_ws (fd_cq ci).1 (fd_cq ci).2.1 (fd_cq ci).2.2, w ∈ fd_T := by
  match ci, h with
  | 0, _ => exact fd_in0
  | 1, _ => exact fd_in1
  | 2, _ => exact fd_in2
  | 3, _ => exact fd_in3
  | 4, _ => exact fd_in4
  | 5, _ => exact fd_in5
  | 6, _ => exact fd_in6
  | 7, _ => exact fd_in7
def fd_fty : Nat → Nat → FieldType
  | 0 => tyX0 | 1 => tyX1 | 2 => tyX2 | 3 => tyX3 | 4 => tyX4 | 5 => tyX5 | 6 => tyX6 | _ => tyX7
theorem fd_fty_ok {ci : Nat} (h : ci < 8) : ∀ k, k < (fd_cq ci).2.2 → parseFieldDescriptor ((fd_cq ci).2.1 k).2.2.1 = some (fd_fty ci k) := by
  match ci, h with
  | 0, _ => exact tyX0_ok
  | 1, _ => exact tyX1_ok
  | 2, _ => exact tyX2_ok
  | 3, _ => exact tyX3_ok
  | 4, _ => exact tyX4_ok
  | 5, _ => exact tyX5_ok
  | 6, _ => exact tyX6_ok
  | 7, _ => exact tyX7_ok
theorem fd_fnm {ci : Nat} (h : ci < 8) : ∀ a, a < (fd_cq ci).2.2 → ∀ b, b < (fd_cq ci).2.2 → a ≠ b → ((fd_cq ci).2.1 a).2.1 ≠ ((fd_cq ci).2.1 b).2.1 := by
  match ci, h with
  | 0, _ => exact nmX0
  | 1, _ => exact nmX1
  | 2, _ => exact nmX2
  | 3, _ => exact nmX3
  | 4, _ => exact nmX4
  | 5, _ => exact nmX5
  | 6, _ => exact nmX6
  | 7, _ => exact nmX7
end
section
section FD
variable {p : Program} {l : Launch} {e : Env} {R : Room} {s : State} {m : MethodId} {args : Array Value} {below : List Frame} {meth : Method} {c : Code} {H : Heap} {locs : List Loc} {cells slots : Nat} {Q : State → Prop}
variable {cc : ByteArray} {pc : Nat} {ls : Array Slot} {rest : List Value} {own : String} {nL : Nat} {E : fd_E} {S : fd_S}
theorem fd_get (k ci j : Nat) (C : fd_C p s m args c own cc nL E) (hH : fd_H E S s H locs) (hk : k < 82) (hkd : fd_kd k = ci) (h8 : ci < 8) (hj : j < (fd_cq ci).2.2) {index : Nat} (hl : Cond.fieldLink own index ((fd_cq ci).2.1 j).1 ((fd_cq ci).2.1 j).2.1 ((fd_cq ci).2.1 j).2.2.1 ∈ fd_T) {v : Value} (hv : (fd_fs E S k ci)[j]? = some v) (hdg : decode cc pc = .ok (.getfield index, 3))
    (kk : W p l e R s m args below meth c H locs cells slots Q (F0 m (pc + 3) ls (v :: rest))) : W p l e R s m args below meth c H locs cells slots Q (F0 m pc ls (.ref (E.2.2 k) :: rest)) := by
  obtain ⟨hx, hb, -, hown, hts, hK, -⟩ := C
  exact va_get (C := (fd_cq ci).1) (T := (fd_cq ci).2.1) (N := (fd_cq ci).2.2) hx hb hts (fd_inc h8) hown hK hH.1 k (fd_ws_o E S hk hkd h8) (fd_CL_at h8) j hj (hts _ hl) (fun _ h => h) hv hdg kk
theorem fd_put (k ci j : Nat) (jj : Int32) (C : fd_C p s m args c own cc nL E) (hH : fd_H E S s H locs) (hk : k < 82) (hkd : fd_kd k = ci) (h8 : ci < 8) (hj : j < (fd_cq ci).2.2) {index : Nat} (hl : Cond.fieldLink own index ((fd_cq ci).2.1 j).1 ((fd_cq ci).2.1 j).2.1 ((fd_cq ci).2.1 j).2.2.1 ∈ fd_T) (hI : fd_isI ci j = true) (hfin : ((fd_cq ci).2.1 j).2.2.2 = false) {v : Int32} (hn : narrow (fd_fty ci j) (.int v) = .int v) (hfit : fits (fd_fty ci j) (.int v) = true) (hjj : nI j = jj) (hln : j < (fd_fs E S k ci).length) (hdg : decode cc pc = .ok (.putfield index, 3))
    (kk : ∀ (H1 : Heap) (locs1 : List Loc), fd_H E (fd_up S k jj v) s H1 locs1 → W p l e R s m args below meth c H1 locs1 cells slots Q (F0 m (pc + 3) ls rest)) : W p l e R s m args below meth c H locs cells slots Q (F0 m pc ls (.int v :: .ref (E.2.2 k) :: rest)) := by
  obtain ⟨hx, hb, -, hown, hts, hK, -⟩ := C
  subst hjj
  refine va_put (C := (fd_cq ci).1) (T := (fd_cq ci).2.1) (N := (fd_cq ci).2.2) hx hb hts (fd_inc h8) (fd_fty ci) (fd_fty_ok h8) (fd_fnm h8) hown hK hH.1 hH.2.1 hH.2.2 k (fd_ws_o E S hk hkd h8) (fd_CL_at h8) j hj (hts _ hl) (fun _ h => h) hfin (fd_fty_ok h8 j hj) hn hfit hln hdg (fun H1 locs1 hP hD hS => ?_)
  have e1 : (fd_ws E S).set k (E.2.2 k, .inr (ci, (fd_fs E S k ci).set j (.int v))) = fd_ws E (fd_up S k (nI j) v) := by
    refine fd_ws_set hk (fun a ha => fd_up_ne ha) ?_
    rw [fd_fs_set E S k v ci j hI]
    unfold fd_ce fd_ceK
    rw [hkd, if_neg (by omega), if_neg (by omega), if_neg (by omega)]
  rw [e1] at hP hD
  exact kk H1 locs1 ⟨hP, hD, hS⟩
theorem fd_ws_i (E : fd_E) (S : fd_S) {k : Nat} (hk : k < 82) (hc : fd_kd k = 8) : (fd_ws E S)[k]? = some (E.2.2 k, .inl (E.2.1 0, fd_ln k, .inl (fun n => S k (fd_ix n)))) := by
  rw [fd_ws_at E S hk hc]
  rfl
theorem fd_ws_z (E : fd_E) (S : fd_S) {k : Nat} (hk : k < 82) (hc : fd_kd k = 9) : (fd_ws E S)[k]? = some (E.2.2 k, .inl (E.2.1 1, fd_ln k, .inl (fun n => S k (fd_ix n)))) := by
  rw [fd_ws_at E S hk hc]
  rfl
theorem fd_ws_r (E : fd_E) (S : fd_S) {k : Nat} (hk : k < 82) (hc : fd_kd k = 10) : (fd_ws E S)[k]? = some (E.2.2 k, .inl (E.2.1 2, fd_ln k, .inr (.inr (.inr (.inr (fun n => some (E.2.2 (fd_rc k (S k (fd_ix n)))))))))) := by
  rw [fd_ws_at E S hk hc]
  rfl
theorem fd_iald (k : Nat) (n : Int32) (C : fd_C p s m args c own cc nL E) (hH : fd_H E S s H locs) (hk : k < 82) (hkd : fd_kd k = 8) (hn : nI (fd_ln k) = n) {i : Int32} (hi : 0 ≤ i ∧ i < n) (hdg : decode cc pc = .ok (.iaload, 1))
    (kk : W p l e R s m args below meth c H locs cells slots Q (F0 m (pc + 1) ls (.int (S k i) :: rest))) : W p l e R s m args below meth c H locs cells slots Q (F0 m pc ls (.int i :: .ref (E.2.2 k) :: rest)) := by
  obtain ⟨hx, hb, -, hown, hts, hK, -⟩ := C
  subst hn
  refine va_iald hx hb hK hH.1 k 0 (fd_ws_i E S hk hkd) rfl (fd_in (fd_ln_lt k) hi) hdg ?_
  rw [fd_ix_of hi.1]
  exact kk
theorem fd_zald (k : Nat) (n : Int32) (C : fd_C p s m args c own cc nL E) (hH : fd_H E S s H locs) (hk : k < 82) (hkd : fd_kd k = 9) (hn : nI (fd_ln k) = n) {i : Int32} (hi : 0 ≤ i ∧ i < n) (hdg : decode cc pc = .ok (.baload, 1))
    (kk : W p l e R s m args below meth c H locs cells slots Q (F0 m (pc + 1) ls (.int (S k i) :: rest))) : W p l e R s m args below meth c H locs cells slots Q (F0 m pc ls (.int i :: .ref (E.2.2 k) :: rest)) := by
  obtain ⟨hx, hb, -, hown, hts, hK, -⟩ := C
  subst hn
  refine va_zald hx hb hK hH.1 k 1 (fd_ws_z E S hk hkd) rfl (fd_in (fd_ln_lt k) hi) hdg ?_
  rw [fd_ix_of hi.1]
  exact kk
theorem fd_aald (k : Nat) (n : Int32) (C : fd_C p s m args c own cc nL E) (hH : fd_H E S s H locs) (hk : k < 82) (hkd : fd_kd k = 10) (hn : nI (fd_ln k) = n) {i : Int32} (hi : 0 ≤ i ∧ i < n) (hdg : decode cc pc = .ok (.aaload, 1))
    (kk : W p l e R s m args below meth c H locs cells slots Q (F0 m (pc + 1) ls (.ref (E.2.2 (fd_rc k (S k i))) :: rest))) : W p l e R s m args below meth c H locs cells slots Q (F0 m pc ls (.int i :: .ref (E.2.2 k) :: rest)) := by
  obtain ⟨hx, hb, -, hown, hts, hK, -⟩ := C
  subst hn
  refine va_aldq hx hb hK hH.1 k 2 (fd_ws_r E S hk hkd) rfl (fd_in (fd_ln_lt k) hi) hdg ?_
  dsimp only [va_rf]
  rw [fd_ix_of hi.1]
  exact kk
theorem fd_iast (k : Nat) (n : Int32) (C : fd_C p s m args c own cc nL E) (hH : fd_H E S s H locs) (hk : k < 82) (hkd : fd_kd k = 8) (hn : nI (fd_ln k) = n) {i x : Int32} (hi : 0 ≤ i ∧ i < n) (hdg : decode cc pc = .ok (.iastore, 1))
    (kk : ∀ (H1 : Heap) (locs1 : List Loc), fd_H E (fd_up S k i x) s H1 locs1 → W p l e R s m args below meth c H1 locs1 cells slots Q (F0 m (pc + 1) ls rest)) : W p l e R s m args below meth c H locs cells slots Q (F0 m pc ls (.int x :: .int i :: .ref (E.2.2 k) :: rest)) := by
  obtain ⟨hx, hb, -, hown, hts, hK, -⟩ := C
  subst hn
  refine va_iast hx hb hK hH.1 hH.2.1 hH.2.2 k 0 (fd_ws_i E S hk hkd) rfl (fd_in (fd_ln_lt k) hi) hdg (fun H1 locs1 hP hD hS => ?_)
  rw [fd_upd S k x hi.1] at hP hD
  have e1 : (fd_ws E S).set k (E.2.2 k, .inl (E.2.1 0, fd_ln k, .inl (fun n => fd_up S k i x k (fd_ix n)))) = fd_ws E (fd_up S k i x) := by
    refine fd_ws_set hk (fun a ha => fd_up_ne ha) ?_
    unfold fd_ce fd_ceK
    rw [hkd]
    rfl
  rw [e1] at hP hD
  exact kk H1 locs1 ⟨hP, hD, hS⟩
theorem fd_zast (k : Nat) (n : Int32) (C : fd_C p s m args c own cc nL E) (hH : fd_H E S s H locs) (hk : k < 82) (hkd : fd_kd k = 9) (hn : nI (fd_ln k) = n) {i x : Int32} (hi : 0 ≤ i ∧ i < n) (hz : vp_nar .boolean x = x) (hdg : decode cc pc = .ok (.bastore, 1))
    (kk : ∀ (H1 : Heap) (locs1 : List Loc), fd_H E (fd_up S k i x) s H1 locs1 → W p l e R s m args below meth c H1 locs1 cells slots Q (F0 m (pc + 1) ls rest)) : W p l e R s m args below meth c H locs cells slots Q (F0 m pc ls (.int x :: .int i :: .ref (E.2.2 k) :: rest)) := by
  obtain ⟨hx, hb, -, hown, hts, hK, -⟩ := C
  subst hn
  refine va_zast hx hb hK hH.1 hH.2.1 hH.2.2 k 1 (fd_ws_z E S hk hkd) rfl (fd_in (fd_ln_lt k) hi) hdg (fun H1 locs1 hP hD hS => ?_)
  rw [hz, fd_upd S k x hi.1] at hP hD
  have e1 : (fd_ws E S).set k (E.2.2 k, .inl (E.2.1 1, fd_ln k, .inl (fun n => fd_up S k i x k (fd_ix n)))) = fd_ws E (fd_up S k i x) := by
    refine fd_ws_set hk (fun a ha => fd_up_ne ha) ?_
    unfold fd_ce fd_ceK
    rw [hkd]
    rfl
  rw [e1] at hP hD
  exact kk H1 locs1 ⟨hP, hD, hS⟩
/-- a row of a RecordList takes a record of the same State -/
theorem fd_aast (k : Nat) (n : Int32) (C : fd_C p s m args c own cc nL E) (hH : fd_H E S s H locs) (hk : k < 82) (hkd : fd_kd k = 10) (hn : nI (fd_ln k) = n) {i : Int32} {q : Nat} (hi : 0 ≤ i ∧ i < n) (hq : 23 * (k / 23) + 8 ≤ q ∧ q < 23 * (k / 23) + 14) (hq3 : fd_kd q = 3) (hq82 : q < 82) (hdg : decode cc pc = .ok (.aastore, 1))
    (kk : ∀ (H1 : Heap) (locs1 : List Loc), fd_H E (fd_up S k i (nI (q - (23 * (k / 23) + 8)))) s H1 locs1 → W p l e R s m args below meth c H1 locs1 cells slots Q (F0 m (pc + 1) ls rest)) : W p l e R s m args below meth c H locs cells slots Q (F0 m pc ls (.ref (E.2.2 q) :: .int i :: .ref (E.2.2 k) :: rest)) := by
  obtain ⟨hx, hb, -, hown, hts, hK, -⟩ := C
  subst hn
  refine va_astq hx hb hK hH.1 hH.2.1 hH.2.2 k 2 q 3 (r := fd_cq 3) (fd_ws_r E S hk hkd) rfl (fd_ws_o E S hq82 hq3 (by omega)) (fd_CL_at (by omega)) (fd_in (fd_ln_lt k) hi) hdg (fun H1 locs1 hP hD hS => ?_)
  have e1 : (fd_ws E S).set k (E.2.2 k, .inl (E.2.1 2, fd_ln k, .inr (.inr (.inr (.inr (va_up (fun n => some (E.2.2 (fd_rc k (S k (fd_ix n))))) i.toNatClampNeg (some (E.2.2 q)))))))) = fd_ws E (fd_up S k i (nI (q - (23 * (k / 23) + 8)))) := by
    refine fd_ws_set hk (fun a ha => fd_up_ne ha) ?_
    have e2 : va_up (fun n => some (E.2.2 (fd_rc k (S k (fd_ix n))))) i.toNatClampNeg (some (E.2.2 q)) = fun n => some (E.2.2 (fd_rc k (fd_up S k i (nI (q - (23 * (k / 23) + 8))) k (fd_ix n)))) := by
      funext n
      unfold va_up fd_up
      rw [if_pos rfl]
      by_cases hn : n = i.toNatClampNeg
      · rw [if_pos hn, if_pos ((fd_ix_eq hi.1).mpr hn)]
        unfold fd_rc
        rw [nI_clamp (by omega)]
        rw [show 23 * (k / 23) + 8 + (q - (23 * (k / 23) + 8)) = q by omega]
      · rw [if_neg hn, if_neg (fun q => hn ((fd_ix_eq hi.1).mp q))]
    rw [e2]
    unfold fd_ce fd_ceK
    rw [hkd]
    rfl
  rw [e1] at hP hD
  exact kk H1 locs1 ⟨hP, hD, hS⟩
theorem fd_alen (k : Nat) (n : Int32) (C : fd_C p s m args c own cc nL E) (hH : fd_H E S s H locs) (hk : k < 82) (hkd : fd_kd k = 8) (hn : nI (fd_ln k) = n) (hdg : decode cc pc = .ok (.arraylength, 1))
    (kk : W p l e R s m args below meth c H locs cells slots Q (F0 m (pc + 1) ls (.int n :: rest))) : W p l e R s m args below meth c H locs cells slots Q (F0 m pc ls (.ref (E.2.2 k) :: rest)) := by
  obtain ⟨hx, hb, -, hown, hts, hK, -⟩ := C
  exact va_alen hx hb hK hH.1 k 0 (fd_ws_i E S hk hkd) rfl hn hdg kk
/-- System.arraycopy of ints: n places of cell k from sp on, to cell k' from dp on -/
def fd_cp (S : fd_S) (k k' : Nat) (sp dp n : Int32) : fd_S := fun a b => if a = k' then (if dp ≤ b ∧ b < dp + n then S k (sp + (b - dp)) else S a b) else S a b
theorem fd_cpy (S : fd_S) (k k' sp dp n : Nat) (h1 : sp + n < 2 ^ 30) (h2 : dp + n < 2 ^ 30) : va_cpy (fun n => S k (fd_ix n)) (fun n => S k' (fd_ix n)) sp dp n = fun j => fd_cp S k k' (nI sp) (nI dp) (nI n) k' (fd_ix j) := by
  funext j
  show (if dp ≤ j ∧ j < dp + n then S k (fd_ix (sp + (j - dp))) else S k' (fd_ix j)) = _
  unfold fd_cp
  rw [if_pos rfl]
  by_cases hj : j < 2147483648
  · have hjx : fd_ix j = nI j := by unfold fd_ix; rw [if_pos hj]
    by_cases hc : dp ≤ j ∧ j < dp + n
    · rw [if_pos hc, hjx, if_pos ⟨nI_le hc.1 (by omega), by rw [nI_add]; exact nI_lt hc.2 (by omega)⟩, pk_sub hc.1, nI_add]
      unfold fd_ix
      rw [if_pos (by omega)]
    · rw [if_neg hc, hjx, if_neg]
      rintro ⟨a, b⟩
      rw [nI_add] at b
      exact hc ⟨(nI_leI (by omega) (by omega)).mp a, (nI_ltI (by omega) (by omega)).mp b⟩
  · have hjx : fd_ix j = -1 := by unfold fd_ix; rw [if_neg hj]
    rw [if_neg (by omega), hjx, if_neg]
    rintro ⟨a, b⟩
    have h3 := Int32.le_iff_toInt_le.mp a
    rw [nI_toInt (by omega)] at h3
    have h4 : ((-1 : Int32).toInt) = -1 := by decide
    omega
theorem fd_copy (k k' sp dp n : Nat) (spI dpI nI' : Int32) (C : fd_C p s m args c own cc nL E) (hsz : ls.size = nL) (hH : fd_H E S s H locs) (hk : k < 82) (hkd : fd_kd k = 8) (hk' : k' < 82) (hkd' : fd_kd k' = 8) (e1 : nI sp = spI) (e2 : nI dp = dpI) (e3 : nI n = nI') (h4 : sp + n ≤ fd_ln k) (h5 : dp + n ≤ fd_ln k') (hs : fd_ln k < 1000 ∧ fd_ln k' < 1000)
    {index : Nat} (hl : Cond.methodLink own index arraycopyName ∈ fd_T) (hw : Cond.native arraycopyName ∈ fd_T ∧ Cond.static arraycopyName ∈ fd_T ∧ Cond.initialized "java/lang/System" ∈ fd_T) (hframes : 1 ≤ R.frames) (hlocals : (rest.map fun v => v.category).sum + (nativeFrameWords "java/lang/System" "arraycopy" 5 + 11) ≤ R.locals) (hdg : decode cc pc = .ok (.invokestatic index, 3))
    (kk : ∀ (H1 : Heap) (locs1 : List Loc), fd_H E (fd_cp S k k' spI dpI nI') s H1 locs1 → W p l e R s m args below meth c H1 locs1 cells slots Q (F0 m (pc + 3) ls rest)) : W p l e R s m args below meth c H locs cells slots Q (F0 m pc ls (.int nI' :: .int dpI :: .ref (E.2.2 k') :: .int spI :: .ref (E.2.2 k) :: rest)) := by
  obtain ⟨hx, hb, hml, hown, hts, hK, -⟩ := C
  subst e1 e2 e3
  have c1 : (nI sp).toNatClampNeg = sp := nI_clamp (by omega)
  have c2 : (nI dp).toNatClampNeg = dp := nI_clamp (by omega)
  have c3 : (nI n).toNatClampNeg = n := nI_clamp (by omega)
  refine va_copyi hx hb (hml.trans hsz.symm) hown (hts _ hl) (hts _ hw.1) (hts _ hw.2.1) (hts _ hw.2.2) hK hH.1 hH.2.1 hH.2.2 k k' 0 0 (ty := .int) (fd_ws_i E S hk hkd) (fd_ws_i E S hk' hkd') rfl rfl rfl (nI_pos (by omega)) (nI_pos (by omega)) (nI_pos (by omega)) (by rw [c1, c3]; exact h4) (by rw [c2, c3]; exact h5) (fun _ _ => rfl) hframes hlocals hdg (fun H1 locs1 hP hD hS => ?_)
  rw [c1, c2, c3, fd_cpy S k k' sp dp n (by omega) (by omega)] at hP hD
  have e1 : (fd_ws E S).set k' (E.2.2 k', .inl (E.2.1 0, fd_ln k', .inl (fun j => fd_cp S k k' (nI sp) (nI dp) (nI n) k' (fd_ix j)))) = fd_ws E (fd_cp S k k' (nI sp) (nI dp) (nI n)) := by
    refine fd_ws_set hk' (fun a ha => by funext b; simp [fd_cp, ha]) ?_
    unfold fd_ce fd_ceK
    rw [hkd']
    rfl
  rw [e1] at hP hD
  exact kk H1 locs1 ⟨hP, hD, hS⟩
/-! static tables -/
theorem fd_tin {i n : Int32} {N : Nat} (hN : N < 2 ^ 31) (hn : nI N = n) (h : 0 ≤ i ∧ i < n) : vp_in i N := by
  subst hn
  exact fd_in hN h
theorem fd_gets (n : String) (q : Nat) (C : fd_C p s m args c own cc nL E) (hH : fd_H E S s H locs) (hz : va_Z "FlapDamper" n "[I" (.ref (E.2.2 q)) (fd_A E) s s.heap) {index : Nat} (hl : Cond.fieldLink own index "FlapDamper" n "[I" ∈ fd_T) (hdg : decode cc pc = .ok (.getstatic index, 3))
    (kk : W p l e R s m args below meth c H locs cells slots Q (F0 m (pc + 3) ls (.ref (E.2.2 q) :: rest))) : W p l e R s m args below meth c H locs cells slots Q (F0 m pc ls rest) := by
  obtain ⟨hx, hb, hml, hown, hts, hK, -⟩ := C
  exact va_gets hx hb hz hH.2.2 hown (hts _ hl) (fun _ h => h) hdg kk
theorem fd_getsRow (C : fd_C p s m args c "FlapDamper$Bounds" cc nL E) (hH : fd_H E S s H locs) (hdg : decode cc pc = .ok (.getstatic 23, 3))
    (kk : W p l e R s m args below meth c H locs cells slots Q (F0 m (pc + 3) ls (.ref (E.2.2 102) :: rest))) : W p l e R s m args below meth c H locs cells slots Q (F0 m pc ls rest) := by
  obtain ⟨hx, hb, hml, hown, hts, hK, hZ⟩ := C
  exact va_getsN hx hb hZ.2.2.2.1.1 hH.2.2 hown (va_Nw.use rfl hZ.1.2.2.2) (fun _ h => h) hdg kk
theorem fd_tld (t : Nat) (N : Nat) (n : Int32) (tl : List Int32) (C : fd_C p s m args c own cc nL E) (hH : fd_H E S s H locs) (hT : va_T .int (E.2.2 t) N (fun j => .int (tl.getD j 0)) (fd_A E) s s.heap) (hN : N < 2 ^ 31) (hn : nI N = n) {i : Int32} (hi : 0 ≤ i ∧ i < n) (hdg : decode cc pc = .ok (.iaload, 1))
    (kk : W p l e R s m args below meth c H locs cells slots Q (F0 m (pc + 1) ls (.int (fd_tl tl i) :: rest))) : W p l e R s m args below meth c H locs cells slots Q (F0 m pc ls (.int i :: .ref (E.2.2 t) :: rest)) := by
  obtain ⟨hx, hb, hml, hown, hts, hK, hZ⟩ := C
  exact va_ti hx hb hT hH.2.2 (fd_tin hN hn hi) rfl hdg kk
theorem fd_tln (t : Nat) (N : Nat) (n : Int32) (tl : List Int32) (C : fd_C p s m args c own cc nL E) (hH : fd_H E S s H locs) (hT : va_T .int (E.2.2 t) N (fun j => .int (tl.getD j 0)) (fd_A E) s s.heap) (hn : nI N = n) (hdg : decode cc pc = .ok (.arraylength, 1))
    (kk : W p l e R s m args below meth c H locs cells slots Q (F0 m (pc + 1) ls (.int n :: rest))) : W p l e R s m args below meth c H locs cells slots Q (F0 m pc ls (.ref (E.2.2 t) :: rest)) := by
  obtain ⟨hx, hb, hml, hown, hts, hK, hZ⟩ := C
  exact va_tlen hx hb hT hH.2.2 hn hdg kk
/-! returns -/
variable {v : Option Value}
theorem fd_iret (C : fd_C p s m args c own cc nL E) (hr : meth.sig.returnType = some .int) (hlk : meth.locks = false) (hH : fd_H E S s H locs) {x : Int32} (hdg : decode cc pc = .ok (.ireturn, 1)) : W p l e R s m args below meth c H locs 0 0 (MQ below (fd_Q E (some (.int x)) S) args s 0 0 (fd_A E)) (F0 m pc ls [.int x]) := by
  obtain ⟨hx, hb, hml, hown, hts, hK, hZ⟩ := C
  exact W.iret hx hb hr (fun t ht hW => ⟨⟨rfl, by rw [ht]; exact hH.1, hH.2.1, va_K.moved hW.alike hK⟩, hH.2.2.F ht⟩) hH.2.2.2.2 hdg hlk
theorem fd_zret (ty : FieldType) (C : fd_C p s m args c own cc nL E) (hr : meth.sig.returnType = some ty) (hlk : meth.locks = false) (hH : fd_H E S s H locs) {x : Int32} (hn : narrow ty (.int x) = .int x) (hdg : decode cc pc = .ok (.ireturn, 1)) : W p l e R s m args below meth c H locs 0 0 (MQ below (fd_Q E (some (.int x)) S) args s 0 0 (fd_A E)) (F0 m pc ls [.int x]) := by
  obtain ⟨hx, hb, hml, hown, hts, hK, hZ⟩ := C
  exact W.zret hx hb hr hn (fun t ht hW => ⟨⟨rfl, by rw [ht]; exact hH.1, hH.2.1, va_K.moved hW.alike hK⟩, hH.2.2.F ht⟩) hH.2.2.2.2 hdg hlk
theorem fd_vret (C : fd_C p s m args c own cc nL E) (hr : meth.sig.returnType = none) (hlk : meth.locks = false) (hH : fd_H E S s H locs) (hdg : decode cc pc = .ok (.return_, 1)) : W p l e R s m args below meth c H locs 0 0 (MQ below (fd_Q E none S) args s 0 0 (fd_A E)) (F0 m pc ls []) := by
  obtain ⟨hx, hb, hml, hown, hts, hK, hZ⟩ := C
  exact W.vret hx hb hr (fun t ht hW => ⟨⟨rfl, by rw [ht]; exact hH.1, hH.2.1, va_K.moved hW.alike hK⟩, hH.2.2.F ht⟩) hH.2.2.2.2 hdg hlk
theorem fd_aret (n : String) (C : fd_C p s m args c own cc nL E) (hr : meth.sig.returnType = some (.object n)) (hlk : meth.locks = false) (hH : fd_H E S s H locs) {x : Value} (hv : x = .null ∨ ∃ a, x = .ref a) (hdg : decode cc pc = .ok (.areturn, 1)) : W p l e R s m args below meth c H locs 0 0 (MQ below (fd_Q E (some x) S) args s 0 0 (fd_A E)) (F0 m pc ls [x]) := by
  obtain ⟨hx, hb, hml, hown, hts, hK, hZ⟩ := C
  exact W.aret hx hb hr (Or.inl ⟨_, rfl⟩) hv (fun t ht hW => ⟨⟨rfl, by rw [ht]; exact hH.1, hH.2.1, va_K.moved hW.alike hK⟩, hH.2.2.F ht⟩) hH.2.2.2.2 hdg hlk
end FD
end
section
/-! ===== calls: the callee's contract over the whole world ===== -/
theorem fd_good {ws : List Cond} (h : ∀ w ∈ ws, w ∈ fd_T) : GoodIn fd_T ws := fun w hw => ⟨h w hw, good_of_word (List.mem_filter.mp (h w hw)).2⟩
def fd_wd (y : MethodName) (n : Nat) : Prop := y.cls ≠ "java/lang/invoke/MethodHandle" ∧ y.cls ≠ "java/lang/invoke/VarHandle" ∧ (parseMethodDescriptor y.desc).map (fun d => d.parameters.length) = some n
def fd_wV (own : String) (index : Nat) (y : MethodName) (bytes : ByteArray) (maxL : Nat) (ret : Option FieldType) (n : Nat) : Prop :=
  fd_wd y n ∧ Cond.methodLink own index y ∈ fd_T ∧ Cond.instanceMethod y ∈ fd_T ∧ Cond.selects y.cls y y ∈ fd_T ∧ Cond.initialized y.cls ∈ fd_T ∧ Cond.code y bytes maxL ret ∈ fd_T
def fd_wS (own : String) (index : Nat) (y : MethodName) (bytes : ByteArray) (maxL : Nat) (ret : Option FieldType) (n : Nat) : Prop :=
  fd_wd y n ∧ Cond.methodLink own index y ∈ fd_T ∧ Cond.static y ∈ fd_T ∧ Cond.initialized y.cls ∈ fd_T ∧ Cond.code y bytes maxL ret ∈ fd_T
def fd_wN (y : MethodName) (bytes : ByteArray) (maxL : Nat) (ret : Option FieldType) (n : Nat) : Prop :=
  fd_wd y n ∧ Cond.static y ∈ fd_T ∧ Cond.initialized y.cls ∈ fd_T ∧ Cond.code y bytes maxL ret ∈ fd_T
section FDC
variable {p : Program} {l : Launch} {e : Env} {R : Room} {s : State} {m : MethodId} {args : Array Value} {below : List Frame} {meth : Method} {c : Code} {H : Heap} {locs : List Loc} {cells slots : Nat} {Q : State → Prop}
variable {cc : ByteArray} {pc : Nat} {ls : Array Slot} {rest st0 : List Value} {own : String} {nL : Nat} {E : fd_E} {S S' : fd_S} {v : Option Value} {a : Array Value}
theorem fd_after (hr : va_Run p l e R s m args below meth c H locs cells slots 0 0 (F0 m pc ls st0) rest (fd_Q E v S' a) (fd_A E)) (hH : fd_H E S s H locs)
    (kk : ∀ (H1 : Heap) (locs1 : List Loc), fd_H E S' s H1 locs1 → W p l e R s m args below meth c H1 locs1 cells slots Q (F0 m (pc + 3) ls (v.toList ++ rest))) : W p l e R s m args below meth c H locs cells slots Q (F0 m pc ls st0) := by
  intro T hT X
  obtain ⟨v', st₀, t, T', L, h0, X', hL, e1, e2, ⟨⟨hv, hP, hD, hK'⟩, hz, hk⟩, st⟩ := hr T hT X
  cases hv
  rw [h0] at hz hk
  obtain ⟨-, -, hS⟩ := hH
  obtain ⟨t2, a1, b1⟩ := kk T'.heap (locs ++ L) ⟨by rw [e1]; exact hP, hD, Nat.le_trans hS.1 (by rw [e1]; exact hz), fun q h1 h2 => by rw [e1, hk q (Nat.lt_of_lt_of_le h1 hS.1) h2]; exact hS.2.1 q h1 h2, fun q hq => by
      rcases List.mem_append.mp hq with h | h
      · exact hS.2.2 q h
      · exact hL q h⟩ T' rfl X'
  exact ⟨t2, st t2 a1, b1⟩
variable {y : MethodName} {bytes : ByteArray} {maxL n index : Nat} {ret : Option FieldType} {rm' : Room} {As : List Value}
theorem fd_callR (As : List Value) {b : Nat} (C : fd_C p s m args c own cc nL E) (hsz : ls.size = nL) (hH : fd_H E S s H locs) (hM : fd_Ct l y bytes maxL ret rm' E S (.ref b :: As) v S') (hw : fd_wV own index y bytes maxL ret n) (hrecv : ∃ cell : Cell, H[b]? = some cell ∧ cell.vm.isStatics = false ∧ s.vm.findClass y.cls = some cell.cls)
    (hR : rm'.cells = 0 ∧ rm'.slots = 0 ∧ rm'.frames + 1 ≤ R.frames ∧ 8 + (maxL + 11) + rm'.locals ≤ R.locals) (hn : As.length = n) (hst : st0 = As.reverse ++ .ref b :: rest) (hrm : (rest.map fun v => v.category).sum ≤ 8) (hf : cells ≤ R.cells ∧ slots ≤ R.slots) (hdg : decode cc pc = .ok (.invokevirtual index, 3))
    (kk : ∀ (H1 : Heap) (locs1 : List Loc), fd_H E S' s H1 locs1 → W p l e R s m args below meth c H1 locs1 cells slots Q (F0 m (pc + 3) ls (v.toList ++ rest))) : W p l e R s m args below meth c H locs cells slots Q (F0 m pc ls st0) := by
  obtain ⟨hx, hb, hml, hown, hts, hK, hZ⟩ := C
  obtain ⟨hd, w1, w2, w3, w4, w5⟩ := hw
  refine fd_after (va_runV (Ts := fd_T) (own := own) (C := y.cls) (As := As) (rest := rest) ⟨hx, hb, hml, hown, hts⟩ hM (cwV n hts (fd_good ?_) rfl hR.1 hR.2.1 ⟨rfl, hd⟩ ⟨hR.2.2.1, hR.2.2.2⟩) ⟨fd_blind, hrecv, fd_pre hK hZ hH⟩ rfl hn hsz hst (lv_room hrm) hdg hf) hH kk
  intro w hw
  rcases List.mem_append.mp hw with h | h
  · simp only [List.mem_cons, List.not_mem_nil, or_false] at h
    rcases h with rfl | rfl | rfl | rfl
    · exact w1
    · exact w2
    · exact w3
    · exact w4
  · rcases List.mem_cons.mp h with rfl | h
    · exact w5
    · exact h
theorem fd_callV (k ci : Nat) (As : List Value) (C : fd_C p s m args c own cc nL E) (hsz : ls.size = nL) (hH : fd_H E S s H locs) (hM : fd_Ct l y bytes maxL ret rm' E S (.ref (E.2.2 k) :: As) v S') (hw : fd_wV own index y bytes maxL ret n) (hk : k < 82) (hkd : fd_kd k = ci) (h8 : ci < 8) (hcls : (fd_cq ci).1 = y.cls)
    (hR : rm'.cells = 0 ∧ rm'.slots = 0 ∧ rm'.frames + 1 ≤ R.frames ∧ 8 + (maxL + 11) + rm'.locals ≤ R.locals) (hn : As.length = n) (hst : st0 = As.reverse ++ .ref (E.2.2 k) :: rest) (hrm : (rest.map fun v => v.category).sum ≤ 8) (hf : cells ≤ R.cells ∧ slots ≤ R.slots) (hdg : decode cc pc = .ok (.invokevirtual index, 3))
    (kk : ∀ (H1 : Heap) (locs1 : List Loc), fd_H E S' s H1 locs1 → W p l e R s m args below meth c H1 locs1 cells slots Q (F0 m (pc + 3) ls (v.toList ++ rest))) : W p l e R s m args below meth c H locs cells slots Q (F0 m pc ls st0) :=
  fd_callR As C hsz hH hM hw (by have := va_recv C.2.2.2.2.2.1 hH.1 (fd_CL_at h8) (fd_ws_o E S hk hkd h8); rwa [hcls] at this) hR hn hst hrm hf hdg kk
theorem fd_callS (As : List Value) (C : fd_C p s m args c own cc nL E) (hsz : ls.size = nL) (hH : fd_H E S s H locs) (hM : fd_Ct l y bytes maxL ret rm' E S As v S') (hw : fd_wS own index y bytes maxL ret n)
    (hR : rm'.cells = 0 ∧ rm'.slots = 0 ∧ rm'.frames + 1 ≤ R.frames ∧ 8 + (maxL + 11) + rm'.locals ≤ R.locals) (hn : As.length = n) (hst : st0 = As.reverse ++ rest) (hrm : (rest.map fun v => v.category).sum ≤ 8) (hf : cells ≤ R.cells ∧ slots ≤ R.slots) (hdg : decode cc pc = .ok (.invokestatic index, 3))
    (kk : ∀ (H1 : Heap) (locs1 : List Loc), fd_H E S' s H1 locs1 → W p l e R s m args below meth c H1 locs1 cells slots Q (F0 m (pc + 3) ls (v.toList ++ rest))) : W p l e R s m args below meth c H locs cells slots Q (F0 m pc ls st0) := by
  obtain ⟨hx, hb, hml, hown, hts, hK, hZ⟩ := C
  obtain ⟨hd, w1, w2, w4, w5⟩ := hw
  refine fd_after (va_runS (Ts := fd_T) (own := own) (As := As) (rest := rest) ⟨hx, hb, hml, hown, hts⟩ hM (va_cwS n hts (fd_good ?_) rfl hR.1 hR.2.1 hd ⟨hR.2.2.1, hR.2.2.2⟩) ⟨fd_blind, fd_pre hK hZ hH⟩ rfl hn hsz hst (lv_room hrm) hdg hf) hH kk
  intro w hw
  rcases List.mem_append.mp hw with h | h
  · simp only [List.mem_cons, List.not_mem_nil, or_false] at h
    rcases h with rfl | rfl | rfl
    · exact w1
    · exact w2
    · exact w4
  · rcases List.mem_cons.mp h with rfl | h
    · exact w5
    · exact h
theorem fd_callN (host : String) (As : List Value) (C : fd_C p s m args c own cc nL E) (hsz : ls.size = nL) (hH : fd_H E S s H locs) (hM : fd_Ct l y bytes maxL ret rm' E S As v S') (hw : fd_wN y bytes maxL ret n) (hnw : va_Nw (.methodLinkNest own index y host) s)
    (hR : rm'.cells = 0 ∧ rm'.slots = 0 ∧ rm'.frames + 1 ≤ R.frames ∧ 8 + (maxL + 11) + rm'.locals ≤ R.locals) (hn : As.length = n) (hst : st0 = As.reverse ++ rest) (hrm : (rest.map fun v => v.category).sum ≤ 8) (hf : cells ≤ R.cells ∧ slots ≤ R.slots) (hdg : decode cc pc = .ok (.invokestatic index, 3))
    (kk : ∀ (H1 : Heap) (locs1 : List Loc), fd_H E S' s H1 locs1 → W p l e R s m args below meth c H1 locs1 cells slots Q (F0 m (pc + 3) ls (v.toList ++ rest))) : W p l e R s m args below meth c H locs cells slots Q (F0 m pc ls st0) := by
  obtain ⟨hx, hb, hml, hown, hts, hK, hZ⟩ := C
  obtain ⟨hd, w2, w4, w5⟩ := hw
  refine fd_after (va_runSN (Ts := fd_T) (own := own) (host := host) (As := As) (rest := rest) ⟨hx, hb, hml, hown, hts⟩ hM ⟨va_cnB n hts (fd_good ?_) rfl hR.1 hR.2.1 hnw (hts _ w4) hd ⟨hR.2.2.1, hR.2.2.2⟩, hts _ w2, trivial⟩ ⟨fd_blind, fd_pre hK hZ hH⟩ rfl hn hsz hst (lv_room hrm) hdg hf) hH kk
  intro w hw
  rcases List.mem_cons.mp hw with rfl | h
  · exact w5
  · exact h
end FDC
/-! small helpers of the walks -/
theorem fd_bnd {α β : Type} {o : Option α} {f : α → Option β} {y : β} (h : o.bind f = some y) : ∃ r, o = some r ∧ f r = some y := by
  cases o with
  | none => cases h
  | some r => exact ⟨r, rfl, h⟩
theorem fd_grd {α : Type} {g : Prop} {dg : Decidable g} {x : Option α} {y : α} (h : (if g then x else none) = some y) : g ∧ x = some y := by
  by_cases hg : g
  · rw [if_pos hg] at h
    exact ⟨hg, h⟩
  · rw [if_neg hg] at h
    cases h
def fd_lt {α β : Type} (x : α) (f : α → β) : β := f x
theorem fd_ltE {α β : Type} {x : α} {f : α → Option β} {y : β} (h : fd_lt x f = some y) : ∃ r, r = x ∧ f r = some y := ⟨x, rfl, h⟩
end
section
theorem fd_ifp {α : Type} {g : Prop} {dg : Decidable g} {a b y : α} (c : g) (h : (if g then a else b) = y) : a = y := by rwa [if_pos c] at h
theorem fd_ifn {α : Type} {g : Prop} {dg : Decidable g} {a b y : α} (c : ¬ g) (h : (if g then a else b) = y) : b = y := by rwa [if_neg c] at h
theorem fd_ltN {α β : Type} {x x' : α} {f : α → β} {y : β} (e : x' = x) (h : fd_lt x f = y) : f x' = y := by
  subst e
  exact h
theorem fd_ltS {α β : Type} {x : α} {f : α → β} {y : β} (h : fd_lt x f = y) : ∃ r, r = x ∧ f r = y := ⟨x, rfl, h⟩
theorem fd_ne {x : Int32} (k : Int32) {z : Int} (hz : k.toInt = z) (h : ¬ x = k) : x.toInt ≠ z := fun q => h (Int32.toInt_inj.mp (q.trans hz.symm))
/-- a record that may be missing -/
def fd_rv (E : fd_E) (o : Option Nat) : Value := match o with
  | none => .null
  | some k => .ref (E.2.2 k)
def fd_on {β : Type} (o : Option Nat) (a : β) (f : Nat → β) : β := match o with
  | none => a
  | some k => f k
theorem fd_rv_or (E : fd_E) (o : Option Nat) : fd_rv E o = .null ∨ ∃ a, fd_rv E o = .ref a := by
  cases o with
  | none => exact Or.inl rfl
  | some k => exact Or.inr ⟨_, rfl⟩
def fd_rem (x y : Int32) : Int32 := x - x / y * y
def fd_max (x y : Int32) : Int32 := if x < y then y else x
def fd_min (x y : Int32) : Int32 := if y < x then y else x
/-- a record's cell -/
abbrev fd_rk (k : Nat) : Prop := k < 69 ∧ 8 ≤ k % 23 ∧ k % 23 < 14
theorem fd_rk_all : ∀ k, k < 69 → (8 ≤ k % 23 ∧ k % 23 < 14) → fd_kd k = 3 ∧ fd_kd (k + 6) = 8 ∧ fd_ln (k + 6) = 4 := by decide
theorem fd_rk1 {k : Nat} (h : fd_rk k) : k < 82 := Nat.lt_of_lt_of_le h.1 (by decide)
theorem fd_rk2 {k : Nat} (h : fd_rk k) : k + 6 < 82 := by have := h.1; omega
theorem fd_rk3 {k : Nat} (h : fd_rk k) : fd_kd k = 3 := (fd_rk_all k h.1 h.2).1
theorem fd_rk4 {k : Nat} (h : fd_rk k) : fd_kd (k + 6) = 8 := (fd_rk_all k h.1 h.2).2.1
theorem fd_rk5 {k : Nat} (h : fd_rk k) : nI (fd_ln (k + 6)) = 4 := by rw [(fd_rk_all k h.1 h.2).2.2]; rfl
theorem fd_rk6 {k : Nat} (h : fd_rk k) : fd_ln (k + 6) = 4 := (fd_rk_all k h.1 h.2).2.2
/-- a State's first cell -/
def fd_st (a : Nat) : Prop := a = 0 ∨ a = 23 ∨ a = 46
theorem fd_st1 {a : Nat} (h : fd_st a) (o : Nat) (ho : o < 23) : a + o < 82 := by rcases h with rfl | rfl | rfl <;> omega
theorem fd_st2_all : ∀ o, o < 23 → fd_kd (23 + o) = fd_kd o ∧ fd_kd (46 + o) = fd_kd o ∧ fd_ln (23 + o) = fd_ln o ∧ fd_ln (46 + o) = fd_ln o := by decide
theorem fd_st2 {a : Nat} (h : fd_st a) (o : Nat) (ho : o < 23) {ci : Nat} (hc : fd_kd o = ci) : fd_kd (a + o) = ci := by
  subst hc
  rcases h with rfl | rfl | rfl
  · rw [Nat.zero_add]
  · exact (fd_st2_all o ho).1
  · exact (fd_st2_all o ho).2.1
theorem fd_st3 {a : Nat} (h : fd_st a) (o : Nat) (ho : o < 23) {n : Nat} (hc : fd_ln o = n) : fd_ln (a + o) = n := by
  subst hc
  rcases h with rfl | rfl | rfl
  · rw [Nat.zero_add]
  · exact (fd_st2_all o ho).2.2.1
  · exact (fd_st2_all o ho).2.2.2
theorem fd_st4 {a : Nat} (h : fd_st a) (o : Nat) (ho : o < 23) {n : Int32} (hc : nI (fd_ln o) = n) : nI (fd_ln (a + o)) = n := by rw [fd_st3 h o ho rfl]; exact hc
section FDH
variable {p : Program} {l : Launch} {e : Env} {R : Room} {s : State} {m : MethodId} {args : Array Value} {below : List Frame} {meth : Method} {c : Code} {H : Heap} {locs : List Loc} {cells slots : Nat} {Q : State → Prop}
variable {cc : ByteArray} {pc : Nat} {ls : Array Slot} {rest st0 : List Value} {own : String} {nL : Nat} {E : fd_E} {S S' : fd_S}
theorem fd_irem (hx : p.tables.exec = Jvm.exec) (hb : c.code = cc) {x y : Int32} (hdg : decode cc pc = .ok (.irem, 1)) (hne : ¬ y = 0) (k : W p l e R s m args below meth c H locs cells slots Q (F0 m (pc + 1) ls (.int (fd_rem x y) :: rest))) : W p l e R s m args below meth c H locs cells slots Q (F0 m pc ls (.int y :: .int x :: rest)) := lv_irem hx hb hdg hne k
def fd_wM (y : MethodName) (bytes : ByteArray) : Prop := Cond.static y ∈ fd_T ∧ Cond.initialized "java/lang/Math" ∈ fd_T ∧ Cond.code y bytes 2 (some .int) ∈ fd_T
theorem fd_mmax (C : fd_C p s m args c own cc nL E) (hsz : ls.size = nL) {index : Nat} (hl : Cond.methodLink own index Lib.Math.max.name ∈ fd_T) (hw : fd_wM Lib.Math.max.name Lib.Math.max.code) (hframes : 1 ≤ R.frames) (hlocals : (rest.map fun v => v.category).sum + 13 ≤ R.locals) (hc : cells ≤ R.cells) (hs : slots ≤ R.slots) {x y : Int32} (hdg : decode cc pc = .ok (.invokestatic index, 3))
    (kk : W p l e R s m args below meth c H locs cells slots Q (F0 m (pc + 3) ls (.int (fd_max x y) :: rest))) : W p l e R s m args below meth c H locs cells slots Q (F0 m pc ls (.int y :: .int x :: rest)) := by
  obtain ⟨hx, hb, hml, hown, hts, hK, hZ⟩ := C
  exact va_mmax hx hb (hml.trans hsz.symm) hown (hts _ hl) (hts _ hw.1) (hts _ hw.2.1) (hts _ hw.2.2) hframes hlocals hc hs hdg kk
theorem fd_mmin (C : fd_C p s m args c own cc nL E) (hsz : ls.size = nL) {index : Nat} (hl : Cond.methodLink own index Lib.Math.min.name ∈ fd_T) (hw : fd_wM Lib.Math.min.name Lib.Math.min.code) (hframes : 1 ≤ R.frames) (hlocals : (rest.map fun v => v.category).sum + 13 ≤ R.locals) (hc : cells ≤ R.cells) (hs : slots ≤ R.slots) {x y : Int32} (hdg : decode cc pc = .ok (.invokestatic index, 3))
    (kk : W p l e R s m args below meth c H locs cells slots Q (F0 m (pc + 3) ls (.int (fd_min x y) :: rest))) : W p l e R s m args below meth c H locs cells slots Q (F0 m pc ls (.int y :: .int x :: rest)) := by
  obtain ⟨hx, hb, hml, hown, hts, hK, hZ⟩ := C
  exact va_mmin hx hb (hml.trans hsz.symm) hown (hts _ hl) (hts _ hw.1) (hts _ hw.2.1) (hts _ hw.2.2) hframes hlocals hc hs hdg kk
variable {y : MethodName} {bytes : ByteArray} {maxL n index : Nat} {ret : Option FieldType} {rm' : Room} {x : Value}
theorem fd_callV1 (k ci : Nat) (As : List Value) (C : fd_C p s m args c own cc nL E) (hsz : ls.size = nL) (hH : fd_H E S s H locs) (hM : fd_Ct l y bytes maxL ret rm' E S (.ref (E.2.2 k) :: As) (some x) S') (hw : fd_wV own index y bytes maxL ret n) (hk : k < 82) (hkd : fd_kd k = ci) (h8 : ci < 8) (hcls : (fd_cq ci).1 = y.cls)
    (hR : rm'.cells = 0 ∧ rm'.slots = 0 ∧ rm'.frames + 1 ≤ R.frames ∧ 8 + (maxL + 11) + rm'.locals ≤ R.locals) (hn : As.length = n) (hst : st0 = As.reverse ++ .ref (E.2.2 k) :: rest) (hrm : (rest.map fun v => v.category).sum ≤ 8) (hf : cells ≤ R.cells ∧ slots ≤ R.slots) (hdg : decode cc pc = .ok (.invokevirtual index, 3))
    (kk : ∀ (H1 : Heap) (locs1 : List Loc), fd_H E S' s H1 locs1 → W p l e R s m args below meth c H1 locs1 cells slots Q (F0 m (pc + 3) ls (x :: rest))) : W p l e R s m args below meth c H locs cells slots Q (F0 m pc ls st0) := fd_callV k ci As C hsz hH hM hw hk hkd h8 hcls hR hn hst hrm hf hdg kk
theorem fd_callV0 (k ci : Nat) (As : List Value) (C : fd_C p s m args c own cc nL E) (hsz : ls.size = nL) (hH : fd_H E S s H locs) (hM : fd_Ct l y bytes maxL ret rm' E S (.ref (E.2.2 k) :: As) none S') (hw : fd_wV own index y bytes maxL ret n) (hk : k < 82) (hkd : fd_kd k = ci) (h8 : ci < 8) (hcls : (fd_cq ci).1 = y.cls)
    (hR : rm'.cells = 0 ∧ rm'.slots = 0 ∧ rm'.frames + 1 ≤ R.frames ∧ 8 + (maxL + 11) + rm'.locals ≤ R.locals) (hn : As.length = n) (hst : st0 = As.reverse ++ .ref (E.2.2 k) :: rest) (hrm : (rest.map fun v => v.category).sum ≤ 8) (hf : cells ≤ R.cells ∧ slots ≤ R.slots) (hdg : decode cc pc = .ok (.invokevirtual index, 3))
    (kk : ∀ (H1 : Heap) (locs1 : List Loc), fd_H E S' s H1 locs1 → W p l e R s m args below meth c H1 locs1 cells slots Q (F0 m (pc + 3) ls rest)) : W p l e R s m args below meth c H locs cells slots Q (F0 m pc ls st0) := fd_callV k ci As C hsz hH hM hw hk hkd h8 hcls hR hn hst hrm hf hdg kk
theorem fd_callR1 (As : List Value) {b : Nat} (C : fd_C p s m args c own cc nL E) (hsz : ls.size = nL) (hH : fd_H E S s H locs) (hM : fd_Ct l y bytes maxL ret rm' E S (.ref b :: As) (some x) S') (hw : fd_wV own index y bytes maxL ret n) (hrecv : ∃ cell : Cell, H[b]? = some cell ∧ cell.vm.isStatics = false ∧ s.vm.findClass y.cls = some cell.cls)
    (hR : rm'.cells = 0 ∧ rm'.slots = 0 ∧ rm'.frames + 1 ≤ R.frames ∧ 8 + (maxL + 11) + rm'.locals ≤ R.locals) (hn : As.length = n) (hst : st0 = As.reverse ++ .ref b :: rest) (hrm : (rest.map fun v => v.category).sum ≤ 8) (hf : cells ≤ R.cells ∧ slots ≤ R.slots) (hdg : decode cc pc = .ok (.invokevirtual index, 3))
    (kk : ∀ (H1 : Heap) (locs1 : List Loc), fd_H E S' s H1 locs1 → W p l e R s m args below meth c H1 locs1 cells slots Q (F0 m (pc + 3) ls (x :: rest))) : W p l e R s m args below meth c H locs cells slots Q (F0 m pc ls st0) := fd_callR As C hsz hH hM hw hrecv hR hn hst hrm hf hdg kk
theorem fd_callS1 (As : List Value) (C : fd_C p s m args c own cc nL E) (hsz : ls.size = nL) (hH : fd_H E S s H locs) (hM : fd_Ct l y bytes maxL ret rm' E S As (some x) S') (hw : fd_wS own index y bytes maxL ret n)
    (hR : rm'.cells = 0 ∧ rm'.slots = 0 ∧ rm'.frames + 1 ≤ R.frames ∧ 8 + (maxL + 11) + rm'.locals ≤ R.locals) (hn : As.length = n) (hst : st0 = As.reverse ++ rest) (hrm : (rest.map fun v => v.category).sum ≤ 8) (hf : cells ≤ R.cells ∧ slots ≤ R.slots) (hdg : decode cc pc = .ok (.invokestatic index, 3))
    (kk : ∀ (H1 : Heap) (locs1 : List Loc), fd_H E S' s H1 locs1 → W p l e R s m args below meth c H1 locs1 cells slots Q (F0 m (pc + 3) ls (x :: rest))) : W p l e R s m args below meth c H locs cells slots Q (F0 m pc ls st0) := fd_callS As C hsz hH hM hw hR hn hst hrm hf hdg kk
theorem fd_callS0 (As : List Value) (C : fd_C p s m args c own cc nL E) (hsz : ls.size = nL) (hH : fd_H E S s H locs) (hM : fd_Ct l y bytes maxL ret rm' E S As none S') (hw : fd_wS own index y bytes maxL ret n)
    (hR : rm'.cells = 0 ∧ rm'.slots = 0 ∧ rm'.frames + 1 ≤ R.frames ∧ 8 + (maxL + 11) + rm'.locals ≤ R.locals) (hn : As.length = n) (hst : st0 = As.reverse ++ rest) (hrm : (rest.map fun v => v.category).sum ≤ 8) (hf : cells ≤ R.cells ∧ slots ≤ R.slots) (hdg : decode cc pc = .ok (.invokestatic index, 3))
    (kk : ∀ (H1 : Heap) (locs1 : List Loc), fd_H E S' s H1 locs1 → W p l e R s m args below meth c H1 locs1 cells slots Q (F0 m (pc + 3) ls rest)) : W p l e R s m args below meth c H locs cells slots Q (F0 m pc ls st0) := fd_callS As C hsz hH hM hw hR hn hst hrm hf hdg kk
theorem fd_callN1 (host : String) (As : List Value) (C : fd_C p s m args c own cc nL E) (hsz : ls.size = nL) (hH : fd_H E S s H locs) (hM : fd_Ct l y bytes maxL ret rm' E S As (some x) S') (hw : fd_wN y bytes maxL ret n) (hnw : va_Nw (.methodLinkNest own index y host) s)
    (hR : rm'.cells = 0 ∧ rm'.slots = 0 ∧ rm'.frames + 1 ≤ R.frames ∧ 8 + (maxL + 11) + rm'.locals ≤ R.locals) (hn : As.length = n) (hst : st0 = As.reverse ++ rest) (hrm : (rest.map fun v => v.category).sum ≤ 8) (hf : cells ≤ R.cells ∧ slots ≤ R.slots) (hdg : decode cc pc = .ok (.invokestatic index, 3))
    (kk : ∀ (H1 : Heap) (locs1 : List Loc), fd_H E S' s H1 locs1 → W p l e R s m args below meth c H1 locs1 cells slots Q (F0 m (pc + 3) ls (x :: rest))) : W p l e R s m args below meth c H locs cells slots Q (F0 m pc ls st0) := fd_callN host As C hsz hH hM hw hnw hR hn hst hrm hf hdg kk
end FDH
/-! strings by their numbers 0 to 6 -/
def fd_sl (i : Nat) : Int32 := nI (fd_slen.getD i 0)
def fd_sc (i : Nat) (j : Int32) : Int32 := (fd_sbyt.getD i []).getD j.toNatClampNeg 0
section FDT
variable {p : Program} {l : Launch} {e : Env} {R : Room} {s : State} {m : MethodId} {args : Array Value} {below : List Frame} {meth : Method} {c : Code} {H : Heap} {locs : List Loc} {cells slots : Nat} {Q : State → Prop}
variable {cc : ByteArray} {pc : Nat} {ls : Array Slot} {rest st0 : List Value} {own : String} {nL : Nat} {E : fd_E} {S S' : fd_S}
theorem fd_topr {x : Nat} (k : ∀ y : Nat, y = x → W p l e R s m args below meth c H locs cells slots Q (F0 m pc ls (.ref (E.2.2 y) :: rest))) : W p l e R s m args below meth c H locs cells slots Q (F0 m pc ls (.ref (E.2.2 x) :: rest)) := k x rfl
theorem fd_k8 : ∀ q, q < 14 → 8 ≤ q → fd_kd q = 3 := by decide
/-- the rows of the RecordList of now -/
theorem fd_aast0 (C : fd_C p s m args c own cc nL E) (hH : fd_H E S s H locs) {i : Int32} {q : Nat} (hi : 0 ≤ i ∧ i < 6) (hq : 8 ≤ q ∧ q < 14) (hdg : decode cc pc = .ok (.aastore, 1))
    (kk : ∀ (H1 : Heap) (locs1 : List Loc), fd_H E (fd_up S 4 i (nI (q - 8))) s H1 locs1 → W p l e R s m args below meth c H1 locs1 cells slots Q (F0 m (pc + 1) ls rest)) : W p l e R s m args below meth c H locs cells slots Q (F0 m pc ls (.ref (E.2.2 q) :: .int i :: .ref (E.2.2 4) :: rest)) :=
  fd_aast 4 6 C hH (by decide) rfl rfl hi hq (fd_k8 q hq.2 hq.1) (by omega) hdg kk
theorem fd_srecv {i : Nat} (hi : i < 7) (C : fd_C p s m args c own cc nL E) (hH : fd_H E S s H locs) : ∃ cell : Cell, H[E.2.2 (110 + i)]? = some cell ∧ cell.vm.isStatics = false ∧ s.vm.findClass "java/lang/String" = some cell.cls := by
  obtain ⟨hx, hb, hml, hown, hts, hK, hZ⟩ := C
  exact vk_recv (adK := fun i => E.2.2 (110 + i)) hZ.2.2.2.2.1.1 hi hH.2.2
theorem fd_ldcS (i : Nat) (hi : i < 7) {tx : Nat} (htx : 57 + 2 * i = tx) (C : fd_C p s m args c "FlapDamper$Text" cc nL E) (hdg : decode cc pc = .ok (.ldc tx, 2))
    (kk : W p l e R s m args below meth c H locs cells slots Q (F0 m (pc + 2) ls (.ref (E.2.2 (110 + i)) :: rest))) : W p l e R s m args below meth c H locs cells slots Q (F0 m pc ls rest) := by
  subst htx
  obtain ⟨hx, hb, hml, hown, hts, hK, hZ⟩ := C
  exact va_ldcS hx hb hown (hZ.2.2.2.2.1.2 i hi) hdg kk
end FDT
end
