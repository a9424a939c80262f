section
-- ===== PART A: goes FIRST, ahead of the names: the tables' words, and 'selects' of the private methods out of them =====
/-- a private method of a class that the tables say can be made, by its rows of tables_1 -/
def lw_okq (q : MethodName × Nat) : Prop := (q.1.cls ≠ "java/lang/invoke/MethodHandle" ∧ q.1.cls ≠ "java/lang/invoke/VarHandle") ∧ Cond.instantiable q.1.cls q.2 ∈ tables_1 ∧ Cond.privateMethod q.1 ∈ tables_1 ∧ Cond.instanceMethod q.1 ∈ tables_1
theorem lw_p0 : lw_okq (⟨"FlapDamper$Text", "tells", "(Ljava/lang/String;)Z"⟩, 2) := ⟨⟨by decide +kernel, by decide +kernel⟩, List.mem_of_getElem? (i := 25) (by decide +kernel), List.mem_of_getElem? (i := 246) (by decide +kernel), List.mem_of_getElem? (i := 247) (by decide +kernel)⟩
theorem lw_p1 : lw_okq (⟨"FlapDamper$Text", "fittingSigns", "(Ljava/lang/String;)I"⟩, 2) := ⟨⟨by decide +kernel, by decide +kernel⟩, List.mem_of_getElem? (i := 25) (by decide +kernel), List.mem_of_getElem? (i := 260) (by decide +kernel), List.mem_of_getElem? (i := 261) (by decide +kernel)⟩
theorem lw_p2 : lw_okq (⟨"FlapDamper$Text", "fits", "(Ljava/lang/String;I)Z"⟩, 2) := ⟨⟨by decide +kernel, by decide +kernel⟩, List.mem_of_getElem? (i := 25) (by decide +kernel), List.mem_of_getElem? (i := 264) (by decide +kernel), List.mem_of_getElem? (i := 265) (by decide +kernel)⟩
theorem lw_p3 : lw_okq (⟨"FlapDamper$State", "weigh", "(II)I"⟩, 11) := ⟨⟨by decide +kernel, by decide +kernel⟩, List.mem_of_getElem? (i := 40) (by decide +kernel), List.mem_of_getElem? (i := 348) (by decide +kernel), List.mem_of_getElem? (i := 349) (by decide +kernel)⟩
theorem lw_p4 : lw_okq (⟨"FlapDamper$State", "judge", "(III)I"⟩, 11) := ⟨⟨by decide +kernel, by decide +kernel⟩, List.mem_of_getElem? (i := 40) (by decide +kernel), List.mem_of_getElem? (i := 352) (by decide +kernel), List.mem_of_getElem? (i := 353) (by decide +kernel)⟩
theorem lw_p5 : lw_okq (⟨"FlapDamper$RecordList", "dropFirstFree", "()Z"⟩, 3) := ⟨⟨by decide +kernel, by decide +kernel⟩, List.mem_of_getElem? (i := 67) (by decide +kernel), List.mem_of_getElem? (i := 368) (by decide +kernel), List.mem_of_getElem? (i := 369) (by decide +kernel)⟩
theorem lw_p6 : lw_okq (⟨"FlapDamper$State", "addTo", "(LFlapDamper$RouteRecord;II)I"⟩, 11) := ⟨⟨by decide +kernel, by decide +kernel⟩, List.mem_of_getElem? (i := 40) (by decide +kernel), List.mem_of_getElem? (i := 381) (by decide +kernel), List.mem_of_getElem? (i := 382) (by decide +kernel)⟩
theorem lw_p7 : lw_okq (⟨"FlapDamper$State", "dueAfter", "(LFlapDamper$RouteRecord;I)I"⟩, 11) := ⟨⟨by decide +kernel, by decide +kernel⟩, List.mem_of_getElem? (i := 40) (by decide +kernel), List.mem_of_getElem? (i := 406) (by decide +kernel), List.mem_of_getElem? (i := 407) (by decide +kernel)⟩
theorem lw_p8 : lw_okq (⟨"FlapDamper$State", "isBelowBack", "(LFlapDamper$RouteRecord;I)Z"⟩, 11) := ⟨⟨by decide +kernel, by decide +kernel⟩, List.mem_of_getElem? (i := 40) (by decide +kernel), List.mem_of_getElem? (i := 411) (by decide +kernel), List.mem_of_getElem? (i := 412) (by decide +kernel)⟩
theorem lw_p9 : lw_okq (⟨"FlapDamper$State", "writeEvent", "(III)V"⟩, 11) := ⟨⟨by decide +kernel, by decide +kernel⟩, List.mem_of_getElem? (i := 40) (by decide +kernel), List.mem_of_getElem? (i := 415) (by decide +kernel), List.mem_of_getElem? (i := 416) (by decide +kernel)⟩
theorem lw_p10 : lw_okq (⟨"FlapDamper$State", "refreshBest", "(I)V"⟩, 11) := ⟨⟨by decide +kernel, by decide +kernel⟩, List.mem_of_getElem? (i := 40) (by decide +kernel), List.mem_of_getElem? (i := 433) (by decide +kernel), List.mem_of_getElem? (i := 434) (by decide +kernel)⟩
theorem lw_p11 : lw_okq (⟨"FlapDamper$State", "findBest", "(I)I"⟩, 11) := ⟨⟨by decide +kernel, by decide +kernel⟩, List.mem_of_getElem? (i := 40) (by decide +kernel), List.mem_of_getElem? (i := 437) (by decide +kernel), List.mem_of_getElem? (i := 438) (by decide +kernel)⟩
theorem lw_p12 : lw_okq (⟨"FlapDamper$State", "isLookedAt", "(I)Z"⟩, 11) := ⟨⟨by decide +kernel, by decide +kernel⟩, List.mem_of_getElem? (i := 40) (by decide +kernel), List.mem_of_getElem? (i := 457) (by decide +kernel), List.mem_of_getElem? (i := 458) (by decide +kernel)⟩
theorem lw_p13 : lw_okq (⟨"FlapDamper$State", "lookAt", "(LFlapDamper$RouteRecord;)V"⟩, 11) := ⟨⟨by decide +kernel, by decide +kernel⟩, List.mem_of_getElem? (i := 40) (by decide +kernel), List.mem_of_getElem? (i := 461) (by decide +kernel), List.mem_of_getElem? (i := 462) (by decide +kernel)⟩
theorem lw_p14 : lw_okq (⟨"FlapDamper$State", "dropSmallOnes", "()V"⟩, 11) := ⟨⟨by decide +kernel, by decide +kernel⟩, List.mem_of_getElem? (i := 40) (by decide +kernel), List.mem_of_getElem? (i := 465) (by decide +kernel), List.mem_of_getElem? (i := 466) (by decide +kernel)⟩
theorem lw_p15 : lw_okq (⟨"FlapDamper", "keptImages", "()I"⟩, 5) := ⟨⟨by decide +kernel, by decide +kernel⟩, List.mem_of_getElem? (i := 17) (by decide +kernel), List.mem_of_getElem? (i := 527) (by decide +kernel), List.mem_of_getElem? (i := 528) (by decide +kernel)⟩
def lw_privs_1 : List (MethodName × Nat) := [(⟨"FlapDamper$Text", "tells", "(Ljava/lang/String;)Z"⟩, 2), (⟨"FlapDamper$Text", "fittingSigns", "(Ljava/lang/String;)I"⟩, 2), (⟨"FlapDamper$Text", "fits", "(Ljava/lang/String;I)Z"⟩, 2), (⟨"FlapDamper$State", "weigh", "(II)I"⟩, 11), (⟨"FlapDamper$State", "judge", "(III)I"⟩, 11), (⟨"FlapDamper$RecordList", "dropFirstFree", "()Z"⟩, 3), (⟨"FlapDamper$State", "addTo", "(LFlapDamper$RouteRecord;II)I"⟩, 11), (⟨"FlapDamper$State", "dueAfter", "(LFlapDamper$RouteRecord;I)I"⟩, 11), (⟨"FlapDamper$State", "isBelowBack", "(LFlapDamper$RouteRecord;I)Z"⟩, 11), (⟨"FlapDamper$State", "writeEvent", "(III)V"⟩, 11), (⟨"FlapDamper$State", "refreshBest", "(I)V"⟩, 11), (⟨"FlapDamper$State", "findBest", "(I)I"⟩, 11), (⟨"FlapDamper$State", "isLookedAt", "(I)Z"⟩, 11), (⟨"FlapDamper$State", "lookAt", "(LFlapDamper$RouteRecord;)V"⟩, 11), (⟨"FlapDamper$State", "dropSmallOnes", "()V"⟩, 11), (⟨"FlapDamper", "keptImages", "()I"⟩, 5)]
theorem lw_r1 : ∀ q ∈ lw_privs_1, lw_okq q := List.forall_mem_cons.mpr ⟨lw_p0, List.forall_mem_cons.mpr ⟨lw_p1, List.forall_mem_cons.mpr ⟨lw_p2, List.forall_mem_cons.mpr ⟨lw_p3, List.forall_mem_cons.mpr ⟨lw_p4, List.forall_mem_cons.mpr ⟨lw_p5, List.forall_mem_cons.mpr ⟨lw_p6, List.forall_mem_cons.mpr ⟨lw_p7, List.forall_mem_cons.mpr ⟨lw_p8, List.forall_mem_cons.mpr ⟨lw_p9, List.forall_mem_cons.mpr ⟨lw_p10, List.forall_mem_cons.mpr ⟨lw_p11, List.forall_mem_cons.mpr ⟨lw_p12, List.forall_mem_cons.mpr ⟨lw_p13, List.forall_mem_cons.mpr ⟨lw_p14, List.forall_mem_cons.mpr ⟨lw_p15, fun _ h => absurd h List.not_mem_nil⟩⟩⟩⟩⟩⟩⟩⟩⟩⟩⟩⟩⟩⟩⟩⟩
theorem lw_p16 : lw_okq (⟨"FlapDamper", "imageOf", "(I)LFlapDamper$State;"⟩, 5) := ⟨⟨by decide +kernel, by decide +kernel⟩, List.mem_of_getElem? (i := 17) (by decide +kernel), List.mem_of_getElem? (i := 540) (by decide +kernel), List.mem_of_getElem? (i := 541) (by decide +kernel)⟩
theorem lw_p17 : lw_okq (⟨"FlapDamperModel", "faultNow", "()I"⟩, 9) := ⟨⟨by decide +kernel, by decide +kernel⟩, List.mem_of_getElem? (i := 571) (by decide +kernel), List.mem_of_getElem? (i := 628) (by decide +kernel), List.mem_of_getElem? (i := 629) (by decide +kernel)⟩
theorem lw_p18 : lw_okq (⟨"FlapDamperModel", "fitting", "(I)I"⟩, 9) := ⟨⟨by decide +kernel, by decide +kernel⟩, List.mem_of_getElem? (i := 571) (by decide +kernel), List.mem_of_getElem? (i := 632) (by decide +kernel), List.mem_of_getElem? (i := 633) (by decide +kernel)⟩
theorem lw_p19 : lw_okq (⟨"FlapDamperModel", "told", "()I"⟩, 9) := ⟨⟨by decide +kernel, by decide +kernel⟩, List.mem_of_getElem? (i := 571) (by decide +kernel), List.mem_of_getElem? (i := 642) (by decide +kernel), List.mem_of_getElem? (i := 643) (by decide +kernel)⟩
theorem lw_p20 : lw_okq (⟨"FlapDamperModel", "bounded", "(I)I"⟩, 9) := ⟨⟨by decide +kernel, by decide +kernel⟩, List.mem_of_getElem? (i := 571) (by decide +kernel), List.mem_of_getElem? (i := 650) (by decide +kernel), List.mem_of_getElem? (i := 651) (by decide +kernel)⟩
theorem lw_p21 : lw_okq (⟨"FlapDamperModel", "beginLine", "(II)V"⟩, 9) := ⟨⟨by decide +kernel, by decide +kernel⟩, List.mem_of_getElem? (i := 571) (by decide +kernel), List.mem_of_getElem? (i := 665) (by decide +kernel), List.mem_of_getElem? (i := 666) (by decide +kernel)⟩
theorem lw_p22 : lw_okq (⟨"FlapDamperModel", "write", "(I)V"⟩, 9) := ⟨⟨by decide +kernel, by decide +kernel⟩, List.mem_of_getElem? (i := 571) (by decide +kernel), List.mem_of_getElem? (i := 669) (by decide +kernel), List.mem_of_getElem? (i := 670) (by decide +kernel)⟩
theorem lw_p23 : lw_okq (⟨"FlapDamperModel", "lineAt", "(II)I"⟩, 9) := ⟨⟨by decide +kernel, by decide +kernel⟩, List.mem_of_getElem? (i := 571) (by decide +kernel), List.mem_of_getElem? (i := 673) (by decide +kernel), List.mem_of_getElem? (i := 674) (by decide +kernel)⟩
theorem lw_p24 : lw_okq (⟨"FlapDamperModel", "meet", "(III)I"⟩, 9) := ⟨⟨by decide +kernel, by decide +kernel⟩, List.mem_of_getElem? (i := 571) (by decide +kernel), List.mem_of_getElem? (i := 677) (by decide +kernel), List.mem_of_getElem? (i := 678) (by decide +kernel)⟩
theorem lw_p25 : lw_okq (⟨"FlapDamperModel", "recordOf", "(I)I"⟩, 9) := ⟨⟨by decide +kernel, by decide +kernel⟩, List.mem_of_getElem? (i := 571) (by decide +kernel), List.mem_of_getElem? (i := 681) (by decide +kernel), List.mem_of_getElem? (i := 682) (by decide +kernel)⟩
theorem lw_p26 : lw_okq (⟨"FlapDamperModel", "isCounted", "(II)Z"⟩, 9) := ⟨⟨by decide +kernel, by decide +kernel⟩, List.mem_of_getElem? (i := 571) (by decide +kernel), List.mem_of_getElem? (i := 688) (by decide +kernel), List.mem_of_getElem? (i := 689) (by decide +kernel)⟩
theorem lw_p27 : lw_okq (⟨"FlapDamperModel", "makeRecord", "(I)I"⟩, 9) := ⟨⟨by decide +kernel, by decide +kernel⟩, List.mem_of_getElem? (i := 571) (by decide +kernel), List.mem_of_getElem? (i := 692) (by decide +kernel), List.mem_of_getElem? (i := 693) (by decide +kernel)⟩
theorem lw_p28 : lw_okq (⟨"FlapDamperModel", "isHeld", "(I)Z"⟩, 9) := ⟨⟨by decide +kernel, by decide +kernel⟩, List.mem_of_getElem? (i := 571) (by decide +kernel), List.mem_of_getElem? (i := 696) (by decide +kernel), List.mem_of_getElem? (i := 697) (by decide +kernel)⟩
theorem lw_p29 : lw_okq (⟨"FlapDamperModel", "remove", "(I)V"⟩, 9) := ⟨⟨by decide +kernel, by decide +kernel⟩, List.mem_of_getElem? (i := 571) (by decide +kernel), List.mem_of_getElem? (i := 700) (by decide +kernel), List.mem_of_getElem? (i := 701) (by decide +kernel)⟩
theorem lw_p30 : lw_okq (⟨"FlapDamperModel", "penaltyAt", "(II)I"⟩, 9) := ⟨⟨by decide +kernel, by decide +kernel⟩, List.mem_of_getElem? (i := 571) (by decide +kernel), List.mem_of_getElem? (i := 704) (by decide +kernel), List.mem_of_getElem? (i := 705) (by decide +kernel)⟩
theorem lw_p31 : lw_okq (⟨"FlapDamperModel", "lessened", "(II)I"⟩, 9) := ⟨⟨by decide +kernel, by decide +kernel⟩, List.mem_of_getElem? (i := 571) (by decide +kernel), List.mem_of_getElem? (i := 708) (by decide +kernel), List.mem_of_getElem? (i := 709) (by decide +kernel)⟩
def lw_privs_2 : List (MethodName × Nat) := [(⟨"FlapDamper", "imageOf", "(I)LFlapDamper$State;"⟩, 5), (⟨"FlapDamperModel", "faultNow", "()I"⟩, 9), (⟨"FlapDamperModel", "fitting", "(I)I"⟩, 9), (⟨"FlapDamperModel", "told", "()I"⟩, 9), (⟨"FlapDamperModel", "bounded", "(I)I"⟩, 9), (⟨"FlapDamperModel", "beginLine", "(II)V"⟩, 9), (⟨"FlapDamperModel", "write", "(I)V"⟩, 9), (⟨"FlapDamperModel", "lineAt", "(II)I"⟩, 9), (⟨"FlapDamperModel", "meet", "(III)I"⟩, 9), (⟨"FlapDamperModel", "recordOf", "(I)I"⟩, 9), (⟨"FlapDamperModel", "isCounted", "(II)Z"⟩, 9), (⟨"FlapDamperModel", "makeRecord", "(I)I"⟩, 9), (⟨"FlapDamperModel", "isHeld", "(I)Z"⟩, 9), (⟨"FlapDamperModel", "remove", "(I)V"⟩, 9), (⟨"FlapDamperModel", "penaltyAt", "(II)I"⟩, 9), (⟨"FlapDamperModel", "lessened", "(II)I"⟩, 9)]
theorem lw_r2 : ∀ q ∈ lw_privs_2, lw_okq q := List.forall_mem_cons.mpr ⟨lw_p16, List.forall_mem_cons.mpr ⟨lw_p17, List.forall_mem_cons.mpr ⟨lw_p18, List.forall_mem_cons.mpr ⟨lw_p19, List.forall_mem_cons.mpr ⟨lw_p20, List.forall_mem_cons.mpr ⟨lw_p21, List.forall_mem_cons.mpr ⟨lw_p22, List.forall_mem_cons.mpr ⟨lw_p23, List.forall_mem_cons.mpr ⟨lw_p24, List.forall_mem_cons.mpr ⟨lw_p25, List.forall_mem_cons.mpr ⟨lw_p26, List.forall_mem_cons.mpr ⟨lw_p27, List.forall_mem_cons.mpr ⟨lw_p28, List.forall_mem_cons.mpr ⟨lw_p29, List.forall_mem_cons.mpr ⟨lw_p30, List.forall_mem_cons.mpr ⟨lw_p31, fun _ h => absurd h List.not_mem_nil⟩⟩⟩⟩⟩⟩⟩⟩⟩⟩⟩⟩⟩⟩⟩⟩
theorem lw_p32 : lw_okq (⟨"FlapDamperModel", "addCause", "(II)V"⟩, 9) := ⟨⟨by decide +kernel, by decide +kernel⟩, List.mem_of_getElem? (i := 571) (by decide +kernel), List.mem_of_getElem? (i := 712) (by decide +kernel), List.mem_of_getElem? (i := 713) (by decide +kernel)⟩
theorem lw_p33 : lw_okq (⟨"FlapDamperModel", "writeNumber", "(I)V"⟩, 9) := ⟨⟨by decide +kernel, by decide +kernel⟩, List.mem_of_getElem? (i := 571) (by decide +kernel), List.mem_of_getElem? (i := 716) (by decide +kernel), List.mem_of_getElem? (i := 717) (by decide +kernel)⟩
theorem lw_p34 : lw_okq (⟨"FlapDamperModel", "dueAfter", "(II)I"⟩, 9) := ⟨⟨by decide +kernel, by decide +kernel⟩, List.mem_of_getElem? (i := 571) (by decide +kernel), List.mem_of_getElem? (i := 720) (by decide +kernel), List.mem_of_getElem? (i := 721) (by decide +kernel)⟩
theorem lw_p35 : lw_okq (⟨"FlapDamperModel", "lookAtBest", "()V"⟩, 9) := ⟨⟨by decide +kernel, by decide +kernel⟩, List.mem_of_getElem? (i := 571) (by decide +kernel), List.mem_of_getElem? (i := 724) (by decide +kernel), List.mem_of_getElem? (i := 725) (by decide +kernel)⟩
theorem lw_p36 : lw_okq (⟨"FlapDamperModel", "lookAtRecords", "()V"⟩, 9) := ⟨⟨by decide +kernel, by decide +kernel⟩, List.mem_of_getElem? (i := 571) (by decide +kernel), List.mem_of_getElem? (i := 736) (by decide +kernel), List.mem_of_getElem? (i := 737) (by decide +kernel)⟩
theorem lw_p37 : lw_okq (⟨"FlapDamperModel", "heldOnes", "()I"⟩, 9) := ⟨⟨by decide +kernel, by decide +kernel⟩, List.mem_of_getElem? (i := 571) (by decide +kernel), List.mem_of_getElem? (i := 740) (by decide +kernel), List.mem_of_getElem? (i := 741) (by decide +kernel)⟩
def lw_privs_3 : List (MethodName × Nat) := [(⟨"FlapDamperModel", "addCause", "(II)V"⟩, 9), (⟨"FlapDamperModel", "writeNumber", "(I)V"⟩, 9), (⟨"FlapDamperModel", "dueAfter", "(II)I"⟩, 9), (⟨"FlapDamperModel", "lookAtBest", "()V"⟩, 9), (⟨"FlapDamperModel", "lookAtRecords", "()V"⟩, 9), (⟨"FlapDamperModel", "heldOnes", "()I"⟩, 9)]
theorem lw_r3 : ∀ q ∈ lw_privs_3, lw_okq q := List.forall_mem_cons.mpr ⟨lw_p32, List.forall_mem_cons.mpr ⟨lw_p33, List.forall_mem_cons.mpr ⟨lw_p34, List.forall_mem_cons.mpr ⟨lw_p35, List.forall_mem_cons.mpr ⟨lw_p36, List.forall_mem_cons.mpr ⟨lw_p37, fun _ h => absurd h List.not_mem_nil⟩⟩⟩⟩⟩⟩
def lw_privs : List (MethodName × Nat) := lw_privs_1 ++ (lw_privs_2 ++ (lw_privs_3))
def lw_tbl : List Cond := k2_sels lw_privs ++ tables_1
theorem lw_privs_ok : ∀ q ∈ lw_privs, lw_okq q := by
  show ∀ q ∈ lw_privs_1 ++ (lw_privs_2 ++ (lw_privs_3)), lw_okq q
  exact List.forall_mem_append.mpr ⟨lw_r1, List.forall_mem_append.mpr ⟨lw_r2, lw_r3⟩⟩

/-! ===== BEGIN words of one list among another's, by their places ===== -/
theorem goodIn_r {big : List Cond} (ws : List Cond) (ps : List Nat) (hp : ws = ps.filterMap (fun i => big[i]?)) (h : ws.all goodWord = true) : GoodIn big ws := by
  intro w hw
  have h1 := List.all_eq_true.mp h w hw
  rw [hp] at hw
  obtain ⟨i, -, hi⟩ := List.mem_filterMap.mp hw
  have hm : w ∈ big := by first | exact List.mem_of_getElem? hi | exact List.getElem?_mem hi
  exact ⟨hm, good_of_word h1⟩
theorem goodIn_app {big a b : List Cond} (ha : GoodIn big a) (hb : GoodIn big b) : GoodIn big (a ++ b) := fun w h => (List.mem_append.mp h).elim (ha w) (hb w)
theorem goodIn_ca {big a b : List Cond} {c : Cond} (ha : GoodIn big (c :: a)) (hb : GoodIn big b) : GoodIn big (c :: (a ++ b)) := fun w h => (List.mem_cons.mp h).elim (fun e => ha w (List.mem_cons.mpr (Or.inl e))) (fun h => (List.mem_append.mp h).elim (fun h => ha w (List.mem_cons.mpr (Or.inr h))) (hb w))
theorem goodIn_sub {big ws : List Cond} (hm : ∀ w ∈ ws, w ∈ big) (h : ws.all goodWord = true) : GoodIn big ws := fun w hw => ⟨hm w hw, good_of_word (List.all_eq_true.mp h w hw)⟩
/-! ===== END ===== -/

/-! ===== BEGIN printed: names, fields, word lists, decode rows ===== -/
def RX0 : String := "FlapDamper$Bounds"
def TX0 : u_T := fun k => match k with
  | _ => ("FlapDamper$Bounds", "values", "[I", true)
def tyX0 : Nat → FieldType := fun k => match k with
  | _ => .array .int
abbrev wsX00 : List Cond := u_ws RX0 TX0 1
theorem nmX0 : ∀ a, a < 1 → ∀ b, b < 1 → a ≠ b → (TX0 a).2.1 ≠ (TX0 b).2.1 := by decide +kernel
theorem tyX0_ok : ∀ k, k < 1 → parseFieldDescriptor (TX0 k).2.2.1 = some (tyX0 k) := by decide +kernel
abbrev cX0_init : ByteArray := prog_2_method_1_code
def yX0_init : MethodName := ⟨RX0, "<init>", "()V"⟩
abbrev cX0_replace : ByteArray := prog_2_method_2_code
def yX0_replace : MethodName := ⟨RX0, "replace", "(II)I"⟩
abbrev cX0_lessened : ByteArray := prog_2_method_3_code
def yX0_lessened : MethodName := ⟨RX0, "lessened", "(II)I"⟩
abbrev cX0_copyFrom : ByteArray := prog_2_method_4_code
def yX0_copyFrom : MethodName := ⟨RX0, "copyFrom", "(LFlapDamper$Bounds;)V"⟩
def RX1 : String := "FlapDamper$Lines"
def TX1 : u_T := fun k => match k with
  | 0 => ("FlapDamper$Lines", "signs", "[I", true)
  | 1 => ("FlapDamper$Lines", "lengths", "[I", true)
  | 2 => ("FlapDamper$Lines", "newest", "I", false)
  | _ => ("FlapDamper$Lines", "written", "I", false)
def tyX1 : Nat → FieldType := fun k => match k with
  | 0 => .array .int
  | 1 => .array .int
  | 2 => .int
  | _ => .int
abbrev wsX10 : List Cond := u_ws RX1 TX1 4
theorem nmX1 : ∀ a, a < 4 → ∀ b, b < 4 → a ≠ b → (TX1 a).2.1 ≠ (TX1 b).2.1 := by decide +kernel
theorem tyX1_ok : ∀ k, k < 4 → parseFieldDescriptor (TX1 k).2.2.1 = some (tyX1 k) := by decide +kernel
abbrev cX1_init : ByteArray := prog_3_method_1_code
def yX1_init : MethodName := ⟨RX1, "<init>", "()V"⟩
abbrev cX1_begin : ByteArray := prog_3_method_2_code
def yX1_begin : MethodName := ⟨RX1, "begin", "(II)V"⟩
abbrev cX1_put : ByteArray := prog_3_method_3_code
def yX1_put : MethodName := ⟨RX1, "put", "(I)V"⟩
abbrev cX1_putNumber : ByteArray := prog_3_method_4_code
def yX1_putNumber : MethodName := ⟨RX1, "putNumber", "(I)V"⟩
abbrev cX1_tell : ByteArray := prog_3_method_5_code
def yX1_tell : MethodName := ⟨RX1, "tell", "(II)I"⟩
abbrev cX1_copyFrom : ByteArray := prog_3_method_6_code
def yX1_copyFrom : MethodName := ⟨RX1, "copyFrom", "(LFlapDamper$Lines;)V"⟩
def RX2 : String := "FlapDamper$RecordList"
def TX2 : u_T := fun k => match k with
  | 0 => ("FlapDamper$RecordList", "rows", "[LFlapDamper$RouteRecord;", true)
  | 1 => ("FlapDamper$RecordList", "size", "I", false)
  | _ => ("FlapDamper$RecordList", "dropped", "I", false)
def tyX2 : Nat → FieldType := fun k => match k with
  | 0 => .array (.object "FlapDamper$RouteRecord")
  | 1 => .int
  | _ => .int
abbrev wsX20 : List Cond := u_ws RX2 TX2 3
theorem nmX2 : ∀ a, a < 3 → ∀ b, b < 3 → a ≠ b → (TX2 a).2.1 ≠ (TX2 b).2.1 := by decide +kernel
theorem tyX2_ok : ∀ k, k < 3 → parseFieldDescriptor (TX2 k).2.2.1 = some (tyX2 k) := by decide +kernel
abbrev cX2_init : ByteArray := prog_4_method_1_code
def yX2_init : MethodName := ⟨RX2, "<init>", "()V"⟩
abbrev cX2_find : ByteArray := prog_4_method_2_code
def yX2_find : MethodName := ⟨RX2, "find", "(I)LFlapDamper$RouteRecord;"⟩
abbrev cX2_make : ByteArray := prog_4_method_3_code
def yX2_make : MethodName := ⟨RX2, "make", "(II)LFlapDamper$RouteRecord;"⟩
abbrev cX2_dropFirstFree : ByteArray := prog_4_method_4_code
def yX2_dropFirstFree : MethodName := ⟨RX2, "dropFirstFree", "()Z"⟩
abbrev cX2_drop : ByteArray := prog_4_method_5_code
def yX2_drop : MethodName := ⟨RX2, "drop", "(I)V"⟩
abbrev cX2_heldOnes : ByteArray := prog_4_method_6_code
def yX2_heldOnes : MethodName := ⟨RX2, "heldOnes", "()I"⟩
abbrev cX2_copyFrom : ByteArray := prog_4_method_7_code
def yX2_copyFrom : MethodName := ⟨RX2, "copyFrom", "(LFlapDamper$RecordList;)V"⟩
def RX3 : String := "FlapDamper$RouteRecord"
def TX3 : u_T := fun k => match k with
  | 0 => ("FlapDamper$RouteRecord", "route", "I", false)
  | 1 => ("FlapDamper$RouteRecord", "figure", "I", false)
  | 2 => ("FlapDamper$RouteRecord", "told", "I", false)
  | 3 => ("FlapDamper$RouteRecord", "held", "Z", false)
  | 4 => ("FlapDamper$RouteRecord", "due", "I", false)
  | 5 => ("FlapDamper$RouteRecord", "causes", "[I", true)
  | _ => ("FlapDamper$RouteRecord", "causeCount", "I", false)
def tyX3 : Nat → FieldType := fun k => match k with
  | 0 => .int
  | 1 => .int
  | 2 => .int
  | 3 => .boolean
  | 4 => .int
  | 5 => .array .int
  | _ => .int
abbrev wsX30 : List Cond := u_ws RX3 TX3 7
theorem nmX3 : ∀ a, a < 7 → ∀ b, b < 7 → a ≠ b → (TX3 a).2.1 ≠ (TX3 b).2.1 := by decide +kernel
theorem tyX3_ok : ∀ k, k < 7 → parseFieldDescriptor (TX3 k).2.2.1 = some (tyX3 k) := by decide +kernel
abbrev cX3_init : ByteArray := prog_5_method_1_code
def yX3_init : MethodName := ⟨RX3, "<init>", "()V"⟩
abbrev cX3_begin : ByteArray := prog_5_method_2_code
def yX3_begin : MethodName := ⟨RX3, "begin", "(II)V"⟩
abbrev cX3_hasCause : ByteArray := prog_5_method_3_code
def yX3_hasCause : MethodName := ⟨RX3, "hasCause", "(I)Z"⟩
abbrev cX3_addCause : ByteArray := prog_5_method_4_code
def yX3_addCause : MethodName := ⟨RX3, "addCause", "(I)V"⟩
abbrev cX3_copyFrom : ByteArray := prog_5_method_5_code
def yX3_copyFrom : MethodName := ⟨RX3, "copyFrom", "(LFlapDamper$RouteRecord;)V"⟩
def RX4 : String := "FlapDamper$State"
def TX4 : u_T := fun k => match k with
  | 0 => ("FlapDamper$State", "bounds", "LFlapDamper$Bounds;", true)
  | 1 => ("FlapDamper$State", "records", "LFlapDamper$RecordList;", true)
  | 2 => ("FlapDamper$State", "lines", "LFlapDamper$Lines;", true)
  | 3 => ("FlapDamper$State", "paths", "[I", true)
  | 4 => ("FlapDamper$State", "bests", "[I", true)
  | 5 => ("FlapDamper$State", "changes", "[I", true)
  | 6 => ("FlapDamper$State", "tick", "I", false)
  | 7 => ("FlapDamper$State", "events", "I", false)
  | 8 => ("FlapDamper$State", "echoes", "I", false)
  | 9 => ("FlapDamper$State", "lost", "I", false)
  | _ => ("FlapDamper$State", "letGo", "I", false)
def tyX4 : Nat → FieldType := fun k => match k with
  | 0 => .object "FlapDamper$Bounds"
  | 1 => .object "FlapDamper$RecordList"
  | 2 => .object "FlapDamper$Lines"
  | 3 => .array .int
  | 4 => .array .int
  | 5 => .array .int
  | 6 => .int
  | 7 => .int
  | 8 => .int
  | 9 => .int
  | _ => .int
abbrev wsX40 : List Cond := u_ws RX4 TX4 11
theorem nmX4 : ∀ a, a < 11 → ∀ b, b < 11 → a ≠ b → (TX4 a).2.1 ≠ (TX4 b).2.1 := by decide +kernel
theorem tyX4_ok : ∀ k, k < 11 → parseFieldDescriptor (TX4 k).2.2.1 = some (tyX4 k) := by decide +kernel
abbrev cX4_init : ByteArray := prog_6_method_1_code
def yX4_init : MethodName := ⟨RX4, "<init>", "()V"⟩
abbrev cX4_happen : ByteArray := prog_6_method_2_code
def yX4_happen : MethodName := ⟨RX4, "happen", "(III)I"⟩
abbrev cX4_weigh : ByteArray := prog_6_method_3_code
def yX4_weigh : MethodName := ⟨RX4, "weigh", "(II)I"⟩
abbrev cX4_judge : ByteArray := prog_6_method_4_code
def yX4_judge : MethodName := ⟨RX4, "judge", "(III)I"⟩
abbrev cX4_addTo : ByteArray := prog_6_method_5_code
def yX4_addTo : MethodName := ⟨RX4, "addTo", "(LFlapDamper$RouteRecord;II)I"⟩
abbrev cX4_writeEvent : ByteArray := prog_6_method_6_code
def yX4_writeEvent : MethodName := ⟨RX4, "writeEvent", "(III)V"⟩
abbrev cX4_penaltyAt : ByteArray := prog_6_method_7_code
def yX4_penaltyAt : MethodName := ⟨RX4, "penaltyAt", "(LFlapDamper$RouteRecord;I)I"⟩
abbrev cX4_isBelowBack : ByteArray := prog_6_method_8_code
def yX4_isBelowBack : MethodName := ⟨RX4, "isBelowBack", "(LFlapDamper$RouteRecord;I)Z"⟩
abbrev cX4_dueAfter : ByteArray := prog_6_method_9_code
def yX4_dueAfter : MethodName := ⟨RX4, "dueAfter", "(LFlapDamper$RouteRecord;I)I"⟩
abbrev cX4_isLookedAt : ByteArray := prog_6_method_10_code
def yX4_isLookedAt : MethodName := ⟨RX4, "isLookedAt", "(I)Z"⟩
abbrev cX4_nextTick : ByteArray := prog_6_method_11_code
def yX4_nextTick : MethodName := ⟨RX4, "nextTick", "()V"⟩
abbrev cX4_lookAt : ByteArray := prog_6_method_12_code
def yX4_lookAt : MethodName := ⟨RX4, "lookAt", "(LFlapDamper$RouteRecord;)V"⟩
abbrev cX4_dropSmallOnes : ByteArray := prog_6_method_13_code
def yX4_dropSmallOnes : MethodName := ⟨RX4, "dropSmallOnes", "()V"⟩
abbrev cX4_letGoAt : ByteArray := prog_6_method_14_code
def yX4_letGoAt : MethodName := ⟨RX4, "letGoAt", "(LFlapDamper$RouteRecord;)I"⟩
abbrev cX4_refreshBest : ByteArray := prog_6_method_15_code
def yX4_refreshBest : MethodName := ⟨RX4, "refreshBest", "(I)V"⟩
abbrev cX4_findBest : ByteArray := prog_6_method_16_code
def yX4_findBest : MethodName := ⟨RX4, "findBest", "(I)I"⟩
abbrev cX4_isHeld : ByteArray := prog_6_method_17_code
def yX4_isHeld : MethodName := ⟨RX4, "isHeld", "(LFlapDamper$RouteRecord;)Z"⟩
abbrev cX4_tellRecord : ByteArray := prog_6_method_18_code
def yX4_tellRecord : MethodName := ⟨RX4, "tellRecord", "(LFlapDamper$RouteRecord;I)I"⟩
abbrev cX4_tellBest : ByteArray := prog_6_method_19_code
def yX4_tellBest : MethodName := ⟨RX4, "tellBest", "(II)I"⟩
abbrev cX4_tellCount : ByteArray := prog_6_method_20_code
def yX4_tellCount : MethodName := ⟨RX4, "tellCount", "(I)I"⟩
abbrev cX4_copyFrom : ByteArray := prog_6_method_21_code
def yX4_copyFrom : MethodName := ⟨RX4, "copyFrom", "(LFlapDamper$State;)V"⟩
def RX5 : String := "FlapDamper$Text"
def TX5 : u_T := fun k => match k with
  | 0 => ("FlapDamper$Text", "signs", "[I", true)
  | _ => ("FlapDamper$Text", "length", "I", false)
def tyX5 : Nat → FieldType := fun k => match k with
  | 0 => .array .int
  | _ => .int
abbrev wsX50 : List Cond := u_ws RX5 TX5 2
theorem nmX5 : ∀ a, a < 2 → ∀ b, b < 2 → a ≠ b → (TX5 a).2.1 ≠ (TX5 b).2.1 := by decide +kernel
theorem tyX5_ok : ∀ k, k < 2 → parseFieldDescriptor (TX5 k).2.2.1 = some (tyX5 k) := by decide +kernel
abbrev cX5_init : ByteArray := prog_7_method_1_code
def yX5_init : MethodName := ⟨RX5, "<init>", "()V"⟩
abbrev cX5_append : ByteArray := prog_7_method_2_code
def yX5_append : MethodName := ⟨RX5, "append", "(I)Z"⟩
abbrev cX5_clear : ByteArray := prog_7_method_3_code
def yX5_clear : MethodName := ⟨RX5, "clear", "()I"⟩
abbrev cX5_findFault : ByteArray := prog_7_method_4_code
def yX5_findFault : MethodName := ⟨RX5, "findFault", "()I"⟩
abbrev cX5_toldBound : ByteArray := prog_7_method_5_code
def yX5_toldBound : MethodName := ⟨RX5, "toldBound", "()I"⟩
abbrev cX5_toldNumber : ByteArray := prog_7_method_6_code
def yX5_toldNumber : MethodName := ⟨RX5, "toldNumber", "()I"⟩
abbrev cX5_tells : ByteArray := prog_7_method_7_code
def yX5_tells : MethodName := ⟨RX5, "tells", "(Ljava/lang/String;)Z"⟩
abbrev cX5_fittingSigns : ByteArray := prog_7_method_8_code
def yX5_fittingSigns : MethodName := ⟨RX5, "fittingSigns", "(Ljava/lang/String;)I"⟩
abbrev cX5_fits : ByteArray := prog_7_method_9_code
def yX5_fits : MethodName := ⟨RX5, "fits", "(Ljava/lang/String;I)Z"⟩
abbrev cX5_isFigure : ByteArray := prog_7_method_10_code
def yX5_isFigure : MethodName := ⟨RX5, "isFigure", "(I)Z"⟩
abbrev cX5_nameOf : ByteArray := prog_7_method_11_code
def yX5_nameOf : MethodName := ⟨RX5, "nameOf", "(I)Ljava/lang/String;"⟩
def RX6 : String := "FlapDamper"
def TX6 : u_T := fun k => match k with
  | 0 => ("FlapDamper", "text", "LFlapDamper$Text;", true)
  | 1 => ("FlapDamper", "now", "LFlapDamper$State;", true)
  | 2 => ("FlapDamper", "firstImage", "LFlapDamper$State;", true)
  | 3 => ("FlapDamper", "secondImage", "LFlapDamper$State;", true)
  | _ => ("FlapDamper", "kept", "[Z", true)
def tyX6 : Nat → FieldType := fun k => match k with
  | 0 => .object "FlapDamper$Text"
  | 1 => .object "FlapDamper$State"
  | 2 => .object "FlapDamper$State"
  | 3 => .object "FlapDamper$State"
  | _ => .array .boolean
abbrev wsX60 : List Cond := u_ws RX6 TX6 5
theorem nmX6 : ∀ a, a < 5 → ∀ b, b < 5 → a ≠ b → (TX6 a).2.1 ≠ (TX6 b).2.1 := by decide +kernel
theorem tyX6_ok : ∀ k, k < 5 → parseFieldDescriptor (TX6 k).2.2.1 = some (tyX6 k) := by decide +kernel
abbrev cX6_init : ByteArray := prog_1_method_1_code
def yX6_init : MethodName := ⟨RX6, "<init>", "()V"⟩
abbrev cX6_say : ByteArray := prog_1_method_2_code
def yX6_say : MethodName := ⟨RX6, "say", "(I)I"⟩
abbrev cX6_wipe : ByteArray := prog_1_method_3_code
def yX6_wipe : MethodName := ⟨RX6, "wipe", "()I"⟩
abbrev cX6_fault : ByteArray := prog_1_method_4_code
def yX6_fault : MethodName := ⟨RX6, "fault", "()I"⟩
abbrev cX6_set : ByteArray := prog_1_method_5_code
def yX6_set : MethodName := ⟨RX6, "set", "()I"⟩
abbrev cX6_bound : ByteArray := prog_1_method_6_code
def yX6_bound : MethodName := ⟨RX6, "bound", "(I)I"⟩
abbrev cX6_announce : ByteArray := prog_1_method_7_code
def yX6_announce : MethodName := ⟨RX6, "announce", "(IIII)I"⟩
abbrev cX6_withdraw : ByteArray := prog_1_method_8_code
def yX6_withdraw : MethodName := ⟨RX6, "withdraw", "(III)I"⟩
abbrev cX6_pass : ByteArray := prog_1_method_9_code
def yX6_pass : MethodName := ⟨RX6, "pass", "(I)I"⟩
abbrev cX6_route : ByteArray := prog_1_method_10_code
def yX6_route : MethodName := ⟨RX6, "route", "(III)I"⟩
abbrev cX6_later : ByteArray := prog_1_method_11_code
def yX6_later : MethodName := ⟨RX6, "later", "(III)I"⟩
abbrev cX6_when : ByteArray := prog_1_method_12_code
def yX6_when : MethodName := ⟨RX6, "when", "(II)I"⟩
abbrev cX6_longest : ByteArray := prog_1_method_13_code
def yX6_longest : MethodName := ⟨RX6, "longest", "()I"⟩
abbrev cX6_best : ByteArray := prog_1_method_14_code
def yX6_best : MethodName := ⟨RX6, "best", "(II)I"⟩
abbrev cX6_record : ByteArray := prog_1_method_15_code
def yX6_record : MethodName := ⟨RX6, "record", "(I)I"⟩
abbrev cX6_line : ByteArray := prog_1_method_16_code
def yX6_line : MethodName := ⟨RX6, "line", "(II)I"⟩
abbrev cX6_count : ByteArray := prog_1_method_17_code
def yX6_count : MethodName := ⟨RX6, "count", "(I)I"⟩
abbrev cX6_image : ByteArray := prog_1_method_18_code
def yX6_image : MethodName := ⟨RX6, "image", "(I)I"⟩
abbrev cX6_restore : ByteArray := prog_1_method_19_code
def yX6_restore : MethodName := ⟨RX6, "restore", "(I)I"⟩
abbrev cX6_imageOf : ByteArray := prog_1_method_20_code
def yX6_imageOf : MethodName := ⟨RX6, "imageOf", "(I)LFlapDamper$State;"⟩
abbrev cX6_keptImages : ByteArray := prog_1_method_21_code
def yX6_keptImages : MethodName := ⟨RX6, "keptImages", "()I"⟩
abbrev cX6_isWithin : ByteArray := prog_1_method_22_code
def yX6_isWithin : MethodName := ⟨RX6, "isWithin", "(III)Z"⟩
abbrev cX6_isRoute : ByteArray := prog_1_method_23_code
def yX6_isRoute : MethodName := ⟨RX6, "isRoute", "(II)Z"⟩
abbrev cX6_routeOf : ByteArray := prog_1_method_24_code
def yX6_routeOf : MethodName := ⟨RX6, "routeOf", "(II)I"⟩
def RX7 : String := "FlapDamperModel"
def TX7 : u_T := fun k => match k with
  | 0 => ("FlapDamperModel", "row", "[I", true)
  | 1 => ("FlapDamperModel", "names", "[I", true)
  | 2 => ("FlapDamperModel", "lows", "[I", true)
  | 3 => ("FlapDamperModel", "highs", "[I", true)
  | 4 => ("FlapDamperModel", "state", "[I", true)
  | 5 => ("FlapDamperModel", "images", "[I", true)
  | 6 => ("FlapDamperModel", "isKept", "[Z", true)
  | 7 => ("FlapDamperModel", "text", "[I", true)
  | _ => ("FlapDamperModel", "signs", "I", false)
def tyX7 : Nat → FieldType := fun k => match k with
  | 0 => .array .int
  | 1 => .array .int
  | 2 => .array .int
  | 3 => .array .int
  | 4 => .array .int
  | 5 => .array .int
  | 6 => .array .boolean
  | 7 => .array .int
  | _ => .int
abbrev wsX70 : List Cond := u_ws RX7 TX7 9
theorem nmX7 : ∀ a, a < 9 → ∀ b, b < 9 → a ≠ b → (TX7 a).2.1 ≠ (TX7 b).2.1 := by decide +kernel
theorem tyX7_ok : ∀ k, k < 9 → parseFieldDescriptor (TX7 k).2.2.1 = some (tyX7 k) := by decide +kernel
abbrev cX7_init : ByteArray := prog_9_method_1_code
def yX7_init : MethodName := ⟨RX7, "<init>", "()V"⟩
abbrev cX7_in : ByteArray := prog_9_method_2_code
def yX7_in : MethodName := ⟨RX7, "in", "(III)Z"⟩
abbrev cX7_bounded : ByteArray := prog_9_method_3_code
def yX7_bounded : MethodName := ⟨RX7, "bounded", "(I)I"⟩
abbrev cX7_say : ByteArray := prog_9_method_4_code
def yX7_say : MethodName := ⟨RX7, "say", "(I)I"⟩
abbrev cX7_wipe : ByteArray := prog_9_method_5_code
def yX7_wipe : MethodName := ⟨RX7, "wipe", "()I"⟩
abbrev cX7_size : ByteArray := prog_9_method_6_code
def yX7_size : MethodName := ⟨RX7, "size", "(I)I"⟩
abbrev cX7_isFigure : ByteArray := prog_9_method_7_code
def yX7_isFigure : MethodName := ⟨RX7, "isFigure", "(I)Z"⟩
abbrev cX7_fitting : ByteArray := prog_9_method_8_code
def yX7_fitting : MethodName := ⟨RX7, "fitting", "(I)I"⟩
abbrev cX7_told : ByteArray := prog_9_method_9_code
def yX7_told : MethodName := ⟨RX7, "told", "()I"⟩
abbrev cX7_faultNow : ByteArray := prog_9_method_10_code
def yX7_faultNow : MethodName := ⟨RX7, "faultNow", "()I"⟩
abbrev cX7_fault : ByteArray := prog_9_method_11_code
def yX7_fault : MethodName := ⟨RX7, "fault", "()I"⟩
abbrev cX7_set : ByteArray := prog_9_method_12_code
def yX7_set : MethodName := ⟨RX7, "set", "()I"⟩
abbrev cX7_bound : ByteArray := prog_9_method_13_code
def yX7_bound : MethodName := ⟨RX7, "bound", "(I)I"⟩
abbrev cX7_at : ByteArray := prog_9_method_14_code
def yX7_at : MethodName := ⟨RX7, "at", "(II)I"⟩
abbrev cX7_recordOf : ByteArray := prog_9_method_15_code
def yX7_recordOf : MethodName := ⟨RX7, "recordOf", "(I)I"⟩
abbrev cX7_isHeld : ByteArray := prog_9_method_16_code
def yX7_isHeld : MethodName := ⟨RX7, "isHeld", "(I)Z"⟩
abbrev cX7_lessened : ByteArray := prog_9_method_17_code
def yX7_lessened : MethodName := ⟨RX7, "lessened", "(II)I"⟩
abbrev cX7_penaltyAt : ByteArray := prog_9_method_18_code
def yX7_penaltyAt : MethodName := ⟨RX7, "penaltyAt", "(II)I"⟩
abbrev cX7_dueAfter : ByteArray := prog_9_method_19_code
def yX7_dueAfter : MethodName := ⟨RX7, "dueAfter", "(II)I"⟩
abbrev cX7_remove : ByteArray := prog_9_method_20_code
def yX7_remove : MethodName := ⟨RX7, "remove", "(I)V"⟩
abbrev cX7_makeRecord : ByteArray := prog_9_method_21_code
def yX7_makeRecord : MethodName := ⟨RX7, "makeRecord", "(I)I"⟩
abbrev cX7_isCounted : ByteArray := prog_9_method_22_code
def yX7_isCounted : MethodName := ⟨RX7, "isCounted", "(II)Z"⟩
abbrev cX7_addCause : ByteArray := prog_9_method_23_code
def yX7_addCause : MethodName := ⟨RX7, "addCause", "(II)V"⟩
abbrev cX7_lineAt : ByteArray := prog_9_method_24_code
def yX7_lineAt : MethodName := ⟨RX7, "lineAt", "(II)I"⟩
abbrev cX7_write : ByteArray := prog_9_method_25_code
def yX7_write : MethodName := ⟨RX7, "write", "(I)V"⟩
abbrev cX7_writeNumber : ByteArray := prog_9_method_26_code
def yX7_writeNumber : MethodName := ⟨RX7, "writeNumber", "(I)V"⟩
abbrev cX7_beginLine : ByteArray := prog_9_method_27_code
def yX7_beginLine : MethodName := ⟨RX7, "beginLine", "(II)V"⟩
abbrev cX7_lookAtBest : ByteArray := prog_9_method_28_code
def yX7_lookAtBest : MethodName := ⟨RX7, "lookAtBest", "()V"⟩
abbrev cX7_meet : ByteArray := prog_9_method_29_code
def yX7_meet : MethodName := ⟨RX7, "meet", "(III)I"⟩
abbrev cX7_isRoute : ByteArray := prog_9_method_30_code
def yX7_isRoute : MethodName := ⟨RX7, "isRoute", "(II)Z"⟩
abbrev cX7_announce : ByteArray := prog_9_method_31_code
def yX7_announce : MethodName := ⟨RX7, "announce", "(IIII)I"⟩
abbrev cX7_withdraw : ByteArray := prog_9_method_32_code
def yX7_withdraw : MethodName := ⟨RX7, "withdraw", "(III)I"⟩
abbrev cX7_lookAtRecords : ByteArray := prog_9_method_33_code
def yX7_lookAtRecords : MethodName := ⟨RX7, "lookAtRecords", "()V"⟩
abbrev cX7_heldOnes : ByteArray := prog_9_method_34_code
def yX7_heldOnes : MethodName := ⟨RX7, "heldOnes", "()I"⟩
abbrev cX7_pass : ByteArray := prog_9_method_35_code
def yX7_pass : MethodName := ⟨RX7, "pass", "(I)I"⟩
abbrev cX7_route : ByteArray := prog_9_method_36_code
def yX7_route : MethodName := ⟨RX7, "route", "(III)I"⟩
abbrev cX7_later : ByteArray := prog_9_method_37_code
def yX7_later : MethodName := ⟨RX7, "later", "(III)I"⟩
abbrev cX7_when : ByteArray := prog_9_method_38_code
def yX7_when : MethodName := ⟨RX7, "when", "(II)I"⟩
abbrev cX7_longest : ByteArray := prog_9_method_39_code
def yX7_longest : MethodName := ⟨RX7, "longest", "()I"⟩
abbrev cX7_best : ByteArray := prog_9_method_40_code
def yX7_best : MethodName := ⟨RX7, "best", "(II)I"⟩
abbrev cX7_record : ByteArray := prog_9_method_41_code
def yX7_record : MethodName := ⟨RX7, "record", "(I)I"⟩
abbrev cX7_line : ByteArray := prog_9_method_42_code
def yX7_line : MethodName := ⟨RX7, "line", "(II)I"⟩
abbrev cX7_count : ByteArray := prog_9_method_43_code
def yX7_count : MethodName := ⟨RX7, "count", "(I)I"⟩
abbrev cX7_image : ByteArray := prog_9_method_44_code
def yX7_image : MethodName := ⟨RX7, "image", "(I)I"⟩
abbrev cX7_restore : ByteArray := prog_9_method_45_code
def yX7_restore : MethodName := ⟨RX7, "restore", "(I)I"⟩
def RJx145de : String := "java/io/Serializable"
def TJx145de : u_T := fun k => match k with
  | _ => ("", "", "", false)
def tyJx145de : Nat → FieldType := fun k => match k with
  | _ => .int
abbrev wsJx145de0 : List Cond := u_ws RJx145de TJx145de 0
theorem nmJx145de : ∀ a, a < 0 → ∀ b, b < 0 → a ≠ b → (TJx145de a).2.1 ≠ (TJx145de b).2.1 := by decide +kernel
theorem tyJx145de_ok : ∀ k, k < 0 → parseFieldDescriptor (TJx145de k).2.2.1 = some (tyJx145de k) := by decide +kernel
def RJx9f9b0 : String := "java/lang/CharSequence"
def TJx9f9b0 : u_T := fun k => match k with
  | _ => ("", "", "", false)
def tyJx9f9b0 : Nat → FieldType := fun k => match k with
  | _ => .int
abbrev wsJx9f9b00 : List Cond := u_ws RJx9f9b0 TJx9f9b0 0
theorem nmJx9f9b0 : ∀ a, a < 0 → ∀ b, b < 0 → a ≠ b → (TJx9f9b0 a).2.1 ≠ (TJx9f9b0 b).2.1 := by decide +kernel
theorem tyJx9f9b0_ok : ∀ k, k < 0 → parseFieldDescriptor (TJx9f9b0 k).2.2.1 = some (tyJx9f9b0 k) := by decide +kernel
def RJx8e188 : String := "java/lang/Cloneable"
def TJx8e188 : u_T := fun k => match k with
  | _ => ("", "", "", false)
def tyJx8e188 : Nat → FieldType := fun k => match k with
  | _ => .int
abbrev wsJx8e1880 : List Cond := u_ws RJx8e188 TJx8e188 0
theorem nmJx8e188 : ∀ a, a < 0 → ∀ b, b < 0 → a ≠ b → (TJx8e188 a).2.1 ≠ (TJx8e188 b).2.1 := by decide +kernel
theorem tyJx8e188_ok : ∀ k, k < 0 → parseFieldDescriptor (TJx8e188 k).2.2.1 = some (tyJx8e188 k) := by decide +kernel
def RJxb160c : String := "java/lang/Comparable"
def TJxb160c : u_T := fun k => match k with
  | _ => ("", "", "", false)
def tyJxb160c : Nat → FieldType := fun k => match k with
  | _ => .int
abbrev wsJxb160c0 : List Cond := u_ws RJxb160c TJxb160c 0
theorem nmJxb160c : ∀ a, a < 0 → ∀ b, b < 0 → a ≠ b → (TJxb160c a).2.1 ≠ (TJxb160c b).2.1 := by decide +kernel
theorem tyJxb160c_ok : ∀ k, k < 0 → parseFieldDescriptor (TJxb160c k).2.2.1 = some (tyJxb160c k) := by decide +kernel
def RJ9 : String := "java/lang/Math"
def TJ9 : u_T := fun k => match k with
  | _ => ("", "", "", false)
def tyJ9 : Nat → FieldType := fun k => match k with
  | _ => .int
abbrev wsJ90 : List Cond := u_ws RJ9 TJ9 0
theorem nmJ9 : ∀ a, a < 0 → ∀ b, b < 0 → a ≠ b → (TJ9 a).2.1 ≠ (TJ9 b).2.1 := by decide +kernel
theorem tyJ9_ok : ∀ k, k < 0 → parseFieldDescriptor (TJ9 k).2.2.1 = some (tyJ9 k) := by decide +kernel
abbrev cJ9_max_7cf53 : ByteArray := prog_11_method_65_code
def yJ9_max_7cf53 : MethodName := ⟨RJ9, "max", "(II)I"⟩
abbrev cJ9_min_7cf53 : ByteArray := prog_11_method_69_code
def yJ9_min_7cf53 : MethodName := ⟨RJ9, "min", "(II)I"⟩
def RJ0 : String := "java/lang/String"
def TJ0 : u_T := fun k => match k with
  | _ => ("", "", "", false)
def tyJ0 : Nat → FieldType := fun k => match k with
  | _ => .int
abbrev wsJ00 : List Cond := u_ws RJ0 TJ0 0
theorem nmJ0 : ∀ a, a < 0 → ∀ b, b < 0 → a ≠ b → (TJ0 a).2.1 ≠ (TJ0 b).2.1 := by decide +kernel
theorem tyJ0_ok : ∀ k, k < 0 → parseFieldDescriptor (TJ0 k).2.2.1 = some (tyJ0 k) := by decide +kernel
abbrev cJ0_length_8abf5 : ByteArray := prog_12_method_54_code
def yJ0_length_8abf5 : MethodName := ⟨RJ0, "length", "()I"⟩
abbrev cJ0_charAt_5068e : ByteArray := prog_12_method_56_code
def yJ0_charAt_5068e : MethodName := ⟨RJ0, "charAt", "(I)C"⟩
abbrev cJ0_coder_7d493 : ByteArray := prog_12_method_152_code
def yJ0_coder_7d493 : MethodName := ⟨RJ0, "coder", "()B"⟩
abbrev cJ0_isLatin1_aae02 : ByteArray := prog_12_method_154_code
def yJ0_isLatin1_aae02 : MethodName := ⟨RJ0, "isLatin1", "()Z"⟩
abbrev cJ0_checkIndex_df160 : ByteArray := prog_12_method_155_code
def yJ0_checkIndex_df160 : MethodName := ⟨RJ0, "checkIndex", "(II)V"⟩
def RJ1 : String := "java/lang/StringLatin1"
def TJ1 : u_T := fun k => match k with
  | _ => ("", "", "", false)
def tyJ1 : Nat → FieldType := fun k => match k with
  | _ => .int
abbrev wsJ10 : List Cond := u_ws RJ1 TJ1 0
theorem nmJ1 : ∀ a, a < 0 → ∀ b, b < 0 → a ≠ b → (TJ1 a).2.1 ≠ (TJ1 b).2.1 := by decide +kernel
theorem tyJ1_ok : ∀ k, k < 0 → parseFieldDescriptor (TJ1 k).2.2.1 = some (tyJ1 k) := by decide +kernel
abbrev cJ1_charAt_3b067 : ByteArray := prog_13_method_2_code
def yJ1_charAt_3b067 : MethodName := ⟨RJ1, "charAt", "([BI)C"⟩
def RJ2 : String := "java/lang/StringUTF16"
def TJ2 : u_T := fun k => match k with
  | _ => ("", "", "", false)
def tyJ2 : Nat → FieldType := fun k => match k with
  | _ => .int
abbrev wsJ20 : List Cond := u_ws RJ2 TJ2 0
theorem nmJ2 : ∀ a, a < 0 → ∀ b, b < 0 → a ≠ b → (TJ2 a).2.1 ≠ (TJ2 b).2.1 := by decide +kernel
theorem tyJ2_ok : ∀ k, k < 0 → parseFieldDescriptor (TJ2 k).2.2.1 = some (tyJ2 k) := by decide +kernel
abbrev cJ2_getChar_3b067 : ByteArray := prog_14_method_5_code
def yJ2_getChar_3b067 : MethodName := ⟨RJ2, "getChar", "([BI)C"⟩
abbrev cJ2_length_9d52b : ByteArray := prog_14_method_6_code
def yJ2_length_9d52b : MethodName := ⟨RJ2, "length", "([B)I"⟩
abbrev cJ2_charAt_3b067 : ByteArray := prog_14_method_83_code
def yJ2_charAt_3b067 : MethodName := ⟨RJ2, "charAt", "([BI)C"⟩
abbrev cJ2_checkIndex_2214a : ByteArray := prog_14_method_91_code
def yJ2_checkIndex_2214a : MethodName := ⟨RJ2, "checkIndex", "(I[B)V"⟩
def RJ10 : String := "java/lang/System"
def TJ10 : u_T := fun k => match k with
  | _ => ("", "", "", false)
def tyJ10 : Nat → FieldType := fun k => match k with
  | _ => .int
abbrev wsJ100 : List Cond := u_ws RJ10 TJ10 0
theorem nmJ10 : ∀ a, a < 0 → ∀ b, b < 0 → a ≠ b → (TJ10 a).2.1 ≠ (TJ10 b).2.1 := by decide +kernel
theorem tyJ10_ok : ∀ k, k < 0 → parseFieldDescriptor (TJ10 k).2.2.1 = some (tyJ10 k) := by decide +kernel
def RJxfd54e : String := "java/lang/constant/Constable"
def TJxfd54e : u_T := fun k => match k with
  | _ => ("", "", "", false)
def tyJxfd54e : Nat → FieldType := fun k => match k with
  | _ => .int
abbrev wsJxfd54e0 : List Cond := u_ws RJxfd54e TJxfd54e 0
theorem nmJxfd54e : ∀ a, a < 0 → ∀ b, b < 0 → a ≠ b → (TJxfd54e a).2.1 ≠ (TJxfd54e b).2.1 := by decide +kernel
theorem tyJxfd54e_ok : ∀ k, k < 0 → parseFieldDescriptor (TJxfd54e k).2.2.1 = some (tyJxfd54e k) := by decide +kernel
def RJx3cf43 : String := "java/lang/constant/ConstantDesc"
def TJx3cf43 : u_T := fun k => match k with
  | _ => ("", "", "", false)
def tyJx3cf43 : Nat → FieldType := fun k => match k with
  | _ => .int
abbrev wsJx3cf430 : List Cond := u_ws RJx3cf43 TJx3cf43 0
theorem nmJx3cf43 : ∀ a, a < 0 → ∀ b, b < 0 → a ≠ b → (TJx3cf43 a).2.1 ≠ (TJx3cf43 b).2.1 := by decide +kernel
theorem tyJx3cf43_ok : ∀ k, k < 0 → parseFieldDescriptor (TJx3cf43 k).2.2.1 = some (tyJx3cf43 k) := by decide +kernel
def RJ7 : String := "java/util/Arrays"
def TJ7 : u_T := fun k => match k with
  | _ => ("", "", "", false)
def tyJ7 : Nat → FieldType := fun k => match k with
  | _ => .int
abbrev wsJ70 : List Cond := u_ws RJ7 TJ7 0
theorem nmJ7 : ∀ a, a < 0 → ∀ b, b < 0 → a ≠ b → (TJ7 a).2.1 ≠ (TJ7 b).2.1 := by decide +kernel
theorem tyJ7_ok : ∀ k, k < 0 → parseFieldDescriptor (TJ7 k).2.2.1 = some (tyJ7 k) := by decide +kernel
abbrev cJ7_fill_53178 : ByteArray := prog_16_method_103_code
def yJ7_fill_53178 : MethodName := ⟨RJ7, "fill", "([II)V"⟩
def RJ3 : String := "jdk/internal/util/Preconditions"
def TJ3 : u_T := fun k => match k with
  | _ => ("", "", "", false)
def tyJ3 : Nat → FieldType := fun k => match k with
  | _ => .int
abbrev wsJ30 : List Cond := u_ws RJ3 TJ3 0
theorem nmJ3 : ∀ a, a < 0 → ∀ b, b < 0 → a ≠ b → (TJ3 a).2.1 ≠ (TJ3 b).2.1 := by decide +kernel
theorem tyJ3_ok : ∀ k, k < 0 → parseFieldDescriptor (TJ3 k).2.2.1 = some (tyJ3 k) := by decide +kernel
abbrev cJ3_checkIndex_8e157 : ByteArray := prog_17_method_11_code
def yJ3_checkIndex_8e157 : MethodName := ⟨RJ3, "checkIndex", "(IILjava/util/function/BiFunction;)I"⟩
def RL : String := "FlapDamperLaw"
abbrev cL_law : ByteArray := code
def yL_law : MethodName := ⟨RL, "law", "([I)Z"⟩
end
section
/-! ===== THE WORLD: 82 cells at addresses E.2.2 k; what they hold is S k j (cell, place); the object graph is fixed but for the rows of a RecordList ===== -/
abbrev fd_E : Type := va_G × (Nat → ClassId) × (Nat → Nat)
abbrev fd_S : Type := Nat → Int32 → Int32
def fd_up (S : fd_S) (k : Nat) (j v : Int32) : fd_S := fun a b => if a = k then (if b = j then v else S a b) else S a b
def fd_ix (n : Nat) : Int32 := if n < 2147483648 then nI n else -1
def fd_T : List Cond := lw_tbl.filter goodWord
abbrev fd_CL : List vw_C := [(RX0, TX0, 1), (RX1, TX1, 4), (RX2, TX2, 3), (RX3, TX3, 7), (RX4, TX4, 11), (RX5, TX5, 2), (RX6, TX6, 5), (RX7, TX7, 9)]
abbrev fd_ty (E : fd_E) : List (ClassId × FieldType) := [(E.2.1 0, .int), (E.2.1 1, .boolean), (E.2.1 2, .object "FlapDamper$RouteRecord")]
/-- kinds: 0 Bounds, 1 Lines, 2 RecordList, 3 RouteRecord, 4 State, 5 Text, 6 FlapDamper, 7 FlapDamperModel, 8 int[], 9 boolean[], 10 RouteRecord[] -/
def fd_kl : List Nat := [4, 0, 8, 2, 10, 1, 8, 8, 3, 3, 3, 3, 3, 3, 8, 8, 8, 8, 8, 8, 8, 8, 8, 4, 0, 8, 2, 10, 1, 8, 8, 3, 3, 3, 3, 3, 3, 8, 8, 8, 8, 8, 8, 8, 8, 8, 4, 0, 8, 2, 10, 1, 8, 8, 3, 3, 3, 3, 3, 3, 8, 8, 8, 8, 8, 8, 8, 8, 8, 6, 9, 5, 8, 7, 8, 8, 8, 8, 8, 8, 9, 8]
def fd_ll : List Nat := [0, 0, 7, 0, 6, 0, 120, 6, 0, 0, 0, 0, 0, 0, 4, 4, 4, 4, 4, 4, 32, 8, 8, 0, 0, 7, 0, 6, 0, 120, 6, 0, 0, 0, 0, 0, 0, 4, 4, 4, 4, 4, 4, 32, 8, 8, 0, 0, 7, 0, 6, 0, 120, 6, 0, 0, 0, 0, 0, 0, 4, 4, 4, 4, 4, 4, 32, 8, 8, 0, 2, 0, 12, 0, 8, 28, 7, 7, 275, 550, 2, 12]
def fd_kd (k : Nat) : Nat := fd_kl.getD k 99
def fd_ln (k : Nat) : Nat := fd_ll.getD k 0
/-- a record's cell, out of what a row of a RecordList holds -/
def fd_rc (k : Nat) (v : Int32) : Nat := 23 * (k / 23) + 8 + v.toNatClampNeg
def fd_fs (E : fd_E) (S : fd_S) (k : Nat) : Nat → List Value
  | 0 => [.ref (E.2.2 (k + 1))]
  | 1 => [.ref (E.2.2 (k + 1)), .ref (E.2.2 (k + 2)), .int (S k 2), .int (S k 3)]
  | 2 => [.ref (E.2.2 (k + 1)), .int (S k 1), .int (S k 2)]
  | 3 => [.int (S k 0), .int (S k 1), .int (S k 2), .int (S k 3), .int (S k 4), .ref (E.2.2 (k + 6)), .int (S k 6)]
  | 4 => [.ref (E.2.2 (k + 1)), .ref (E.2.2 (k + 3)), .ref (E.2.2 (k + 5)), .ref (E.2.2 (k + 20)), .ref (E.2.2 (k + 21)), .ref (E.2.2 (k + 22)), .int (S k 6), .int (S k 7), .int (S k 8), .int (S k 9), .int (S k 10)]
  | 5 => [.ref (E.2.2 (k + 1)), .int (S k 1)]
  | 6 => [.ref (E.2.2 71), .ref (E.2.2 0), .ref (E.2.2 23), .ref (E.2.2 46), .ref (E.2.2 70)]
  | _ => [.ref (E.2.2 74), .ref (E.2.2 75), .ref (E.2.2 76), .ref (E.2.2 77), .ref (E.2.2 78), .ref (E.2.2 79), .ref (E.2.2 80), .ref (E.2.2 81), .int (S k 8)]
def fd_ceK (E : fd_E) (S : fd_S) (k c : Nat) : va_E :=
  if c = 8 then .inl (E.2.1 0, fd_ln k, .inl (fun n => S k (fd_ix n)))
  else if c = 9 then .inl (E.2.1 1, fd_ln k, .inl (fun n => S k (fd_ix n)))
  else if c = 10 then .inl (E.2.1 2, fd_ln k, .inr (.inr (.inr (.inr (fun n => some (E.2.2 (fd_rc k (S k (fd_ix n)))))))))
  else .inr (c, fd_fs E S k c)
def fd_ce (E : fd_E) (S : fd_S) (k : Nat) : va_E := fd_ceK E S k (fd_kd k)
def fd_ws (E : fd_E) (S : fd_S) : va_W := (List.range 82).map (fun k => (E.2.2 k, fd_ce E S k))
def fd_A (E : fd_E) : Nat → Prop := fun q => ∃ k : Nat, k < 82 ∧ q = E.2.2 k
theorem fd_ws_at (E : fd_E) (S : fd_S) {k c : Nat} (hk : k < 82) (hc : fd_kd k = c) : (fd_ws E S)[k]? = some (E.2.2 k, fd_ceK E S k c) := by
  subst hc
  simp [fd_ws, List.getElem?_map, List.getElem?_range hk, fd_ce]
theorem fd_ws_o (E : fd_E) (S : fd_S) {k c : Nat} (hk : k < 82) (hc : fd_kd k = c) (h8 : c < 8) : (fd_ws E S)[k]? = some (E.2.2 k, .inr (c, fd_fs E S k c)) := by
  rw [fd_ws_at E S hk hc]
  unfold fd_ceK
  rw [if_neg (by omega), if_neg (by omega), if_neg (by omega)]
theorem fd_ws_set {E : fd_E} {S S' : fd_S} {k : Nat} {e : va_E} (hk : k < 82) (hs : ∀ a, a ≠ k → S' a = S a) (he : e = fd_ce E S' k) : (fd_ws E S).set k (E.2.2 k, e) = fd_ws E S' := by
  subst he
  apply List.ext_getElem?
  intro i
  by_cases hi : i = k
  · subst hi
    rw [List.getElem?_set_self (by simp [fd_ws]; exact hk), fd_ws_at E S' hk rfl]
    rfl
  · rw [List.getElem?_set_ne (Ne.symm hi)]
    by_cases h82 : i < 82
    · rw [fd_ws_at E S h82 rfl, fd_ws_at E S' h82 rfl]
      have hsi := hs i hi
      have : fd_ceK E S i (fd_kd i) = fd_ceK E S' i (fd_kd i) := by
        unfold fd_ceK
        have hf : fd_fs E S i (fd_kd i) = fd_fs E S' i (fd_kd i) := by
          unfold fd_fs
          split <;> simp only [hsi]
        rw [hsi, hf]
      rw [this]
    · rw [List.getElem?_eq_none (by simp [fd_ws]; omega), List.getElem?_eq_none (by simp [fd_ws]; omega)]
theorem fd_up_ne {S : fd_S} {k a : Nat} {j v : Int32} (h : a ≠ k) : fd_up S k j v a = S a := by
  funext b
  simp [fd_up, h]
/-- which fields hold ints -/
def fd_isI : Nat → Nat → Bool
  | 1, 2 => true | 1, 3 => true | 2, 1 => true | 2, 2 => true
  | 3, 0 => true | 3, 1 => true | 3, 2 => true | 3, 3 => true | 3, 4 => true | 3, 6 => true
  | 4, 6 => true | 4, 7 => true | 4, 8 => true | 4, 9 => true | 4, 10 => true
  | 5, 1 => true | 7, 8 => true
  | _, _ => false
theorem fd_fs_set (E : fd_E) (S : fd_S) (k : Nat) (v : Int32) (ci j : Nat) (h : fd_isI ci j = true) : (fd_fs E S k ci).set j (.int v) = fd_fs E (fd_up S k (nI j) v) k ci := by
  unfold fd_isI at h
  split at h <;> first | (simp [fd_fs, fd_up, nI]; done) | cases h
theorem fd_ix_of {i : Int32} (h : 0 ≤ i) : fd_ix i.toNatClampNeg = i := by
  have h1 : i.toNatClampNeg < 2147483648 := by
    have := Int32.toInt_lt i
    unfold Int32.toNatClampNeg
    omega
  have h0 : ¬ i < 0 := Int32.not_lt.mpr h
  obtain ⟨j, hj, rfl⟩ := nI_of h0
  rw [nI_clamp hj]
  unfold fd_ix
  rw [if_pos (by omega)]
theorem fd_ix_eq {i : Int32} {n : Nat} (h : 0 ≤ i) : fd_ix n = i ↔ n = i.toNatClampNeg := by
  have h0 : ¬ i < 0 := Int32.not_lt.mpr h
  obtain ⟨j, hj, rfl⟩ := nI_of h0
  rw [nI_clamp hj]
  unfold fd_ix
  by_cases hn : n < 2147483648
  · rw [if_pos hn]
    exact nI_eq (by omega) (by omega)
  · rw [if_neg hn]
    refine ⟨fun e => ?_, fun e => by omega⟩
    have : (nI j).toInt = (-1 : Int32).toInt := by rw [← e]
    rw [nI_toInt hj] at this
    have h2 : ((-1 : Int32).toInt) = -1 := by decide
    omega
theorem fd_in {i : Int32} {n : Nat} (hn : n < 2 ^ 31) (h : 0 ≤ i ∧ i < nI n) : vp_in i n := by
  rw [vp_in_iff]
  refine ⟨by simpa using Int32.le_iff_toInt_le.mp h.1, ?_⟩
  have := Int32.lt_iff_toInt_lt.mp h.2
  rwa [nI_toInt hn] at this
theorem fd_ln_lt (k : Nat) : fd_ln k < 2 ^ 31 := by
  have h : ∀ x ∈ fd_ll, x < 2 ^ 31 := by decide
  unfold fd_ln
  rw [List.getD_eq_getElem?_getD]
  cases hk : fd_ll[k]? with
  | none => simp
  | some x => exact h x (List.mem_of_getElem? hk)
/-- an array's contents behind a store -/
theorem fd_upd (S : fd_S) (k : Nat) {i : Int32} (x : Int32) (h : 0 ≤ i) : upd (fun n => S k (fd_ix n)) i.toNatClampNeg x = fun n => fd_up S k i x k (fd_ix n) := by
  funext n
  unfold upd fd_up
  rw [if_pos rfl]
  by_cases hn : n = i.toNatClampNeg
  · rw [if_pos hn, if_pos ((fd_ix_eq h).mpr hn)]
  · rw [if_neg hn, if_neg (fun q => hn ((fd_ix_eq h).mp q))]
/-- a record's 'held' is 0 or 1, in every record's cell -/
def fd_h (S : fd_S) : Prop := ∀ k : Nat, fd_kd k = 3 → S k 3 = 0 ∨ S k 3 = 1
theorem fd_h_up {S : fd_S} {k : Nat} {j v : Int32} (h : fd_h S) (hc : fd_kd k ≠ 3 ∨ j ≠ 3 ∨ v = 0 ∨ v = 1) : fd_h (fd_up S k j v) := by
  intro a ha
  by_cases e : a = k
  · subst e
    by_cases e3 : j = 3
    · subst e3
      have : fd_up S a 3 v a 3 = v := by simp [fd_up]
      rw [this]
      rcases hc with c | c | c
      · exact absurd ha c
      · exact absurd rfl c
      · exact c
    · have : fd_up S a j v a 3 = S a 3 := by
        unfold fd_up
        rw [if_pos rfl, if_neg (fun z => e3 z.symm)]
      rw [this]
      exact h a ha
  · rw [fd_up_ne e]
    exact h a ha
theorem fd_and1 {v : Int32} (h : v &&& 1 = v) : v = 0 ∨ v = 1 := by
  have e : v.toBitVec &&& 1#32 = v.toBitVec := congrArg Int32.toBitVec h
  rw [BitVec.and_one_eq_setWidth_ofBool_getLsbD] at e
  cases hb : v.toBitVec.getLsbD 0 with
  | false =>
    rw [hb] at e
    exact Or.inl (Int32.toBitVec_inj.mp (e.symm.trans (by decide)))
  | true =>
    rw [hb] at e
    exact Or.inr (Int32.toBitVec_inj.mp (e.symm.trans (by decide)))
end
section
/-! ===== what is there from the start and nobody writes: static tables, texts, words of the nest ===== -/
def fd_tl (l : List Int32) (i : Int32) : Int32 := l.getD i.toNatClampNeg 0
def fd_least : List Int32 := [4, 1, 0, 0, 100, 50, 100]
def fd_most : List Int32 := [200, 50, 2000, 2000, 9999, 9999, 20000]
def fd_row : List Int32 := [65536, 60097, 55109, 50535, 46341, 42495, 38968, 35734]
def fd_slen : List Nat := [4, 4, 4, 4, 4, 4, 3]
def fd_sbyt : List (List Int32) := [[104, 97, 108, 102], [115, 108, 111, 116], [103, 111, 110, 101], [115, 119, 97, 112], [111, 118, 101, 114], [98, 97, 99, 107], [116, 111, 112]]
def fd_stx : List String := ["half", "slot", "gone", "swap", "over", "back", "top"]
def fd_N1 : Cond := .methodLinkNest "FlapDamper$RecordList" 41 ⟨"FlapDamper", "isWithin", "(III)Z"⟩ "FlapDamper"
def fd_N2 : Cond := .methodLinkNest "FlapDamper$Lines" 38 ⟨"FlapDamper", "isWithin", "(III)Z"⟩ "FlapDamper"
def fd_N3 : Cond := .methodLinkNest "FlapDamper$State" 176 ⟨"FlapDamper", "routeOf", "(II)I"⟩ "FlapDamper"
def fd_N4 : Cond := .fieldLinkNest "FlapDamper$Bounds" 23 "FlapDamper" "ROW" "[I" "FlapDamper"
def fd_Z (E : fd_E) (U : State) (H : Heap) : Prop :=
  (va_Nw fd_N1 U ∧ va_Nw fd_N2 U ∧ va_Nw fd_N3 U ∧ va_Nw fd_N4 U) ∧
  (va_Z "FlapDamper" "LEAST" "[I" (.ref (E.2.2 100)) (fd_A E) U H ∧ va_T .int (E.2.2 100) 7 (fun j => .int (fd_least.getD j 0)) (fd_A E) U H) ∧
  (va_Z "FlapDamper" "MOST" "[I" (.ref (E.2.2 101)) (fd_A E) U H ∧ va_T .int (E.2.2 101) 7 (fun j => .int (fd_most.getD j 0)) (fd_A E) U H) ∧
  (va_Z "FlapDamper" "ROW" "[I" (.ref (E.2.2 102)) (fd_A E) U H ∧ va_T .int (E.2.2 102) 8 (fun j => .int (fd_row.getD j 0)) (fd_A E) U H) ∧
  (vk_S 7 fd_slen fd_sbyt (fun i => E.2.2 (110 + i)) (fun i => E.2.2 (120 + i)) (fd_A E) U H ∧ ∀ i : Nat, i < 7 → vk_R "FlapDamper$Text" (57 + 2 * i) (fd_stx.getD i "") (E.2.2 (110 + i)) U) ∧
  va_Z "java/lang/String" "COMPACT_STRINGS" "Z" (.int 1) (fd_A E) U H ∧ va_Zq "jdk/internal/util/Preconditions" "SIOOBE_FORMATTER" "Ljava/util/function/BiFunction;" (fd_A E) U H
theorem fd_Z.go {E : fd_E} {s U : State} {H : Heap} {locs : List Loc} (hW : s.WarmedH U.vm) (hU : U.heap = H) (hS : va_S (fd_A E) s.heap H locs) (h : fd_Z E s s.heap) : fd_Z E U U.heap := by
  rw [hU]
  obtain ⟨⟨n1, n2, n3, n4⟩, ⟨a1, a2⟩, ⟨b1, b2⟩, ⟨c1, c2⟩, ⟨d1, d2⟩, e1, f1⟩ := h
  have hv := hW.alike
  exact ⟨⟨va_Nw.warmM hW n1, va_Nw.warmM hW n2, va_Nw.warmM hW n3, va_Nw.warmF hW n4⟩, ⟨(va_Z.moved hv a1).kept hS.2.1, (va_T.moved hv a2).kept hS.2.1⟩, ⟨(va_Z.moved hv b1).kept hS.2.1, (va_T.moved hv b2).kept hS.2.1⟩, ⟨(va_Z.moved hv c1).kept hS.2.1, (va_T.moved hv c2).kept hS.2.1⟩, ⟨(vk_S.moved hv d1).kept hS.2.1, fun i hi => vk_R.warm hW (d2 i hi)⟩, (va_Z.moved hv e1).kept hS.2.1, (va_Zq.moved hv f1).kept hS.2.1⟩
theorem fd_Z.calling {E : fd_E} {U : State} {g : JFrame} {mk : MethodId} {a : Array Value} (h : fd_Z E U U.heap) : fd_Z E (U.calling g mk a) (U.calling g mk a).heap := by
  obtain ⟨⟨n1, n2, n3, n4⟩, ⟨a1, a2⟩, ⟨b1, b2⟩, ⟨c1, c2⟩, ⟨d1, d2⟩, e1, f1⟩ := h
  have hv : U.vm.Alike (U.calling g mk a).vm := Vm.Alike.refl U.vm
  exact ⟨⟨va_Nw.same rfl rfl n1, va_Nw.same rfl rfl n2, va_Nw.same rfl rfl n3, va_Nw.same rfl rfl n4⟩, ⟨va_Z.moved hv a1, va_T.moved hv a2⟩, ⟨va_Z.moved hv b1, va_T.moved hv b2⟩, ⟨va_Z.moved hv c1, va_T.moved hv c2⟩, ⟨vk_S.moved hv d1, fun i hi => vk_R.same rfl (d2 i hi)⟩, va_Z.moved hv e1, va_Zq.moved hv f1⟩
/-- what a walk stands on -/
def fd_C (p : Program) (s : State) (m : MethodId) (args : Array Value) (c : Code) (own : String) (cc : ByteArray) (nL : Nat) (E : fd_E) : Prop :=
  p.tables.exec = Jvm.exec ∧ c.code = cc ∧ c.maxLocals = nL ∧ s.vm.findClass own = some m.cls ∧ (∀ w ∈ fd_T, w.before args s = true) ∧ va_K E.1 fd_CL (fd_ty E) s ∧ fd_Z E s s.heap
/-- the heap holds the store -/
def fd_H (E : fd_E) (S : fd_S) (s : State) (H : Heap) (locs : List Loc) : Prop := va_P E.1 fd_CL (fd_ws E S) H ∧ va_D (fd_A E) (fd_ws E S) ∧ va_S (fd_A E) s.heap H locs ∧ fd_h S
def fd_W (E : fd_E) (S : fd_S) (U : State) : Prop := va_P E.1 fd_CL (fd_ws E S) U.heap ∧ va_D (fd_A E) (fd_ws E S) ∧ va_K E.1 fd_CL (fd_ty E) U ∧ fd_h S
def fd_Q (E : fd_E) (v : Option Value) (S : fd_S) : Array Value → State → Outcome → State → Prop := fun _ st oc t => (oc = .returned v ∧ fd_W E S t) ∧ va_F (fd_A E) st t
def fd_Ct (l : Launch) (y : MethodName) (cc : ByteArray) (nL : Nat) (ret : Option FieldType) (rm : Room) (E : fd_E) (S : fd_S) (av : List Value) (v : Option Value) (S' : fd_S) : Prop :=
  Met l y (Cond.code y cc nL ret :: fd_T) rm (va_Pc av (fun U => fd_W E S U ∧ fd_Z E U U.heap)) (fd_Q E v S') 0 0 (fd_A E)
abbrev fd_rm (f n : Nat) : Room := { frames := f, cells := 0, slots := 0, locals := n }
theorem fd_Ct_of {l : Launch} {y : MethodName} {cc : ByteArray} {nL : Nat} {ret : Option FieldType} {rm : Room} {E : fd_E} {S S' : fd_S} {av : List Value} {v : Option Value} (hy : plainName y.cls = true) (hn : (lg_sl av).length ≤ nL)
    (body : ∀ (p : Program) (e : Env) (s : State) (m : MethodId) (below : List Frame) (meth : Method) (c : Code) (ls : Array Slot), fd_C p s m av.toArray c y.cls cc nL E → meth.sig.returnType = ret → meth.locks = false → fd_H E S s s.heap [] → lv_has ls nL (lv_args 0 av) →
      W p l e rm s m av.toArray below meth c s.heap [] 0 0 (MQ below (fd_Q E v S') av.toArray s 0 0 (fd_A E)) (F0 m 0 ls [])) : fd_Ct l y cc nL ret rm E S av v S' := by
  refine Met.ofW (cc := cc) (maxL := nL) (ret := ret) hy rfl ?_
  intro p e s m args below meth c s₁ B hml hv
  obtain ⟨rfl, ⟨hP, hD, hK, hh⟩, hZ⟩ := hv
  have hts := atoms_spec (ws := Cond.code y cc nL ret :: fd_T) B.pre
  rw [lg_entry_eq]
  exact body p e s m below meth c _ ⟨B.exec, B.bytes, hml, findClass_of_methodNamed B.named, fun w hw => hts w (List.mem_cons_of_mem _ hw), hK, hZ⟩ B.returns B.notSynchronized ⟨hP, hD, va_S.rf, hh⟩ (lv_entry av hn)
theorem fd_blind {E : fd_E} {S : fd_S} {av : List Value} : FrameBlind (va_Pc av (fun U => fd_W E S U ∧ fd_Z E U U.heap)) := by
  intro a U g mk h
  obtain ⟨h1, ⟨hP, hD, hK, hh⟩, hZ⟩ := h
  exact ⟨h1, ⟨hP, hD, va_K.moved (u := U) (U := U.calling g mk a) (Vm.Alike.refl U.vm) hK, hh⟩, hZ.calling⟩
theorem fd_pre {E : fd_E} {S : fd_S} {av : List Value} {s : State} {H : Heap} {locs : List Loc} (hK : va_K E.1 fd_CL (fd_ty E) s) (hZ : fd_Z E s s.heap) (hH : fd_H E S s H locs) : ∀ U : State, U.heap = H → s.WarmedH U.vm → va_Pc av (fun U => fd_W E S U ∧ fd_Z E U U.heap) av.toArray U :=
  fun U hU hW => ⟨rfl, ⟨by rw [hU]; exact hH.1, hH.2.1, va_K.moved hW.alike hK, hH.2.2.2⟩, hZ.go hW hU hH.2.2.1⟩
/-- the classes, and that their fields' words are among the tables' -/
def fd_cq : Nat → vw_C
  | 0 => (RX0, TX0, 1) | 1 => (RX1, TX1, 4) | 2 => (RX2, TX2, 3) | 3 => (RX3, TX3, 7) | 4 => (RX4, TX4, 11) | 5 => (RX5, TX5, 2) | 6 => (RX6, TX6, 5) | _ => (RX7, TX7, 9)
theorem fd_CL_at {ci : Nat} (h : ci < 8) : fd_CL[ci]? = some (fd_cq ci) := by
  match ci, h with
  | 0, _ => rfl
  | 1, _ => rfl
  | 2, _ => rfl
  | 3, _ => rfl
  | 4, _ => rfl
  | 5, _ => rfl
  | 6, _ => rfl
  | 7, _ => rfl
theorem fd_in0 : ∀ w ∈ u_ws RX0 TX0 1, w ∈ fd_T := by decide +kernel
theorem fd_in1 : ∀ w ∈ u_ws RX1 TX1 4, w ∈ fd_T := by decide +kernel
theorem fd_in2 : ∀ w ∈ u_ws RX2 TX2 3, w ∈ fd_T := by decide +kernel
theorem fd_in3 : ∀ w ∈ u_ws RX3 TX3 7, w ∈ fd_T := by decide +kernel
theorem fd_in4 : ∀ w ∈ u_ws RX4 TX4 11, w ∈ fd_T := by decide +kernel
theorem fd_in5 : ∀ w ∈ u_ws RX5 TX5 2, w ∈ fd_T := by decide +kernel
theorem fd_in6 : ∀ w ∈ u_ws RX6 TX6 5, w ∈ fd_T := by decide +kernel
theorem fd_in7 : ∀ w ∈ u_ws RX7 TX7 9, w ∈ fd_T := by decide +kernel
theorem fd_inc {ci : Nat} (h : ci < 8) : ∀ w ∈ u_ws (fd_cq ci).1 (fd_cq ci).2.1 (fd_cq ci).2.2, w ∈ fd_T := by
  match ci, h with
  | 0, _ => exact fd_in0
  | 1, _ => exact fd_in1
  | 2, _ => exact fd_in2
  | 3, _ => exact fd_in3
  | 4, _ => exact fd_in4
  | 5, _ => exact fd_in5
  | 6, _ => exact fd_in6
  | 7, _ => exact fd_in7
def fd_fty : Nat → Nat → FieldType
  | 0 => tyX0 | 1 => tyX1 | 2 => tyX2 | 3 => tyX3 | 4 => tyX4 | 5 => tyX5 | 6 => tyX6 | _ => tyX7
theorem fd_fty_ok {ci : Nat} (h : ci < 8) : ∀ k, k < (fd_cq ci).2.2 → parseFieldDescriptor ((fd_cq ci).2.1 k).2.2.1 = some (fd_fty ci k) := by
  match ci, h with
  | 0, _ => exact tyX0_ok
  | 1, _ => exact tyX1_ok
  | 2, _ => exact tyX2_ok
  | 3, _ => exact tyX3_ok
  | 4, _ => exact tyX4_ok
  | 5, _ => exact tyX5_ok
  | 6, _ => exact tyX6_ok
  | 7, _ => exact tyX7_ok
theorem fd_fnm {ci : Nat} (h : ci < 8) : ∀ a, a < (fd_cq ci).2.2 → ∀ b, b < (fd_cq ci).2.2 → a ≠ b → ((fd_cq ci).2.1 a).2.1 ≠ ((fd_cq ci).2.1 b).2.1 := by
  match ci, h with
  | 0, _ => exact nmX0
  | 1, _ => exact nmX1
  | 2, _ => exact nmX2
  | 3, _ => exact nmX3
  | 4, _ => exact nmX4
  | 5, _ => exact nmX5
  | 6, _ => exact nmX6
  | 7, _ => exact nmX7
end
section
theorem fd_h_put {S : fd_S} {k ci j : Nat} {v : Int32} (h : fd_h S) (hkd : fd_kd k = ci) (hj : j < (fd_cq ci).2.2) (hn : narrow (fd_fty ci j) (.int v) = .int v) : fd_h (fd_up S k (nI j) v) := by
  by_cases h3 : ci = 3
  · subst h3
    by_cases j3 : j = 3
    · subst j3
      have e : narrow .boolean (.int v) = .int v := hn
      have e2 : v &&& 1 = v := by
        have := e
        simp only [narrow, Value.int.injEq] at this
        exact this
      exact fd_h_up h (Or.inr (Or.inr (fd_and1 e2)))
    · refine fd_h_up h (Or.inr (Or.inl (fun z => j3 ?_)))
      have hj7 : j < 7 := hj
      exact (nI_eq (by omega) (by omega)).mp (show nI j = nI 3 from z)
  · exact fd_h_up h (Or.inl (by rw [hkd]; exact h3))
section FD
variable {p : Program} {l : Launch} {e : Env} {R : Room} {s : State} {m : MethodId} {args : Array Value} {below : List Frame} {meth : Method} {c : Code} {H : Heap} {locs : List Loc} {cells slots : Nat} {Q : State → Prop}
variable {cc : ByteArray} {pc : Nat} {ls : Array Slot} {rest : List Value} {own : String} {nL : Nat} {E : fd_E} {S : fd_S}
theorem fd_get (k ci j : Nat) (C : fd_C p s m args c own cc nL E) (hH : fd_H E S s H locs) (hk : k < 82) (hkd : fd_kd k = ci) (h8 : ci < 8) (hj : j < (fd_cq ci).2.2) {index : Nat} (hl : Cond.fieldLink own index ((fd_cq ci).2.1 j).1 ((fd_cq ci).2.1 j).2.1 ((fd_cq ci).2.1 j).2.2.1 ∈ fd_T) {v : Value} (hv : (fd_fs E S k ci)[j]? = some v) (hdg : decode cc pc = .ok (.getfield index, 3))
    (kk : W p l e R s m args below meth c H locs cells slots Q (F0 m (pc + 3) ls (v :: rest))) : W p l e R s m args below meth c H locs cells slots Q (F0 m pc ls (.ref (E.2.2 k) :: rest)) := by
  obtain ⟨hx, hb, -, hown, hts, hK, -⟩ := C
  exact va_get (C := (fd_cq ci).1) (T := (fd_cq ci).2.1) (N := (fd_cq ci).2.2) hx hb hts (fd_inc h8) hown hK hH.1 k (fd_ws_o E S hk hkd h8) (fd_CL_at h8) j hj (hts _ hl) (fun _ h => h) hv hdg kk
theorem fd_put (k ci j : Nat) (jj : Int32) (C : fd_C p s m args c own cc nL E) (hH : fd_H E S s H locs) (hk : k < 82) (hkd : fd_kd k = ci) (h8 : ci < 8) (hj : j < (fd_cq ci).2.2) {index : Nat} (hl : Cond.fieldLink own index ((fd_cq ci).2.1 j).1 ((fd_cq ci).2.1 j).2.1 ((fd_cq ci).2.1 j).2.2.1 ∈ fd_T) (hI : fd_isI ci j = true) (hfin : ((fd_cq ci).2.1 j).2.2.2 = false) {v : Int32} (hn : narrow (fd_fty ci j) (.int v) = .int v) (hfit : fits (fd_fty ci j) (.int v) = true) (hjj : nI j = jj) (hln : j < (fd_fs E S k ci).length) (hdg : decode cc pc = .ok (.putfield index, 3))
    (kk : ∀ (H1 : Heap) (locs1 : List Loc), fd_H E (fd_up S k jj v) s H1 locs1 → W p l e R s m args below meth c H1 locs1 cells slots Q (F0 m (pc + 3) ls rest)) : W p l e R s m args below meth c H locs cells slots Q (F0 m pc ls (.int v :: .ref (E.2.2 k) :: rest)) := by
  obtain ⟨hx, hb, -, hown, hts, hK, -⟩ := C
  subst hjj
  refine va_put (C := (fd_cq ci).1) (T := (fd_cq ci).2.1) (N := (fd_cq ci).2.2) hx hb hts (fd_inc h8) (fd_fty ci) (fd_fty_ok h8) (fd_fnm h8) hown hK hH.1 hH.2.1 hH.2.2.1 k (fd_ws_o E S hk hkd h8) (fd_CL_at h8) j hj (hts _ hl) (fun _ h => h) hfin (fd_fty_ok h8 j hj) hn hfit hln hdg (fun H1 locs1 hP hD hS => ?_)
  have e1 : (fd_ws E S).set k (E.2.2 k, .inr (ci, (fd_fs E S k ci).set j (.int v))) = fd_ws E (fd_up S k (nI j) v) := by
    refine fd_ws_set hk (fun a ha => fd_up_ne ha) ?_
    rw [fd_fs_set E S k v ci j hI]
    unfold fd_ce fd_ceK
    rw [hkd, if_neg (by omega), if_neg (by omega), if_neg (by omega)]
  rw [e1] at hP hD
  exact kk H1 locs1 ⟨hP, hD, hS, fd_h_put hH.2.2.2 hkd hj hn⟩
theorem fd_ws_i (E : fd_E) (S : fd_S) {k : Nat} (hk : k < 82) (hc : fd_kd k = 8) : (fd_ws E S)[k]? = some (E.2.2 k, .inl (E.2.1 0, fd_ln k, .inl (fun n => S k (fd_ix n)))) := by
  rw [fd_ws_at E S hk hc]
  rfl
theorem fd_ws_z (E : fd_E) (S : fd_S) {k : Nat} (hk : k < 82) (hc : fd_kd k = 9) : (fd_ws E S)[k]? = some (E.2.2 k, .inl (E.2.1 1, fd_ln k, .inl (fun n => S k (fd_ix n)))) := by
  rw [fd_ws_at E S hk hc]
  rfl
theorem fd_ws_r (E : fd_E) (S : fd_S) {k : Nat} (hk : k < 82) (hc : fd_kd k = 10) : (fd_ws E S)[k]? = some (E.2.2 k, .inl (E.2.1 2, fd_ln k, .inr (.inr (.inr (.inr (fun n => some (E.2.2 (fd_rc k (S k (fd_ix n)))))))))) := by
  rw [fd_ws_at E S hk hc]
  rfl
theorem fd_iald (k : Nat) (n : Int32) (C : fd_C p s m args c own cc nL E) (hH : fd_H E S s H locs) (hk : k < 82) (hkd : fd_kd k = 8) (hn : nI (fd_ln k) = n) {i : Int32} (hi : 0 ≤ i ∧ i < n) (hdg : decode cc pc = .ok (.iaload, 1))
    (kk : W p l e R s m args below meth c H locs cells slots Q (F0 m (pc + 1) ls (.int (S k i) :: rest))) : W p l e R s m args below meth c H locs cells slots Q (F0 m pc ls (.int i :: .ref (E.2.2 k) :: rest)) := by
  obtain ⟨hx, hb, -, hown, hts, hK, -⟩ := C
  subst hn
  refine va_iald hx hb hK hH.1 k 0 (fd_ws_i E S hk hkd) rfl (fd_in (fd_ln_lt k) hi) hdg ?_
  rw [fd_ix_of hi.1]
  exact kk
theorem fd_zald (k : Nat) (n : Int32) (C : fd_C p s m args c own cc nL E) (hH : fd_H E S s H locs) (hk : k < 82) (hkd : fd_kd k = 9) (hn : nI (fd_ln k) = n) {i : Int32} (hi : 0 ≤ i ∧ i < n) (hdg : decode cc pc = .ok (.baload, 1))
    (kk : W p l e R s m args below meth c H locs cells slots Q (F0 m (pc + 1) ls (.int (S k i) :: rest))) : W p l e R s m args below meth c H locs cells slots Q (F0 m pc ls (.int i :: .ref (E.2.2 k) :: rest)) := by
  obtain ⟨hx, hb, -, hown, hts, hK, -⟩ := C
  subst hn
  refine va_zald hx hb hK hH.1 k 1 (fd_ws_z E S hk hkd) rfl (fd_in (fd_ln_lt k) hi) hdg ?_
  rw [fd_ix_of hi.1]
  exact kk
theorem fd_aald (k : Nat) (n : Int32) (C : fd_C p s m args c own cc nL E) (hH : fd_H E S s H locs) (hk : k < 82) (hkd : fd_kd k = 10) (hn : nI (fd_ln k) = n) {i : Int32} (hi : 0 ≤ i ∧ i < n) (hdg : decode cc pc = .ok (.aaload, 1))
    (kk : W p l e R s m args below meth c H locs cells slots Q (F0 m (pc + 1) ls (.ref (E.2.2 (fd_rc k (S k i))) :: rest))) : W p l e R s m args below meth c H locs cells slots Q (F0 m pc ls (.int i :: .ref (E.2.2 k) :: rest)) := by
  obtain ⟨hx, hb, -, hown, hts, hK, -⟩ := C
  subst hn
  refine va_aldq hx hb hK hH.1 k 2 (fd_ws_r E S hk hkd) rfl (fd_in (fd_ln_lt k) hi) hdg ?_
  dsimp only [va_rf]
  rw [fd_ix_of hi.1]
  exact kk
theorem fd_iast (k : Nat) (n : Int32) (C : fd_C p s m args c own cc nL E) (hH : fd_H E S s H locs) (hk : k < 82) (hkd : fd_kd k = 8) (hn : nI (fd_ln k) = n) {i x : Int32} (hi : 0 ≤ i ∧ i < n) (hdg : decode cc pc = .ok (.iastore, 1))
    (kk : ∀ (H1 : Heap) (locs1 : List Loc), fd_H E (fd_up S k i x) s H1 locs1 → W p l e R s m args below meth c H1 locs1 cells slots Q (F0 m (pc + 1) ls rest)) : W p l e R s m args below meth c H locs cells slots Q (F0 m pc ls (.int x :: .int i :: .ref (E.2.2 k) :: rest)) := by
  obtain ⟨hx, hb, -, hown, hts, hK, -⟩ := C
  subst hn
  refine va_iast hx hb hK hH.1 hH.2.1 hH.2.2.1 k 0 (fd_ws_i E S hk hkd) rfl (fd_in (fd_ln_lt k) hi) hdg (fun H1 locs1 hP hD hS => ?_)
  rw [fd_upd S k x hi.1] at hP hD
  have e1 : (fd_ws E S).set k (E.2.2 k, .inl (E.2.1 0, fd_ln k, .inl (fun n => fd_up S k i x k (fd_ix n)))) = fd_ws E (fd_up S k i x) := by
    refine fd_ws_set hk (fun a ha => fd_up_ne ha) ?_
    unfold fd_ce fd_ceK
    rw [hkd]
    rfl
  rw [e1] at hP hD
  exact kk H1 locs1 ⟨hP, hD, hS, fd_h_up hH.2.2.2 (Or.inl (by rw [hkd]; decide))⟩
theorem fd_zast (k : Nat) (n : Int32) (C : fd_C p s m args c own cc nL E) (hH : fd_H E S s H locs) (hk : k < 82) (hkd : fd_kd k = 9) (hn : nI (fd_ln k) = n) {i x : Int32} (hi : 0 ≤ i ∧ i < n) (hz : vp_nar .boolean x = x) (hdg : decode cc pc = .ok (.bastore, 1))
    (kk : ∀ (H1 : Heap) (locs1 : List Loc), fd_H E (fd_up S k i x) s H1 locs1 → W p l e R s m args below meth c H1 locs1 cells slots Q (F0 m (pc + 1) ls rest)) : W p l e R s m args below meth c H locs cells slots Q (F0 m pc ls (.int x :: .int i :: .ref (E.2.2 k) :: rest)) := by
  obtain ⟨hx, hb, -, hown, hts, hK, -⟩ := C
  subst hn
  refine va_zast hx hb hK hH.1 hH.2.1 hH.2.2.1 k 1 (fd_ws_z E S hk hkd) rfl (fd_in (fd_ln_lt k) hi) hdg (fun H1 locs1 hP hD hS => ?_)
  rw [hz, fd_upd S k x hi.1] at hP hD
  have e1 : (fd_ws E S).set k (E.2.2 k, .inl (E.2.1 1, fd_ln k, .inl (fun n => fd_up S k i x k (fd_ix n)))) = fd_ws E (fd_up S k i x) := by
    refine fd_ws_set hk (fun a ha => fd_up_ne ha) ?_
    unfold fd_ce fd_ceK
    rw [hkd]
    rfl
  rw [e1] at hP hD
  exact kk H1 locs1 ⟨hP, hD, hS, fd_h_up hH.2.2.2 (Or.inl (by rw [hkd]; decide))⟩
/-- a row of a RecordList takes a record of the same State -/
theorem fd_aast (k : Nat) (n : Int32) (C : fd_C p s m args c own cc nL E) (hH : fd_H E S s H locs) (hk : k < 82) (hkd : fd_kd k = 10) (hn : nI (fd_ln k) = n) {i : Int32} {q : Nat} (hi : 0 ≤ i ∧ i < n) (hq : 23 * (k / 23) + 8 ≤ q ∧ q < 23 * (k / 23) + 14) (hq3 : fd_kd q = 3) (hq82 : q < 82) (hdg : decode cc pc = .ok (.aastore, 1))
    (kk : ∀ (H1 : Heap) (locs1 : List Loc), fd_H E (fd_up S k i (nI (q - (23 * (k / 23) + 8)))) s H1 locs1 → W p l e R s m args below meth c H1 locs1 cells slots Q (F0 m (pc + 1) ls rest)) : W p l e R s m args below meth c H locs cells slots Q (F0 m pc ls (.ref (E.2.2 q) :: .int i :: .ref (E.2.2 k) :: rest)) := by
  obtain ⟨hx, hb, -, hown, hts, hK, -⟩ := C
  subst hn
  refine va_astq hx hb hK hH.1 hH.2.1 hH.2.2.1 k 2 q 3 (r := fd_cq 3) (fd_ws_r E S hk hkd) rfl (fd_ws_o E S hq82 hq3 (by omega)) (fd_CL_at (by omega)) (fd_in (fd_ln_lt k) hi) hdg (fun H1 locs1 hP hD hS => ?_)
  have e1 : (fd_ws E S).set k (E.2.2 k, .inl (E.2.1 2, fd_ln k, .inr (.inr (.inr (.inr (va_up (fun n => some (E.2.2 (fd_rc k (S k (fd_ix n))))) i.toNatClampNeg (some (E.2.2 q)))))))) = fd_ws E (fd_up S k i (nI (q - (23 * (k / 23) + 8)))) := by
    refine fd_ws_set hk (fun a ha => fd_up_ne ha) ?_
    have e2 : va_up (fun n => some (E.2.2 (fd_rc k (S k (fd_ix n))))) i.toNatClampNeg (some (E.2.2 q)) = fun n => some (E.2.2 (fd_rc k (fd_up S k i (nI (q - (23 * (k / 23) + 8))) k (fd_ix n)))) := by
      funext n
      unfold va_up fd_up
      rw [if_pos rfl]
      by_cases hn : n = i.toNatClampNeg
      · rw [if_pos hn, if_pos ((fd_ix_eq hi.1).mpr hn)]
        unfold fd_rc
        rw [nI_clamp (by omega)]
        rw [show 23 * (k / 23) + 8 + (q - (23 * (k / 23) + 8)) = q by omega]
      · rw [if_neg hn, if_neg (fun q => hn ((fd_ix_eq hi.1).mp q))]
    rw [e2]
    unfold fd_ce fd_ceK
    rw [hkd]
    rfl
  rw [e1] at hP hD
  exact kk H1 locs1 ⟨hP, hD, hS, fd_h_up hH.2.2.2 (Or.inl (by rw [hkd]; decide))⟩
theorem fd_alen (k : Nat) (n : Int32) (C : fd_C p s m args c own cc nL E) (hH : fd_H E S s H locs) (hk : k < 82) (hkd : fd_kd k = 8) (hn : nI (fd_ln k) = n) (hdg : decode cc pc = .ok (.arraylength, 1))
    (kk : W p l e R s m args below meth c H locs cells slots Q (F0 m (pc + 1) ls (.int n :: rest))) : W p l e R s m args below meth c H locs cells slots Q (F0 m pc ls (.ref (E.2.2 k) :: rest)) := by
  obtain ⟨hx, hb, -, hown, hts, hK, -⟩ := C
  exact va_alen hx hb hK hH.1 k 0 (fd_ws_i E S hk hkd) rfl hn hdg kk
/-- System.arraycopy of ints: n places of cell k from sp on, to cell k' from dp on -/
def fd_cp (S : fd_S) (k k' : Nat) (sp dp n : Int32) : fd_S := fun a b => if a = k' then (if dp ≤ b ∧ b < dp + n then S k (sp + (b - dp)) else S a b) else S a b
theorem fd_cpy (S : fd_S) (k k' sp dp n : Nat) (h1 : sp + n < 2 ^ 30) (h2 : dp + n < 2 ^ 30) : va_cpy (fun n => S k (fd_ix n)) (fun n => S k' (fd_ix n)) sp dp n = fun j => fd_cp S k k' (nI sp) (nI dp) (nI n) k' (fd_ix j) := by
  funext j
  show (if dp ≤ j ∧ j < dp + n then S k (fd_ix (sp + (j - dp))) else S k' (fd_ix j)) = _
  unfold fd_cp
  rw [if_pos rfl]
  by_cases hj : j < 2147483648
  · have hjx : fd_ix j = nI j := by unfold fd_ix; rw [if_pos hj]
    by_cases hc : dp ≤ j ∧ j < dp + n
    · rw [if_pos hc, hjx, if_pos ⟨nI_le hc.1 (by omega), by rw [nI_add]; exact nI_lt hc.2 (by omega)⟩, pk_sub hc.1, nI_add]
      unfold fd_ix
      rw [if_pos (by omega)]
    · rw [if_neg hc, hjx, if_neg]
      rintro ⟨a, b⟩
      rw [nI_add] at b
      exact hc ⟨(nI_leI (by omega) (by omega)).mp a, (nI_ltI (by omega) (by omega)).mp b⟩
  · have hjx : fd_ix j = -1 := by unfold fd_ix; rw [if_neg hj]
    rw [if_neg (by omega), hjx, if_neg]
    rintro ⟨a, b⟩
    have h3 := Int32.le_iff_toInt_le.mp a
    rw [nI_toInt (by omega)] at h3
    have h4 : ((-1 : Int32).toInt) = -1 := by decide
    omega
theorem fd_copy (k k' sp dp n : Nat) (spI dpI nI' : Int32) (C : fd_C p s m args c own cc nL E) (hsz : ls.size = nL) (hH : fd_H E S s H locs) (hk : k < 82) (hkd : fd_kd k = 8) (hk' : k' < 82) (hkd' : fd_kd k' = 8) (e1 : nI sp = spI) (e2 : nI dp = dpI) (e3 : nI n = nI') (h4 : sp + n ≤ fd_ln k) (h5 : dp + n ≤ fd_ln k') (hs : fd_ln k < 1000 ∧ fd_ln k' < 1000)
    {index : Nat} (hl : Cond.methodLink own index arraycopyName ∈ fd_T) (hw : Cond.native arraycopyName ∈ fd_T ∧ Cond.static arraycopyName ∈ fd_T ∧ Cond.initialized "java/lang/System" ∈ fd_T) (hframes : 1 ≤ R.frames) (hlocals : (rest.map fun v => v.category).sum + (nativeFrameWords "java/lang/System" "arraycopy" 5 + 11) ≤ R.locals) (hdg : decode cc pc = .ok (.invokestatic index, 3))
    (kk : ∀ (H1 : Heap) (locs1 : List Loc), fd_H E (fd_cp S k k' spI dpI nI') s H1 locs1 → W p l e R s m args below meth c H1 locs1 cells slots Q (F0 m (pc + 3) ls rest)) : W p l e R s m args below meth c H locs cells slots Q (F0 m pc ls (.int nI' :: .int dpI :: .ref (E.2.2 k') :: .int spI :: .ref (E.2.2 k) :: rest)) := by
  obtain ⟨hx, hb, hml, hown, hts, hK, -⟩ := C
  subst e1 e2 e3
  have c1 : (nI sp).toNatClampNeg = sp := nI_clamp (by omega)
  have c2 : (nI dp).toNatClampNeg = dp := nI_clamp (by omega)
  have c3 : (nI n).toNatClampNeg = n := nI_clamp (by omega)
  refine va_copyi hx hb (hml.trans hsz.symm) hown (hts _ hl) (hts _ hw.1) (hts _ hw.2.1) (hts _ hw.2.2) hK hH.1 hH.2.1 hH.2.2.1 k k' 0 0 (ty := .int) (fd_ws_i E S hk hkd) (fd_ws_i E S hk' hkd') rfl rfl rfl (nI_pos (by omega)) (nI_pos (by omega)) (nI_pos (by omega)) (by rw [c1, c3]; exact h4) (by rw [c2, c3]; exact h5) (fun _ _ => rfl) hframes hlocals hdg (fun H1 locs1 hP hD hS => ?_)
  rw [c1, c2, c3, fd_cpy S k k' sp dp n (by omega) (by omega)] at hP hD
  have e1 : (fd_ws E S).set k' (E.2.2 k', .inl (E.2.1 0, fd_ln k', .inl (fun j => fd_cp S k k' (nI sp) (nI dp) (nI n) k' (fd_ix j)))) = fd_ws E (fd_cp S k k' (nI sp) (nI dp) (nI n)) := by
    refine fd_ws_set hk' (fun a ha => by funext b; simp [fd_cp, ha]) ?_
    unfold fd_ce fd_ceK
    rw [hkd']
    rfl
  rw [e1] at hP hD
  exact kk H1 locs1 ⟨hP, hD, hS, fun a ha => by have := hH.2.2.2 a ha; have e : a ≠ k' := (fun z => by rw [z, hkd'] at ha; cases ha); unfold fd_cp; rw [if_neg e]; exact this⟩
/-! static tables -/
theorem fd_tin {i n : Int32} {N : Nat} (hN : N < 2 ^ 31) (hn : nI N = n) (h : 0 ≤ i ∧ i < n) : vp_in i N := by
  subst hn
  exact fd_in hN h
theorem fd_gets (n : String) (q : Nat) (C : fd_C p s m args c own cc nL E) (hH : fd_H E S s H locs) (hz : va_Z "FlapDamper" n "[I" (.ref (E.2.2 q)) (fd_A E) s s.heap) {index : Nat} (hl : Cond.fieldLink own index "FlapDamper" n "[I" ∈ fd_T) (hdg : decode cc pc = .ok (.getstatic index, 3))
    (kk : W p l e R s m args below meth c H locs cells slots Q (F0 m (pc + 3) ls (.ref (E.2.2 q) :: rest))) : W p l e R s m args below meth c H locs cells slots Q (F0 m pc ls rest) := by
  obtain ⟨hx, hb, hml, hown, hts, hK, -⟩ := C
  exact va_gets hx hb hz hH.2.2.1 hown (hts _ hl) (fun _ h => h) hdg kk
theorem fd_getsRow (C : fd_C p s m args c "FlapDamper$Bounds" cc nL E) (hH : fd_H E S s H locs) (hdg : decode cc pc = .ok (.getstatic 23, 3))
    (kk : W p l e R s m args below meth c H locs cells slots Q (F0 m (pc + 3) ls (.ref (E.2.2 102) :: rest))) : W p l e R s m args below meth c H locs cells slots Q (F0 m pc ls rest) := by
  obtain ⟨hx, hb, hml, hown, hts, hK, hZ⟩ := C
  exact va_getsN hx hb hZ.2.2.2.1.1 hH.2.2.1 hown (va_Nw.use rfl hZ.1.2.2.2) (fun _ h => h) hdg kk
theorem fd_tld (t : Nat) (N : Nat) (n : Int32) (tl : List Int32) (C : fd_C p s m args c own cc nL E) (hH : fd_H E S s H locs) (hT : va_T .int (E.2.2 t) N (fun j => .int (tl.getD j 0)) (fd_A E) s s.heap) (hN : N < 2 ^ 31) (hn : nI N = n) {i : Int32} (hi : 0 ≤ i ∧ i < n) (hdg : decode cc pc = .ok (.iaload, 1))
    (kk : W p l e R s m args below meth c H locs cells slots Q (F0 m (pc + 1) ls (.int (fd_tl tl i) :: rest))) : W p l e R s m args below meth c H locs cells slots Q (F0 m pc ls (.int i :: .ref (E.2.2 t) :: rest)) := by
  obtain ⟨hx, hb, hml, hown, hts, hK, hZ⟩ := C
  exact va_ti hx hb hT hH.2.2.1 (fd_tin hN hn hi) rfl hdg kk
theorem fd_tln (t : Nat) (N : Nat) (n : Int32) (tl : List Int32) (C : fd_C p s m args c own cc nL E) (hH : fd_H E S s H locs) (hT : va_T .int (E.2.2 t) N (fun j => .int (tl.getD j 0)) (fd_A E) s s.heap) (hn : nI N = n) (hdg : decode cc pc = .ok (.arraylength, 1))
    (kk : W p l e R s m args below meth c H locs cells slots Q (F0 m (pc + 1) ls (.int n :: rest))) : W p l e R s m args below meth c H locs cells slots Q (F0 m pc ls (.ref (E.2.2 t) :: rest)) := by
  obtain ⟨hx, hb, hml, hown, hts, hK, hZ⟩ := C
  exact va_tlen hx hb hT hH.2.2.1 hn hdg kk
/-! returns -/
variable {v : Option Value}
theorem fd_iret (C : fd_C p s m args c own cc nL E) (hr : meth.sig.returnType = some .int) (hlk : meth.locks = false) (hH : fd_H E S s H locs) {x : Int32} (hdg : decode cc pc = .ok (.ireturn, 1)) : W p l e R s m args below meth c H locs 0 0 (MQ below (fd_Q E (some (.int x)) S) args s 0 0 (fd_A E)) (F0 m pc ls [.int x]) := by
  obtain ⟨hx, hb, hml, hown, hts, hK, hZ⟩ := C
  exact W.iret hx hb hr (fun t ht hW => ⟨⟨rfl, by rw [ht]; exact hH.1, hH.2.1, va_K.moved hW.alike hK, hH.2.2.2⟩, hH.2.2.1.F ht⟩) hH.2.2.1.2.2 hdg hlk
theorem fd_zret (ty : FieldType) (C : fd_C p s m args c own cc nL E) (hr : meth.sig.returnType = some ty) (hlk : meth.locks = false) (hH : fd_H E S s H locs) {x : Int32} (hn : narrow ty (.int x) = .int x) (hdg : decode cc pc = .ok (.ireturn, 1)) : W p l e R s m args below meth c H locs 0 0 (MQ below (fd_Q E (some (.int x)) S) args s 0 0 (fd_A E)) (F0 m pc ls [.int x]) := by
  obtain ⟨hx, hb, hml, hown, hts, hK, hZ⟩ := C
  exact W.zret hx hb hr hn (fun t ht hW => ⟨⟨rfl, by rw [ht]; exact hH.1, hH.2.1, va_K.moved hW.alike hK, hH.2.2.2⟩, hH.2.2.1.F ht⟩) hH.2.2.1.2.2 hdg hlk
theorem fd_vret (C : fd_C p s m args c own cc nL E) (hr : meth.sig.returnType = none) (hlk : meth.locks = false) (hH : fd_H E S s H locs) (hdg : decode cc pc = .ok (.return_, 1)) : W p l e R s m args below meth c H locs 0 0 (MQ below (fd_Q E none S) args s 0 0 (fd_A E)) (F0 m pc ls []) := by
  obtain ⟨hx, hb, hml, hown, hts, hK, hZ⟩ := C
  exact W.vret hx hb hr (fun t ht hW => ⟨⟨rfl, by rw [ht]; exact hH.1, hH.2.1, va_K.moved hW.alike hK, hH.2.2.2⟩, hH.2.2.1.F ht⟩) hH.2.2.1.2.2 hdg hlk
theorem fd_aret (n : String) (C : fd_C p s m args c own cc nL E) (hr : meth.sig.returnType = some (.object n)) (hlk : meth.locks = false) (hH : fd_H E S s H locs) {x : Value} (hv : x = .null ∨ ∃ a, x = .ref a) (hdg : decode cc pc = .ok (.areturn, 1)) : W p l e R s m args below meth c H locs 0 0 (MQ below (fd_Q E (some x) S) args s 0 0 (fd_A E)) (F0 m pc ls [x]) := by
  obtain ⟨hx, hb, hml, hown, hts, hK, hZ⟩ := C
  exact W.aret hx hb hr (Or.inl ⟨_, rfl⟩) hv (fun t ht hW => ⟨⟨rfl, by rw [ht]; exact hH.1, hH.2.1, va_K.moved hW.alike hK, hH.2.2.2⟩, hH.2.2.1.F ht⟩) hH.2.2.1.2.2 hdg hlk
end FD
end
section
/-! ===== calls: the callee's contract over the whole world ===== -/
theorem fd_good {ws : List Cond} (h : ∀ w ∈ ws, w ∈ fd_T) : GoodIn fd_T ws := fun w hw => ⟨h w hw, good_of_word (List.mem_filter.mp (h w hw)).2⟩
def fd_wd (y : MethodName) (n : Nat) : Prop := y.cls ≠ "java/lang/invoke/MethodHandle" ∧ y.cls ≠ "java/lang/invoke/VarHandle" ∧ (parseMethodDescriptor y.desc).map (fun d => d.parameters.length) = some n
def fd_wV (own : String) (index : Nat) (y : MethodName) (bytes : ByteArray) (maxL : Nat) (ret : Option FieldType) (n : Nat) : Prop :=
  fd_wd y n ∧ Cond.methodLink own index y ∈ fd_T ∧ Cond.instanceMethod y ∈ fd_T ∧ Cond.selects y.cls y y ∈ fd_T ∧ Cond.initialized y.cls ∈ fd_T ∧ Cond.code y bytes maxL ret ∈ fd_T
def fd_wS (own : String) (index : Nat) (y : MethodName) (bytes : ByteArray) (maxL : Nat) (ret : Option FieldType) (n : Nat) : Prop :=
  fd_wd y n ∧ Cond.methodLink own index y ∈ fd_T ∧ Cond.static y ∈ fd_T ∧ Cond.initialized y.cls ∈ fd_T ∧ Cond.code y bytes maxL ret ∈ fd_T
def fd_wN (y : MethodName) (bytes : ByteArray) (maxL : Nat) (ret : Option FieldType) (n : Nat) : Prop :=
  fd_wd y n ∧ Cond.static y ∈ fd_T ∧ Cond.initialized y.cls ∈ fd_T ∧ Cond.code y bytes maxL ret ∈ fd_T
section FDC
variable {p : Program} {l : Launch} {e : Env} {R : Room} {s : State} {m : MethodId} {args : Array Value} {below : List Frame} {meth : Method} {c : Code} {H : Heap} {locs : List Loc} {cells slots : Nat} {Q : State → Prop}
variable {cc : ByteArray} {pc : Nat} {ls : Array Slot} {rest st0 : List Value} {own : String} {nL : Nat} {E : fd_E} {S S' : fd_S} {v : Option Value} {a : Array Value}
theorem fd_after (hr : va_Run p l e R s m args below meth c H locs cells slots 0 0 (F0 m pc ls st0) rest (fd_Q E v S' a) (fd_A E)) (hH : fd_H E S s H locs)
    (kk : ∀ (H1 : Heap) (locs1 : List Loc), fd_H E S' s H1 locs1 → W p l e R s m args below meth c H1 locs1 cells slots Q (F0 m (pc + 3) ls (v.toList ++ rest))) : W p l e R s m args below meth c H locs cells slots Q (F0 m pc ls st0) := by
  intro T hT X
  obtain ⟨v', st₀, t, T', L, h0, X', hL, e1, e2, ⟨⟨hv, hP, hD, hK', hh⟩, hz, hk⟩, st⟩ := hr T hT X
  cases hv
  rw [h0] at hz hk
  obtain ⟨-, -, hS, -⟩ := hH
  obtain ⟨t2, a1, b1⟩ := kk T'.heap (locs ++ L) ⟨by rw [e1]; exact hP, hD, ⟨Nat.le_trans hS.1 (by rw [e1]; exact hz), fun q h1 h2 => by rw [e1, hk q (Nat.lt_of_lt_of_le h1 hS.1) h2]; exact hS.2.1 q h1 h2, fun q hq => by
      rcases List.mem_append.mp hq with h | h
      · exact hS.2.2 q h
      · exact hL q h⟩, hh⟩ T' rfl X'
  exact ⟨t2, st t2 a1, b1⟩
variable {y : MethodName} {bytes : ByteArray} {maxL n index : Nat} {ret : Option FieldType} {rm' : Room} {As : List Value}
theorem fd_callR (As : List Value) {b : Nat} (C : fd_C p s m args c own cc nL E) (hsz : ls.size = nL) (hH : fd_H E S s H locs) (hM : fd_Ct l y bytes maxL ret rm' E S (.ref b :: As) v S') (hw : fd_wV own index y bytes maxL ret n) (hrecv : ∃ cell : Cell, H[b]? = some cell ∧ cell.vm.isStatics = false ∧ s.vm.findClass y.cls = some cell.cls)
    (hR : rm'.cells = 0 ∧ rm'.slots = 0 ∧ rm'.frames + 1 ≤ R.frames ∧ 8 + (maxL + 11) + rm'.locals ≤ R.locals) (hn : As.length = n) (hst : st0 = As.reverse ++ .ref b :: rest) (hrm : (rest.map fun v => v.category).sum ≤ 8) (hf : cells ≤ R.cells ∧ slots ≤ R.slots) (hdg : decode cc pc = .ok (.invokevirtual index, 3))
    (kk : ∀ (H1 : Heap) (locs1 : List Loc), fd_H E S' s H1 locs1 → W p l e R s m args below meth c H1 locs1 cells slots Q (F0 m (pc + 3) ls (v.toList ++ rest))) : W p l e R s m args below meth c H locs cells slots Q (F0 m pc ls st0) := by
  obtain ⟨hx, hb, hml, hown, hts, hK, hZ⟩ := C
  obtain ⟨hd, w1, w2, w3, w4, w5⟩ := hw
  refine fd_after (va_runV (Ts := fd_T) (own := own) (C := y.cls) (As := As) (rest := rest) ⟨hx, hb, hml, hown, hts⟩ hM (cwV n hts (fd_good ?_) rfl hR.1 hR.2.1 ⟨rfl, hd⟩ ⟨hR.2.2.1, hR.2.2.2⟩) ⟨fd_blind, hrecv, fd_pre hK hZ hH⟩ rfl hn hsz hst (lv_room hrm) hdg hf) hH kk
  intro w hw
  rcases List.mem_append.mp hw with h | h
  · simp only [List.mem_cons, List.not_mem_nil, or_false] at h
    rcases h with rfl | rfl | rfl | rfl
    · exact w1
    · exact w2
    · exact w3
    · exact w4
  · rcases List.mem_cons.mp h with rfl | h
    · exact w5
    · exact h
theorem fd_callV (k ci : Nat) (As : List Value) (C : fd_C p s m args c own cc nL E) (hsz : ls.size = nL) (hH : fd_H E S s H locs) (hM : fd_Ct l y bytes maxL ret rm' E S (.ref (E.2.2 k) :: As) v S') (hw : fd_wV own index y bytes maxL ret n) (hk : k < 82) (hkd : fd_kd k = ci) (h8 : ci < 8) (hcls : (fd_cq ci).1 = y.cls)
    (hR : rm'.cells = 0 ∧ rm'.slots = 0 ∧ rm'.frames + 1 ≤ R.frames ∧ 8 + (maxL + 11) + rm'.locals ≤ R.locals) (hn : As.length = n) (hst : st0 = As.reverse ++ .ref (E.2.2 k) :: rest) (hrm : (rest.map fun v => v.category).sum ≤ 8) (hf : cells ≤ R.cells ∧ slots ≤ R.slots) (hdg : decode cc pc = .ok (.invokevirtual index, 3))
    (kk : ∀ (H1 : Heap) (locs1 : List Loc), fd_H E S' s H1 locs1 → W p l e R s m args below meth c H1 locs1 cells slots Q (F0 m (pc + 3) ls (v.toList ++ rest))) : W p l e R s m args below meth c H locs cells slots Q (F0 m pc ls st0) :=
  fd_callR As C hsz hH hM hw (by have := va_recv C.2.2.2.2.2.1 hH.1 (fd_CL_at h8) (fd_ws_o E S hk hkd h8); rwa [hcls] at this) hR hn hst hrm hf hdg kk
theorem fd_callS (As : List Value) (C : fd_C p s m args c own cc nL E) (hsz : ls.size = nL) (hH : fd_H E S s H locs) (hM : fd_Ct l y bytes maxL ret rm' E S As v S') (hw : fd_wS own index y bytes maxL ret n)
    (hR : rm'.cells = 0 ∧ rm'.slots = 0 ∧ rm'.frames + 1 ≤ R.frames ∧ 8 + (maxL + 11) + rm'.locals ≤ R.locals) (hn : As.length = n) (hst : st0 = As.reverse ++ rest) (hrm : (rest.map fun v => v.category).sum ≤ 8) (hf : cells ≤ R.cells ∧ slots ≤ R.slots) (hdg : decode cc pc = .ok (.invokestatic index, 3))
    (kk : ∀ (H1 : Heap) (locs1 : List Loc), fd_H E S' s H1 locs1 → W p l e R s m args below meth c H1 locs1 cells slots Q (F0 m (pc + 3) ls (v.toList ++ rest))) : W p l e R s m args below meth c H locs cells slots Q (F0 m pc ls st0) := by
  obtain ⟨hx, hb, hml, hown, hts, hK, hZ⟩ := C
  obtain ⟨hd, w1, w2, w4, w5⟩ := hw
  refine fd_after (va_runS (Ts := fd_T) (own := own) (As := As) (rest := rest) ⟨hx, hb, hml, hown, hts⟩ hM (va_cwS n hts (fd_good ?_) rfl hR.1 hR.2.1 hd ⟨hR.2.2.1, hR.2.2.2⟩) ⟨fd_blind, fd_pre hK hZ hH⟩ rfl hn hsz hst (lv_room hrm) hdg hf) hH kk
  intro w hw
  rcases List.mem_append.mp hw with h | h
  · simp only [List.mem_cons, List.not_mem_nil, or_false] at h
    rcases h with rfl | rfl | rfl
    · exact w1
    · exact w2
    · exact w4
  · rcases List.mem_cons.mp h with rfl | h
    · exact w5
    · exact h
theorem fd_callN (host : String) (As : List Value) (C : fd_C p s m args c own cc nL E) (hsz : ls.size = nL) (hH : fd_H E S s H locs) (hM : fd_Ct l y bytes maxL ret rm' E S As v S') (hw : fd_wN y bytes maxL ret n) (hnw : va_Nw (.methodLinkNest own index y host) s)
    (hR : rm'.cells = 0 ∧ rm'.slots = 0 ∧ rm'.frames + 1 ≤ R.frames ∧ 8 + (maxL + 11) + rm'.locals ≤ R.locals) (hn : As.length = n) (hst : st0 = As.reverse ++ rest) (hrm : (rest.map fun v => v.category).sum ≤ 8) (hf : cells ≤ R.cells ∧ slots ≤ R.slots) (hdg : decode cc pc = .ok (.invokestatic index, 3))
    (kk : ∀ (H1 : Heap) (locs1 : List Loc), fd_H E S' s H1 locs1 → W p l e R s m args below meth c H1 locs1 cells slots Q (F0 m (pc + 3) ls (v.toList ++ rest))) : W p l e R s m args below meth c H locs cells slots Q (F0 m pc ls st0) := by
  obtain ⟨hx, hb, hml, hown, hts, hK, hZ⟩ := C
  obtain ⟨hd, w2, w4, w5⟩ := hw
  refine fd_after (va_runSN (Ts := fd_T) (own := own) (host := host) (As := As) (rest := rest) ⟨hx, hb, hml, hown, hts⟩ hM ⟨va_cnB n hts (fd_good ?_) rfl hR.1 hR.2.1 hnw (hts _ w4) hd ⟨hR.2.2.1, hR.2.2.2⟩, hts _ w2, trivial⟩ ⟨fd_blind, fd_pre hK hZ hH⟩ rfl hn hsz hst (lv_room hrm) hdg hf) hH kk
  intro w hw
  rcases List.mem_cons.mp hw with rfl | h
  · exact w5
  · exact h
end FDC
/-! small helpers of the walks -/
theorem fd_bnd {α β : Type} {o : Option α} {f : α → Option β} {y : β} (h : o.bind f = some y) : ∃ r, o = some r ∧ f r = some y := by
  cases o with
  | none => cases h
  | some r => exact ⟨r, rfl, h⟩
theorem fd_grd {α : Type} {g : Prop} {dg : Decidable g} {x : Option α} {y : α} (h : (if g then x else none) = some y) : g ∧ x = some y := by
  by_cases hg : g
  · rw [if_pos hg] at h
    exact ⟨hg, h⟩
  · rw [if_neg hg] at h
    cases h
def fd_lt {α β : Type} (x : α) (f : α → β) : β := f x
theorem fd_ltE {α β : Type} {x : α} {f : α → Option β} {y : β} (h : fd_lt x f = some y) : ∃ r, r = x ∧ f r = some y := ⟨x, rfl, h⟩
end
section
theorem fd_ifp {α : Type} {g : Prop} {dg : Decidable g} {a b y : α} (c : g) (h : (if g then a else b) = y) : a = y := by rwa [if_pos c] at h
theorem fd_ifn {α : Type} {g : Prop} {dg : Decidable g} {a b y : α} (c : ¬ g) (h : (if g then a else b) = y) : b = y := by rwa [if_neg c] at h
theorem fd_ltN {α β : Type} {x x' : α} {f : α → β} {y : β} (e : x' = x) (h : fd_lt x f = y) : f x' = y := by
  subst e
  exact h
theorem fd_ltS {α β : Type} {x : α} {f : α → β} {y : β} (h : fd_lt x f = y) : ∃ r, r = x ∧ f r = y := ⟨x, rfl, h⟩
theorem fd_ne {x : Int32} (k : Int32) {z : Int} (hz : k.toInt = z) (h : ¬ x = k) : x.toInt ≠ z := fun q => h (Int32.toInt_inj.mp (q.trans hz.symm))
/-- a record that may be missing -/
def fd_rv (E : fd_E) (o : Option Nat) : Value := match o with
  | none => .null
  | some k => .ref (E.2.2 k)
def fd_on {β : Type} (o : Option Nat) (a : β) (f : Nat → β) : β := match o with
  | none => a
  | some k => f k
theorem fd_rv_or (E : fd_E) (o : Option Nat) : fd_rv E o = .null ∨ ∃ a, fd_rv E o = .ref a := by
  cases o with
  | none => exact Or.inl rfl
  | some k => exact Or.inr ⟨_, rfl⟩
def fd_rem (x y : Int32) : Int32 := x - x / y * y
def fd_max (x y : Int32) : Int32 := if x < y then y else x
def fd_min (x y : Int32) : Int32 := if y < x then y else x
/-- a record's cell -/
abbrev fd_rk (k : Nat) : Prop := k < 69 ∧ 8 ≤ k % 23 ∧ k % 23 < 14
theorem fd_rk_all : ∀ k, k < 69 → (8 ≤ k % 23 ∧ k % 23 < 14) → fd_kd k = 3 ∧ fd_kd (k + 6) = 8 ∧ fd_ln (k + 6) = 4 := by decide
theorem fd_rk1 {k : Nat} (h : fd_rk k) : k < 82 := Nat.lt_of_lt_of_le h.1 (by decide)
theorem fd_rk2 {k : Nat} (h : fd_rk k) : k + 6 < 82 := by have := h.1; omega
theorem fd_rk3 {k : Nat} (h : fd_rk k) : fd_kd k = 3 := (fd_rk_all k h.1 h.2).1
theorem fd_rk4 {k : Nat} (h : fd_rk k) : fd_kd (k + 6) = 8 := (fd_rk_all k h.1 h.2).2.1
theorem fd_rk5 {k : Nat} (h : fd_rk k) : nI (fd_ln (k + 6)) = 4 := by rw [(fd_rk_all k h.1 h.2).2.2]; rfl
theorem fd_rk6 {k : Nat} (h : fd_rk k) : fd_ln (k + 6) = 4 := (fd_rk_all k h.1 h.2).2.2
/-- a State's first cell -/
def fd_st (a : Nat) : Prop := a = 0 ∨ a = 23 ∨ a = 46
theorem fd_st1 {a : Nat} (h : fd_st a) (o : Nat) (ho : o < 23) : a + o < 82 := by rcases h with rfl | rfl | rfl <;> omega
theorem fd_st2_all : ∀ o, o < 23 → fd_kd (23 + o) = fd_kd o ∧ fd_kd (46 + o) = fd_kd o ∧ fd_ln (23 + o) = fd_ln o ∧ fd_ln (46 + o) = fd_ln o := by decide
theorem fd_st2 {a : Nat} (h : fd_st a) (o : Nat) (ho : o < 23) {ci : Nat} (hc : fd_kd o = ci) : fd_kd (a + o) = ci := by
  subst hc
  rcases h with rfl | rfl | rfl
  · rw [Nat.zero_add]
  · exact (fd_st2_all o ho).1
  · exact (fd_st2_all o ho).2.1
theorem fd_st3 {a : Nat} (h : fd_st a) (o : Nat) (ho : o < 23) {n : Nat} (hc : fd_ln o = n) : fd_ln (a + o) = n := by
  subst hc
  rcases h with rfl | rfl | rfl
  · rw [Nat.zero_add]
  · exact (fd_st2_all o ho).2.2.1
  · exact (fd_st2_all o ho).2.2.2
theorem fd_st4 {a : Nat} (h : fd_st a) (o : Nat) (ho : o < 23) {n : Int32} (hc : nI (fd_ln o) = n) : nI (fd_ln (a + o)) = n := by rw [fd_st3 h o ho rfl]; exact hc
section FDH
variable {p : Program} {l : Launch} {e : Env} {R : Room} {s : State} {m : MethodId} {args : Array Value} {below : List Frame} {meth : Method} {c : Code} {H : Heap} {locs : List Loc} {cells slots : Nat} {Q : State → Prop}
variable {cc : ByteArray} {pc : Nat} {ls : Array Slot} {rest st0 : List Value} {own : String} {nL : Nat} {E : fd_E} {S S' : fd_S}
theorem fd_irem (hx : p.tables.exec = Jvm.exec) (hb : c.code = cc) {x y : Int32} (hdg : decode cc pc = .ok (.irem, 1)) (hne : ¬ y = 0) (k : W p l e R s m args below meth c H locs cells slots Q (F0 m (pc + 1) ls (.int (fd_rem x y) :: rest))) : W p l e R s m args below meth c H locs cells slots Q (F0 m pc ls (.int y :: .int x :: rest)) := lv_irem hx hb hdg hne k
def fd_wM (y : MethodName) (bytes : ByteArray) : Prop := Cond.static y ∈ fd_T ∧ Cond.initialized "java/lang/Math" ∈ fd_T ∧ Cond.code y bytes 2 (some .int) ∈ fd_T
theorem fd_mmax (C : fd_C p s m args c own cc nL E) (hsz : ls.size = nL) {index : Nat} (hl : Cond.methodLink own index Lib.Math.max.name ∈ fd_T) (hw : fd_wM Lib.Math.max.name Lib.Math.max.code) (hframes : 1 ≤ R.frames) (hlocals : (rest.map fun v => v.category).sum + 13 ≤ R.locals) (hc : cells ≤ R.cells) (hs : slots ≤ R.slots) {x y : Int32} (hdg : decode cc pc = .ok (.invokestatic index, 3))
    (kk : W p l e R s m args below meth c H locs cells slots Q (F0 m (pc + 3) ls (.int (fd_max x y) :: rest))) : W p l e R s m args below meth c H locs cells slots Q (F0 m pc ls (.int y :: .int x :: rest)) := by
  obtain ⟨hx, hb, hml, hown, hts, hK, hZ⟩ := C
  exact va_mmax hx hb (hml.trans hsz.symm) hown (hts _ hl) (hts _ hw.1) (hts _ hw.2.1) (hts _ hw.2.2) hframes hlocals hc hs hdg kk
theorem fd_mmin (C : fd_C p s m args c own cc nL E) (hsz : ls.size = nL) {index : Nat} (hl : Cond.methodLink own index Lib.Math.min.name ∈ fd_T) (hw : fd_wM Lib.Math.min.name Lib.Math.min.code) (hframes : 1 ≤ R.frames) (hlocals : (rest.map fun v => v.category).sum + 13 ≤ R.locals) (hc : cells ≤ R.cells) (hs : slots ≤ R.slots) {x y : Int32} (hdg : decode cc pc = .ok (.invokestatic index, 3))
    (kk : W p l e R s m args below meth c H locs cells slots Q (F0 m (pc + 3) ls (.int (fd_min x y) :: rest))) : W p l e R s m args below meth c H locs cells slots Q (F0 m pc ls (.int y :: .int x :: rest)) := by
  obtain ⟨hx, hb, hml, hown, hts, hK, hZ⟩ := C
  exact va_mmin hx hb (hml.trans hsz.symm) hown (hts _ hl) (hts _ hw.1) (hts _ hw.2.1) (hts _ hw.2.2) hframes hlocals hc hs hdg kk
variable {y : MethodName} {bytes : ByteArray} {maxL n index : Nat} {ret : Option FieldType} {rm' : Room} {x : Value}
theorem fd_callV1 (k ci : Nat) (As : List Value) (C : fd_C p s m args c own cc nL E) (hsz : ls.size = nL) (hH : fd_H E S s H locs) (hM : fd_Ct l y bytes maxL ret rm' E S (.ref (E.2.2 k) :: As) (some x) S') (hw : fd_wV own index y bytes maxL ret n) (hk : k < 82) (hkd : fd_kd k = ci) (h8 : ci < 8) (hcls : (fd_cq ci).1 = y.cls)
    (hR : rm'.cells = 0 ∧ rm'.slots = 0 ∧ rm'.frames + 1 ≤ R.frames ∧ 8 + (maxL + 11) + rm'.locals ≤ R.locals) (hn : As.length = n) (hst : st0 = As.reverse ++ .ref (E.2.2 k) :: rest) (hrm : (rest.map fun v => v.category).sum ≤ 8) (hf : cells ≤ R.cells ∧ slots ≤ R.slots) (hdg : decode cc pc = .ok (.invokevirtual index, 3))
    (kk : ∀ (H1 : Heap) (locs1 : List Loc), fd_H E S' s H1 locs1 → W p l e R s m args below meth c H1 locs1 cells slots Q (F0 m (pc + 3) ls (x :: rest))) : W p l e R s m args below meth c H locs cells slots Q (F0 m pc ls st0) := fd_callV k ci As C hsz hH hM hw hk hkd h8 hcls hR hn hst hrm hf hdg kk
theorem fd_callV0 (k ci : Nat) (As : List Value) (C : fd_C p s m args c own cc nL E) (hsz : ls.size = nL) (hH : fd_H E S s H locs) (hM : fd_Ct l y bytes maxL ret rm' E S (.ref (E.2.2 k) :: As) none S') (hw : fd_wV own index y bytes maxL ret n) (hk : k < 82) (hkd : fd_kd k = ci) (h8 : ci < 8) (hcls : (fd_cq ci).1 = y.cls)
    (hR : rm'.cells = 0 ∧ rm'.slots = 0 ∧ rm'.frames + 1 ≤ R.frames ∧ 8 + (maxL + 11) + rm'.locals ≤ R.locals) (hn : As.length = n) (hst : st0 = As.reverse ++ .ref (E.2.2 k) :: rest) (hrm : (rest.map fun v => v.category).sum ≤ 8) (hf : cells ≤ R.cells ∧ slots ≤ R.slots) (hdg : decode cc pc = .ok (.invokevirtual index, 3))
    (kk : ∀ (H1 : Heap) (locs1 : List Loc), fd_H E S' s H1 locs1 → W p l e R s m args below meth c H1 locs1 cells slots Q (F0 m (pc + 3) ls rest)) : W p l e R s m args below meth c H locs cells slots Q (F0 m pc ls st0) := fd_callV k ci As C hsz hH hM hw hk hkd h8 hcls hR hn hst hrm hf hdg kk
theorem fd_callR1 (As : List Value) {b : Nat} (C : fd_C p s m args c own cc nL E) (hsz : ls.size = nL) (hH : fd_H E S s H locs) (hM : fd_Ct l y bytes maxL ret rm' E S (.ref b :: As) (some x) S') (hw : fd_wV own index y bytes maxL ret n) (hrecv : ∃ cell : Cell, H[b]? = some cell ∧ cell.vm.isStatics = false ∧ s.vm.findClass y.cls = some cell.cls)
    (hR : rm'.cells = 0 ∧ rm'.slots = 0 ∧ rm'.frames + 1 ≤ R.frames ∧ 8 + (maxL + 11) + rm'.locals ≤ R.locals) (hn : As.length = n) (hst : st0 = As.reverse ++ .ref b :: rest) (hrm : (rest.map fun v => v.category).sum ≤ 8) (hf : cells ≤ R.cells ∧ slots ≤ R.slots) (hdg : decode cc pc = .ok (.invokevirtual index, 3))
    (kk : ∀ (H1 : Heap) (locs1 : List Loc), fd_H E S' s H1 locs1 → W p l e R s m args below meth c H1 locs1 cells slots Q (F0 m (pc + 3) ls (x :: rest))) : W p l e R s m args below meth c H locs cells slots Q (F0 m pc ls st0) := fd_callR As C hsz hH hM hw hrecv hR hn hst hrm hf hdg kk
theorem fd_callS1 (As : List Value) (C : fd_C p s m args c own cc nL E) (hsz : ls.size = nL) (hH : fd_H E S s H locs) (hM : fd_Ct l y bytes maxL ret rm' E S As (some x) S') (hw : fd_wS own index y bytes maxL ret n)
    (hR : rm'.cells = 0 ∧ rm'.slots = 0 ∧ rm'.frames + 1 ≤ R.frames ∧ 8 + (maxL + 11) + rm'.locals ≤ R.locals) (hn : As.length = n) (hst : st0 = As.reverse ++ rest) (hrm : (rest.map fun v => v.category).sum ≤ 8) (hf : cells ≤ R.cells ∧ slots ≤ R.slots) (hdg : decode cc pc = .ok (.invokestatic index, 3))
    (kk : ∀ (H1 : Heap) (locs1 : List Loc), fd_H E S' s H1 locs1 → W p l e R s m args below meth c H1 locs1 cells slots Q (F0 m (pc + 3) ls (x :: rest))) : W p l e R s m args below meth c H locs cells slots Q (F0 m pc ls st0) := fd_callS As C hsz hH hM hw hR hn hst hrm hf hdg kk
theorem fd_callS0 (As : List Value) (C : fd_C p s m args c own cc nL E) (hsz : ls.size = nL) (hH : fd_H E S s H locs) (hM : fd_Ct l y bytes maxL ret rm' E S As none S') (hw : fd_wS own index y bytes maxL ret n)
    (hR : rm'.cells = 0 ∧ rm'.slots = 0 ∧ rm'.frames + 1 ≤ R.frames ∧ 8 + (maxL + 11) + rm'.locals ≤ R.locals) (hn : As.length = n) (hst : st0 = As.reverse ++ rest) (hrm : (rest.map fun v => v.category).sum ≤ 8) (hf : cells ≤ R.cells ∧ slots ≤ R.slots) (hdg : decode cc pc = .ok (.invokestatic index, 3))
    (kk : ∀ (H1 : Heap) (locs1 : List Loc), fd_H E S' s H1 locs1 → W p l e R s m args below meth c H1 locs1 cells slots Q (F0 m (pc + 3) ls rest)) : W p l e R s m args below meth c H locs cells slots Q (F0 m pc ls st0) := fd_callS As C hsz hH hM hw hR hn hst hrm hf hdg kk
theorem fd_callN1 (host : String) (As : List Value) (C : fd_C p s m args c own cc nL E) (hsz : ls.size = nL) (hH : fd_H E S s H locs) (hM : fd_Ct l y bytes maxL ret rm' E S As (some x) S') (hw : fd_wN y bytes maxL ret n) (hnw : va_Nw (.methodLinkNest own index y host) s)
    (hR : rm'.cells = 0 ∧ rm'.slots = 0 ∧ rm'.frames + 1 ≤ R.frames ∧ 8 + (maxL + 11) + rm'.locals ≤ R.locals) (hn : As.length = n) (hst : st0 = As.reverse ++ rest) (hrm : (rest.map fun v => v.category).sum ≤ 8) (hf : cells ≤ R.cells ∧ slots ≤ R.slots) (hdg : decode cc pc = .ok (.invokestatic index, 3))
    (kk : ∀ (H1 : Heap) (locs1 : List Loc), fd_H E S' s H1 locs1 → W p l e R s m args below meth c H1 locs1 cells slots Q (F0 m (pc + 3) ls (x :: rest))) : W p l e R s m args below meth c H locs cells slots Q (F0 m pc ls st0) := fd_callN host As C hsz hH hM hw hnw hR hn hst hrm hf hdg kk
end FDH
/-! strings by their numbers 0 to 6 -/
def fd_sl (i : Nat) : Int32 := nI (fd_slen.getD i 0)
def fd_sc (i : Nat) (j : Int32) : Int32 := (fd_sbyt.getD i []).getD j.toNatClampNeg 0
section FDT
variable {p : Program} {l : Launch} {e : Env} {R : Room} {s : State} {m : MethodId} {args : Array Value} {below : List Frame} {meth : Method} {c : Code} {H : Heap} {locs : List Loc} {cells slots : Nat} {Q : State → Prop}
variable {cc : ByteArray} {pc : Nat} {ls : Array Slot} {rest st0 : List Value} {own : String} {nL : Nat} {E : fd_E} {S S' : fd_S}
theorem fd_topr {x : Nat} (k : ∀ y : Nat, y = x → W p l e R s m args below meth c H locs cells slots Q (F0 m pc ls (.ref (E.2.2 y) :: rest))) : W p l e R s m args below meth c H locs cells slots Q (F0 m pc ls (.ref (E.2.2 x) :: rest)) := k x rfl
theorem fd_k8 : ∀ q, q < 14 → 8 ≤ q → fd_kd q = 3 := by decide
/-- the rows of the RecordList of now -/
theorem fd_aast0 (C : fd_C p s m args c own cc nL E) (hH : fd_H E S s H locs) {i : Int32} {q : Nat} (hi : 0 ≤ i ∧ i < 6) (hq : 8 ≤ q ∧ q < 14) (hdg : decode cc pc = .ok (.aastore, 1))
    (kk : ∀ (H1 : Heap) (locs1 : List Loc), fd_H E (fd_up S 4 i (nI (q - 8))) s H1 locs1 → W p l e R s m args below meth c H1 locs1 cells slots Q (F0 m (pc + 1) ls rest)) : W p l e R s m args below meth c H locs cells slots Q (F0 m pc ls (.ref (E.2.2 q) :: .int i :: .ref (E.2.2 4) :: rest)) :=
  fd_aast 4 6 C hH (by decide) rfl rfl hi hq (fd_k8 q hq.2 hq.1) (by omega) hdg kk
theorem fd_srecv {i : Nat} (hi : i < 7) (C : fd_C p s m args c own cc nL E) (hH : fd_H E S s H locs) : ∃ cell : Cell, H[E.2.2 (110 + i)]? = some cell ∧ cell.vm.isStatics = false ∧ s.vm.findClass "java/lang/String" = some cell.cls := by
  obtain ⟨hx, hb, hml, hown, hts, hK, hZ⟩ := C
  exact vk_recv (adK := fun i => E.2.2 (110 + i)) hZ.2.2.2.2.1.1 hi hH.2.2.1
theorem fd_ldcS (i : Nat) (hi : i < 7) {tx : Nat} (htx : 57 + 2 * i = tx) (C : fd_C p s m args c "FlapDamper$Text" cc nL E) (hdg : decode cc pc = .ok (.ldc tx, 2))
    (kk : W p l e R s m args below meth c H locs cells slots Q (F0 m (pc + 2) ls (.ref (E.2.2 (110 + i)) :: rest))) : W p l e R s m args below meth c H locs cells slots Q (F0 m pc ls rest) := by
  subst htx
  obtain ⟨hx, hb, hml, hown, hts, hK, hZ⟩ := C
  exact va_ldcS hx hb hown (hZ.2.2.2.2.1.2 i hi) hdg kk
end FDT
theorem fd_on_n {β : Type} {a y : β} {f : Nat → β} (h : fd_on none a f = y) : a = y := h
theorem fd_on_s {β : Type} {a y : β} {f : Nat → β} {k : Nat} (h : fd_on (some k) a f = y) : f k = y := h
def fd_pr {α β γ : Type} (q : α × β) (f : α → β → γ) : γ := f q.1 q.2
theorem fd_prE {α β γ : Type} {a : α} {b : β} {f : α → β → γ} {y : γ} (h : fd_pr (a, b) f = y) : f a b = y := h
theorem fd_nb {v : Int32} (h : v = 0 ∨ v = 1) : narrow .boolean (.int v) = .int v := by rcases h with rfl | rfl <;> rfl
theorem fd_fb {v : Int32} (h : v = 0 ∨ v = 1) : fits .boolean (.int v) = true := by rcases h with rfl | rfl <;> rfl
end
section
theorem wf_X7_30 : (Cond.fieldLink "FlapDamperModel" 30 "FlapDamperModel" "state" "[I") ∈ fd_T := (List.mem_filter.mpr ⟨List.mem_append_right _ (List.mem_of_getElem? (i := 588) (by decide +kernel)), by decide +kernel⟩)
theorem wm_X7_43 : fd_wS "FlapDamperModel" 43 yX7_in cX7_in 3 (some .boolean) 3 := ⟨⟨by decide +kernel, by decide +kernel, by decide +kernel⟩, (List.mem_filter.mpr ⟨List.mem_append_right _ (List.mem_of_getElem? (i := 616) (by decide +kernel)), by decide +kernel⟩), (List.mem_filter.mpr ⟨List.mem_append_right _ (List.mem_of_getElem? (i := 617) (by decide +kernel)), by decide +kernel⟩), (List.mem_filter.mpr ⟨List.mem_append_right _ (List.mem_of_getElem? (i := 9) (by decide +kernel)), by decide +kernel⟩), (List.mem_filter.mpr ⟨List.mem_append_right _ (List.mem_of_getElem? (i := 618) (by decide +kernel)), by decide +kernel⟩)⟩
theorem wf_X7_47 : (Cond.fieldLink "FlapDamperModel" 47 "FlapDamperModel" "signs" "I") ∈ fd_T := (List.mem_filter.mpr ⟨List.mem_append_right _ (List.mem_of_getElem? (i := 592) (by decide +kernel)), by decide +kernel⟩)
theorem wf_X7_40 : (Cond.fieldLink "FlapDamperModel" 40 "FlapDamperModel" "text" "[I") ∈ fd_T := (List.mem_filter.mpr ⟨List.mem_append_right _ (List.mem_of_getElem? (i := 591) (by decide +kernel)), by decide +kernel⟩)
theorem wm_X7_51 : fd_wS "FlapDamperModel" 51 yX7_size cX7_size 1 (some .int) 1 := ⟨⟨by decide +kernel, by decide +kernel, by decide +kernel⟩, (List.mem_filter.mpr ⟨List.mem_append_right _ (List.mem_of_getElem? (i := 635) (by decide +kernel)), by decide +kernel⟩), (List.mem_filter.mpr ⟨List.mem_append_right _ (List.mem_of_getElem? (i := 636) (by decide +kernel)), by decide +kernel⟩), (List.mem_filter.mpr ⟨List.mem_append_right _ (List.mem_of_getElem? (i := 9) (by decide +kernel)), by decide +kernel⟩), (List.mem_filter.mpr ⟨List.mem_append_right _ (List.mem_of_getElem? (i := 637) (by decide +kernel)), by decide +kernel⟩)⟩
theorem wm_X7_55 : fd_wS "FlapDamperModel" 55 yX7_isFigure cX7_isFigure 1 (some .boolean) 1 := ⟨⟨by decide +kernel, by decide +kernel, by decide +kernel⟩, (List.mem_filter.mpr ⟨List.mem_append_right _ (List.mem_of_getElem? (i := 638) (by decide +kernel)), by decide +kernel⟩), (List.mem_filter.mpr ⟨List.mem_append_right _ (List.mem_of_getElem? (i := 639) (by decide +kernel)), by decide +kernel⟩), (List.mem_filter.mpr ⟨List.mem_append_right _ (List.mem_of_getElem? (i := 9) (by decide +kernel)), by decide +kernel⟩), (List.mem_filter.mpr ⟨List.mem_append_right _ (List.mem_of_getElem? (i := 640) (by decide +kernel)), by decide +kernel⟩)⟩
theorem wf_X7_21 : (Cond.fieldLink "FlapDamperModel" 21 "FlapDamperModel" "names" "[I") ∈ fd_T := (List.mem_filter.mpr ⟨List.mem_append_right _ (List.mem_of_getElem? (i := 585) (by decide +kernel)), by decide +kernel⟩)
theorem wm_X7_59 : fd_wV "FlapDamperModel" 59 yX7_fitting cX7_fitting 4 (some .int) 1 := ⟨⟨by decide +kernel, by decide +kernel, by decide +kernel⟩, (List.mem_filter.mpr ⟨List.mem_append_right _ (List.mem_of_getElem? (i := 631) (by decide +kernel)), by decide +kernel⟩), (List.mem_filter.mpr ⟨List.mem_append_right _ (List.mem_of_getElem? (i := 633) (by decide +kernel)), by decide +kernel⟩), (List.mem_filter.mpr ⟨List.mem_append_left _ (List.mem_of_getElem? (i := 18) (by decide +kernel)), by decide +kernel⟩), (List.mem_filter.mpr ⟨List.mem_append_right _ (List.mem_of_getElem? (i := 9) (by decide +kernel)), by decide +kernel⟩), (List.mem_filter.mpr ⟨List.mem_append_right _ (List.mem_of_getElem? (i := 634) (by decide +kernel)), by decide +kernel⟩)⟩
theorem wm_X7_62 : fd_wV "FlapDamperModel" 62 yX7_told cX7_told 3 (some .int) 0 := ⟨⟨by decide +kernel, by decide +kernel, by decide +kernel⟩, (List.mem_filter.mpr ⟨List.mem_append_right _ (List.mem_of_getElem? (i := 641) (by decide +kernel)), by decide +kernel⟩), (List.mem_filter.mpr ⟨List.mem_append_right _ (List.mem_of_getElem? (i := 643) (by decide +kernel)), by decide +kernel⟩), (List.mem_filter.mpr ⟨List.mem_append_left _ (List.mem_of_getElem? (i := 19) (by decide +kernel)), by decide +kernel⟩), (List.mem_filter.mpr ⟨List.mem_append_right _ (List.mem_of_getElem? (i := 9) (by decide +kernel)), by decide +kernel⟩), (List.mem_filter.mpr ⟨List.mem_append_right _ (List.mem_of_getElem? (i := 644) (by decide +kernel)), by decide +kernel⟩)⟩
theorem wm_X7_66 : fd_wV "FlapDamperModel" 66 yX7_faultNow cX7_faultNow 3 (some .int) 0 := ⟨⟨by decide +kernel, by decide +kernel, by decide +kernel⟩, (List.mem_filter.mpr ⟨List.mem_append_right _ (List.mem_of_getElem? (i := 627) (by decide +kernel)), by decide +kernel⟩), (List.mem_filter.mpr ⟨List.mem_append_right _ (List.mem_of_getElem? (i := 629) (by decide +kernel)), by decide +kernel⟩), (List.mem_filter.mpr ⟨List.mem_append_left _ (List.mem_of_getElem? (i := 17) (by decide +kernel)), by decide +kernel⟩), (List.mem_filter.mpr ⟨List.mem_append_right _ (List.mem_of_getElem? (i := 9) (by decide +kernel)), by decide +kernel⟩), (List.mem_filter.mpr ⟨List.mem_append_right _ (List.mem_of_getElem? (i := 630) (by decide +kernel)), by decide +kernel⟩)⟩
theorem wf_X7_24 : (Cond.fieldLink "FlapDamperModel" 24 "FlapDamperModel" "lows" "[I") ∈ fd_T := (List.mem_filter.mpr ⟨List.mem_append_right _ (List.mem_of_getElem? (i := 586) (by decide +kernel)), by decide +kernel⟩)
theorem wf_X7_27 : (Cond.fieldLink "FlapDamperModel" 27 "FlapDamperModel" "highs" "[I") ∈ fd_T := (List.mem_filter.mpr ⟨List.mem_append_right _ (List.mem_of_getElem? (i := 587) (by decide +kernel)), by decide +kernel⟩)
theorem wm_X7_69 : fd_wV "FlapDamperModel" 69 yX7_bounded cX7_bounded 2 (some .int) 1 := ⟨⟨by decide +kernel, by decide +kernel, by decide +kernel⟩, (List.mem_filter.mpr ⟨List.mem_append_right _ (List.mem_of_getElem? (i := 649) (by decide +kernel)), by decide +kernel⟩), (List.mem_filter.mpr ⟨List.mem_append_right _ (List.mem_of_getElem? (i := 651) (by decide +kernel)), by decide +kernel⟩), (List.mem_filter.mpr ⟨List.mem_append_left _ (List.mem_of_getElem? (i := 20) (by decide +kernel)), by decide +kernel⟩), (List.mem_filter.mpr ⟨List.mem_append_right _ (List.mem_of_getElem? (i := 9) (by decide +kernel)), by decide +kernel⟩), (List.mem_filter.mpr ⟨List.mem_append_right _ (List.mem_of_getElem? (i := 652) (by decide +kernel)), by decide +kernel⟩)⟩
theorem wm_X7_72 : fd_wS "FlapDamperModel" 72 yX7_at cX7_at 2 (some .int) 2 := ⟨⟨by decide +kernel, by decide +kernel, by decide +kernel⟩, (List.mem_filter.mpr ⟨List.mem_append_right _ (List.mem_of_getElem? (i := 684) (by decide +kernel)), by decide +kernel⟩), (List.mem_filter.mpr ⟨List.mem_append_right _ (List.mem_of_getElem? (i := 685) (by decide +kernel)), by decide +kernel⟩), (List.mem_filter.mpr ⟨List.mem_append_right _ (List.mem_of_getElem? (i := 9) (by decide +kernel)), by decide +kernel⟩), (List.mem_filter.mpr ⟨List.mem_append_right _ (List.mem_of_getElem? (i := 686) (by decide +kernel)), by decide +kernel⟩)⟩
theorem wf_X7_15 : (Cond.fieldLink "FlapDamperModel" 15 "FlapDamperModel" "row" "[I") ∈ fd_T := (List.mem_filter.mpr ⟨List.mem_append_right _ (List.mem_of_getElem? (i := 584) (by decide +kernel)), by decide +kernel⟩)
theorem wc_X7_7 : (Cond.constant "FlapDamperModel" 7 65536) ∈ fd_T := (List.mem_filter.mpr ⟨List.mem_append_right _ (List.mem_of_getElem? (i := 576) (by decide +kernel)), by decide +kernel⟩)
theorem wm_X7_76 : fd_wV "FlapDamperModel" 76 yX7_lessened cX7_lessened 6 (some .int) 2 := ⟨⟨by decide +kernel, by decide +kernel, by decide +kernel⟩, (List.mem_filter.mpr ⟨List.mem_append_right _ (List.mem_of_getElem? (i := 707) (by decide +kernel)), by decide +kernel⟩), (List.mem_filter.mpr ⟨List.mem_append_right _ (List.mem_of_getElem? (i := 709) (by decide +kernel)), by decide +kernel⟩), (List.mem_filter.mpr ⟨List.mem_append_left _ (List.mem_of_getElem? (i := 31) (by decide +kernel)), by decide +kernel⟩), (List.mem_filter.mpr ⟨List.mem_append_right _ (List.mem_of_getElem? (i := 9) (by decide +kernel)), by decide +kernel⟩), (List.mem_filter.mpr ⟨List.mem_append_right _ (List.mem_of_getElem? (i := 710) (by decide +kernel)), by decide +kernel⟩)⟩
theorem wm_X7_79 : fd_wV "FlapDamperModel" 79 yX7_penaltyAt cX7_penaltyAt 3 (some .int) 2 := ⟨⟨by decide +kernel, by decide +kernel, by decide +kernel⟩, (List.mem_filter.mpr ⟨List.mem_append_right _ (List.mem_of_getElem? (i := 703) (by decide +kernel)), by decide +kernel⟩), (List.mem_filter.mpr ⟨List.mem_append_right _ (List.mem_of_getElem? (i := 705) (by decide +kernel)), by decide +kernel⟩), (List.mem_filter.mpr ⟨List.mem_append_left _ (List.mem_of_getElem? (i := 30) (by decide +kernel)), by decide +kernel⟩), (List.mem_filter.mpr ⟨List.mem_append_right _ (List.mem_of_getElem? (i := 9) (by decide +kernel)), by decide +kernel⟩), (List.mem_filter.mpr ⟨List.mem_append_right _ (List.mem_of_getElem? (i := 706) (by decide +kernel)), by decide +kernel⟩)⟩
theorem wm_X7_82 : fd_wV "FlapDamperModel" 82 yX7_recordOf cX7_recordOf 4 (some .int) 1 := ⟨⟨by decide +kernel, by decide +kernel, by decide +kernel⟩, (List.mem_filter.mpr ⟨List.mem_append_right _ (List.mem_of_getElem? (i := 680) (by decide +kernel)), by decide +kernel⟩), (List.mem_filter.mpr ⟨List.mem_append_right _ (List.mem_of_getElem? (i := 682) (by decide +kernel)), by decide +kernel⟩), (List.mem_filter.mpr ⟨List.mem_append_left _ (List.mem_of_getElem? (i := 25) (by decide +kernel)), by decide +kernel⟩), (List.mem_filter.mpr ⟨List.mem_append_right _ (List.mem_of_getElem? (i := 9) (by decide +kernel)), by decide +kernel⟩), (List.mem_filter.mpr ⟨List.mem_append_right _ (List.mem_of_getElem? (i := 683) (by decide +kernel)), by decide +kernel⟩)⟩
theorem wm_X7_88 : fd_wV "FlapDamperModel" 88 yX7_remove cX7_remove 3 none 1 := ⟨⟨by decide +kernel, by decide +kernel, by decide +kernel⟩, (List.mem_filter.mpr ⟨List.mem_append_right _ (List.mem_of_getElem? (i := 699) (by decide +kernel)), by decide +kernel⟩), (List.mem_filter.mpr ⟨List.mem_append_right _ (List.mem_of_getElem? (i := 701) (by decide +kernel)), by decide +kernel⟩), (List.mem_filter.mpr ⟨List.mem_append_left _ (List.mem_of_getElem? (i := 29) (by decide +kernel)), by decide +kernel⟩), (List.mem_filter.mpr ⟨List.mem_append_right _ (List.mem_of_getElem? (i := 9) (by decide +kernel)), by decide +kernel⟩), (List.mem_filter.mpr ⟨List.mem_append_right _ (List.mem_of_getElem? (i := 702) (by decide +kernel)), by decide +kernel⟩)⟩
theorem wm_X7_85 : fd_wV "FlapDamperModel" 85 yX7_isHeld cX7_isHeld 2 (some .boolean) 1 := ⟨⟨by decide +kernel, by decide +kernel, by decide +kernel⟩, (List.mem_filter.mpr ⟨List.mem_append_right _ (List.mem_of_getElem? (i := 695) (by decide +kernel)), by decide +kernel⟩), (List.mem_filter.mpr ⟨List.mem_append_right _ (List.mem_of_getElem? (i := 697) (by decide +kernel)), by decide +kernel⟩), (List.mem_filter.mpr ⟨List.mem_append_left _ (List.mem_of_getElem? (i := 28) (by decide +kernel)), by decide +kernel⟩), (List.mem_filter.mpr ⟨List.mem_append_right _ (List.mem_of_getElem? (i := 9) (by decide +kernel)), by decide +kernel⟩), (List.mem_filter.mpr ⟨List.mem_append_right _ (List.mem_of_getElem? (i := 698) (by decide +kernel)), by decide +kernel⟩)⟩
theorem wm_X7_92 : fd_wV "FlapDamperModel" 92 yX7_lineAt cX7_lineAt 3 (some .int) 2 := ⟨⟨by decide +kernel, by decide +kernel, by decide +kernel⟩, (List.mem_filter.mpr ⟨List.mem_append_right _ (List.mem_of_getElem? (i := 672) (by decide +kernel)), by decide +kernel⟩), (List.mem_filter.mpr ⟨List.mem_append_right _ (List.mem_of_getElem? (i := 674) (by decide +kernel)), by decide +kernel⟩), (List.mem_filter.mpr ⟨List.mem_append_left _ (List.mem_of_getElem? (i := 23) (by decide +kernel)), by decide +kernel⟩), (List.mem_filter.mpr ⟨List.mem_append_right _ (List.mem_of_getElem? (i := 9) (by decide +kernel)), by decide +kernel⟩), (List.mem_filter.mpr ⟨List.mem_append_right _ (List.mem_of_getElem? (i := 675) (by decide +kernel)), by decide +kernel⟩)⟩
theorem wm_X7_95 : fd_wV "FlapDamperModel" 95 yX7_write cX7_write 2 none 1 := ⟨⟨by decide +kernel, by decide +kernel, by decide +kernel⟩, (List.mem_filter.mpr ⟨List.mem_append_right _ (List.mem_of_getElem? (i := 668) (by decide +kernel)), by decide +kernel⟩), (List.mem_filter.mpr ⟨List.mem_append_right _ (List.mem_of_getElem? (i := 670) (by decide +kernel)), by decide +kernel⟩), (List.mem_filter.mpr ⟨List.mem_append_left _ (List.mem_of_getElem? (i := 22) (by decide +kernel)), by decide +kernel⟩), (List.mem_filter.mpr ⟨List.mem_append_right _ (List.mem_of_getElem? (i := 9) (by decide +kernel)), by decide +kernel⟩), (List.mem_filter.mpr ⟨List.mem_append_right _ (List.mem_of_getElem? (i := 671) (by decide +kernel)), by decide +kernel⟩)⟩
theorem wm_X7_102 : fd_wV "FlapDamperModel" 102 yX7_makeRecord cX7_makeRecord 4 (some .int) 1 := ⟨⟨by decide +kernel, by decide +kernel, by decide +kernel⟩, (List.mem_filter.mpr ⟨List.mem_append_right _ (List.mem_of_getElem? (i := 691) (by decide +kernel)), by decide +kernel⟩), (List.mem_filter.mpr ⟨List.mem_append_right _ (List.mem_of_getElem? (i := 693) (by decide +kernel)), by decide +kernel⟩), (List.mem_filter.mpr ⟨List.mem_append_left _ (List.mem_of_getElem? (i := 27) (by decide +kernel)), by decide +kernel⟩), (List.mem_filter.mpr ⟨List.mem_append_right _ (List.mem_of_getElem? (i := 9) (by decide +kernel)), by decide +kernel⟩), (List.mem_filter.mpr ⟨List.mem_append_right _ (List.mem_of_getElem? (i := 694) (by decide +kernel)), by decide +kernel⟩)⟩
theorem wm_X7_109 : fd_wV "FlapDamperModel" 109 yX7_writeNumber cX7_writeNumber 3 none 1 := ⟨⟨by decide +kernel, by decide +kernel, by decide +kernel⟩, (List.mem_filter.mpr ⟨List.mem_append_right _ (List.mem_of_getElem? (i := 715) (by decide +kernel)), by decide +kernel⟩), (List.mem_filter.mpr ⟨List.mem_append_right _ (List.mem_of_getElem? (i := 717) (by decide +kernel)), by decide +kernel⟩), (List.mem_filter.mpr ⟨List.mem_append_left _ (List.mem_of_getElem? (i := 33) (by decide +kernel)), by decide +kernel⟩), (List.mem_filter.mpr ⟨List.mem_append_right _ (List.mem_of_getElem? (i := 9) (by decide +kernel)), by decide +kernel⟩), (List.mem_filter.mpr ⟨List.mem_append_right _ (List.mem_of_getElem? (i := 718) (by decide +kernel)), by decide +kernel⟩)⟩
theorem wm_X7_112 : fd_wV "FlapDamperModel" 112 yX7_dueAfter cX7_dueAfter 6 (some .int) 2 := ⟨⟨by decide +kernel, by decide +kernel, by decide +kernel⟩, (List.mem_filter.mpr ⟨List.mem_append_right _ (List.mem_of_getElem? (i := 719) (by decide +kernel)), by decide +kernel⟩), (List.mem_filter.mpr ⟨List.mem_append_right _ (List.mem_of_getElem? (i := 721) (by decide +kernel)), by decide +kernel⟩), (List.mem_filter.mpr ⟨List.mem_append_left _ (List.mem_of_getElem? (i := 34) (by decide +kernel)), by decide +kernel⟩), (List.mem_filter.mpr ⟨List.mem_append_right _ (List.mem_of_getElem? (i := 9) (by decide +kernel)), by decide +kernel⟩), (List.mem_filter.mpr ⟨List.mem_append_right _ (List.mem_of_getElem? (i := 722) (by decide +kernel)), by decide +kernel⟩)⟩
theorem wm_X7_105 : fd_wV "FlapDamperModel" 105 yX7_addCause cX7_addCause 4 none 2 := ⟨⟨by decide +kernel, by decide +kernel, by decide +kernel⟩, (List.mem_filter.mpr ⟨List.mem_append_right _ (List.mem_of_getElem? (i := 711) (by decide +kernel)), by decide +kernel⟩), (List.mem_filter.mpr ⟨List.mem_append_right _ (List.mem_of_getElem? (i := 713) (by decide +kernel)), by decide +kernel⟩), (List.mem_filter.mpr ⟨List.mem_append_left _ (List.mem_of_getElem? (i := 32) (by decide +kernel)), by decide +kernel⟩), (List.mem_filter.mpr ⟨List.mem_append_right _ (List.mem_of_getElem? (i := 9) (by decide +kernel)), by decide +kernel⟩), (List.mem_filter.mpr ⟨List.mem_append_right _ (List.mem_of_getElem? (i := 714) (by decide +kernel)), by decide +kernel⟩)⟩
theorem wm_X7_98 : fd_wV "FlapDamperModel" 98 yX7_isCounted cX7_isCounted 5 (some .boolean) 2 := ⟨⟨by decide +kernel, by decide +kernel, by decide +kernel⟩, (List.mem_filter.mpr ⟨List.mem_append_right _ (List.mem_of_getElem? (i := 687) (by decide +kernel)), by decide +kernel⟩), (List.mem_filter.mpr ⟨List.mem_append_right _ (List.mem_of_getElem? (i := 689) (by decide +kernel)), by decide +kernel⟩), (List.mem_filter.mpr ⟨List.mem_append_left _ (List.mem_of_getElem? (i := 26) (by decide +kernel)), by decide +kernel⟩), (List.mem_filter.mpr ⟨List.mem_append_right _ (List.mem_of_getElem? (i := 9) (by decide +kernel)), by decide +kernel⟩), (List.mem_filter.mpr ⟨List.mem_append_right _ (List.mem_of_getElem? (i := 690) (by decide +kernel)), by decide +kernel⟩)⟩
theorem wm_X7_115 : fd_wS "FlapDamperModel" 115 yX7_isRoute cX7_isRoute 2 (some .boolean) 2 := ⟨⟨by decide +kernel, by decide +kernel, by decide +kernel⟩, (List.mem_filter.mpr ⟨List.mem_append_right _ (List.mem_of_getElem? (i := 661) (by decide +kernel)), by decide +kernel⟩), (List.mem_filter.mpr ⟨List.mem_append_right _ (List.mem_of_getElem? (i := 662) (by decide +kernel)), by decide +kernel⟩), (List.mem_filter.mpr ⟨List.mem_append_right _ (List.mem_of_getElem? (i := 9) (by decide +kernel)), by decide +kernel⟩), (List.mem_filter.mpr ⟨List.mem_append_right _ (List.mem_of_getElem? (i := 663) (by decide +kernel)), by decide +kernel⟩)⟩
theorem wm_X7_118 : fd_wV "FlapDamperModel" 118 yX7_beginLine cX7_beginLine 4 none 2 := ⟨⟨by decide +kernel, by decide +kernel, by decide +kernel⟩, (List.mem_filter.mpr ⟨List.mem_append_right _ (List.mem_of_getElem? (i := 664) (by decide +kernel)), by decide +kernel⟩), (List.mem_filter.mpr ⟨List.mem_append_right _ (List.mem_of_getElem? (i := 666) (by decide +kernel)), by decide +kernel⟩), (List.mem_filter.mpr ⟨List.mem_append_left _ (List.mem_of_getElem? (i := 21) (by decide +kernel)), by decide +kernel⟩), (List.mem_filter.mpr ⟨List.mem_append_right _ (List.mem_of_getElem? (i := 9) (by decide +kernel)), by decide +kernel⟩), (List.mem_filter.mpr ⟨List.mem_append_right _ (List.mem_of_getElem? (i := 667) (by decide +kernel)), by decide +kernel⟩)⟩
theorem wm_X7_121 : fd_wV "FlapDamperModel" 121 yX7_meet cX7_meet 6 (some .int) 3 := ⟨⟨by decide +kernel, by decide +kernel, by decide +kernel⟩, (List.mem_filter.mpr ⟨List.mem_append_right _ (List.mem_of_getElem? (i := 676) (by decide +kernel)), by decide +kernel⟩), (List.mem_filter.mpr ⟨List.mem_append_right _ (List.mem_of_getElem? (i := 678) (by decide +kernel)), by decide +kernel⟩), (List.mem_filter.mpr ⟨List.mem_append_left _ (List.mem_of_getElem? (i := 24) (by decide +kernel)), by decide +kernel⟩), (List.mem_filter.mpr ⟨List.mem_append_right _ (List.mem_of_getElem? (i := 9) (by decide +kernel)), by decide +kernel⟩), (List.mem_filter.mpr ⟨List.mem_append_right _ (List.mem_of_getElem? (i := 679) (by decide +kernel)), by decide +kernel⟩)⟩
theorem wm_X7_125 : fd_wV "FlapDamperModel" 125 yX7_lookAtBest cX7_lookAtBest 7 none 0 := ⟨⟨by decide +kernel, by decide +kernel, by decide +kernel⟩, (List.mem_filter.mpr ⟨List.mem_append_right _ (List.mem_of_getElem? (i := 723) (by decide +kernel)), by decide +kernel⟩), (List.mem_filter.mpr ⟨List.mem_append_right _ (List.mem_of_getElem? (i := 725) (by decide +kernel)), by decide +kernel⟩), (List.mem_filter.mpr ⟨List.mem_append_left _ (List.mem_of_getElem? (i := 35) (by decide +kernel)), by decide +kernel⟩), (List.mem_filter.mpr ⟨List.mem_append_right _ (List.mem_of_getElem? (i := 9) (by decide +kernel)), by decide +kernel⟩), (List.mem_filter.mpr ⟨List.mem_append_right _ (List.mem_of_getElem? (i := 726) (by decide +kernel)), by decide +kernel⟩)⟩
theorem wm_X7_131 : fd_wV "FlapDamperModel" 131 yX7_heldOnes cX7_heldOnes 3 (some .int) 0 := ⟨⟨by decide +kernel, by decide +kernel, by decide +kernel⟩, (List.mem_filter.mpr ⟨List.mem_append_right _ (List.mem_of_getElem? (i := 739) (by decide +kernel)), by decide +kernel⟩), (List.mem_filter.mpr ⟨List.mem_append_right _ (List.mem_of_getElem? (i := 741) (by decide +kernel)), by decide +kernel⟩), (List.mem_filter.mpr ⟨List.mem_append_left _ (List.mem_of_getElem? (i := 37) (by decide +kernel)), by decide +kernel⟩), (List.mem_filter.mpr ⟨List.mem_append_right _ (List.mem_of_getElem? (i := 9) (by decide +kernel)), by decide +kernel⟩), (List.mem_filter.mpr ⟨List.mem_append_right _ (List.mem_of_getElem? (i := 742) (by decide +kernel)), by decide +kernel⟩)⟩
theorem wm_X7_128 : fd_wV "FlapDamperModel" 128 yX7_lookAtRecords cX7_lookAtRecords 2 none 0 := ⟨⟨by decide +kernel, by decide +kernel, by decide +kernel⟩, (List.mem_filter.mpr ⟨List.mem_append_right _ (List.mem_of_getElem? (i := 735) (by decide +kernel)), by decide +kernel⟩), (List.mem_filter.mpr ⟨List.mem_append_right _ (List.mem_of_getElem? (i := 737) (by decide +kernel)), by decide +kernel⟩), (List.mem_filter.mpr ⟨List.mem_append_left _ (List.mem_of_getElem? (i := 36) (by decide +kernel)), by decide +kernel⟩), (List.mem_filter.mpr ⟨List.mem_append_right _ (List.mem_of_getElem? (i := 9) (by decide +kernel)), by decide +kernel⟩), (List.mem_filter.mpr ⟨List.mem_append_right _ (List.mem_of_getElem? (i := 738) (by decide +kernel)), by decide +kernel⟩)⟩
theorem wf_X7_36 : (Cond.fieldLink "FlapDamperModel" 36 "FlapDamperModel" "isKept" "[Z") ∈ fd_T := (List.mem_filter.mpr ⟨List.mem_append_right _ (List.mem_of_getElem? (i := 590) (by decide +kernel)), by decide +kernel⟩)
theorem wf_X7_33 : (Cond.fieldLink "FlapDamperModel" 33 "FlapDamperModel" "images" "[I") ∈ fd_T := (List.mem_filter.mpr ⟨List.mem_append_right _ (List.mem_of_getElem? (i := 589) (by decide +kernel)), by decide +kernel⟩)
theorem wm_X6_33 : fd_wS "FlapDamper" 33 yX6_isWithin cX6_isWithin 3 (some .boolean) 3 := ⟨⟨by decide +kernel, by decide +kernel, by decide +kernel⟩, (List.mem_filter.mpr ⟨List.mem_append_right _ (List.mem_of_getElem? (i := 208) (by decide +kernel)), by decide +kernel⟩), (List.mem_filter.mpr ⟨List.mem_append_right _ (List.mem_of_getElem? (i := 209) (by decide +kernel)), by decide +kernel⟩), (List.mem_filter.mpr ⟨List.mem_append_right _ (List.mem_of_getElem? (i := 1) (by decide +kernel)), by decide +kernel⟩), (List.mem_filter.mpr ⟨List.mem_append_right _ (List.mem_of_getElem? (i := 210) (by decide +kernel)), by decide +kernel⟩)⟩
theorem wf_X0_18 : (Cond.fieldLink "FlapDamper$Bounds" 18 "FlapDamper$Bounds" "values" "[I") ∈ fd_T := (List.mem_filter.mpr ⟨List.mem_append_right _ (List.mem_of_getElem? (i := 60) (by decide +kernel)), by decide +kernel⟩)
theorem wc_X0_26 : (Cond.constantLong "FlapDamper$Bounds" 26 65536) ∈ fd_T := (List.mem_filter.mpr ⟨List.mem_append_right _ (List.mem_of_getElem? (i := 394) (by decide +kernel)), by decide +kernel⟩)
theorem wl_X0_28 : (Cond.methodLink "FlapDamper$Bounds" 28 ⟨"java/lang/System", "arraycopy", "(Ljava/lang/Object;ILjava/lang/Object;II)V"⟩) ∈ fd_T := (List.mem_filter.mpr ⟨List.mem_append_right _ (List.mem_of_getElem? (i := 551) (by decide +kernel)), by decide +kernel⟩)
theorem wf_X3_15 : (Cond.fieldLink "FlapDamper$RouteRecord" 15 "FlapDamper$RouteRecord" "route" "I") ∈ fd_T := (List.mem_filter.mpr ⟨List.mem_append_right _ (List.mem_of_getElem? (i := 79) (by decide +kernel)), by decide +kernel⟩)
theorem wf_X3_19 : (Cond.fieldLink "FlapDamper$RouteRecord" 19 "FlapDamper$RouteRecord" "figure" "I") ∈ fd_T := (List.mem_filter.mpr ⟨List.mem_append_right _ (List.mem_of_getElem? (i := 83) (by decide +kernel)), by decide +kernel⟩)
theorem wf_X3_22 : (Cond.fieldLink "FlapDamper$RouteRecord" 22 "FlapDamper$RouteRecord" "told" "I") ∈ fd_T := (List.mem_filter.mpr ⟨List.mem_append_right _ (List.mem_of_getElem? (i := 85) (by decide +kernel)), by decide +kernel⟩)
theorem wf_X3_25 : (Cond.fieldLink "FlapDamper$RouteRecord" 25 "FlapDamper$RouteRecord" "held" "Z") ∈ fd_T := (List.mem_filter.mpr ⟨List.mem_append_right _ (List.mem_of_getElem? (i := 87) (by decide +kernel)), by decide +kernel⟩)
theorem wf_X3_29 : (Cond.fieldLink "FlapDamper$RouteRecord" 29 "FlapDamper$RouteRecord" "due" "I") ∈ fd_T := (List.mem_filter.mpr ⟨List.mem_append_right _ (List.mem_of_getElem? (i := 90) (by decide +kernel)), by decide +kernel⟩)
theorem wf_X3_32 : (Cond.fieldLink "FlapDamper$RouteRecord" 32 "FlapDamper$RouteRecord" "causeCount" "I") ∈ fd_T := (List.mem_filter.mpr ⟨List.mem_append_right _ (List.mem_of_getElem? (i := 93) (by decide +kernel)), by decide +kernel⟩)
theorem wf_X3_9 : (Cond.fieldLink "FlapDamper$RouteRecord" 9 "FlapDamper$RouteRecord" "causes" "[I") ∈ fd_T := (List.mem_filter.mpr ⟨List.mem_append_right _ (List.mem_of_getElem? (i := 92) (by decide +kernel)), by decide +kernel⟩)
theorem wl_X3_35 : (Cond.methodLink "FlapDamper$RouteRecord" 35 ⟨"java/lang/System", "arraycopy", "(Ljava/lang/Object;ILjava/lang/Object;II)V"⟩) ∈ fd_T := (List.mem_filter.mpr ⟨List.mem_append_right _ (List.mem_of_getElem? (i := 402) (by decide +kernel)), by decide +kernel⟩)
theorem wf_X2_18 : (Cond.fieldLink "FlapDamper$RecordList" 18 "FlapDamper$RecordList" "size" "I") ∈ fd_T := (List.mem_filter.mpr ⟨List.mem_append_right _ (List.mem_of_getElem? (i := 113) (by decide +kernel)), by decide +kernel⟩)
theorem wf_X2_11 : (Cond.fieldLink "FlapDamper$RecordList" 11 "FlapDamper$RecordList" "rows" "[LFlapDamper$RouteRecord;") ∈ fd_T := (List.mem_filter.mpr ⟨List.mem_append_right _ (List.mem_of_getElem? (i := 110) (by decide +kernel)), by decide +kernel⟩)
theorem wf_X2_22 : (Cond.fieldLink "FlapDamper$RecordList" 22 "FlapDamper$RouteRecord" "route" "I") ∈ fd_T := (List.mem_filter.mpr ⟨List.mem_append_right _ (List.mem_of_getElem? (i := 80) (by decide +kernel)), by decide +kernel⟩)
theorem wm_X2_41 : fd_wN yX6_isWithin cX6_isWithin 3 (some .boolean) 3 := ⟨⟨by decide +kernel, by decide +kernel, by decide +kernel⟩, (List.mem_filter.mpr ⟨List.mem_append_right _ (List.mem_of_getElem? (i := 209) (by decide +kernel)), by decide +kernel⟩), (List.mem_filter.mpr ⟨List.mem_append_right _ (List.mem_of_getElem? (i := 1) (by decide +kernel)), by decide +kernel⟩), (List.mem_filter.mpr ⟨List.mem_append_right _ (List.mem_of_getElem? (i := 210) (by decide +kernel)), by decide +kernel⟩)⟩
theorem wf_X2_45 : (Cond.fieldLink "FlapDamper$RecordList" 45 "FlapDamper$RecordList" "dropped" "I") ∈ fd_T := (List.mem_filter.mpr ⟨List.mem_append_right _ (List.mem_of_getElem? (i := 116) (by decide +kernel)), by decide +kernel⟩)
theorem wf_X2_33 : (Cond.fieldLink "FlapDamper$RecordList" 33 "FlapDamper$RouteRecord" "held" "Z") ∈ fd_T := (List.mem_filter.mpr ⟨List.mem_append_right _ (List.mem_of_getElem? (i := 88) (by decide +kernel)), by decide +kernel⟩)
theorem wm_X2_37 : fd_wV "FlapDamper$RecordList" 37 yX2_drop cX2_drop 4 none 1 := ⟨⟨by decide +kernel, by decide +kernel, by decide +kernel⟩, (List.mem_filter.mpr ⟨List.mem_append_right _ (List.mem_of_getElem? (i := 371) (by decide +kernel)), by decide +kernel⟩), (List.mem_filter.mpr ⟨List.mem_append_right _ (List.mem_of_getElem? (i := 372) (by decide +kernel)), by decide +kernel⟩), (List.mem_filter.mpr ⟨List.mem_append_right _ (List.mem_of_getElem? (i := 373) (by decide +kernel)), by decide +kernel⟩), (List.mem_filter.mpr ⟨List.mem_append_right _ (List.mem_of_getElem? (i := 5) (by decide +kernel)), by decide +kernel⟩), (List.mem_filter.mpr ⟨List.mem_append_right _ (List.mem_of_getElem? (i := 374) (by decide +kernel)), by decide +kernel⟩)⟩
theorem wm_X2_29 : fd_wV "FlapDamper$RecordList" 29 yX3_begin cX3_begin 3 none 2 := ⟨⟨by decide +kernel, by decide +kernel, by decide +kernel⟩, (List.mem_filter.mpr ⟨List.mem_append_right _ (List.mem_of_getElem? (i := 376) (by decide +kernel)), by decide +kernel⟩), (List.mem_filter.mpr ⟨List.mem_append_right _ (List.mem_of_getElem? (i := 377) (by decide +kernel)), by decide +kernel⟩), (List.mem_filter.mpr ⟨List.mem_append_right _ (List.mem_of_getElem? (i := 378) (by decide +kernel)), by decide +kernel⟩), (List.mem_filter.mpr ⟨List.mem_append_right _ (List.mem_of_getElem? (i := 6) (by decide +kernel)), by decide +kernel⟩), (List.mem_filter.mpr ⟨List.mem_append_right _ (List.mem_of_getElem? (i := 379) (by decide +kernel)), by decide +kernel⟩)⟩
theorem wm_X2_25 : fd_wV "FlapDamper$RecordList" 25 yX2_dropFirstFree cX2_dropFirstFree 2 (some .boolean) 0 := ⟨⟨by decide +kernel, by decide +kernel, by decide +kernel⟩, (List.mem_filter.mpr ⟨List.mem_append_right _ (List.mem_of_getElem? (i := 367) (by decide +kernel)), by decide +kernel⟩), (List.mem_filter.mpr ⟨List.mem_append_right _ (List.mem_of_getElem? (i := 369) (by decide +kernel)), by decide +kernel⟩), (List.mem_filter.mpr ⟨List.mem_append_left _ (List.mem_of_getElem? (i := 5) (by decide +kernel)), by decide +kernel⟩), (List.mem_filter.mpr ⟨List.mem_append_right _ (List.mem_of_getElem? (i := 5) (by decide +kernel)), by decide +kernel⟩), (List.mem_filter.mpr ⟨List.mem_append_right _ (List.mem_of_getElem? (i := 370) (by decide +kernel)), by decide +kernel⟩)⟩
theorem wm_X2_48 : fd_wV "FlapDamper$RecordList" 48 yX3_copyFrom cX3_copyFrom 2 none 1 := ⟨⟨by decide +kernel, by decide +kernel, by decide +kernel⟩, (List.mem_filter.mpr ⟨List.mem_append_right _ (List.mem_of_getElem? (i := 556) (by decide +kernel)), by decide +kernel⟩), (List.mem_filter.mpr ⟨List.mem_append_right _ (List.mem_of_getElem? (i := 557) (by decide +kernel)), by decide +kernel⟩), (List.mem_filter.mpr ⟨List.mem_append_right _ (List.mem_of_getElem? (i := 558) (by decide +kernel)), by decide +kernel⟩), (List.mem_filter.mpr ⟨List.mem_append_right _ (List.mem_of_getElem? (i := 6) (by decide +kernel)), by decide +kernel⟩), (List.mem_filter.mpr ⟨List.mem_append_right _ (List.mem_of_getElem? (i := 559) (by decide +kernel)), by decide +kernel⟩)⟩
theorem wf_X1_15 : (Cond.fieldLink "FlapDamper$Lines" 15 "FlapDamper$Lines" "lengths" "[I") ∈ fd_T := (List.mem_filter.mpr ⟨List.mem_append_right _ (List.mem_of_getElem? (i := 132) (by decide +kernel)), by decide +kernel⟩)
theorem wf_X1_18 : (Cond.fieldLink "FlapDamper$Lines" 18 "FlapDamper$Lines" "newest" "I") ∈ fd_T := (List.mem_filter.mpr ⟨List.mem_append_right _ (List.mem_of_getElem? (i := 133) (by decide +kernel)), by decide +kernel⟩)
theorem wf_X1_9 : (Cond.fieldLink "FlapDamper$Lines" 9 "FlapDamper$Lines" "signs" "[I") ∈ fd_T := (List.mem_filter.mpr ⟨List.mem_append_right _ (List.mem_of_getElem? (i := 131) (by decide +kernel)), by decide +kernel⟩)
theorem wm_X1_25 : fd_wV "FlapDamper$Lines" 25 yX1_put cX1_put 3 none 1 := ⟨⟨by decide +kernel, by decide +kernel, by decide +kernel⟩, (List.mem_filter.mpr ⟨List.mem_append_right _ (List.mem_of_getElem? (i := 422) (by decide +kernel)), by decide +kernel⟩), (List.mem_filter.mpr ⟨List.mem_append_right _ (List.mem_of_getElem? (i := 423) (by decide +kernel)), by decide +kernel⟩), (List.mem_filter.mpr ⟨List.mem_append_right _ (List.mem_of_getElem? (i := 424) (by decide +kernel)), by decide +kernel⟩), (List.mem_filter.mpr ⟨List.mem_append_right _ (List.mem_of_getElem? (i := 7) (by decide +kernel)), by decide +kernel⟩), (List.mem_filter.mpr ⟨List.mem_append_right _ (List.mem_of_getElem? (i := 425) (by decide +kernel)), by decide +kernel⟩)⟩
theorem wf_X1_22 : (Cond.fieldLink "FlapDamper$Lines" 22 "FlapDamper$Lines" "written" "I") ∈ fd_T := (List.mem_filter.mpr ⟨List.mem_append_right _ (List.mem_of_getElem? (i := 134) (by decide +kernel)), by decide +kernel⟩)
theorem wm_X1_29 : fd_wV "FlapDamper$Lines" 29 yX1_putNumber cX1_putNumber 4 none 1 := ⟨⟨by decide +kernel, by decide +kernel, by decide +kernel⟩, (List.mem_filter.mpr ⟨List.mem_append_right _ (List.mem_of_getElem? (i := 426) (by decide +kernel)), by decide +kernel⟩), (List.mem_filter.mpr ⟨List.mem_append_right _ (List.mem_of_getElem? (i := 427) (by decide +kernel)), by decide +kernel⟩), (List.mem_filter.mpr ⟨List.mem_append_right _ (List.mem_of_getElem? (i := 428) (by decide +kernel)), by decide +kernel⟩), (List.mem_filter.mpr ⟨List.mem_append_right _ (List.mem_of_getElem? (i := 7) (by decide +kernel)), by decide +kernel⟩), (List.mem_filter.mpr ⟨List.mem_append_right _ (List.mem_of_getElem? (i := 429) (by decide +kernel)), by decide +kernel⟩)⟩
theorem wl_X1_32 : (Cond.methodLink "FlapDamper$Lines" 32 ⟨"java/lang/Math", "min", "(II)I"⟩) ∈ fd_T := (List.mem_filter.mpr ⟨List.mem_append_right _ (List.mem_of_getElem? (i := 520) (by decide +kernel)), by decide +kernel⟩)
theorem wm_X1_38 : fd_wN yX6_isWithin cX6_isWithin 3 (some .boolean) 3 := ⟨⟨by decide +kernel, by decide +kernel, by decide +kernel⟩, (List.mem_filter.mpr ⟨List.mem_append_right _ (List.mem_of_getElem? (i := 209) (by decide +kernel)), by decide +kernel⟩), (List.mem_filter.mpr ⟨List.mem_append_right _ (List.mem_of_getElem? (i := 1) (by decide +kernel)), by decide +kernel⟩), (List.mem_filter.mpr ⟨List.mem_append_right _ (List.mem_of_getElem? (i := 210) (by decide +kernel)), by decide +kernel⟩)⟩
theorem wl_X1_42 : (Cond.methodLink "FlapDamper$Lines" 42 ⟨"java/lang/System", "arraycopy", "(Ljava/lang/Object;ILjava/lang/Object;II)V"⟩) ∈ fd_T := (List.mem_filter.mpr ⟨List.mem_append_right _ (List.mem_of_getElem? (i := 564) (by decide +kernel)), by decide +kernel⟩)
theorem wf_X4_12 : (Cond.fieldLink "FlapDamper$State" 12 "FlapDamper$State" "bounds" "LFlapDamper$Bounds;") ∈ fd_T := (List.mem_filter.mpr ⟨List.mem_append_right _ (List.mem_of_getElem? (i := 148) (by decide +kernel)), by decide +kernel⟩)
theorem wf_X4_68 : (Cond.fieldLink "FlapDamper$State" 68 "FlapDamper$Bounds" "values" "[I") ∈ fd_T := (List.mem_filter.mpr ⟨List.mem_append_right _ (List.mem_of_getElem? (i := 61) (by decide +kernel)), by decide +kernel⟩)
theorem wf_X4_107 : (Cond.fieldLink "FlapDamper$State" 107 "FlapDamper$RouteRecord" "figure" "I") ∈ fd_T := (List.mem_filter.mpr ⟨List.mem_append_right _ (List.mem_of_getElem? (i := 84) (by decide +kernel)), by decide +kernel⟩)
theorem wf_X4_110 : (Cond.fieldLink "FlapDamper$State" 110 "FlapDamper$RouteRecord" "told" "I") ∈ fd_T := (List.mem_filter.mpr ⟨List.mem_append_right _ (List.mem_of_getElem? (i := 86) (by decide +kernel)), by decide +kernel⟩)
theorem wm_X4_136 : fd_wV "FlapDamper$State" 136 yX0_lessened cX0_lessened 8 (some .int) 2 := ⟨⟨by decide +kernel, by decide +kernel, by decide +kernel⟩, (List.mem_filter.mpr ⟨List.mem_append_right _ (List.mem_of_getElem? (i := 388) (by decide +kernel)), by decide +kernel⟩), (List.mem_filter.mpr ⟨List.mem_append_right _ (List.mem_of_getElem? (i := 389) (by decide +kernel)), by decide +kernel⟩), (List.mem_filter.mpr ⟨List.mem_append_right _ (List.mem_of_getElem? (i := 390) (by decide +kernel)), by decide +kernel⟩), (List.mem_filter.mpr ⟨List.mem_append_right _ (List.mem_of_getElem? (i := 4) (by decide +kernel)), by decide +kernel⟩), (List.mem_filter.mpr ⟨List.mem_append_right _ (List.mem_of_getElem? (i := 391) (by decide +kernel)), by decide +kernel⟩)⟩
theorem wl_X4_139 : (Cond.methodLink "FlapDamper$State" 139 ⟨"java/lang/Math", "max", "(II)I"⟩) ∈ fd_T := (List.mem_filter.mpr ⟨List.mem_append_right _ (List.mem_of_getElem? (i := 409) (by decide +kernel)), by decide +kernel⟩)
theorem wm_X4_142 : fd_wV "FlapDamper$State" 142 yX4_isBelowBack cX4_isBelowBack 3 (some .boolean) 2 := ⟨⟨by decide +kernel, by decide +kernel, by decide +kernel⟩, (List.mem_filter.mpr ⟨List.mem_append_right _ (List.mem_of_getElem? (i := 410) (by decide +kernel)), by decide +kernel⟩), (List.mem_filter.mpr ⟨List.mem_append_right _ (List.mem_of_getElem? (i := 412) (by decide +kernel)), by decide +kernel⟩), (List.mem_filter.mpr ⟨List.mem_append_left _ (List.mem_of_getElem? (i := 8) (by decide +kernel)), by decide +kernel⟩), (List.mem_filter.mpr ⟨List.mem_append_right _ (List.mem_of_getElem? (i := 3) (by decide +kernel)), by decide +kernel⟩), (List.mem_filter.mpr ⟨List.mem_append_right _ (List.mem_of_getElem? (i := 413) (by decide +kernel)), by decide +kernel⟩)⟩
theorem wf_X4_84 : (Cond.fieldLink "FlapDamper$State" 84 "FlapDamper$State" "tick" "I") ∈ fd_T := (List.mem_filter.mpr ⟨List.mem_append_right _ (List.mem_of_getElem? (i := 158) (by decide +kernel)), by decide +kernel⟩)
theorem wm_X4_98 : fd_wV "FlapDamper$State" 98 yX4_penaltyAt cX4_penaltyAt 3 (some .int) 2 := ⟨⟨by decide +kernel, by decide +kernel, by decide +kernel⟩, (List.mem_filter.mpr ⟨List.mem_append_right _ (List.mem_of_getElem? (i := 384) (by decide +kernel)), by decide +kernel⟩), (List.mem_filter.mpr ⟨List.mem_append_right _ (List.mem_of_getElem? (i := 385) (by decide +kernel)), by decide +kernel⟩), (List.mem_filter.mpr ⟨List.mem_append_right _ (List.mem_of_getElem? (i := 386) (by decide +kernel)), by decide +kernel⟩), (List.mem_filter.mpr ⟨List.mem_append_right _ (List.mem_of_getElem? (i := 3) (by decide +kernel)), by decide +kernel⟩), (List.mem_filter.mpr ⟨List.mem_append_right _ (List.mem_of_getElem? (i := 387) (by decide +kernel)), by decide +kernel⟩)⟩
theorem wl_X4_102 : (Cond.methodLink "FlapDamper$State" 102 ⟨"java/lang/Math", "min", "(II)I"⟩) ∈ fd_T := (List.mem_filter.mpr ⟨List.mem_append_right _ (List.mem_of_getElem? (i := 395) (by decide +kernel)), by decide +kernel⟩)
theorem wf_X4_116 : (Cond.fieldLink "FlapDamper$State" 116 "FlapDamper$RouteRecord" "held" "Z") ∈ fd_T := (List.mem_filter.mpr ⟨List.mem_append_right _ (List.mem_of_getElem? (i := 89) (by decide +kernel)), by decide +kernel⟩)
theorem wm_X4_120 : fd_wV "FlapDamper$State" 120 yX4_dueAfter cX4_dueAfter 6 (some .int) 2 := ⟨⟨by decide +kernel, by decide +kernel, by decide +kernel⟩, (List.mem_filter.mpr ⟨List.mem_append_right _ (List.mem_of_getElem? (i := 405) (by decide +kernel)), by decide +kernel⟩), (List.mem_filter.mpr ⟨List.mem_append_right _ (List.mem_of_getElem? (i := 407) (by decide +kernel)), by decide +kernel⟩), (List.mem_filter.mpr ⟨List.mem_append_left _ (List.mem_of_getElem? (i := 7) (by decide +kernel)), by decide +kernel⟩), (List.mem_filter.mpr ⟨List.mem_append_right _ (List.mem_of_getElem? (i := 3) (by decide +kernel)), by decide +kernel⟩), (List.mem_filter.mpr ⟨List.mem_append_right _ (List.mem_of_getElem? (i := 408) (by decide +kernel)), by decide +kernel⟩)⟩
theorem wf_X4_123 : (Cond.fieldLink "FlapDamper$State" 123 "FlapDamper$RouteRecord" "due" "I") ∈ fd_T := (List.mem_filter.mpr ⟨List.mem_append_right _ (List.mem_of_getElem? (i := 91) (by decide +kernel)), by decide +kernel⟩)
theorem wm_X4_113 : fd_wV "FlapDamper$State" 113 yX3_addCause cX3_addCause 2 none 1 := ⟨⟨by decide +kernel, by decide +kernel, by decide +kernel⟩, (List.mem_filter.mpr ⟨List.mem_append_right _ (List.mem_of_getElem? (i := 398) (by decide +kernel)), by decide +kernel⟩), (List.mem_filter.mpr ⟨List.mem_append_right _ (List.mem_of_getElem? (i := 399) (by decide +kernel)), by decide +kernel⟩), (List.mem_filter.mpr ⟨List.mem_append_right _ (List.mem_of_getElem? (i := 400) (by decide +kernel)), by decide +kernel⟩), (List.mem_filter.mpr ⟨List.mem_append_right _ (List.mem_of_getElem? (i := 6) (by decide +kernel)), by decide +kernel⟩), (List.mem_filter.mpr ⟨List.mem_append_right _ (List.mem_of_getElem? (i := 401) (by decide +kernel)), by decide +kernel⟩)⟩
theorem wf_X4_21 : (Cond.fieldLink "FlapDamper$State" 21 "FlapDamper$State" "records" "LFlapDamper$RecordList;") ∈ fd_T := (List.mem_filter.mpr ⟨List.mem_append_right _ (List.mem_of_getElem? (i := 150) (by decide +kernel)), by decide +kernel⟩)
theorem wm_X4_71 : fd_wV "FlapDamper$State" 71 yX2_find cX2_find 3 (some (.object "FlapDamper$RouteRecord")) 1 := ⟨⟨by decide +kernel, by decide +kernel, by decide +kernel⟩, (List.mem_filter.mpr ⟨List.mem_append_right _ (List.mem_of_getElem? (i := 355) (by decide +kernel)), by decide +kernel⟩), (List.mem_filter.mpr ⟨List.mem_append_right _ (List.mem_of_getElem? (i := 356) (by decide +kernel)), by decide +kernel⟩), (List.mem_filter.mpr ⟨List.mem_append_right _ (List.mem_of_getElem? (i := 357) (by decide +kernel)), by decide +kernel⟩), (List.mem_filter.mpr ⟨List.mem_append_right _ (List.mem_of_getElem? (i := 5) (by decide +kernel)), by decide +kernel⟩), (List.mem_filter.mpr ⟨List.mem_append_right _ (List.mem_of_getElem? (i := 358) (by decide +kernel)), by decide +kernel⟩)⟩
theorem wm_X4_87 : fd_wV "FlapDamper$State" 87 yX2_make cX2_make 4 (some (.object "FlapDamper$RouteRecord")) 2 := ⟨⟨by decide +kernel, by decide +kernel, by decide +kernel⟩, (List.mem_filter.mpr ⟨List.mem_append_right _ (List.mem_of_getElem? (i := 363) (by decide +kernel)), by decide +kernel⟩), (List.mem_filter.mpr ⟨List.mem_append_right _ (List.mem_of_getElem? (i := 364) (by decide +kernel)), by decide +kernel⟩), (List.mem_filter.mpr ⟨List.mem_append_right _ (List.mem_of_getElem? (i := 365) (by decide +kernel)), by decide +kernel⟩), (List.mem_filter.mpr ⟨List.mem_append_right _ (List.mem_of_getElem? (i := 5) (by decide +kernel)), by decide +kernel⟩), (List.mem_filter.mpr ⟨List.mem_append_right _ (List.mem_of_getElem? (i := 366) (by decide +kernel)), by decide +kernel⟩)⟩
theorem wf_X4_91 : (Cond.fieldLink "FlapDamper$State" 91 "FlapDamper$State" "lost" "I") ∈ fd_T := (List.mem_filter.mpr ⟨List.mem_append_right _ (List.mem_of_getElem? (i := 162) (by decide +kernel)), by decide +kernel⟩)
theorem wm_X4_94 : fd_wV "FlapDamper$State" 94 yX4_addTo cX4_addTo 4 (some .int) 3 := ⟨⟨by decide +kernel, by decide +kernel, by decide +kernel⟩, (List.mem_filter.mpr ⟨List.mem_append_right _ (List.mem_of_getElem? (i := 380) (by decide +kernel)), by decide +kernel⟩), (List.mem_filter.mpr ⟨List.mem_append_right _ (List.mem_of_getElem? (i := 382) (by decide +kernel)), by decide +kernel⟩), (List.mem_filter.mpr ⟨List.mem_append_left _ (List.mem_of_getElem? (i := 6) (by decide +kernel)), by decide +kernel⟩), (List.mem_filter.mpr ⟨List.mem_append_right _ (List.mem_of_getElem? (i := 3) (by decide +kernel)), by decide +kernel⟩), (List.mem_filter.mpr ⟨List.mem_append_right _ (List.mem_of_getElem? (i := 383) (by decide +kernel)), by decide +kernel⟩)⟩
theorem wm_X4_75 : fd_wV "FlapDamper$State" 75 yX3_hasCause cX3_hasCause 3 (some .boolean) 1 := ⟨⟨by decide +kernel, by decide +kernel, by decide +kernel⟩, (List.mem_filter.mpr ⟨List.mem_append_right _ (List.mem_of_getElem? (i := 359) (by decide +kernel)), by decide +kernel⟩), (List.mem_filter.mpr ⟨List.mem_append_right _ (List.mem_of_getElem? (i := 360) (by decide +kernel)), by decide +kernel⟩), (List.mem_filter.mpr ⟨List.mem_append_right _ (List.mem_of_getElem? (i := 361) (by decide +kernel)), by decide +kernel⟩), (List.mem_filter.mpr ⟨List.mem_append_right _ (List.mem_of_getElem? (i := 6) (by decide +kernel)), by decide +kernel⟩), (List.mem_filter.mpr ⟨List.mem_append_right _ (List.mem_of_getElem? (i := 362) (by decide +kernel)), by decide +kernel⟩)⟩
theorem wf_X4_81 : (Cond.fieldLink "FlapDamper$State" 81 "FlapDamper$State" "echoes" "I") ∈ fd_T := (List.mem_filter.mpr ⟨List.mem_append_right _ (List.mem_of_getElem? (i := 161) (by decide +kernel)), by decide +kernel⟩)
theorem wf_X4_32 : (Cond.fieldLink "FlapDamper$State" 32 "FlapDamper$State" "paths" "[I") ∈ fd_T := (List.mem_filter.mpr ⟨List.mem_append_right _ (List.mem_of_getElem? (i := 154) (by decide +kernel)), by decide +kernel⟩)
theorem wf_X4_28 : (Cond.fieldLink "FlapDamper$State" 28 "FlapDamper$State" "lines" "LFlapDamper$Lines;") ∈ fd_T := (List.mem_filter.mpr ⟨List.mem_append_right _ (List.mem_of_getElem? (i := 152) (by decide +kernel)), by decide +kernel⟩)
theorem wm_X4_126 : fd_wV "FlapDamper$State" 126 yX1_begin cX1_begin 3 none 2 := ⟨⟨by decide +kernel, by decide +kernel, by decide +kernel⟩, (List.mem_filter.mpr ⟨List.mem_append_right _ (List.mem_of_getElem? (i := 418) (by decide +kernel)), by decide +kernel⟩), (List.mem_filter.mpr ⟨List.mem_append_right _ (List.mem_of_getElem? (i := 419) (by decide +kernel)), by decide +kernel⟩), (List.mem_filter.mpr ⟨List.mem_append_right _ (List.mem_of_getElem? (i := 420) (by decide +kernel)), by decide +kernel⟩), (List.mem_filter.mpr ⟨List.mem_append_right _ (List.mem_of_getElem? (i := 7) (by decide +kernel)), by decide +kernel⟩), (List.mem_filter.mpr ⟨List.mem_append_right _ (List.mem_of_getElem? (i := 421) (by decide +kernel)), by decide +kernel⟩)⟩
theorem wm_X4_130 : fd_wV "FlapDamper$State" 130 yX1_put cX1_put 3 none 1 := ⟨⟨by decide +kernel, by decide +kernel, by decide +kernel⟩, (List.mem_filter.mpr ⟨List.mem_append_right _ (List.mem_of_getElem? (i := 430) (by decide +kernel)), by decide +kernel⟩), (List.mem_filter.mpr ⟨List.mem_append_right _ (List.mem_of_getElem? (i := 423) (by decide +kernel)), by decide +kernel⟩), (List.mem_filter.mpr ⟨List.mem_append_right _ (List.mem_of_getElem? (i := 424) (by decide +kernel)), by decide +kernel⟩), (List.mem_filter.mpr ⟨List.mem_append_right _ (List.mem_of_getElem? (i := 7) (by decide +kernel)), by decide +kernel⟩), (List.mem_filter.mpr ⟨List.mem_append_right _ (List.mem_of_getElem? (i := 425) (by decide +kernel)), by decide +kernel⟩)⟩
theorem wm_X4_133 : fd_wV "FlapDamper$State" 133 yX1_putNumber cX1_putNumber 4 none 1 := ⟨⟨by decide +kernel, by decide +kernel, by decide +kernel⟩, (List.mem_filter.mpr ⟨List.mem_append_right _ (List.mem_of_getElem? (i := 431) (by decide +kernel)), by decide +kernel⟩), (List.mem_filter.mpr ⟨List.mem_append_right _ (List.mem_of_getElem? (i := 427) (by decide +kernel)), by decide +kernel⟩), (List.mem_filter.mpr ⟨List.mem_append_right _ (List.mem_of_getElem? (i := 428) (by decide +kernel)), by decide +kernel⟩), (List.mem_filter.mpr ⟨List.mem_append_right _ (List.mem_of_getElem? (i := 7) (by decide +kernel)), by decide +kernel⟩), (List.mem_filter.mpr ⟨List.mem_append_right _ (List.mem_of_getElem? (i := 429) (by decide +kernel)), by decide +kernel⟩)⟩
theorem wm_X4_176 : fd_wN yX6_routeOf cX6_routeOf 2 (some .int) 2 := ⟨⟨by decide +kernel, by decide +kernel, by decide +kernel⟩, (List.mem_filter.mpr ⟨List.mem_append_right _ (List.mem_of_getElem? (i := 341) (by decide +kernel)), by decide +kernel⟩), (List.mem_filter.mpr ⟨List.mem_append_right _ (List.mem_of_getElem? (i := 1) (by decide +kernel)), by decide +kernel⟩), (List.mem_filter.mpr ⟨List.mem_append_right _ (List.mem_of_getElem? (i := 342) (by decide +kernel)), by decide +kernel⟩)⟩
theorem wm_X4_179 : fd_wS "FlapDamper$State" 179 yX4_isHeld cX4_isHeld 1 (some .boolean) 1 := ⟨⟨by decide +kernel, by decide +kernel, by decide +kernel⟩, (List.mem_filter.mpr ⟨List.mem_append_right _ (List.mem_of_getElem? (i := 441) (by decide +kernel)), by decide +kernel⟩), (List.mem_filter.mpr ⟨List.mem_append_right _ (List.mem_of_getElem? (i := 442) (by decide +kernel)), by decide +kernel⟩), (List.mem_filter.mpr ⟨List.mem_append_right _ (List.mem_of_getElem? (i := 3) (by decide +kernel)), by decide +kernel⟩), (List.mem_filter.mpr ⟨List.mem_append_right _ (List.mem_of_getElem? (i := 443) (by decide +kernel)), by decide +kernel⟩)⟩
theorem wm_X4_172 : fd_wV "FlapDamper$State" 172 yX4_findBest cX4_findBest 7 (some .int) 1 := ⟨⟨by decide +kernel, by decide +kernel, by decide +kernel⟩, (List.mem_filter.mpr ⟨List.mem_append_right _ (List.mem_of_getElem? (i := 436) (by decide +kernel)), by decide +kernel⟩), (List.mem_filter.mpr ⟨List.mem_append_right _ (List.mem_of_getElem? (i := 438) (by decide +kernel)), by decide +kernel⟩), (List.mem_filter.mpr ⟨List.mem_append_left _ (List.mem_of_getElem? (i := 11) (by decide +kernel)), by decide +kernel⟩), (List.mem_filter.mpr ⟨List.mem_append_right _ (List.mem_of_getElem? (i := 3) (by decide +kernel)), by decide +kernel⟩), (List.mem_filter.mpr ⟨List.mem_append_right _ (List.mem_of_getElem? (i := 439) (by decide +kernel)), by decide +kernel⟩)⟩
theorem wf_X4_36 : (Cond.fieldLink "FlapDamper$State" 36 "FlapDamper$State" "bests" "[I") ∈ fd_T := (List.mem_filter.mpr ⟨List.mem_append_right _ (List.mem_of_getElem? (i := 156) (by decide +kernel)), by decide +kernel⟩)
theorem wf_X4_39 : (Cond.fieldLink "FlapDamper$State" 39 "FlapDamper$State" "changes" "[I") ∈ fd_T := (List.mem_filter.mpr ⟨List.mem_append_right _ (List.mem_of_getElem? (i := 157) (by decide +kernel)), by decide +kernel⟩)
theorem wm_X4_48 : fd_wV "FlapDamper$State" 48 yX4_weigh cX4_weigh 3 (some .int) 2 := ⟨⟨by decide +kernel, by decide +kernel, by decide +kernel⟩, (List.mem_filter.mpr ⟨List.mem_append_right _ (List.mem_of_getElem? (i := 347) (by decide +kernel)), by decide +kernel⟩), (List.mem_filter.mpr ⟨List.mem_append_right _ (List.mem_of_getElem? (i := 349) (by decide +kernel)), by decide +kernel⟩), (List.mem_filter.mpr ⟨List.mem_append_left _ (List.mem_of_getElem? (i := 3) (by decide +kernel)), by decide +kernel⟩), (List.mem_filter.mpr ⟨List.mem_append_right _ (List.mem_of_getElem? (i := 3) (by decide +kernel)), by decide +kernel⟩), (List.mem_filter.mpr ⟨List.mem_append_right _ (List.mem_of_getElem? (i := 350) (by decide +kernel)), by decide +kernel⟩)⟩
theorem wf_X4_52 : (Cond.fieldLink "FlapDamper$State" 52 "FlapDamper$State" "events" "I") ∈ fd_T := (List.mem_filter.mpr ⟨List.mem_append_right _ (List.mem_of_getElem? (i := 160) (by decide +kernel)), by decide +kernel⟩)
theorem wm_X4_56 : fd_wV "FlapDamper$State" 56 yX4_judge cX4_judge 5 (some .int) 3 := ⟨⟨by decide +kernel, by decide +kernel, by decide +kernel⟩, (List.mem_filter.mpr ⟨List.mem_append_right _ (List.mem_of_getElem? (i := 351) (by decide +kernel)), by decide +kernel⟩), (List.mem_filter.mpr ⟨List.mem_append_right _ (List.mem_of_getElem? (i := 353) (by decide +kernel)), by decide +kernel⟩), (List.mem_filter.mpr ⟨List.mem_append_left _ (List.mem_of_getElem? (i := 4) (by decide +kernel)), by decide +kernel⟩), (List.mem_filter.mpr ⟨List.mem_append_right _ (List.mem_of_getElem? (i := 3) (by decide +kernel)), by decide +kernel⟩), (List.mem_filter.mpr ⟨List.mem_append_right _ (List.mem_of_getElem? (i := 354) (by decide +kernel)), by decide +kernel⟩)⟩
theorem wm_X4_60 : fd_wV "FlapDamper$State" 60 yX4_writeEvent cX4_writeEvent 6 none 3 := ⟨⟨by decide +kernel, by decide +kernel, by decide +kernel⟩, (List.mem_filter.mpr ⟨List.mem_append_right _ (List.mem_of_getElem? (i := 414) (by decide +kernel)), by decide +kernel⟩), (List.mem_filter.mpr ⟨List.mem_append_right _ (List.mem_of_getElem? (i := 416) (by decide +kernel)), by decide +kernel⟩), (List.mem_filter.mpr ⟨List.mem_append_left _ (List.mem_of_getElem? (i := 9) (by decide +kernel)), by decide +kernel⟩), (List.mem_filter.mpr ⟨List.mem_append_right _ (List.mem_of_getElem? (i := 3) (by decide +kernel)), by decide +kernel⟩), (List.mem_filter.mpr ⟨List.mem_append_right _ (List.mem_of_getElem? (i := 417) (by decide +kernel)), by decide +kernel⟩)⟩
theorem wm_X4_64 : fd_wV "FlapDamper$State" 64 yX4_refreshBest cX4_refreshBest 3 none 1 := ⟨⟨by decide +kernel, by decide +kernel, by decide +kernel⟩, (List.mem_filter.mpr ⟨List.mem_append_right _ (List.mem_of_getElem? (i := 432) (by decide +kernel)), by decide +kernel⟩), (List.mem_filter.mpr ⟨List.mem_append_right _ (List.mem_of_getElem? (i := 434) (by decide +kernel)), by decide +kernel⟩), (List.mem_filter.mpr ⟨List.mem_append_left _ (List.mem_of_getElem? (i := 10) (by decide +kernel)), by decide +kernel⟩), (List.mem_filter.mpr ⟨List.mem_append_right _ (List.mem_of_getElem? (i := 3) (by decide +kernel)), by decide +kernel⟩), (List.mem_filter.mpr ⟨List.mem_append_right _ (List.mem_of_getElem? (i := 435) (by decide +kernel)), by decide +kernel⟩)⟩
theorem wf_X4_149 : (Cond.fieldLink "FlapDamper$State" 149 "FlapDamper$State" "letGo" "I") ∈ fd_T := (List.mem_filter.mpr ⟨List.mem_append_right _ (List.mem_of_getElem? (i := 163) (by decide +kernel)), by decide +kernel⟩)
theorem wf_X4_166 : (Cond.fieldLink "FlapDamper$State" 166 "FlapDamper$RouteRecord" "route" "I") ∈ fd_T := (List.mem_filter.mpr ⟨List.mem_append_right _ (List.mem_of_getElem? (i := 81) (by decide +kernel)), by decide +kernel⟩)
theorem wf_X4_152 : (Cond.fieldLink "FlapDamper$State" 152 "FlapDamper$RecordList" "size" "I") ∈ fd_T := (List.mem_filter.mpr ⟨List.mem_append_right _ (List.mem_of_getElem? (i := 114) (by decide +kernel)), by decide +kernel⟩)
theorem wf_X4_155 : (Cond.fieldLink "FlapDamper$State" 155 "FlapDamper$RecordList" "rows" "[LFlapDamper$RouteRecord;") ∈ fd_T := (List.mem_filter.mpr ⟨List.mem_append_right _ (List.mem_of_getElem? (i := 111) (by decide +kernel)), by decide +kernel⟩)
theorem wm_X4_169 : fd_wV "FlapDamper$State" 169 yX2_drop cX2_drop 4 none 1 := ⟨⟨by decide +kernel, by decide +kernel, by decide +kernel⟩, (List.mem_filter.mpr ⟨List.mem_append_right _ (List.mem_of_getElem? (i := 468) (by decide +kernel)), by decide +kernel⟩), (List.mem_filter.mpr ⟨List.mem_append_right _ (List.mem_of_getElem? (i := 372) (by decide +kernel)), by decide +kernel⟩), (List.mem_filter.mpr ⟨List.mem_append_right _ (List.mem_of_getElem? (i := 373) (by decide +kernel)), by decide +kernel⟩), (List.mem_filter.mpr ⟨List.mem_append_right _ (List.mem_of_getElem? (i := 5) (by decide +kernel)), by decide +kernel⟩), (List.mem_filter.mpr ⟨List.mem_append_right _ (List.mem_of_getElem? (i := 374) (by decide +kernel)), by decide +kernel⟩)⟩
theorem wm_X4_146 : fd_wV "FlapDamper$State" 146 yX4_isLookedAt cX4_isLookedAt 2 (some .boolean) 1 := ⟨⟨by decide +kernel, by decide +kernel, by decide +kernel⟩, (List.mem_filter.mpr ⟨List.mem_append_right _ (List.mem_of_getElem? (i := 456) (by decide +kernel)), by decide +kernel⟩), (List.mem_filter.mpr ⟨List.mem_append_right _ (List.mem_of_getElem? (i := 458) (by decide +kernel)), by decide +kernel⟩), (List.mem_filter.mpr ⟨List.mem_append_left _ (List.mem_of_getElem? (i := 12) (by decide +kernel)), by decide +kernel⟩), (List.mem_filter.mpr ⟨List.mem_append_right _ (List.mem_of_getElem? (i := 3) (by decide +kernel)), by decide +kernel⟩), (List.mem_filter.mpr ⟨List.mem_append_right _ (List.mem_of_getElem? (i := 459) (by decide +kernel)), by decide +kernel⟩)⟩
theorem wm_X4_163 : fd_wV "FlapDamper$State" 163 yX4_dropSmallOnes cX4_dropSmallOnes 3 none 0 := ⟨⟨by decide +kernel, by decide +kernel, by decide +kernel⟩, (List.mem_filter.mpr ⟨List.mem_append_right _ (List.mem_of_getElem? (i := 464) (by decide +kernel)), by decide +kernel⟩), (List.mem_filter.mpr ⟨List.mem_append_right _ (List.mem_of_getElem? (i := 466) (by decide +kernel)), by decide +kernel⟩), (List.mem_filter.mpr ⟨List.mem_append_left _ (List.mem_of_getElem? (i := 14) (by decide +kernel)), by decide +kernel⟩), (List.mem_filter.mpr ⟨List.mem_append_right _ (List.mem_of_getElem? (i := 3) (by decide +kernel)), by decide +kernel⟩), (List.mem_filter.mpr ⟨List.mem_append_right _ (List.mem_of_getElem? (i := 467) (by decide +kernel)), by decide +kernel⟩)⟩
theorem wm_X4_159 : fd_wV "FlapDamper$State" 159 yX4_lookAt cX4_lookAt 2 none 1 := ⟨⟨by decide +kernel, by decide +kernel, by decide +kernel⟩, (List.mem_filter.mpr ⟨List.mem_append_right _ (List.mem_of_getElem? (i := 460) (by decide +kernel)), by decide +kernel⟩), (List.mem_filter.mpr ⟨List.mem_append_right _ (List.mem_of_getElem? (i := 462) (by decide +kernel)), by decide +kernel⟩), (List.mem_filter.mpr ⟨List.mem_append_left _ (List.mem_of_getElem? (i := 13) (by decide +kernel)), by decide +kernel⟩), (List.mem_filter.mpr ⟨List.mem_append_right _ (List.mem_of_getElem? (i := 3) (by decide +kernel)), by decide +kernel⟩), (List.mem_filter.mpr ⟨List.mem_append_right _ (List.mem_of_getElem? (i := 463) (by decide +kernel)), by decide +kernel⟩)⟩
theorem wf_X4_183 : (Cond.fieldLink "FlapDamper$State" 183 "FlapDamper$RouteRecord" "causeCount" "I") ∈ fd_T := (List.mem_filter.mpr ⟨List.mem_append_right _ (List.mem_of_getElem? (i := 94) (by decide +kernel)), by decide +kernel⟩)
theorem wm_X4_186 : fd_wV "FlapDamper$State" 186 yX2_heldOnes cX2_heldOnes 3 (some .int) 0 := ⟨⟨by decide +kernel, by decide +kernel, by decide +kernel⟩, (List.mem_filter.mpr ⟨List.mem_append_right _ (List.mem_of_getElem? (i := 534) (by decide +kernel)), by decide +kernel⟩), (List.mem_filter.mpr ⟨List.mem_append_right _ (List.mem_of_getElem? (i := 470) (by decide +kernel)), by decide +kernel⟩), (List.mem_filter.mpr ⟨List.mem_append_right _ (List.mem_of_getElem? (i := 471) (by decide +kernel)), by decide +kernel⟩), (List.mem_filter.mpr ⟨List.mem_append_right _ (List.mem_of_getElem? (i := 5) (by decide +kernel)), by decide +kernel⟩), (List.mem_filter.mpr ⟨List.mem_append_right _ (List.mem_of_getElem? (i := 472) (by decide +kernel)), by decide +kernel⟩)⟩
theorem wf_X4_190 : (Cond.fieldLink "FlapDamper$State" 190 "FlapDamper$RecordList" "dropped" "I") ∈ fd_T := (List.mem_filter.mpr ⟨List.mem_append_right _ (List.mem_of_getElem? (i := 117) (by decide +kernel)), by decide +kernel⟩)
theorem wf_X4_193 : (Cond.fieldLink "FlapDamper$State" 193 "FlapDamper$Lines" "written" "I") ∈ fd_T := (List.mem_filter.mpr ⟨List.mem_append_right _ (List.mem_of_getElem? (i := 135) (by decide +kernel)), by decide +kernel⟩)
theorem wm_X4_196 : fd_wV "FlapDamper$State" 196 yX0_copyFrom cX0_copyFrom 2 none 1 := ⟨⟨by decide +kernel, by decide +kernel, by decide +kernel⟩, (List.mem_filter.mpr ⟨List.mem_append_right _ (List.mem_of_getElem? (i := 547) (by decide +kernel)), by decide +kernel⟩), (List.mem_filter.mpr ⟨List.mem_append_right _ (List.mem_of_getElem? (i := 548) (by decide +kernel)), by decide +kernel⟩), (List.mem_filter.mpr ⟨List.mem_append_right _ (List.mem_of_getElem? (i := 549) (by decide +kernel)), by decide +kernel⟩), (List.mem_filter.mpr ⟨List.mem_append_right _ (List.mem_of_getElem? (i := 4) (by decide +kernel)), by decide +kernel⟩), (List.mem_filter.mpr ⟨List.mem_append_right _ (List.mem_of_getElem? (i := 550) (by decide +kernel)), by decide +kernel⟩)⟩
theorem wm_X4_200 : fd_wV "FlapDamper$State" 200 yX2_copyFrom cX2_copyFrom 3 none 1 := ⟨⟨by decide +kernel, by decide +kernel, by decide +kernel⟩, (List.mem_filter.mpr ⟨List.mem_append_right _ (List.mem_of_getElem? (i := 552) (by decide +kernel)), by decide +kernel⟩), (List.mem_filter.mpr ⟨List.mem_append_right _ (List.mem_of_getElem? (i := 553) (by decide +kernel)), by decide +kernel⟩), (List.mem_filter.mpr ⟨List.mem_append_right _ (List.mem_of_getElem? (i := 554) (by decide +kernel)), by decide +kernel⟩), (List.mem_filter.mpr ⟨List.mem_append_right _ (List.mem_of_getElem? (i := 5) (by decide +kernel)), by decide +kernel⟩), (List.mem_filter.mpr ⟨List.mem_append_right _ (List.mem_of_getElem? (i := 555) (by decide +kernel)), by decide +kernel⟩)⟩
theorem wm_X4_203 : fd_wV "FlapDamper$State" 203 yX1_copyFrom cX1_copyFrom 2 none 1 := ⟨⟨by decide +kernel, by decide +kernel, by decide +kernel⟩, (List.mem_filter.mpr ⟨List.mem_append_right _ (List.mem_of_getElem? (i := 560) (by decide +kernel)), by decide +kernel⟩), (List.mem_filter.mpr ⟨List.mem_append_right _ (List.mem_of_getElem? (i := 561) (by decide +kernel)), by decide +kernel⟩), (List.mem_filter.mpr ⟨List.mem_append_right _ (List.mem_of_getElem? (i := 562) (by decide +kernel)), by decide +kernel⟩), (List.mem_filter.mpr ⟨List.mem_append_right _ (List.mem_of_getElem? (i := 7) (by decide +kernel)), by decide +kernel⟩), (List.mem_filter.mpr ⟨List.mem_append_right _ (List.mem_of_getElem? (i := 563) (by decide +kernel)), by decide +kernel⟩)⟩
theorem wl_X4_206 : (Cond.methodLink "FlapDamper$State" 206 ⟨"java/lang/System", "arraycopy", "(Ljava/lang/Object;ILjava/lang/Object;II)V"⟩) ∈ fd_T := (List.mem_filter.mpr ⟨List.mem_append_right _ (List.mem_of_getElem? (i := 565) (by decide +kernel)), by decide +kernel⟩)
theorem wf_X5_15 : (Cond.fieldLink "FlapDamper$Text" 15 "FlapDamper$Text" "length" "I") ∈ fd_T := (List.mem_filter.mpr ⟨List.mem_append_right _ (List.mem_of_getElem? (i := 31) (by decide +kernel)), by decide +kernel⟩)
theorem wf_X5_9 : (Cond.fieldLink "FlapDamper$Text" 9 "FlapDamper$Text" "signs" "[I") ∈ fd_T := (List.mem_filter.mpr ⟨List.mem_append_right _ (List.mem_of_getElem? (i := 30) (by decide +kernel)), by decide +kernel⟩)
theorem wm_X5_45 : fd_wV "FlapDamper$Text" 45 yJ0_length_8abf5 cJ0_length_8abf5 1 (some .int) 0 := ⟨⟨by decide +kernel, by decide +kernel, by decide +kernel⟩, (List.mem_filter.mpr ⟨List.mem_append_right _ (List.mem_of_getElem? (i := 249) (by decide +kernel)), by decide +kernel⟩), (List.mem_filter.mpr ⟨List.mem_append_right _ (List.mem_of_getElem? (i := 250) (by decide +kernel)), by decide +kernel⟩), (List.mem_filter.mpr ⟨List.mem_append_right _ (List.mem_of_getElem? (i := 251) (by decide +kernel)), by decide +kernel⟩), (List.mem_filter.mpr ⟨List.mem_append_right _ (List.mem_of_getElem? (i := 10) (by decide +kernel)), by decide +kernel⟩), (List.mem_filter.mpr ⟨List.mem_append_right _ (List.mem_of_getElem? (i := 252) (by decide +kernel)), by decide +kernel⟩)⟩
theorem wm_X5_41 : fd_wS "FlapDamper$Text" 41 yX5_isFigure cX5_isFigure 1 (some .boolean) 1 := ⟨⟨by decide +kernel, by decide +kernel, by decide +kernel⟩, (List.mem_filter.mpr ⟨List.mem_append_right _ (List.mem_of_getElem? (i := 305) (by decide +kernel)), by decide +kernel⟩), (List.mem_filter.mpr ⟨List.mem_append_right _ (List.mem_of_getElem? (i := 306) (by decide +kernel)), by decide +kernel⟩), (List.mem_filter.mpr ⟨List.mem_append_right _ (List.mem_of_getElem? (i := 2) (by decide +kernel)), by decide +kernel⟩), (List.mem_filter.mpr ⟨List.mem_append_right _ (List.mem_of_getElem? (i := 307) (by decide +kernel)), by decide +kernel⟩)⟩
theorem wm_X5_53 : fd_wV "FlapDamper$Text" 53 yJ0_charAt_5068e cJ0_charAt_5068e 2 (some .char) 1 := ⟨⟨by decide +kernel, by decide +kernel, by decide +kernel⟩, (List.mem_filter.mpr ⟨List.mem_append_right _ (List.mem_of_getElem? (i := 267) (by decide +kernel)), by decide +kernel⟩), (List.mem_filter.mpr ⟨List.mem_append_right _ (List.mem_of_getElem? (i := 268) (by decide +kernel)), by decide +kernel⟩), (List.mem_filter.mpr ⟨List.mem_append_right _ (List.mem_of_getElem? (i := 269) (by decide +kernel)), by decide +kernel⟩), (List.mem_filter.mpr ⟨List.mem_append_right _ (List.mem_of_getElem? (i := 10) (by decide +kernel)), by decide +kernel⟩), (List.mem_filter.mpr ⟨List.mem_append_right _ (List.mem_of_getElem? (i := 270) (by decide +kernel)), by decide +kernel⟩)⟩
theorem wm_X5_49 : fd_wV "FlapDamper$Text" 49 yX5_fits cX5_fits 3 (some .boolean) 2 := ⟨⟨by decide +kernel, by decide +kernel, by decide +kernel⟩, (List.mem_filter.mpr ⟨List.mem_append_right _ (List.mem_of_getElem? (i := 263) (by decide +kernel)), by decide +kernel⟩), (List.mem_filter.mpr ⟨List.mem_append_right _ (List.mem_of_getElem? (i := 265) (by decide +kernel)), by decide +kernel⟩), (List.mem_filter.mpr ⟨List.mem_append_left _ (List.mem_of_getElem? (i := 2) (by decide +kernel)), by decide +kernel⟩), (List.mem_filter.mpr ⟨List.mem_append_right _ (List.mem_of_getElem? (i := 2) (by decide +kernel)), by decide +kernel⟩), (List.mem_filter.mpr ⟨List.mem_append_right _ (List.mem_of_getElem? (i := 266) (by decide +kernel)), by decide +kernel⟩)⟩
theorem wm_X5_27 : fd_wV "FlapDamper$Text" 27 yX5_fittingSigns cX5_fittingSigns 3 (some .int) 1 := ⟨⟨by decide +kernel, by decide +kernel, by decide +kernel⟩, (List.mem_filter.mpr ⟨List.mem_append_right _ (List.mem_of_getElem? (i := 259) (by decide +kernel)), by decide +kernel⟩), (List.mem_filter.mpr ⟨List.mem_append_right _ (List.mem_of_getElem? (i := 261) (by decide +kernel)), by decide +kernel⟩), (List.mem_filter.mpr ⟨List.mem_append_left _ (List.mem_of_getElem? (i := 1) (by decide +kernel)), by decide +kernel⟩), (List.mem_filter.mpr ⟨List.mem_append_right _ (List.mem_of_getElem? (i := 2) (by decide +kernel)), by decide +kernel⟩), (List.mem_filter.mpr ⟨List.mem_append_right _ (List.mem_of_getElem? (i := 262) (by decide +kernel)), by decide +kernel⟩)⟩
theorem wm_X5_23 : fd_wS "FlapDamper$Text" 23 yX5_nameOf cX5_nameOf 1 (some (.object "java/lang/String")) 1 := ⟨⟨by decide +kernel, by decide +kernel, by decide +kernel⟩, (List.mem_filter.mpr ⟨List.mem_append_right _ (List.mem_of_getElem? (i := 235) (by decide +kernel)), by decide +kernel⟩), (List.mem_filter.mpr ⟨List.mem_append_right _ (List.mem_of_getElem? (i := 236) (by decide +kernel)), by decide +kernel⟩), (List.mem_filter.mpr ⟨List.mem_append_right _ (List.mem_of_getElem? (i := 2) (by decide +kernel)), by decide +kernel⟩), (List.mem_filter.mpr ⟨List.mem_append_right _ (List.mem_of_getElem? (i := 237) (by decide +kernel)), by decide +kernel⟩)⟩
theorem wm_X5_37 : fd_wV "FlapDamper$Text" 37 yX5_tells cX5_tells 2 (some .boolean) 1 := ⟨⟨by decide +kernel, by decide +kernel, by decide +kernel⟩, (List.mem_filter.mpr ⟨List.mem_append_right _ (List.mem_of_getElem? (i := 245) (by decide +kernel)), by decide +kernel⟩), (List.mem_filter.mpr ⟨List.mem_append_right _ (List.mem_of_getElem? (i := 247) (by decide +kernel)), by decide +kernel⟩), (List.mem_filter.mpr ⟨List.mem_append_left _ (List.mem_of_getElem? (i := 0) (by decide +kernel)), by decide +kernel⟩), (List.mem_filter.mpr ⟨List.mem_append_right _ (List.mem_of_getElem? (i := 2) (by decide +kernel)), by decide +kernel⟩), (List.mem_filter.mpr ⟨List.mem_append_right _ (List.mem_of_getElem? (i := 248) (by decide +kernel)), by decide +kernel⟩)⟩
theorem wm_X5_19 : fd_wV "FlapDamper$Text" 19 yX5_toldBound cX5_toldBound 2 (some .int) 0 := ⟨⟨by decide +kernel, by decide +kernel, by decide +kernel⟩, (List.mem_filter.mpr ⟨List.mem_append_right _ (List.mem_of_getElem? (i := 231) (by decide +kernel)), by decide +kernel⟩), (List.mem_filter.mpr ⟨List.mem_append_right _ (List.mem_of_getElem? (i := 232) (by decide +kernel)), by decide +kernel⟩), (List.mem_filter.mpr ⟨List.mem_append_right _ (List.mem_of_getElem? (i := 233) (by decide +kernel)), by decide +kernel⟩), (List.mem_filter.mpr ⟨List.mem_append_right _ (List.mem_of_getElem? (i := 2) (by decide +kernel)), by decide +kernel⟩), (List.mem_filter.mpr ⟨List.mem_append_right _ (List.mem_of_getElem? (i := 234) (by decide +kernel)), by decide +kernel⟩)⟩
theorem wl_X5_31 : (Cond.methodLink "FlapDamper$Text" 31 ⟨"java/lang/Math", "max", "(II)I"⟩) ∈ fd_T := (List.mem_filter.mpr ⟨List.mem_append_right _ (List.mem_of_getElem? (i := 308) (by decide +kernel)), by decide +kernel⟩)
theorem wf_X6_12 : (Cond.fieldLink "FlapDamper" 12 "FlapDamper" "text" "LFlapDamper$Text;") ∈ fd_T := (List.mem_filter.mpr ⟨List.mem_append_right _ (List.mem_of_getElem? (i := 187) (by decide +kernel)), by decide +kernel⟩)
theorem wm_X6_37 : fd_wV "FlapDamper" 37 yX5_append cX5_append 2 (some .boolean) 1 := ⟨⟨by decide +kernel, by decide +kernel, by decide +kernel⟩, (List.mem_filter.mpr ⟨List.mem_append_right _ (List.mem_of_getElem? (i := 211) (by decide +kernel)), by decide +kernel⟩), (List.mem_filter.mpr ⟨List.mem_append_right _ (List.mem_of_getElem? (i := 212) (by decide +kernel)), by decide +kernel⟩), (List.mem_filter.mpr ⟨List.mem_append_right _ (List.mem_of_getElem? (i := 213) (by decide +kernel)), by decide +kernel⟩), (List.mem_filter.mpr ⟨List.mem_append_right _ (List.mem_of_getElem? (i := 2) (by decide +kernel)), by decide +kernel⟩), (List.mem_filter.mpr ⟨List.mem_append_right _ (List.mem_of_getElem? (i := 214) (by decide +kernel)), by decide +kernel⟩)⟩
theorem wf_X6_41 : (Cond.fieldLink "FlapDamper" 41 "FlapDamper$Text" "length" "I") ∈ fd_T := (List.mem_filter.mpr ⟨List.mem_append_right _ (List.mem_of_getElem? (i := 32) (by decide +kernel)), by decide +kernel⟩)
theorem wm_X6_45 : fd_wV "FlapDamper" 45 yX5_clear cX5_clear 2 (some .int) 0 := ⟨⟨by decide +kernel, by decide +kernel, by decide +kernel⟩, (List.mem_filter.mpr ⟨List.mem_append_right _ (List.mem_of_getElem? (i := 219) (by decide +kernel)), by decide +kernel⟩), (List.mem_filter.mpr ⟨List.mem_append_right _ (List.mem_of_getElem? (i := 220) (by decide +kernel)), by decide +kernel⟩), (List.mem_filter.mpr ⟨List.mem_append_right _ (List.mem_of_getElem? (i := 221) (by decide +kernel)), by decide +kernel⟩), (List.mem_filter.mpr ⟨List.mem_append_right _ (List.mem_of_getElem? (i := 2) (by decide +kernel)), by decide +kernel⟩), (List.mem_filter.mpr ⟨List.mem_append_right _ (List.mem_of_getElem? (i := 222) (by decide +kernel)), by decide +kernel⟩)⟩
theorem wm_X6_49 : fd_wV "FlapDamper" 49 yX5_findFault cX5_findFault 3 (some .int) 0 := ⟨⟨by decide +kernel, by decide +kernel, by decide +kernel⟩, (List.mem_filter.mpr ⟨List.mem_append_right _ (List.mem_of_getElem? (i := 227) (by decide +kernel)), by decide +kernel⟩), (List.mem_filter.mpr ⟨List.mem_append_right _ (List.mem_of_getElem? (i := 228) (by decide +kernel)), by decide +kernel⟩), (List.mem_filter.mpr ⟨List.mem_append_right _ (List.mem_of_getElem? (i := 229) (by decide +kernel)), by decide +kernel⟩), (List.mem_filter.mpr ⟨List.mem_append_right _ (List.mem_of_getElem? (i := 2) (by decide +kernel)), by decide +kernel⟩), (List.mem_filter.mpr ⟨List.mem_append_right _ (List.mem_of_getElem? (i := 230) (by decide +kernel)), by decide +kernel⟩)⟩
theorem wm_X6_52 : fd_wV "FlapDamper" 52 yX5_toldBound cX5_toldBound 2 (some .int) 0 := ⟨⟨by decide +kernel, by decide +kernel, by decide +kernel⟩, (List.mem_filter.mpr ⟨List.mem_append_right _ (List.mem_of_getElem? (i := 316) (by decide +kernel)), by decide +kernel⟩), (List.mem_filter.mpr ⟨List.mem_append_right _ (List.mem_of_getElem? (i := 232) (by decide +kernel)), by decide +kernel⟩), (List.mem_filter.mpr ⟨List.mem_append_right _ (List.mem_of_getElem? (i := 233) (by decide +kernel)), by decide +kernel⟩), (List.mem_filter.mpr ⟨List.mem_append_right _ (List.mem_of_getElem? (i := 2) (by decide +kernel)), by decide +kernel⟩), (List.mem_filter.mpr ⟨List.mem_append_right _ (List.mem_of_getElem? (i := 234) (by decide +kernel)), by decide +kernel⟩)⟩
theorem wm_X6_55 : fd_wV "FlapDamper" 55 yX5_toldNumber cX5_toldNumber 3 (some .int) 0 := ⟨⟨by decide +kernel, by decide +kernel, by decide +kernel⟩, (List.mem_filter.mpr ⟨List.mem_append_right _ (List.mem_of_getElem? (i := 317) (by decide +kernel)), by decide +kernel⟩), (List.mem_filter.mpr ⟨List.mem_append_right _ (List.mem_of_getElem? (i := 318) (by decide +kernel)), by decide +kernel⟩), (List.mem_filter.mpr ⟨List.mem_append_right _ (List.mem_of_getElem? (i := 319) (by decide +kernel)), by decide +kernel⟩), (List.mem_filter.mpr ⟨List.mem_append_right _ (List.mem_of_getElem? (i := 2) (by decide +kernel)), by decide +kernel⟩), (List.mem_filter.mpr ⟨List.mem_append_right _ (List.mem_of_getElem? (i := 320) (by decide +kernel)), by decide +kernel⟩)⟩
theorem wf_X6_58 : (Cond.fieldLink "FlapDamper" 58 "FlapDamper" "LEAST" "[I") ∈ fd_T := (List.mem_filter.mpr ⟨List.mem_append_right _ (List.mem_of_getElem? (i := 321) (by decide +kernel)), by decide +kernel⟩)
theorem wf_X6_62 : (Cond.fieldLink "FlapDamper" 62 "FlapDamper" "MOST" "[I") ∈ fd_T := (List.mem_filter.mpr ⟨List.mem_append_right _ (List.mem_of_getElem? (i := 323) (by decide +kernel)), by decide +kernel⟩)
theorem wf_X6_19 : (Cond.fieldLink "FlapDamper" 19 "FlapDamper" "now" "LFlapDamper$State;") ∈ fd_T := (List.mem_filter.mpr ⟨List.mem_append_right _ (List.mem_of_getElem? (i := 188) (by decide +kernel)), by decide +kernel⟩)
theorem wf_X6_65 : (Cond.fieldLink "FlapDamper" 65 "FlapDamper$State" "bounds" "LFlapDamper$Bounds;") ∈ fd_T := (List.mem_filter.mpr ⟨List.mem_append_right _ (List.mem_of_getElem? (i := 149) (by decide +kernel)), by decide +kernel⟩)
theorem wm_X6_69 : fd_wV "FlapDamper" 69 yX0_replace cX0_replace 4 (some .int) 2 := ⟨⟨by decide +kernel, by decide +kernel, by decide +kernel⟩, (List.mem_filter.mpr ⟨List.mem_append_right _ (List.mem_of_getElem? (i := 325) (by decide +kernel)), by decide +kernel⟩), (List.mem_filter.mpr ⟨List.mem_append_right _ (List.mem_of_getElem? (i := 326) (by decide +kernel)), by decide +kernel⟩), (List.mem_filter.mpr ⟨List.mem_append_right _ (List.mem_of_getElem? (i := 327) (by decide +kernel)), by decide +kernel⟩), (List.mem_filter.mpr ⟨List.mem_append_right _ (List.mem_of_getElem? (i := 4) (by decide +kernel)), by decide +kernel⟩), (List.mem_filter.mpr ⟨List.mem_append_right _ (List.mem_of_getElem? (i := 328) (by decide +kernel)), by decide +kernel⟩)⟩
theorem wf_X6_75 : (Cond.fieldLink "FlapDamper" 75 "FlapDamper$Bounds" "values" "[I") ∈ fd_T := (List.mem_filter.mpr ⟨List.mem_append_right _ (List.mem_of_getElem? (i := 62) (by decide +kernel)), by decide +kernel⟩)
theorem wm_X6_78 : fd_wS "FlapDamper" 78 yX6_isRoute cX6_isRoute 2 (some .boolean) 2 := ⟨⟨by decide +kernel, by decide +kernel, by decide +kernel⟩, (List.mem_filter.mpr ⟨List.mem_append_right _ (List.mem_of_getElem? (i := 337) (by decide +kernel)), by decide +kernel⟩), (List.mem_filter.mpr ⟨List.mem_append_right _ (List.mem_of_getElem? (i := 338) (by decide +kernel)), by decide +kernel⟩), (List.mem_filter.mpr ⟨List.mem_append_right _ (List.mem_of_getElem? (i := 1) (by decide +kernel)), by decide +kernel⟩), (List.mem_filter.mpr ⟨List.mem_append_right _ (List.mem_of_getElem? (i := 339) (by decide +kernel)), by decide +kernel⟩)⟩
theorem wm_X6_82 : fd_wS "FlapDamper" 82 yX6_routeOf cX6_routeOf 2 (some .int) 2 := ⟨⟨by decide +kernel, by decide +kernel, by decide +kernel⟩, (List.mem_filter.mpr ⟨List.mem_append_right _ (List.mem_of_getElem? (i := 340) (by decide +kernel)), by decide +kernel⟩), (List.mem_filter.mpr ⟨List.mem_append_right _ (List.mem_of_getElem? (i := 341) (by decide +kernel)), by decide +kernel⟩), (List.mem_filter.mpr ⟨List.mem_append_right _ (List.mem_of_getElem? (i := 1) (by decide +kernel)), by decide +kernel⟩), (List.mem_filter.mpr ⟨List.mem_append_right _ (List.mem_of_getElem? (i := 342) (by decide +kernel)), by decide +kernel⟩)⟩
theorem wf_X6_85 : (Cond.fieldLink "FlapDamper" 85 "FlapDamper$State" "paths" "[I") ∈ fd_T := (List.mem_filter.mpr ⟨List.mem_append_right _ (List.mem_of_getElem? (i := 155) (by decide +kernel)), by decide +kernel⟩)
theorem wm_X6_88 : fd_wV "FlapDamper" 88 yX4_happen cX4_happen 6 (some .int) 3 := ⟨⟨by decide +kernel, by decide +kernel, by decide +kernel⟩, (List.mem_filter.mpr ⟨List.mem_append_right _ (List.mem_of_getElem? (i := 343) (by decide +kernel)), by decide +kernel⟩), (List.mem_filter.mpr ⟨List.mem_append_right _ (List.mem_of_getElem? (i := 344) (by decide +kernel)), by decide +kernel⟩), (List.mem_filter.mpr ⟨List.mem_append_right _ (List.mem_of_getElem? (i := 345) (by decide +kernel)), by decide +kernel⟩), (List.mem_filter.mpr ⟨List.mem_append_right _ (List.mem_of_getElem? (i := 3) (by decide +kernel)), by decide +kernel⟩), (List.mem_filter.mpr ⟨List.mem_append_right _ (List.mem_of_getElem? (i := 346) (by decide +kernel)), by decide +kernel⟩)⟩
theorem wf_X6_95 : (Cond.fieldLink "FlapDamper" 95 "FlapDamper$State" "records" "LFlapDamper$RecordList;") ∈ fd_T := (List.mem_filter.mpr ⟨List.mem_append_right _ (List.mem_of_getElem? (i := 151) (by decide +kernel)), by decide +kernel⟩)
theorem wm_X6_99 : fd_wV "FlapDamper" 99 yX2_heldOnes cX2_heldOnes 3 (some .int) 0 := ⟨⟨by decide +kernel, by decide +kernel, by decide +kernel⟩, (List.mem_filter.mpr ⟨List.mem_append_right _ (List.mem_of_getElem? (i := 469) (by decide +kernel)), by decide +kernel⟩), (List.mem_filter.mpr ⟨List.mem_append_right _ (List.mem_of_getElem? (i := 470) (by decide +kernel)), by decide +kernel⟩), (List.mem_filter.mpr ⟨List.mem_append_right _ (List.mem_of_getElem? (i := 471) (by decide +kernel)), by decide +kernel⟩), (List.mem_filter.mpr ⟨List.mem_append_right _ (List.mem_of_getElem? (i := 5) (by decide +kernel)), by decide +kernel⟩), (List.mem_filter.mpr ⟨List.mem_append_right _ (List.mem_of_getElem? (i := 472) (by decide +kernel)), by decide +kernel⟩)⟩
theorem wm_X6_92 : fd_wV "FlapDamper" 92 yX4_nextTick cX4_nextTick 3 none 0 := ⟨⟨by decide +kernel, by decide +kernel, by decide +kernel⟩, (List.mem_filter.mpr ⟨List.mem_append_right _ (List.mem_of_getElem? (i := 452) (by decide +kernel)), by decide +kernel⟩), (List.mem_filter.mpr ⟨List.mem_append_right _ (List.mem_of_getElem? (i := 453) (by decide +kernel)), by decide +kernel⟩), (List.mem_filter.mpr ⟨List.mem_append_right _ (List.mem_of_getElem? (i := 454) (by decide +kernel)), by decide +kernel⟩), (List.mem_filter.mpr ⟨List.mem_append_right _ (List.mem_of_getElem? (i := 3) (by decide +kernel)), by decide +kernel⟩), (List.mem_filter.mpr ⟨List.mem_append_right _ (List.mem_of_getElem? (i := 455) (by decide +kernel)), by decide +kernel⟩)⟩
theorem wm_X6_104 : fd_wV "FlapDamper" 104 yX2_find cX2_find 3 (some (.object "FlapDamper$RouteRecord")) 1 := ⟨⟨by decide +kernel, by decide +kernel, by decide +kernel⟩, (List.mem_filter.mpr ⟨List.mem_append_right _ (List.mem_of_getElem? (i := 477) (by decide +kernel)), by decide +kernel⟩), (List.mem_filter.mpr ⟨List.mem_append_right _ (List.mem_of_getElem? (i := 356) (by decide +kernel)), by decide +kernel⟩), (List.mem_filter.mpr ⟨List.mem_append_right _ (List.mem_of_getElem? (i := 357) (by decide +kernel)), by decide +kernel⟩), (List.mem_filter.mpr ⟨List.mem_append_right _ (List.mem_of_getElem? (i := 5) (by decide +kernel)), by decide +kernel⟩), (List.mem_filter.mpr ⟨List.mem_append_right _ (List.mem_of_getElem? (i := 358) (by decide +kernel)), by decide +kernel⟩)⟩
theorem wm_X6_108 : fd_wV "FlapDamper" 108 yX4_tellRecord cX4_tellRecord 3 (some .int) 2 := ⟨⟨by decide +kernel, by decide +kernel, by decide +kernel⟩, (List.mem_filter.mpr ⟨List.mem_append_right _ (List.mem_of_getElem? (i := 478) (by decide +kernel)), by decide +kernel⟩), (List.mem_filter.mpr ⟨List.mem_append_right _ (List.mem_of_getElem? (i := 479) (by decide +kernel)), by decide +kernel⟩), (List.mem_filter.mpr ⟨List.mem_append_right _ (List.mem_of_getElem? (i := 480) (by decide +kernel)), by decide +kernel⟩), (List.mem_filter.mpr ⟨List.mem_append_right _ (List.mem_of_getElem? (i := 3) (by decide +kernel)), by decide +kernel⟩), (List.mem_filter.mpr ⟨List.mem_append_right _ (List.mem_of_getElem? (i := 481) (by decide +kernel)), by decide +kernel⟩)⟩
theorem wf_X6_112 : (Cond.fieldLink "FlapDamper" 112 "FlapDamper$State" "tick" "I") ∈ fd_T := (List.mem_filter.mpr ⟨List.mem_append_right _ (List.mem_of_getElem? (i := 159) (by decide +kernel)), by decide +kernel⟩)
theorem wm_X6_115 : fd_wV "FlapDamper" 115 yX4_penaltyAt cX4_penaltyAt 3 (some .int) 2 := ⟨⟨by decide +kernel, by decide +kernel, by decide +kernel⟩, (List.mem_filter.mpr ⟨List.mem_append_right _ (List.mem_of_getElem? (i := 486) (by decide +kernel)), by decide +kernel⟩), (List.mem_filter.mpr ⟨List.mem_append_right _ (List.mem_of_getElem? (i := 385) (by decide +kernel)), by decide +kernel⟩), (List.mem_filter.mpr ⟨List.mem_append_right _ (List.mem_of_getElem? (i := 386) (by decide +kernel)), by decide +kernel⟩), (List.mem_filter.mpr ⟨List.mem_append_right _ (List.mem_of_getElem? (i := 3) (by decide +kernel)), by decide +kernel⟩), (List.mem_filter.mpr ⟨List.mem_append_right _ (List.mem_of_getElem? (i := 387) (by decide +kernel)), by decide +kernel⟩)⟩
theorem wm_X6_118 : fd_wV "FlapDamper" 118 yX4_letGoAt cX4_letGoAt 5 (some .int) 1 := ⟨⟨by decide +kernel, by decide +kernel, by decide +kernel⟩, (List.mem_filter.mpr ⟨List.mem_append_right _ (List.mem_of_getElem? (i := 491) (by decide +kernel)), by decide +kernel⟩), (List.mem_filter.mpr ⟨List.mem_append_right _ (List.mem_of_getElem? (i := 492) (by decide +kernel)), by decide +kernel⟩), (List.mem_filter.mpr ⟨List.mem_append_right _ (List.mem_of_getElem? (i := 493) (by decide +kernel)), by decide +kernel⟩), (List.mem_filter.mpr ⟨List.mem_append_right _ (List.mem_of_getElem? (i := 3) (by decide +kernel)), by decide +kernel⟩), (List.mem_filter.mpr ⟨List.mem_append_right _ (List.mem_of_getElem? (i := 494) (by decide +kernel)), by decide +kernel⟩)⟩
theorem wm_X6_122 : fd_wV "FlapDamper" 122 yX0_lessened cX0_lessened 8 (some .int) 2 := ⟨⟨by decide +kernel, by decide +kernel, by decide +kernel⟩, (List.mem_filter.mpr ⟨List.mem_append_right _ (List.mem_of_getElem? (i := 499) (by decide +kernel)), by decide +kernel⟩), (List.mem_filter.mpr ⟨List.mem_append_right _ (List.mem_of_getElem? (i := 389) (by decide +kernel)), by decide +kernel⟩), (List.mem_filter.mpr ⟨List.mem_append_right _ (List.mem_of_getElem? (i := 390) (by decide +kernel)), by decide +kernel⟩), (List.mem_filter.mpr ⟨List.mem_append_right _ (List.mem_of_getElem? (i := 4) (by decide +kernel)), by decide +kernel⟩), (List.mem_filter.mpr ⟨List.mem_append_right _ (List.mem_of_getElem? (i := 391) (by decide +kernel)), by decide +kernel⟩)⟩
theorem wm_X6_125 : fd_wV "FlapDamper" 125 yX4_tellBest cX4_tellBest 3 (some .int) 2 := ⟨⟨by decide +kernel, by decide +kernel, by decide +kernel⟩, (List.mem_filter.mpr ⟨List.mem_append_right _ (List.mem_of_getElem? (i := 504) (by decide +kernel)), by decide +kernel⟩), (List.mem_filter.mpr ⟨List.mem_append_right _ (List.mem_of_getElem? (i := 505) (by decide +kernel)), by decide +kernel⟩), (List.mem_filter.mpr ⟨List.mem_append_right _ (List.mem_of_getElem? (i := 506) (by decide +kernel)), by decide +kernel⟩), (List.mem_filter.mpr ⟨List.mem_append_right _ (List.mem_of_getElem? (i := 3) (by decide +kernel)), by decide +kernel⟩), (List.mem_filter.mpr ⟨List.mem_append_right _ (List.mem_of_getElem? (i := 507) (by decide +kernel)), by decide +kernel⟩)⟩
theorem wf_X6_128 : (Cond.fieldLink "FlapDamper" 128 "FlapDamper$RecordList" "size" "I") ∈ fd_T := (List.mem_filter.mpr ⟨List.mem_append_right _ (List.mem_of_getElem? (i := 115) (by decide +kernel)), by decide +kernel⟩)
theorem wf_X6_131 : (Cond.fieldLink "FlapDamper" 131 "FlapDamper$RecordList" "rows" "[LFlapDamper$RouteRecord;") ∈ fd_T := (List.mem_filter.mpr ⟨List.mem_append_right _ (List.mem_of_getElem? (i := 112) (by decide +kernel)), by decide +kernel⟩)
theorem wf_X6_135 : (Cond.fieldLink "FlapDamper" 135 "FlapDamper$RouteRecord" "route" "I") ∈ fd_T := (List.mem_filter.mpr ⟨List.mem_append_right _ (List.mem_of_getElem? (i := 82) (by decide +kernel)), by decide +kernel⟩)
theorem wf_X6_140 : (Cond.fieldLink "FlapDamper" 140 "FlapDamper$State" "lines" "LFlapDamper$Lines;") ∈ fd_T := (List.mem_filter.mpr ⟨List.mem_append_right _ (List.mem_of_getElem? (i := 153) (by decide +kernel)), by decide +kernel⟩)
theorem wm_X6_144 : fd_wV "FlapDamper" 144 yX1_tell cX1_tell 4 (some .int) 2 := ⟨⟨by decide +kernel, by decide +kernel, by decide +kernel⟩, (List.mem_filter.mpr ⟨List.mem_append_right _ (List.mem_of_getElem? (i := 516) (by decide +kernel)), by decide +kernel⟩), (List.mem_filter.mpr ⟨List.mem_append_right _ (List.mem_of_getElem? (i := 517) (by decide +kernel)), by decide +kernel⟩), (List.mem_filter.mpr ⟨List.mem_append_right _ (List.mem_of_getElem? (i := 518) (by decide +kernel)), by decide +kernel⟩), (List.mem_filter.mpr ⟨List.mem_append_right _ (List.mem_of_getElem? (i := 7) (by decide +kernel)), by decide +kernel⟩), (List.mem_filter.mpr ⟨List.mem_append_right _ (List.mem_of_getElem? (i := 519) (by decide +kernel)), by decide +kernel⟩)⟩
theorem wf_X6_26 : (Cond.fieldLink "FlapDamper" 26 "FlapDamper" "secondImage" "LFlapDamper$State;") ∈ fd_T := (List.mem_filter.mpr ⟨List.mem_append_right _ (List.mem_of_getElem? (i := 190) (by decide +kernel)), by decide +kernel⟩)
theorem wf_X6_23 : (Cond.fieldLink "FlapDamper" 23 "FlapDamper" "firstImage" "LFlapDamper$State;") ∈ fd_T := (List.mem_filter.mpr ⟨List.mem_append_right _ (List.mem_of_getElem? (i := 189) (by decide +kernel)), by decide +kernel⟩)
theorem wf_X6_29 : (Cond.fieldLink "FlapDamper" 29 "FlapDamper" "kept" "[Z") ∈ fd_T := (List.mem_filter.mpr ⟨List.mem_append_right _ (List.mem_of_getElem? (i := 191) (by decide +kernel)), by decide +kernel⟩)
theorem wm_X6_152 : fd_wV "FlapDamper" 152 yX4_tellCount cX4_tellCount 2 (some .int) 1 := ⟨⟨by decide +kernel, by decide +kernel, by decide +kernel⟩, (List.mem_filter.mpr ⟨List.mem_append_right _ (List.mem_of_getElem? (i := 530) (by decide +kernel)), by decide +kernel⟩), (List.mem_filter.mpr ⟨List.mem_append_right _ (List.mem_of_getElem? (i := 531) (by decide +kernel)), by decide +kernel⟩), (List.mem_filter.mpr ⟨List.mem_append_right _ (List.mem_of_getElem? (i := 532) (by decide +kernel)), by decide +kernel⟩), (List.mem_filter.mpr ⟨List.mem_append_right _ (List.mem_of_getElem? (i := 3) (by decide +kernel)), by decide +kernel⟩), (List.mem_filter.mpr ⟨List.mem_append_right _ (List.mem_of_getElem? (i := 533) (by decide +kernel)), by decide +kernel⟩)⟩
theorem wm_X6_149 : fd_wV "FlapDamper" 149 yX6_keptImages cX6_keptImages 1 (some .int) 0 := ⟨⟨by decide +kernel, by decide +kernel, by decide +kernel⟩, (List.mem_filter.mpr ⟨List.mem_append_right _ (List.mem_of_getElem? (i := 526) (by decide +kernel)), by decide +kernel⟩), (List.mem_filter.mpr ⟨List.mem_append_right _ (List.mem_of_getElem? (i := 528) (by decide +kernel)), by decide +kernel⟩), (List.mem_filter.mpr ⟨List.mem_append_left _ (List.mem_of_getElem? (i := 15) (by decide +kernel)), by decide +kernel⟩), (List.mem_filter.mpr ⟨List.mem_append_right _ (List.mem_of_getElem? (i := 1) (by decide +kernel)), by decide +kernel⟩), (List.mem_filter.mpr ⟨List.mem_append_right _ (List.mem_of_getElem? (i := 529) (by decide +kernel)), by decide +kernel⟩)⟩
theorem wm_X6_156 : fd_wV "FlapDamper" 156 yX6_imageOf cX6_imageOf 2 (some (.object "FlapDamper$State")) 1 := ⟨⟨by decide +kernel, by decide +kernel, by decide +kernel⟩, (List.mem_filter.mpr ⟨List.mem_append_right _ (List.mem_of_getElem? (i := 539) (by decide +kernel)), by decide +kernel⟩), (List.mem_filter.mpr ⟨List.mem_append_right _ (List.mem_of_getElem? (i := 541) (by decide +kernel)), by decide +kernel⟩), (List.mem_filter.mpr ⟨List.mem_append_left _ (List.mem_of_getElem? (i := 16) (by decide +kernel)), by decide +kernel⟩), (List.mem_filter.mpr ⟨List.mem_append_right _ (List.mem_of_getElem? (i := 1) (by decide +kernel)), by decide +kernel⟩), (List.mem_filter.mpr ⟨List.mem_append_right _ (List.mem_of_getElem? (i := 542) (by decide +kernel)), by decide +kernel⟩)⟩
theorem wm_X6_160 : fd_wV "FlapDamper" 160 yX4_copyFrom cX4_copyFrom 2 none 1 := ⟨⟨by decide +kernel, by decide +kernel, by decide +kernel⟩, (List.mem_filter.mpr ⟨List.mem_append_right _ (List.mem_of_getElem? (i := 543) (by decide +kernel)), by decide +kernel⟩), (List.mem_filter.mpr ⟨List.mem_append_right _ (List.mem_of_getElem? (i := 544) (by decide +kernel)), by decide +kernel⟩), (List.mem_filter.mpr ⟨List.mem_append_right _ (List.mem_of_getElem? (i := 545) (by decide +kernel)), by decide +kernel⟩), (List.mem_filter.mpr ⟨List.mem_append_right _ (List.mem_of_getElem? (i := 3) (by decide +kernel)), by decide +kernel⟩), (List.mem_filter.mpr ⟨List.mem_append_right _ (List.mem_of_getElem? (i := 546) (by decide +kernel)), by decide +kernel⟩)⟩
theorem fd_acw : Cond.native arraycopyName ∈ fd_T ∧ Cond.static arraycopyName ∈ fd_T ∧ Cond.initialized "java/lang/System" ∈ fd_T := ⟨(List.mem_filter.mpr ⟨List.mem_append_right _ (List.mem_of_getElem? (i := 404) (by decide +kernel)), by decide +kernel⟩), (List.mem_filter.mpr ⟨List.mem_append_right _ (List.mem_of_getElem? (i := 403) (by decide +kernel)), by decide +kernel⟩), (List.mem_filter.mpr ⟨List.mem_append_right _ (List.mem_of_getElem? (i := 15) (by decide +kernel)), by decide +kernel⟩)⟩
theorem fd_wmax : fd_wM Lib.Math.max.name Lib.Math.max.code := ⟨(List.mem_filter.mpr ⟨List.mem_append_right _ (List.mem_of_getElem? (i := 309) (by decide +kernel)), by decide +kernel⟩), (List.mem_filter.mpr ⟨List.mem_append_right _ (List.mem_of_getElem? (i := 14) (by decide +kernel)), by decide +kernel⟩), (List.mem_filter.mpr ⟨List.mem_append_right _ (List.mem_of_getElem? (i := 310) (by decide +kernel)), by decide +kernel⟩)⟩
theorem fd_wmin : fd_wM Lib.Math.min.name Lib.Math.min.code := ⟨(List.mem_filter.mpr ⟨List.mem_append_right _ (List.mem_of_getElem? (i := 396) (by decide +kernel)), by decide +kernel⟩), (List.mem_filter.mpr ⟨List.mem_append_right _ (List.mem_of_getElem? (i := 14) (by decide +kernel)), by decide +kernel⟩), (List.mem_filter.mpr ⟨List.mem_append_right _ (List.mem_of_getElem? (i := 397) (by decide +kernel)), by decide +kernel⟩)⟩
end
section
theorem dJ0_length_8abf5_0 : decode cJ0_length_8abf5 0 = .ok (.aload_n 0, 1) := by decide +kernel
theorem dJ0_length_8abf5_1 : decode cJ0_length_8abf5 1 = .ok (.getfield 9, 3) := by decide +kernel
theorem dJ0_length_8abf5_4 : decode cJ0_length_8abf5 4 = .ok (.arraylength, 1) := by decide +kernel
theorem dJ0_length_8abf5_5 : decode cJ0_length_8abf5 5 = .ok (.aload_n 0, 1) := by decide +kernel
theorem dJ0_length_8abf5_6 : decode cJ0_length_8abf5 6 = .ok (.invokevirtual 335, 3) := by decide +kernel
theorem dJ0_length_8abf5_9 : decode cJ0_length_8abf5 9 = .ok (.ishr, 1) := by decide +kernel
theorem dJ0_length_8abf5_10 : decode cJ0_length_8abf5 10 = .ok (.ireturn, 1) := by decide +kernel
theorem dJ0_charAt_5068e_0 : decode cJ0_charAt_5068e 0 = .ok (.aload_n 0, 1) := by decide +kernel
theorem dJ0_charAt_5068e_1 : decode cJ0_charAt_5068e 1 = .ok (.invokevirtual 492, 3) := by decide +kernel
theorem dJ0_charAt_5068e_4 : decode cJ0_charAt_5068e 4 = .ok (.ifCond .eq 12, 3) := by decide +kernel
theorem dJ0_charAt_5068e_7 : decode cJ0_charAt_5068e 7 = .ok (.aload_n 0, 1) := by decide +kernel
theorem dJ0_charAt_5068e_8 : decode cJ0_charAt_5068e 8 = .ok (.getfield 9, 3) := by decide +kernel
theorem dJ0_charAt_5068e_11 : decode cJ0_charAt_5068e 11 = .ok (.iload_n 1, 1) := by decide +kernel
theorem dJ0_charAt_5068e_12 : decode cJ0_charAt_5068e 12 = .ok (.invokestatic 495, 3) := by decide +kernel
theorem dJ0_charAt_5068e_15 : decode cJ0_charAt_5068e 15 = .ok (.ireturn, 1) := by decide +kernel
theorem dJ0_charAt_5068e_16 : decode cJ0_charAt_5068e 16 = .ok (.aload_n 0, 1) := by decide +kernel
theorem dJ0_charAt_5068e_17 : decode cJ0_charAt_5068e 17 = .ok (.getfield 9, 3) := by decide +kernel
theorem dJ0_charAt_5068e_20 : decode cJ0_charAt_5068e 20 = .ok (.iload_n 1, 1) := by decide +kernel
theorem dJ0_charAt_5068e_21 : decode cJ0_charAt_5068e 21 = .ok (.invokestatic 498, 3) := by decide +kernel
theorem dJ0_charAt_5068e_24 : decode cJ0_charAt_5068e 24 = .ok (.ireturn, 1) := by decide +kernel
theorem dJ0_coder_7d493_0 : decode cJ0_coder_7d493 0 = .ok (.getstatic 38, 3) := by decide +kernel
theorem dJ0_coder_7d493_3 : decode cJ0_coder_7d493 3 = .ok (.ifCond .eq 10, 3) := by decide +kernel
theorem dJ0_coder_7d493_6 : decode cJ0_coder_7d493 6 = .ok (.aload_n 0, 1) := by decide +kernel
theorem dJ0_coder_7d493_7 : decode cJ0_coder_7d493 7 = .ok (.getfield 15, 3) := by decide +kernel
theorem dJ0_coder_7d493_10 : decode cJ0_coder_7d493 10 = .ok (.goto 4, 3) := by decide +kernel
theorem dJ0_coder_7d493_13 : decode cJ0_coder_7d493 13 = .ok (.iconst 1, 1) := by decide +kernel
theorem dJ0_coder_7d493_14 : decode cJ0_coder_7d493 14 = .ok (.ireturn, 1) := by decide +kernel
theorem dJ0_isLatin1_aae02_0 : decode cJ0_isLatin1_aae02 0 = .ok (.getstatic 38, 3) := by decide +kernel
theorem dJ0_isLatin1_aae02_3 : decode cJ0_isLatin1_aae02 3 = .ok (.ifCond .eq 14, 3) := by decide +kernel
theorem dJ0_isLatin1_aae02_6 : decode cJ0_isLatin1_aae02 6 = .ok (.aload_n 0, 1) := by decide +kernel
theorem dJ0_isLatin1_aae02_7 : decode cJ0_isLatin1_aae02 7 = .ok (.getfield 15, 3) := by decide +kernel
theorem dJ0_isLatin1_aae02_10 : decode cJ0_isLatin1_aae02 10 = .ok (.ifCond .ne 7, 3) := by decide +kernel
theorem dJ0_isLatin1_aae02_13 : decode cJ0_isLatin1_aae02 13 = .ok (.iconst 1, 1) := by decide +kernel
theorem dJ0_isLatin1_aae02_14 : decode cJ0_isLatin1_aae02 14 = .ok (.goto 4, 3) := by decide +kernel
theorem dJ0_isLatin1_aae02_17 : decode cJ0_isLatin1_aae02 17 = .ok (.iconst 0, 1) := by decide +kernel
theorem dJ0_isLatin1_aae02_18 : decode cJ0_isLatin1_aae02 18 = .ok (.ireturn, 1) := by decide +kernel
theorem dJ0_checkIndex_df160_0 : decode cJ0_checkIndex_df160 0 = .ok (.iload_n 0, 1) := by decide +kernel
theorem dJ0_checkIndex_df160_1 : decode cJ0_checkIndex_df160 1 = .ok (.iload_n 1, 1) := by decide +kernel
theorem dJ0_checkIndex_df160_2 : decode cJ0_checkIndex_df160 2 = .ok (.getstatic 1053, 3) := by decide +kernel
theorem dJ0_checkIndex_df160_5 : decode cJ0_checkIndex_df160 5 = .ok (.invokestatic 1059, 3) := by decide +kernel
theorem dJ0_checkIndex_df160_8 : decode cJ0_checkIndex_df160 8 = .ok (.pop, 1) := by decide +kernel
theorem dJ0_checkIndex_df160_9 : decode cJ0_checkIndex_df160 9 = .ok (.return_, 1) := by decide +kernel
theorem dJ1_charAt_3b067_0 : decode cJ1_charAt_3b067 0 = .ok (.iload_n 1, 1) := by decide +kernel
theorem dJ1_charAt_3b067_1 : decode cJ1_charAt_3b067 1 = .ok (.aload_n 0, 1) := by decide +kernel
theorem dJ1_charAt_3b067_2 : decode cJ1_charAt_3b067 2 = .ok (.arraylength, 1) := by decide +kernel
theorem dJ1_charAt_3b067_3 : decode cJ1_charAt_3b067 3 = .ok (.invokestatic 9, 3) := by decide +kernel
theorem dJ1_charAt_3b067_6 : decode cJ1_charAt_3b067 6 = .ok (.aload_n 0, 1) := by decide +kernel
theorem dJ1_charAt_3b067_7 : decode cJ1_charAt_3b067 7 = .ok (.iload_n 1, 1) := by decide +kernel
theorem dJ1_charAt_3b067_8 : decode cJ1_charAt_3b067 8 = .ok (.baload, 1) := by decide +kernel
theorem dJ1_charAt_3b067_9 : decode cJ1_charAt_3b067 9 = .ok (.sipush 255, 3) := by decide +kernel
theorem dJ1_charAt_3b067_12 : decode cJ1_charAt_3b067 12 = .ok (.iand, 1) := by decide +kernel
theorem dJ1_charAt_3b067_13 : decode cJ1_charAt_3b067 13 = .ok (.i2c, 1) := by decide +kernel
theorem dJ1_charAt_3b067_14 : decode cJ1_charAt_3b067 14 = .ok (.ireturn, 1) := by decide +kernel
theorem dJ3_checkIndex_8e157_0 : decode cJ3_checkIndex_8e157 0 = .ok (.iload_n 0, 1) := by decide +kernel
theorem dJ3_checkIndex_8e157_1 : decode cJ3_checkIndex_8e157 1 = .ok (.ifCond .lt 8, 3) := by decide +kernel
theorem dJ3_checkIndex_8e157_4 : decode cJ3_checkIndex_8e157 4 = .ok (.iload_n 0, 1) := by decide +kernel
theorem dJ3_checkIndex_8e157_5 : decode cJ3_checkIndex_8e157 5 = .ok (.iload_n 1, 1) := by decide +kernel
theorem dJ3_checkIndex_8e157_6 : decode cJ3_checkIndex_8e157 6 = .ok (.if_icmp .lt 10, 3) := by decide +kernel
theorem dJ3_checkIndex_8e157_9 : decode cJ3_checkIndex_8e157 9 = .ok (.aload_n 2, 1) := by decide +kernel
theorem dJ3_checkIndex_8e157_10 : decode cJ3_checkIndex_8e157 10 = .ok (.iload_n 0, 1) := by decide +kernel
theorem dJ3_checkIndex_8e157_11 : decode cJ3_checkIndex_8e157 11 = .ok (.iload_n 1, 1) := by decide +kernel
theorem dJ3_checkIndex_8e157_12 : decode cJ3_checkIndex_8e157 12 = .ok (.invokestatic 95, 3) := by decide +kernel
theorem dJ3_checkIndex_8e157_15 : decode cJ3_checkIndex_8e157 15 = .ok (.athrow, 1) := by decide +kernel
theorem dJ3_checkIndex_8e157_16 : decode cJ3_checkIndex_8e157 16 = .ok (.iload_n 0, 1) := by decide +kernel
theorem dJ3_checkIndex_8e157_17 : decode cJ3_checkIndex_8e157 17 = .ok (.ireturn, 1) := by decide +kernel
theorem wj_38 : (Cond.fieldLink "java/lang/String" 38 "java/lang/String" "COMPACT_STRINGS" "Z") ∈ fd_T := (List.mem_filter.mpr ⟨List.mem_append_right _ (List.mem_of_getElem? (i := 257) (by decide +kernel)), by decide +kernel⟩)
theorem wj_15 : (Cond.fieldLink "java/lang/String" 15 "java/lang/String" "coder" "B") ∈ fd_T := (List.mem_filter.mpr ⟨List.mem_append_right _ (List.mem_of_getElem? (i := 784) (by decide +kernel)), by decide +kernel⟩)
theorem wj_9 : (Cond.fieldLink "java/lang/String" 9 "java/lang/String" "value" "[B") ∈ fd_T := (List.mem_filter.mpr ⟨List.mem_append_right _ (List.mem_of_getElem? (i := 783) (by decide +kernel)), by decide +kernel⟩)
theorem wj_1053 : (Cond.fieldLink "java/lang/String" 1053 "jdk/internal/util/Preconditions" "SIOOBE_FORMATTER" "Ljava/util/function/BiFunction;") ∈ fd_T := (List.mem_filter.mpr ⟨List.mem_append_right _ (List.mem_of_getElem? (i := 281) (by decide +kernel)), by decide +kernel⟩)
theorem wj_335 : fd_wV "java/lang/String" 335 yJ0_coder_7d493 cJ0_coder_7d493 1 (some .byte) 0 := ⟨⟨by decide +kernel, by decide +kernel, by decide +kernel⟩, (List.mem_filter.mpr ⟨List.mem_append_right _ (List.mem_of_getElem? (i := 253) (by decide +kernel)), by decide +kernel⟩), (List.mem_filter.mpr ⟨List.mem_append_right _ (List.mem_of_getElem? (i := 254) (by decide +kernel)), by decide +kernel⟩), (List.mem_filter.mpr ⟨List.mem_append_right _ (List.mem_of_getElem? (i := 255) (by decide +kernel)), by decide +kernel⟩), (List.mem_filter.mpr ⟨List.mem_append_right _ (List.mem_of_getElem? (i := 10) (by decide +kernel)), by decide +kernel⟩), (List.mem_filter.mpr ⟨List.mem_append_right _ (List.mem_of_getElem? (i := 256) (by decide +kernel)), by decide +kernel⟩)⟩
theorem wj_492 : fd_wV "java/lang/String" 492 yJ0_isLatin1_aae02 cJ0_isLatin1_aae02 1 (some .boolean) 0 := ⟨⟨by decide +kernel, by decide +kernel, by decide +kernel⟩, (List.mem_filter.mpr ⟨List.mem_append_right _ (List.mem_of_getElem? (i := 271) (by decide +kernel)), by decide +kernel⟩), (List.mem_filter.mpr ⟨List.mem_append_right _ (List.mem_of_getElem? (i := 272) (by decide +kernel)), by decide +kernel⟩), (List.mem_filter.mpr ⟨List.mem_append_right _ (List.mem_of_getElem? (i := 273) (by decide +kernel)), by decide +kernel⟩), (List.mem_filter.mpr ⟨List.mem_append_right _ (List.mem_of_getElem? (i := 10) (by decide +kernel)), by decide +kernel⟩), (List.mem_filter.mpr ⟨List.mem_append_right _ (List.mem_of_getElem? (i := 274) (by decide +kernel)), by decide +kernel⟩)⟩
theorem wj_495 : fd_wS "java/lang/String" 495 yJ1_charAt_3b067 cJ1_charAt_3b067 2 (some .char) 2 := ⟨⟨by decide +kernel, by decide +kernel, by decide +kernel⟩, (List.mem_filter.mpr ⟨List.mem_append_right _ (List.mem_of_getElem? (i := 275) (by decide +kernel)), by decide +kernel⟩), (List.mem_filter.mpr ⟨List.mem_append_right _ (List.mem_of_getElem? (i := 276) (by decide +kernel)), by decide +kernel⟩), (List.mem_filter.mpr ⟨List.mem_append_right _ (List.mem_of_getElem? (i := 11) (by decide +kernel)), by decide +kernel⟩), (List.mem_filter.mpr ⟨List.mem_append_right _ (List.mem_of_getElem? (i := 277) (by decide +kernel)), by decide +kernel⟩)⟩
theorem wj_l9 : fd_wS "java/lang/StringLatin1" 9 yJ0_checkIndex_df160 cJ0_checkIndex_df160 2 none 2 := ⟨⟨by decide +kernel, by decide +kernel, by decide +kernel⟩, (List.mem_filter.mpr ⟨List.mem_append_right _ (List.mem_of_getElem? (i := 278) (by decide +kernel)), by decide +kernel⟩), (List.mem_filter.mpr ⟨List.mem_append_right _ (List.mem_of_getElem? (i := 279) (by decide +kernel)), by decide +kernel⟩), (List.mem_filter.mpr ⟨List.mem_append_right _ (List.mem_of_getElem? (i := 10) (by decide +kernel)), by decide +kernel⟩), (List.mem_filter.mpr ⟨List.mem_append_right _ (List.mem_of_getElem? (i := 280) (by decide +kernel)), by decide +kernel⟩)⟩
theorem wj_1059 : fd_wS "java/lang/String" 1059 yJ3_checkIndex_8e157 cJ3_checkIndex_8e157 3 (some .int) 3 := ⟨⟨by decide +kernel, by decide +kernel, by decide +kernel⟩, (List.mem_filter.mpr ⟨List.mem_append_right _ (List.mem_of_getElem? (i := 283) (by decide +kernel)), by decide +kernel⟩), (List.mem_filter.mpr ⟨List.mem_append_right _ (List.mem_of_getElem? (i := 284) (by decide +kernel)), by decide +kernel⟩), (List.mem_filter.mpr ⟨List.mem_append_right _ (List.mem_of_getElem? (i := 12) (by decide +kernel)), by decide +kernel⟩), (List.mem_filter.mpr ⟨List.mem_append_right _ (List.mem_of_getElem? (i := 285) (by decide +kernel)), by decide +kernel⟩)⟩
set_option maxHeartbeats 4000000 in
set_option maxRecDepth 100000 in
theorem cJ_coder (l : Launch) (E : fd_E) (S : fd_S) (i : Nat) (hi : i < 7) : fd_Ct l yJ0_coder_7d493 cJ0_coder_7d493 1 (some .byte) (fd_rm 0 0) E S [.ref (E.2.2 (110 + i))] (some (.int 0)) S := by
  refine fd_Ct_of (by decide +kernel) (Nat.le_of_ble_eq_true rfl) ?_
  intro p e s m below meth c ls C hr hlk hH hl
  have hx := C.1
  have hb := C.2.1
  have hown := C.2.2.2.1
  have hts := C.2.2.2.2.1
  have hZ := C.2.2.2.2.2.2
  have hl : lv_has ls 1 [(0, .ref (E.2.2 (110 + i)))] := hl
  refine va_gets hx hb hZ.2.2.2.2.2.1 hH.2.2.1 hown (hts _ wj_38) (fun _ h => h) dJ0_coder_7d493_0 ?_
  refine lv_if_eq (tgt := 13) hx hb dJ0_coder_7d493_3 (by decide) (fun c1 => absurd c1 (by decide)) (fun _ => ?_)
  refine lv_aload_n hx hb dJ0_coder_7d493_6 rfl (lv_at hl 0 rfl) ?_
  refine vk_getf hx hb (hZ.2.2.2.2.1.1.1 i hi).2.1 hH.2.2.1 hown (hts _ wj_15) (fun _ h => h) dJ0_coder_7d493_7 ?_
  refine lv_goto (tgt := 14) hx hb dJ0_coder_7d493_10 (by decide) ?_
  exact fd_zret .byte C hr hlk hH rfl dJ0_coder_7d493_14
set_option maxHeartbeats 4000000 in
set_option maxRecDepth 100000 in
theorem cJ_isLatin1 (l : Launch) (E : fd_E) (S : fd_S) (i : Nat) (hi : i < 7) : fd_Ct l yJ0_isLatin1_aae02 cJ0_isLatin1_aae02 1 (some .boolean) (fd_rm 0 0) E S [.ref (E.2.2 (110 + i))] (some (.int 1)) S := by
  refine fd_Ct_of (by decide +kernel) (Nat.le_of_ble_eq_true rfl) ?_
  intro p e s m below meth c ls C hr hlk hH hl
  have hx := C.1
  have hb := C.2.1
  have hown := C.2.2.2.1
  have hts := C.2.2.2.2.1
  have hZ := C.2.2.2.2.2.2
  have hl : lv_has ls 1 [(0, .ref (E.2.2 (110 + i)))] := hl
  refine va_gets hx hb hZ.2.2.2.2.2.1 hH.2.2.1 hown (hts _ wj_38) (fun _ h => h) dJ0_isLatin1_aae02_0 ?_
  refine lv_if_eq (tgt := 17) hx hb dJ0_isLatin1_aae02_3 (by decide) (fun c1 => absurd c1 (by decide)) (fun _ => ?_)
  refine lv_aload_n hx hb dJ0_isLatin1_aae02_6 rfl (lv_at hl 0 rfl) ?_
  refine vk_getf hx hb (hZ.2.2.2.2.1.1.1 i hi).2.1 hH.2.2.1 hown (hts _ wj_15) (fun _ h => h) dJ0_isLatin1_aae02_7 ?_
  refine lv_if_ne (tgt := 17) hx hb dJ0_isLatin1_aae02_10 (by decide) (fun c1 => absurd rfl c1) (fun _ => ?_)
  refine lv_iconst (v := 1) hx hb dJ0_isLatin1_aae02_13 (by decide) ?_
  refine lv_goto (tgt := 18) hx hb dJ0_isLatin1_aae02_14 (by decide) ?_
  exact fd_zret .boolean C hr hlk hH rfl dJ0_isLatin1_aae02_18
set_option maxHeartbeats 4000000 in
set_option maxRecDepth 100000 in
theorem cJ_length (l : Launch) (E : fd_E) (S : fd_S) (i : Nat) (hi : i < 7) : fd_Ct l yJ0_length_8abf5 cJ0_length_8abf5 1 (some .int) (fd_rm 1 20) E S [.ref (E.2.2 (110 + i))] (some (.int (fd_sl i))) S := by
  refine fd_Ct_of (by decide +kernel) (Nat.le_of_ble_eq_true rfl) ?_
  intro p e s m below meth c ls C hr hlk hH hl
  have hx := C.1
  have hb := C.2.1
  have hown := C.2.2.2.1
  have hts := C.2.2.2.2.1
  have hZ := C.2.2.2.2.2.2
  have hl : lv_has ls 1 [(0, .ref (E.2.2 (110 + i)))] := hl
  refine lv_aload_n hx hb dJ0_length_8abf5_0 rfl (lv_at hl 0 rfl) ?_
  refine vk_getf hx hb (hZ.2.2.2.2.1.1.1 i hi).2.2.1 hH.2.2.1 hown (hts _ wj_9) (fun _ h => h) dJ0_length_8abf5_1 ?_
  refine va_tlen (v := fd_sl i) hx hb (hZ.2.2.2.2.1.1.1 i hi).2.2.2 hH.2.2.1 rfl dJ0_length_8abf5_4 ?_
  refine lv_aload_n hx hb dJ0_length_8abf5_5 rfl (lv_at hl 0 rfl) ?_
  refine fd_callR1 [] C hl.1 hH (cJ_coder l E S i hi) wj_335 (fd_srecv hi C hH) ⟨rfl, rfl, Nat.le_of_ble_eq_true rfl, Nat.le_of_ble_eq_true rfl⟩ rfl rfl (Nat.le_of_ble_eq_true rfl) ⟨Nat.le_refl _, Nat.le_refl _⟩ dJ0_length_8abf5_6 (fun H locs hH => ?_)
  refine lv_ishr hx hb dJ0_length_8abf5_9 ?_
  rw [sb_shr0]
  exact fd_iret C hr hlk hH dJ0_length_8abf5_10
set_option maxHeartbeats 4000000 in
set_option maxRecDepth 100000 in
theorem cJ_pre (l : Launch) (E : fd_E) (S : fd_S) (x n : Int32) (o : Option Nat) (h : 0 ≤ x ∧ x < n) : fd_Ct l yJ3_checkIndex_8e157 cJ3_checkIndex_8e157 3 (some .int) (fd_rm 0 0) E S [.int x, .int n, va_rf o] (some (.int x)) S := by
  cases o
  all_goals
    refine fd_Ct_of (by decide +kernel) (Nat.le_of_ble_eq_true rfl) ?_
    intro p e s m below meth c ls C hr hlk hH hl
    have hx := C.1
    have hb := C.2.1
    have hown := C.2.2.2.1
    have hts := C.2.2.2.2.1
    have hZ := C.2.2.2.2.2.2
    have hl : lv_has ls 3 [(0, .int x), (1, .int n), (2, va_rf _)] := hl
    refine lv_iload_n hx hb dJ3_checkIndex_8e157_0 rfl (lv_at hl 0 rfl) ?_
    refine lv_if_lt (tgt := 9) hx hb dJ3_checkIndex_8e157_1 (by decide) (fun c1 => absurd c1 (Int32.not_lt.mpr h.1)) (fun _ => ?_)
    refine lv_iload_n hx hb dJ3_checkIndex_8e157_4 rfl (lv_at hl 0 rfl) ?_
    refine lv_iload_n hx hb dJ3_checkIndex_8e157_5 rfl (lv_at hl 1 rfl) ?_
    refine lv_icmp_lt (tgt := 16) hx hb dJ3_checkIndex_8e157_6 (by decide) (fun _ => ?_) (fun c1 => absurd h.2 c1)
    refine lv_iload_n hx hb dJ3_checkIndex_8e157_16 rfl (lv_at hl 0 rfl) ?_
    exact fd_iret C hr hlk hH dJ3_checkIndex_8e157_17
set_option maxHeartbeats 4000000 in
set_option maxRecDepth 100000 in
theorem cJ_check (l : Launch) (E : fd_E) (S : fd_S) (x n : Int32) (h : 0 ≤ x ∧ x < n) : fd_Ct l yJ0_checkIndex_df160 cJ0_checkIndex_df160 2 none (fd_rm 1 22) E S [.int x, .int n] none S := by
  refine fd_Ct_of (by decide +kernel) (Nat.le_of_ble_eq_true rfl) ?_
  intro p e s m below meth c ls C hr hlk hH hl
  have hx := C.1
  have hb := C.2.1
  have hown := C.2.2.2.1
  have hts := C.2.2.2.2.1
  have hZ := C.2.2.2.2.2.2
  have hl : lv_has ls 2 [(0, .int x), (1, .int n)] := hl
  refine lv_iload_n hx hb dJ0_checkIndex_df160_0 rfl (lv_at hl 0 rfl) ?_
  refine lv_iload_n hx hb dJ0_checkIndex_df160_1 rfl (lv_at hl 1 rfl) ?_
  rcases hZ.2.2.2.2.2.2 with hq | ⟨t, hq⟩
  · refine va_gets hx hb hq hH.2.2.1 hown (hts _ wj_1053) (fun _ h => h) dJ0_checkIndex_df160_2 ?_
    refine fd_callS1 [.int x, .int n, .null] C hl.1 hH (cJ_pre l E S x n none h) wj_1059 ⟨rfl, rfl, Nat.le_of_ble_eq_true rfl, Nat.le_of_ble_eq_true rfl⟩ rfl rfl (Nat.le_of_ble_eq_true rfl) ⟨Nat.le_refl _, Nat.le_refl _⟩ dJ0_checkIndex_df160_5 (fun H locs hH => ?_)
    refine lv_pop hx hb dJ0_checkIndex_df160_8 rfl ?_
    exact fd_vret C hr hlk hH dJ0_checkIndex_df160_9
  · refine va_gets hx hb hq hH.2.2.1 hown (hts _ wj_1053) (fun _ h => h) dJ0_checkIndex_df160_2 ?_
    refine fd_callS1 [.int x, .int n, .ref t] C hl.1 hH (cJ_pre l E S x n (some t) h) wj_1059 ⟨rfl, rfl, Nat.le_of_ble_eq_true rfl, Nat.le_of_ble_eq_true rfl⟩ rfl rfl (Nat.le_of_ble_eq_true rfl) ⟨Nat.le_refl _, Nat.le_refl _⟩ dJ0_checkIndex_df160_5 (fun H locs hH => ?_)
    refine lv_pop hx hb dJ0_checkIndex_df160_8 rfl ?_
    exact fd_vret C hr hlk hH dJ0_checkIndex_df160_9
theorem fd_chr : ∀ i, i < 7 → ∀ j, j < fd_slen.getD i 0 → (((fd_sbyt.getD i []).getD j 0 &&& 255).toUInt32 % 65536).toInt32 = (fd_sbyt.getD i []).getD j 0 ∧ narrow .char (.int ((fd_sbyt.getD i []).getD j 0)) = .int ((fd_sbyt.getD i []).getD j 0) := by
  have h : ∀ i, i < 7 → ∀ j, j < 4 → (((fd_sbyt.getD i []).getD j 0 &&& 255).toUInt32 % 65536).toInt32 = (fd_sbyt.getD i []).getD j 0 ∧ narrow .char (.int ((fd_sbyt.getD i []).getD j 0)) = .int ((fd_sbyt.getD i []).getD j 0) := by decide +kernel
  have h4 : ∀ i, i < 7 → fd_slen.getD i 0 ≤ 4 := by decide
  exact fun i hi j hj => h i hi j (Nat.lt_of_lt_of_le hj (h4 i hi))
theorem fd_slen_lt : ∀ i, i < 7 → fd_slen.getD i 0 < 2 ^ 31 := by decide
set_option maxHeartbeats 4000000 in
set_option maxRecDepth 100000 in
theorem cJ_charAtL (l : Launch) (E : fd_E) (S : fd_S) (i : Nat) (j : Int32) (hi : i < 7) (hj : 0 ≤ j ∧ j < fd_sl i) : fd_Ct l yJ1_charAt_3b067 cJ1_charAt_3b067 2 (some .char) (fd_rm 2 43) E S [.ref (E.2.2 (120 + i)), .int j] (some (.int (fd_sc i j))) S := by
  refine fd_Ct_of (by decide +kernel) (Nat.le_of_ble_eq_true rfl) ?_
  intro p e s m below meth c ls C hr hlk hH hl
  have hx := C.1
  have hb := C.2.1
  have hown := C.2.2.2.1
  have hts := C.2.2.2.2.1
  have hZ := C.2.2.2.2.2.2
  have hl : lv_has ls 2 [(0, .ref (E.2.2 (120 + i))), (1, .int j)] := hl
  have hin := fd_in (fd_slen_lt i hi) hj
  have hjn : j.toNatClampNeg < fd_slen.getD i 0 := Nat.not_le.mp fun q => hin (Or.inr q)
  have hcc := fd_chr i hi j.toNatClampNeg hjn
  refine lv_iload_n hx hb dJ1_charAt_3b067_0 rfl (lv_at hl 1 rfl) ?_
  refine lv_aload_n hx hb dJ1_charAt_3b067_1 rfl (lv_at hl 0 rfl) ?_
  refine va_tlen (v := fd_sl i) hx hb (hZ.2.2.2.2.1.1.1 i hi).2.2.2 hH.2.2.1 rfl dJ1_charAt_3b067_2 ?_
  refine fd_callS0 [.int j, .int (fd_sl i)] C hl.1 hH (cJ_check l E S j (fd_sl i) hj) wj_l9 ⟨rfl, rfl, Nat.le_of_ble_eq_true rfl, Nat.le_of_ble_eq_true rfl⟩ rfl rfl (Nat.le_of_ble_eq_true rfl) ⟨Nat.le_refl _, Nat.le_refl _⟩ dJ1_charAt_3b067_3 (fun H locs hH => ?_)
  refine lv_aload_n hx hb dJ1_charAt_3b067_6 rfl (lv_at hl 0 rfl) ?_
  refine lv_iload_n hx hb dJ1_charAt_3b067_7 rfl (lv_at hl 1 rfl) ?_
  refine va_tb (v := .int (fd_sc i j)) hx hb (hZ.2.2.2.2.1.1.1 i hi).2.2.2 hH.2.2.1 hin rfl dJ1_charAt_3b067_8 ?_
  refine lv_sipush (v := 255) hx hb dJ1_charAt_3b067_9 (by decide) ?_
  refine lv_iand hx hb dJ1_charAt_3b067_12 ?_
  refine lv_i2c (v := fd_sc i j) hx hb dJ1_charAt_3b067_13 hcc.1 ?_
  exact fd_zret .char C hr hlk hH hcc.2 dJ1_charAt_3b067_14
set_option maxHeartbeats 4000000 in
set_option maxRecDepth 100000 in
theorem cJ_charAt (l : Launch) (E : fd_E) (S : fd_S) (i : Nat) (j : Int32) (hi : i < 7) (hj : 0 ≤ j ∧ j < fd_sl i) : fd_Ct l yJ0_charAt_5068e cJ0_charAt_5068e 2 (some .char) (fd_rm 3 64) E S [.ref (E.2.2 (110 + i)), .int j] (some (.int (fd_sc i j))) S := by
  refine fd_Ct_of (by decide +kernel) (Nat.le_of_ble_eq_true rfl) ?_
  intro p e s m below meth c ls C hr hlk hH hl
  have hx := C.1
  have hb := C.2.1
  have hown := C.2.2.2.1
  have hts := C.2.2.2.2.1
  have hZ := C.2.2.2.2.2.2
  have hl : lv_has ls 2 [(0, .ref (E.2.2 (110 + i))), (1, .int j)] := hl
  have hin := fd_in (fd_slen_lt i hi) hj
  have hjn : j.toNatClampNeg < fd_slen.getD i 0 := Nat.not_le.mp fun q => hin (Or.inr q)
  have hcc := fd_chr i hi j.toNatClampNeg hjn
  refine lv_aload_n hx hb dJ0_charAt_5068e_0 rfl (lv_at hl 0 rfl) ?_
  refine fd_callR1 [] C hl.1 hH (cJ_isLatin1 l E S i hi) wj_492 (fd_srecv hi C hH) ⟨rfl, rfl, Nat.le_of_ble_eq_true rfl, Nat.le_of_ble_eq_true rfl⟩ rfl rfl (Nat.le_of_ble_eq_true rfl) ⟨Nat.le_refl _, Nat.le_refl _⟩ dJ0_charAt_5068e_1 (fun H locs hH => ?_)
  refine lv_if_eq (tgt := 16) hx hb dJ0_charAt_5068e_4 (by decide) (fun c1 => absurd c1 (by decide)) (fun _ => ?_)
  refine lv_aload_n hx hb dJ0_charAt_5068e_7 rfl (lv_at hl 0 rfl) ?_
  refine vk_getf hx hb (hZ.2.2.2.2.1.1.1 i hi).2.2.1 hH.2.2.1 hown (hts _ wj_9) (fun _ h => h) dJ0_charAt_5068e_8 ?_
  refine lv_iload_n hx hb dJ0_charAt_5068e_11 rfl (lv_at hl 1 rfl) ?_
  refine fd_callS1 [.ref (E.2.2 (120 + i)), .int j] C hl.1 hH (cJ_charAtL l E S i j hi hj) wj_495 ⟨rfl, rfl, Nat.le_of_ble_eq_true rfl, Nat.le_of_ble_eq_true rfl⟩ rfl rfl (Nat.le_of_ble_eq_true rfl) ⟨Nat.le_refl _, Nat.le_refl _⟩ dJ0_charAt_5068e_12 (fun H locs hH => ?_)
  exact fd_zret .char C hr hlk hH hcc.2 dJ0_charAt_5068e_15
end
section
def zM_in (x0 : Int32) (x1 : Int32) (x2 : Int32) : Int32 := (if x0 < x1 then (0 : Int32) else (if x2 < x0 then (0 : Int32) else (1 : Int32)))
theorem zM_in_b (a b c : Int32) : zM_in a b c = 0 ∨ zM_in a b c = 1 := by
  unfold zM_in
  split
  · exact Or.inl rfl
  · split
    · exact Or.inl rfl
    · exact Or.inr rfl
def zM_bounded (S : fd_S) (x1 : Int32) : Option Int32 := (if (0 : Int32) ≤ ((32 : Int32) + x1) ∧ ((32 : Int32) + x1) < (275 : Int32) then (some (S 78 ((32 : Int32) + x1))) else none)
def zM_say (S : fd_S) (x1 : Int32) : Option (Int32 × fd_S) := (if (zM_in x1 (33 : Int32) (126 : Int32)) = (0 : Int32) then (some ((-2 : Int32), S)) else (if (S 73 (8 : Int32)) = (12 : Int32) then (some ((-4 : Int32), S)) else (if (0 : Int32) ≤ (S 73 (8 : Int32)) ∧ (S 73 (8 : Int32)) < (12 : Int32) then (fd_lt (fd_up S 81 (S 73 (8 : Int32)) x1) fun S4 => (fd_lt (fd_up S4 73 (8 : Int32) ((S4 73 (8 : Int32)) + (1 : Int32))) fun S5 => (some ((S5 73 (8 : Int32)), S5)))) else none)))
def zM_wipe (S : fd_S) : Option (Int32 × fd_S) := (fd_lt ((S 73 (8 : Int32))) fun y1 => (fd_lt (fd_up S 73 (8 : Int32) (0 : Int32)) fun S2 => (some (y1, S2))))
def zM_size (x0 : Int32) : Int32 := (if x0 = (6 : Int32) then (3 : Int32) else (4 : Int32))
def zM_isFigure (x0 : Int32) : Int32 := (zM_in x0 (48 : Int32) (57 : Int32))
def zM_fitting_72 (fu : Nat) : Nat → fd_S → Int32 → Int32 → Option Int32
  | 0, _, _, _ => none
  | n + 1, S, x2, x3 => (if (S 73 (8 : Int32)) ≤ x3 then (some x3) else (if (x2 + (6 : Int32)) ≤ x3 then (some x3) else (if (0 : Int32) ≤ x3 ∧ x3 < (12 : Int32) then (if (zM_isFigure (S 81 x3)) = (0 : Int32) then (some x3) else (fd_lt ((x3 + (1 : Int32))) fun y12 => (zM_fitting_72 fu n S x2 y12))) else none)))
def zM_fitting_45 (fu : Nat) (S : fd_S) (x2 : Int32) (x3 : Int32) : Option Int32 := (if x3 = x2 then (if (S 73 (8 : Int32)) ≤ x3 then (some x3) else (if (0 : Int32) ≤ x3 ∧ x3 < (12 : Int32) then (if (S 81 x3) = (61 : Int32) then (fd_lt ((x3 + (1 : Int32))) fun y7 => (zM_fitting_72 fu fu S x2 y7)) else (some x3)) else none)) else (some x3))
def zM_fitting_7 (fu : Nat) : Nat → fd_S → Int32 → Int32 → Int32 → Option Int32
  | 0, _, _, _, _ => none
  | n + 1, S, x1, x2, x3 => (if (S 73 (8 : Int32)) ≤ x3 then (zM_fitting_45 fu S x2 x3) else (if x2 ≤ x3 then (zM_fitting_45 fu S x2 x3) else (if (0 : Int32) ≤ x3 ∧ x3 < (12 : Int32) then (if (0 : Int32) ≤ (((4 : Int32) * x1) + x3) ∧ (((4 : Int32) * x1) + x3) < (28 : Int32) then (if (S 81 x3) = (S 75 (((4 : Int32) * x1) + x3)) then (fd_lt ((x3 + (1 : Int32))) fun y17 => (zM_fitting_7 fu n S x1 x2 y17)) else (zM_fitting_45 fu S x2 x3)) else none) else none)))
def zM_fitting (fu : Nat) (S : fd_S) (x1 : Int32) : Option Int32 := (fd_lt ((zM_size x1)) fun y1 => (zM_fitting_7 fu fu S x1 y1 (0 : Int32)))
def zM_told_5 (fu : Nat) : Nat → fd_S → Int32 → Int32 → Option Int32
  | 0, _, _, _ => none
  | n + 1, S, x1, x2 => (if (7 : Int32) ≤ x2 then (some x1) else (if (S 73 (8 : Int32)) ≤ ((zM_size x2) + (1 : Int32)) then (fd_lt ((x2 + (1 : Int32))) fun y3 => (zM_told_5 fu n S x1 y3)) else ((zM_fitting fu S x2).bind fun r4 => (if r4 = (S 73 (8 : Int32)) then (fd_lt ((x2 + (1 : Int32))) fun y8 => (zM_told_5 fu n S x2 y8)) else (fd_lt ((x2 + (1 : Int32))) fun y7 => (zM_told_5 fu n S x1 y7))))))
def zM_told (fu : Nat) (S : fd_S) : Option Int32 := (zM_told_5 fu fu S (-6 : Int32) (0 : Int32))
def zM_faultNow_4 (fu : Nat) : Nat → fd_S → Int32 → Int32 → Option Int32
  | 0, _, _, _ => none
  | n + 1, S, x1, x2 => (if (7 : Int32) ≤ x2 then ((zM_told fu S).bind fun r2 => (if r2 < (0 : Int32) then (some x1) else (some (-6 : Int32)))) else ((zM_fitting fu S x2).bind fun r5 => (if r5 ≤ x1 then (fd_lt ((x2 + (1 : Int32))) fun y8 => (zM_faultNow_4 fu n S x1 y8)) else ((zM_fitting fu S x2).bind fun r9 => (fd_lt ((x2 + (1 : Int32))) fun y11 => (zM_faultNow_4 fu n S r9 y11))))))
def zM_faultNow (fu : Nat) (S : fd_S) : Option Int32 := (zM_faultNow_4 fu fu S (0 : Int32) (0 : Int32))
def zM_fault (fu : Nat) (S : fd_S) : Option Int32 := ((zM_faultNow fu S).bind fun r1 => (some r1))
def zM_set_21 (fu : Nat) : Nat → fd_S → Int32 → Int32 → Int32 → Option (Int32 × fd_S)
  | 0, _, _, _, _ => none
  | n + 1, S, x1, x2, x3 => (if (S 73 (8 : Int32)) ≤ x3 then (if (0 : Int32) ≤ x1 ∧ x1 < (7 : Int32) then (if (0 : Int32) ≤ x1 ∧ x1 < (7 : Int32) then (if (zM_in x2 (S 76 x1) (S 77 x1)) = (0 : Int32) then (some ((-2 : Int32), S)) else ((zM_bounded S x1).bind fun r9 => (if (0 : Int32) ≤ ((32 : Int32) + x1) ∧ ((32 : Int32) + x1) < (275 : Int32) then (fd_lt (fd_up S 78 ((32 : Int32) + x1) x2) fun S12 => (fd_lt (fd_up S12 73 (8 : Int32) (0 : Int32)) fun S13 => (some (r9, S13)))) else none))) else none) else none) else (if (0 : Int32) ≤ x3 ∧ x3 < (12 : Int32) then (fd_lt (((((10 : Int32) * x2) + (S 81 x3)) - (48 : Int32))) fun y15 => (fd_lt ((x3 + (1 : Int32))) fun y16 => (zM_set_21 fu n S x1 y15 y16))) else none))
def zM_set (fu : Nat) (S : fd_S) : Option (Int32 × fd_S) := ((zM_told fu S).bind fun r1 => (if (0 : Int32) ≤ r1 then (fd_lt (((zM_size r1) + (1 : Int32))) fun y4 => (zM_set_21 fu fu S r1 (0 : Int32) y4)) else (some ((-7 : Int32), S))))
def zM_bound (S : fd_S) (x1 : Int32) : Option Int32 := (if (zM_in x1 (0 : Int32) (6 : Int32)) = (0 : Int32) then (some (-2 : Int32)) else ((zM_bounded S x1).bind fun r2 => (some r2)))
def zM_at (x0 : Int32) (x1 : Int32) : Int32 := (((71 : Int32) + ((10 : Int32) * x0)) + x1)
def zM_recordOf_5 (fu : Nat) : Nat → fd_S → Int32 → Int32 → Int32 → Option Int32
  | 0, _, _, _, _ => none
  | n + 1, S, x1, x2, x3 => (if (S 78 (64 : Int32)) ≤ x3 then (some x2) else (if (0 : Int32) ≤ (zM_at x3 (0 : Int32)) ∧ (zM_at x3 (0 : Int32)) < (275 : Int32) then (if (S 78 (zM_at x3 (0 : Int32))) = x1 then (fd_lt ((x3 + (1 : Int32))) fun y5 => (zM_recordOf_5 fu n S x1 x3 y5)) else (fd_lt ((x3 + (1 : Int32))) fun y4 => (zM_recordOf_5 fu n S x1 x2 y4))) else none))
def zM_recordOf (fu : Nat) (S : fd_S) (x1 : Int32) : Option Int32 := (zM_recordOf_5 fu fu S x1 (-6 : Int32) (0 : Int32))
def zM_isHeld (S : fd_S) (x1 : Int32) : Option Int32 := (if (0 : Int32) ≤ (zM_at x1 (3 : Int32)) ∧ (zM_at x1 (3 : Int32)) < (275 : Int32) then (if (S 78 (zM_at x1 (3 : Int32))) = (1 : Int32) then (some (1 : Int32)) else (some (0 : Int32))) else none)
def zM_lessened_37 (fu : Nat) (S : fd_S) (x2 : Int32) (x3 : Int32) (x4 : Int32) : Option Int32 := (if ¬ x3 = (0 : Int32) then (if ¬ x3 = (0 : Int32) then (if (0 : Int32) ≤ (((8 : Int32) * (fd_rem x2 x3)) / x3) ∧ (((8 : Int32) * (fd_rem x2 x3)) / x3) < (8 : Int32) then (some ((x4 * (S 74 (((8 : Int32) * (fd_rem x2 x3)) / x3))) / (65536 : Int32))) else none) else none) else none)
def zM_lessened_12 (fu : Nat) : Nat → fd_S → Int32 → Int32 → Int32 → Int32 → Option Int32
  | 0, _, _, _, _, _ => none
  | n + 1, S, x2, x3, x4, x5 => (if ¬ x3 = (0 : Int32) then (if (x2 / x3) ≤ x5 then (zM_lessened_37 fu S x2 x3 x4) else (if x4 ≤ (0 : Int32) then (zM_lessened_37 fu S x2 x3 x4) else (fd_lt ((x4 / (2 : Int32))) fun y9 => (fd_lt ((x5 + (1 : Int32))) fun y10 => (zM_lessened_12 fu n S x2 x3 y9 y10))))) else none)
def zM_lessened (fu : Nat) (S : fd_S) (x1 : Int32) (x2 : Int32) : Option Int32 := ((zM_bounded S (0 : Int32)).bind fun r1 => (zM_lessened_12 fu fu S x2 r1 x1 (0 : Int32)))
def zM_penaltyAt (fu : Nat) (S : fd_S) (x1 : Int32) (x2 : Int32) : Option Int32 := (if (0 : Int32) ≤ (zM_at x1 (1 : Int32)) ∧ (zM_at x1 (1 : Int32)) < (275 : Int32) then (if (0 : Int32) ≤ (zM_at x1 (2 : Int32)) ∧ (zM_at x1 (2 : Int32)) < (275 : Int32) then ((zM_lessened fu S (S 78 (zM_at x1 (1 : Int32))) (x2 - (S 78 (zM_at x1 (2 : Int32))))).bind fun r3 => (some r3)) else none) else none)
def zM_dueAfter_18 (fu : Nat) : Nat → fd_S → Int32 → Int32 → Int32 → Int32 → Option Int32
  | 0, _, _, _, _, _ => none
  | n + 1, S, x1, x3, x4, x5 => (if (7 : Int32) ≤ x5 then (some x4) else ((zM_penaltyAt fu S x1 x4).bind fun r6 => ((zM_bounded S (5 : Int32)).bind fun r8 => (if r6 < r8 then (some x4) else (fd_lt ((x4 + x3)) fun y11 => (fd_lt ((x5 + (1 : Int32))) fun y12 => (zM_dueAfter_18 fu n S x1 x3 y11 y12)))))))
def zM_dueAfter (fu : Nat) (S : fd_S) (x1 : Int32) (x2 : Int32) : Option Int32 := ((zM_bounded S (1 : Int32)).bind fun r1 => (if ¬ r1 = (0 : Int32) then (fd_lt ((((x2 / r1) * r1) + r1)) fun y4 => (zM_dueAfter_18 fu fu S x1 r1 y4 (0 : Int32))) else none))
def zM_remove_28 (fu : Nat) : Nat → fd_S → Int32 → Option fd_S
  | 0, _, _ => none
  | n + 1, S, x2 => (if (zM_at (S 78 (64 : Int32)) (0 : Int32)) ≤ x2 then (some S) else (if (0 : Int32) ≤ (x2 + (10 : Int32)) ∧ (x2 + (10 : Int32)) < (275 : Int32) then (if (0 : Int32) ≤ x2 ∧ x2 < (275 : Int32) then (fd_lt (fd_up S 78 x2 (S 78 (x2 + (10 : Int32)))) fun S7 => (fd_lt ((x2 + (1 : Int32))) fun y8 => (zM_remove_28 fu n S7 y8))) else none) else none))
def zM_remove (fu : Nat) (S : fd_S) (x1 : Int32) : Option fd_S := (fd_lt (fd_up S 78 (64 : Int32) ((S 78 (64 : Int32)) - (1 : Int32))) fun S1 => (fd_lt (fd_up S1 78 (68 : Int32) ((S1 78 (68 : Int32)) + (1 : Int32))) fun S2 => (fd_lt ((zM_at x1 (0 : Int32))) fun y3 => (zM_remove_28 fu fu S2 y3))))
def zM_makeRecord_81 (fu : Nat) : Nat → fd_S → Int32 → Int32 → Int32 → Option (Int32 × fd_S)
  | 0, _, _, _, _ => none
  | n + 1, S, x1, x2, x3 => (if (10 : Int32) ≤ x3 then (if (0 : Int32) ≤ (zM_at x2 (0 : Int32)) ∧ (zM_at x2 (0 : Int32)) < (275 : Int32) then (fd_lt (fd_up S 78 (zM_at x2 (0 : Int32)) x1) fun S9 => (if (0 : Int32) ≤ (zM_at x2 (2 : Int32)) ∧ (zM_at x2 (2 : Int32)) < (275 : Int32) then (fd_lt (fd_up S9 78 (zM_at x2 (2 : Int32)) (S9 78 (63 : Int32))) fun S11 => (some (x2, S11))) else none)) else none) else (if (0 : Int32) ≤ (zM_at x2 x3) ∧ (zM_at x2 x3) < (275 : Int32) then (fd_lt (fd_up S 78 (zM_at x2 x3) (0 : Int32)) fun S13 => (fd_lt ((x3 + (1 : Int32))) fun y14 => (zM_makeRecord_81 fu n S13 x1 x2 y14))) else none))
def zM_makeRecord_60 (fu : Nat) (S : fd_S) (x1 : Int32) : Option (Int32 × fd_S) := (fd_lt ((S 78 (64 : Int32))) fun y5 => (fd_lt (fd_up S 78 (64 : Int32) ((S 78 (64 : Int32)) + (1 : Int32))) fun S6 => (zM_makeRecord_81 fu fu S6 x1 y5 (0 : Int32))))
def zM_makeRecord_26 (fu : Nat) : Nat → fd_S → Int32 → Int32 → Option (Int32 × fd_S)
  | 0, _, _, _ => none
  | n + 1, S, x1, x3 => (if (6 : Int32) ≤ x3 then (if x3 = (6 : Int32) then (some ((-6 : Int32), S)) else ((zM_remove fu S x3).bind fun S17 => (zM_makeRecord_60 fu S17 x1))) else ((zM_isHeld S x3).bind fun r19 => (if r19 = (0 : Int32) then (if x3 = (6 : Int32) then (some ((-6 : Int32), S)) else ((zM_remove fu S x3).bind fun S23 => (zM_makeRecord_60 fu S23 x1))) else (fd_lt ((x3 + (1 : Int32))) fun y25 => (zM_makeRecord_26 fu n S x1 y25)))))
def zM_makeRecord (fu : Nat) (S : fd_S) (x1 : Int32) : Option (Int32 × fd_S) := ((zM_recordOf fu S x1).bind fun r1 => (if r1 < (0 : Int32) then (if (S 78 (64 : Int32)) = (6 : Int32) then (zM_makeRecord_26 fu fu S x1 (0 : Int32)) else (zM_makeRecord_60 fu S x1)) else (some (r1, S))))
def zM_isCounted_5 (fu : Nat) : Nat → fd_S → Int32 → Int32 → Int32 → Int32 → Option Int32
  | 0, _, _, _, _, _ => none
  | n + 1, S, x1, x2, x3, x4 => (if (0 : Int32) ≤ (zM_at x1 (5 : Int32)) ∧ (zM_at x1 (5 : Int32)) < (275 : Int32) then (if (S 78 (zM_at x1 (5 : Int32))) ≤ x4 then (if x3 = (0 : Int32) ∨ x3 = (1 : Int32) then (some x3) else none) else (if x3 = (0 : Int32) then (if (0 : Int32) ≤ (zM_at x1 ((6 : Int32) + x4)) ∧ (zM_at x1 ((6 : Int32) + x4)) < (275 : Int32) then (if (S 78 (zM_at x1 ((6 : Int32) + x4))) = x2 then (fd_lt ((x4 + (1 : Int32))) fun y9 => (zM_isCounted_5 fu n S x1 x2 (1 : Int32) y9)) else (fd_lt ((x4 + (1 : Int32))) fun y8 => (zM_isCounted_5 fu n S x1 x2 (0 : Int32) y8))) else none) else (fd_lt ((x4 + (1 : Int32))) fun y5 => (zM_isCounted_5 fu n S x1 x2 (1 : Int32) y5)))) else none)
def zM_isCounted (fu : Nat) (S : fd_S) (x1 : Int32) (x2 : Int32) : Option Int32 := (zM_isCounted_5 fu fu S x1 x2 (0 : Int32) (0 : Int32))
def zM_addCause_64 (fu : Nat) (S : fd_S) (x1 : Int32) (x2 : Int32) : Option fd_S := (if (0 : Int32) ≤ (zM_at x1 (5 : Int32)) ∧ (zM_at x1 (5 : Int32)) < (275 : Int32) then (if (0 : Int32) ≤ (zM_at x1 (5 : Int32)) ∧ (zM_at x1 (5 : Int32)) < (275 : Int32) then (fd_lt (fd_up S 78 (zM_at x1 (5 : Int32)) ((S 78 (zM_at x1 (5 : Int32))) + (1 : Int32))) fun S5 => (if (0 : Int32) ≤ (zM_at x1 (5 : Int32)) ∧ (zM_at x1 (5 : Int32)) < (275 : Int32) then (if (0 : Int32) ≤ (zM_at x1 ((5 : Int32) + (S5 78 (zM_at x1 (5 : Int32))))) ∧ (zM_at x1 ((5 : Int32) + (S5 78 (zM_at x1 (5 : Int32))))) < (275 : Int32) then (fd_lt (fd_up S5 78 (zM_at x1 ((5 : Int32) + (S5 78 (zM_at x1 (5 : Int32))))) x2) fun S8 => (some S8)) else none) else none)) else none) else none)
def zM_addCause_16 (fu : Nat) : Nat → fd_S → Int32 → Int32 → Int32 → Option fd_S
  | 0, _, _, _, _ => none
  | n + 1, S, x1, x2, x3 => (if (4 : Int32) ≤ x3 then (if (0 : Int32) ≤ (zM_at x1 (5 : Int32)) ∧ (zM_at x1 (5 : Int32)) < (275 : Int32) then (fd_lt (fd_up S 78 (zM_at x1 (5 : Int32)) (3 : Int32)) fun S11 => (zM_addCause_64 fu S11 x1 x2)) else none) else (if (0 : Int32) ≤ (zM_at x1 (((5 : Int32) + x3) + (1 : Int32))) ∧ (zM_at x1 (((5 : Int32) + x3) + (1 : Int32))) < (275 : Int32) then (if (0 : Int32) ≤ (zM_at x1 ((5 : Int32) + x3)) ∧ (zM_at x1 ((5 : Int32) + x3)) < (275 : Int32) then (fd_lt (fd_up S 78 (zM_at x1 ((5 : Int32) + x3)) (S 78 (zM_at x1 (((5 : Int32) + x3) + (1 : Int32))))) fun S14 => (fd_lt ((x3 + (1 : Int32))) fun y15 => (zM_addCause_16 fu n S14 x1 x2 y15))) else none) else none))
def zM_addCause (fu : Nat) (S : fd_S) (x1 : Int32) (x2 : Int32) : Option fd_S := (if (0 : Int32) ≤ (zM_at x1 (5 : Int32)) ∧ (zM_at x1 (5 : Int32)) < (275 : Int32) then (if (S 78 (zM_at x1 (5 : Int32))) = (4 : Int32) then (zM_addCause_16 fu fu S x1 x2 (1 : Int32)) else (zM_addCause_64 fu S x1 x2)) else none)
def zM_lineAt (x1 : Int32) (x2 : Int32) : Int32 := ((((131 : Int32) + ((24 : Int32) * x1)) + (1 : Int32)) + x2)
def zM_write (S : fd_S) (x1 : Int32) : Option fd_S := (if (0 : Int32) ≤ (zM_lineAt (0 : Int32) (S 78 (131 : Int32))) ∧ (zM_lineAt (0 : Int32) (S 78 (131 : Int32))) < (275 : Int32) then (fd_lt (fd_up S 78 (zM_lineAt (0 : Int32) (S 78 (131 : Int32))) x1) fun S2 => (fd_lt (fd_up S2 78 (131 : Int32) ((S2 78 (131 : Int32)) + (1 : Int32))) fun S3 => (some S3))) else none)
def zM_writeNumber_18 (fu : Nat) : Nat → fd_S → Int32 → Int32 → Option fd_S
  | 0, _, _, _ => none
  | n + 1, S, x1, x2 => (if x2 ≤ (0 : Int32) then (some S) else (if ¬ x2 = (0 : Int32) then ((zM_write S ((48 : Int32) + (fd_rem (x1 / x2) (10 : Int32)))).bind fun S5 => (fd_lt ((x2 / (10 : Int32))) fun y7 => (zM_writeNumber_18 fu n S5 x1 y7))) else none))
def zM_writeNumber_2 (fu : Nat) : Nat → fd_S → Int32 → Int32 → Option fd_S
  | 0, _, _, _ => none
  | n + 1, S, x1, x2 => (if ¬ x2 = (0 : Int32) then (if (x1 / x2) ≤ (9 : Int32) then (zM_writeNumber_18 fu fu S x1 x2) else (fd_lt ((x2 * (10 : Int32))) fun y8 => (zM_writeNumber_2 fu n S x1 y8))) else none)
def zM_writeNumber (fu : Nat) (S : fd_S) (x1 : Int32) : Option fd_S := (zM_writeNumber_2 fu fu S x1 (1 : Int32))
def zM_beginLine_4 (fu : Nat) : Nat → fd_S → Int32 → Int32 → Int32 → Option fd_S
  | 0, _, _, _, _ => none
  | n + 1, S, x1, x2, x3 => (if x3 < (24 : Int32) then (fd_lt (fd_up S 78 (131 : Int32) (0 : Int32)) fun S2 => (fd_lt (fd_up S2 78 (70 : Int32) ((S2 78 (70 : Int32)) + (1 : Int32))) fun S3 => ((zM_write S3 x1).bind fun S4 => ((zM_write S4 ((48 : Int32) + (x2 / (8 : Int32)))).bind fun S6 => ((zM_write S6 ((48 : Int32) + (fd_rem x2 (8 : Int32)))).bind fun S8 => (some S8)))))) else (if (0 : Int32) ≤ (((131 : Int32) + x3) - (24 : Int32)) ∧ (((131 : Int32) + x3) - (24 : Int32)) < (275 : Int32) then (if (0 : Int32) ≤ ((131 : Int32) + x3) ∧ ((131 : Int32) + x3) < (275 : Int32) then (fd_lt (fd_up S 78 ((131 : Int32) + x3) (S 78 (((131 : Int32) + x3) - (24 : Int32)))) fun S12 => (fd_lt ((x3 + (-1 : Int32))) fun y13 => (zM_beginLine_4 fu n S12 x1 x2 y13))) else none) else none))
def zM_beginLine (fu : Nat) (S : fd_S) (x1 : Int32) (x2 : Int32) : Option fd_S := (zM_beginLine_4 fu fu S x1 x2 (143 : Int32))
def zM_lookAtBest_13 (fu : Nat) : Nat → fd_S → Int32 → Int32 → Int32 → Option Int32
  | 0, _, _, _, _ => none
  | n + 1, S, x1, x2, x3 => (if (4 : Int32) ≤ x3 then (some x2) else (fd_lt ((((8 : Int32) * x3) + x1)) fun y3 => ((zM_recordOf fu S y3).bind fun r4 => (if (0 : Int32) ≤ ((0 : Int32) + y3) ∧ ((0 : Int32) + y3) < (275 : Int32) then (if (S 78 ((0 : Int32) + y3)) < (0 : Int32) then (if (0 : Int32) = (0 : Int32) then (fd_lt ((x3 + (1 : Int32))) fun y9 => (zM_lookAtBest_13 fu n S x1 x2 y9)) else (if x2 < (0 : Int32) then (fd_lt ((x3 + (1 : Int32))) fun y11 => (zM_lookAtBest_13 fu n S x1 x3 y11)) else (if (0 : Int32) ≤ ((0 : Int32) + y3) ∧ ((0 : Int32) + y3) < (275 : Int32) then (if (0 : Int32) ≤ (((0 : Int32) + ((8 : Int32) * x2)) + x1) ∧ (((0 : Int32) + ((8 : Int32) * x2)) + x1) < (275 : Int32) then (if (S 78 (((0 : Int32) + ((8 : Int32) * x2)) + x1)) ≤ (S 78 ((0 : Int32) + y3)) then (fd_lt ((x3 + (1 : Int32))) fun y15 => (zM_lookAtBest_13 fu n S x1 x2 y15)) else (fd_lt ((x3 + (1 : Int32))) fun y16 => (zM_lookAtBest_13 fu n S x1 x3 y16))) else none) else none))) else (if r4 < (0 : Int32) then (if (1 : Int32) = (0 : Int32) then (fd_lt ((x3 + (1 : Int32))) fun y19 => (zM_lookAtBest_13 fu n S x1 x2 y19)) else (if x2 < (0 : Int32) then (fd_lt ((x3 + (1 : Int32))) fun y21 => (zM_lookAtBest_13 fu n S x1 x3 y21)) else (if (0 : Int32) ≤ ((0 : Int32) + y3) ∧ ((0 : Int32) + y3) < (275 : Int32) then (if (0 : Int32) ≤ (((0 : Int32) + ((8 : Int32) * x2)) + x1) ∧ (((0 : Int32) + ((8 : Int32) * x2)) + x1) < (275 : Int32) then (if (S 78 (((0 : Int32) + ((8 : Int32) * x2)) + x1)) ≤ (S 78 ((0 : Int32) + y3)) then (fd_lt ((x3 + (1 : Int32))) fun y25 => (zM_lookAtBest_13 fu n S x1 x2 y25)) else (fd_lt ((x3 + (1 : Int32))) fun y26 => (zM_lookAtBest_13 fu n S x1 x3 y26))) else none) else none))) else ((zM_isHeld S r4).bind fun r27 => (if r27 = (0 : Int32) then (if (1 : Int32) = (0 : Int32) then (fd_lt ((x3 + (1 : Int32))) fun y40 => (zM_lookAtBest_13 fu n S x1 x2 y40)) else (if x2 < (0 : Int32) then (fd_lt ((x3 + (1 : Int32))) fun y42 => (zM_lookAtBest_13 fu n S x1 x3 y42)) else (if (0 : Int32) ≤ ((0 : Int32) + y3) ∧ ((0 : Int32) + y3) < (275 : Int32) then (if (0 : Int32) ≤ (((0 : Int32) + ((8 : Int32) * x2)) + x1) ∧ (((0 : Int32) + ((8 : Int32) * x2)) + x1) < (275 : Int32) then (if (S 78 (((0 : Int32) + ((8 : Int32) * x2)) + x1)) ≤ (S 78 ((0 : Int32) + y3)) then (fd_lt ((x3 + (1 : Int32))) fun y46 => (zM_lookAtBest_13 fu n S x1 x2 y46)) else (fd_lt ((x3 + (1 : Int32))) fun y47 => (zM_lookAtBest_13 fu n S x1 x3 y47))) else none) else none))) else (if (0 : Int32) = (0 : Int32) then (fd_lt ((x3 + (1 : Int32))) fun y31 => (zM_lookAtBest_13 fu n S x1 x2 y31)) else (if x2 < (0 : Int32) then (fd_lt ((x3 + (1 : Int32))) fun y33 => (zM_lookAtBest_13 fu n S x1 x3 y33)) else (if (0 : Int32) ≤ ((0 : Int32) + y3) ∧ ((0 : Int32) + y3) < (275 : Int32) then (if (0 : Int32) ≤ (((0 : Int32) + ((8 : Int32) * x2)) + x1) ∧ (((0 : Int32) + ((8 : Int32) * x2)) + x1) < (275 : Int32) then (if (S 78 (((0 : Int32) + ((8 : Int32) * x2)) + x1)) ≤ (S 78 ((0 : Int32) + y3)) then (fd_lt ((x3 + (1 : Int32))) fun y37 => (zM_lookAtBest_13 fu n S x1 x2 y37)) else (fd_lt ((x3 + (1 : Int32))) fun y38 => (zM_lookAtBest_13 fu n S x1 x3 y38))) else none) else none))))))) else none))))
def zM_lookAtBest_2 (fu : Nat) : Nat → fd_S → Int32 → Option fd_S
  | 0, _, _ => none
  | n + 1, S, x1 => (if (8 : Int32) ≤ x1 then (some S) else ((zM_lookAtBest_13 fu fu S x1 (-6 : Int32) (0 : Int32)).bind fun o48 => (if (0 : Int32) ≤ o48 then (if (0 : Int32) ≤ (((0 : Int32) + ((8 : Int32) * o48)) + x1) ∧ (((0 : Int32) + ((8 : Int32) * o48)) + x1) < (275 : Int32) then (fd_lt ((S 78 (((0 : Int32) + ((8 : Int32) * o48)) + x1))) fun y52 => (if (0 : Int32) ≤ ((39 : Int32) + ((3 : Int32) * x1)) ∧ ((39 : Int32) + ((3 : Int32) * x1)) < (275 : Int32) then (if o48 = (S 78 ((39 : Int32) + ((3 : Int32) * x1))) then (if (0 : Int32) ≤ (((39 : Int32) + ((3 : Int32) * x1)) + (1 : Int32)) ∧ (((39 : Int32) + ((3 : Int32) * x1)) + (1 : Int32)) < (275 : Int32) then (if y52 = (S 78 (((39 : Int32) + ((3 : Int32) * x1)) + (1 : Int32))) then (fd_lt ((x1 + (1 : Int32))) fun y65 => (zM_lookAtBest_2 fu n S y65)) else (if (0 : Int32) ≤ ((39 : Int32) + ((3 : Int32) * x1)) ∧ ((39 : Int32) + ((3 : Int32) * x1)) < (275 : Int32) then (fd_lt (fd_up S 78 ((39 : Int32) + ((3 : Int32) * x1)) o48) fun S67 => (if (0 : Int32) ≤ (((39 : Int32) + ((3 : Int32) * x1)) + (1 : Int32)) ∧ (((39 : Int32) + ((3 : Int32) * x1)) + (1 : Int32)) < (275 : Int32) then (fd_lt (fd_up S67 78 (((39 : Int32) + ((3 : Int32) * x1)) + (1 : Int32)) y52) fun S69 => (if (0 : Int32) ≤ (((39 : Int32) + ((3 : Int32) * x1)) + (2 : Int32)) ∧ (((39 : Int32) + ((3 : Int32) * x1)) + (2 : Int32)) < (275 : Int32) then (if (0 : Int32) ≤ (((39 : Int32) + ((3 : Int32) * x1)) + (2 : Int32)) ∧ (((39 : Int32) + ((3 : Int32) * x1)) + (2 : Int32)) < (275 : Int32) then (fd_lt (fd_up S69 78 (((39 : Int32) + ((3 : Int32) * x1)) + (2 : Int32)) ((S69 78 (((39 : Int32) + ((3 : Int32) * x1)) + (2 : Int32))) + (1 : Int32))) fun S72 => (fd_lt ((x1 + (1 : Int32))) fun y73 => (zM_lookAtBest_2 fu n S72 y73))) else none) else none)) else none)) else none)) else none) else (if (0 : Int32) ≤ ((39 : Int32) + ((3 : Int32) * x1)) ∧ ((39 : Int32) + ((3 : Int32) * x1)) < (275 : Int32) then (fd_lt (fd_up S 78 ((39 : Int32) + ((3 : Int32) * x1)) o48) fun S56 => (if (0 : Int32) ≤ (((39 : Int32) + ((3 : Int32) * x1)) + (1 : Int32)) ∧ (((39 : Int32) + ((3 : Int32) * x1)) + (1 : Int32)) < (275 : Int32) then (fd_lt (fd_up S56 78 (((39 : Int32) + ((3 : Int32) * x1)) + (1 : Int32)) y52) fun S58 => (if (0 : Int32) ≤ (((39 : Int32) + ((3 : Int32) * x1)) + (2 : Int32)) ∧ (((39 : Int32) + ((3 : Int32) * x1)) + (2 : Int32)) < (275 : Int32) then (if (0 : Int32) ≤ (((39 : Int32) + ((3 : Int32) * x1)) + (2 : Int32)) ∧ (((39 : Int32) + ((3 : Int32) * x1)) + (2 : Int32)) < (275 : Int32) then (fd_lt (fd_up S58 78 (((39 : Int32) + ((3 : Int32) * x1)) + (2 : Int32)) ((S58 78 (((39 : Int32) + ((3 : Int32) * x1)) + (2 : Int32))) + (1 : Int32))) fun S61 => (fd_lt ((x1 + (1 : Int32))) fun y62 => (zM_lookAtBest_2 fu n S61 y62))) else none) else none)) else none)) else none)) else none)) else none) else (if (0 : Int32) ≤ ((39 : Int32) + ((3 : Int32) * x1)) ∧ ((39 : Int32) + ((3 : Int32) * x1)) < (275 : Int32) then (if o48 = (S 78 ((39 : Int32) + ((3 : Int32) * x1))) then (if (0 : Int32) ≤ (((39 : Int32) + ((3 : Int32) * x1)) + (1 : Int32)) ∧ (((39 : Int32) + ((3 : Int32) * x1)) + (1 : Int32)) < (275 : Int32) then (if (-6 : Int32) = (S 78 (((39 : Int32) + ((3 : Int32) * x1)) + (1 : Int32))) then (fd_lt ((x1 + (1 : Int32))) fun y86 => (zM_lookAtBest_2 fu n S y86)) else (if (0 : Int32) ≤ ((39 : Int32) + ((3 : Int32) * x1)) ∧ ((39 : Int32) + ((3 : Int32) * x1)) < (275 : Int32) then (fd_lt (fd_up S 78 ((39 : Int32) + ((3 : Int32) * x1)) o48) fun S88 => (if (0 : Int32) ≤ (((39 : Int32) + ((3 : Int32) * x1)) + (1 : Int32)) ∧ (((39 : Int32) + ((3 : Int32) * x1)) + (1 : Int32)) < (275 : Int32) then (fd_lt (fd_up S88 78 (((39 : Int32) + ((3 : Int32) * x1)) + (1 : Int32)) (-6 : Int32)) fun S90 => (if (0 : Int32) ≤ (((39 : Int32) + ((3 : Int32) * x1)) + (2 : Int32)) ∧ (((39 : Int32) + ((3 : Int32) * x1)) + (2 : Int32)) < (275 : Int32) then (if (0 : Int32) ≤ (((39 : Int32) + ((3 : Int32) * x1)) + (2 : Int32)) ∧ (((39 : Int32) + ((3 : Int32) * x1)) + (2 : Int32)) < (275 : Int32) then (fd_lt (fd_up S90 78 (((39 : Int32) + ((3 : Int32) * x1)) + (2 : Int32)) ((S90 78 (((39 : Int32) + ((3 : Int32) * x1)) + (2 : Int32))) + (1 : Int32))) fun S93 => (fd_lt ((x1 + (1 : Int32))) fun y94 => (zM_lookAtBest_2 fu n S93 y94))) else none) else none)) else none)) else none)) else none) else (if (0 : Int32) ≤ ((39 : Int32) + ((3 : Int32) * x1)) ∧ ((39 : Int32) + ((3 : Int32) * x1)) < (275 : Int32) then (fd_lt (fd_up S 78 ((39 : Int32) + ((3 : Int32) * x1)) o48) fun S77 => (if (0 : Int32) ≤ (((39 : Int32) + ((3 : Int32) * x1)) + (1 : Int32)) ∧ (((39 : Int32) + ((3 : Int32) * x1)) + (1 : Int32)) < (275 : Int32) then (fd_lt (fd_up S77 78 (((39 : Int32) + ((3 : Int32) * x1)) + (1 : Int32)) (-6 : Int32)) fun S79 => (if (0 : Int32) ≤ (((39 : Int32) + ((3 : Int32) * x1)) + (2 : Int32)) ∧ (((39 : Int32) + ((3 : Int32) * x1)) + (2 : Int32)) < (275 : Int32) then (if (0 : Int32) ≤ (((39 : Int32) + ((3 : Int32) * x1)) + (2 : Int32)) ∧ (((39 : Int32) + ((3 : Int32) * x1)) + (2 : Int32)) < (275 : Int32) then (fd_lt (fd_up S79 78 (((39 : Int32) + ((3 : Int32) * x1)) + (2 : Int32)) ((S79 78 (((39 : Int32) + ((3 : Int32) * x1)) + (2 : Int32))) + (1 : Int32))) fun S82 => (fd_lt ((x1 + (1 : Int32))) fun y83 => (zM_lookAtBest_2 fu n S82 y83))) else none) else none)) else none)) else none)) else none))))
def zM_lookAtBest (fu : Nat) (S : fd_S) : Option fd_S := (zM_lookAtBest_2 fu fu S (0 : Int32))
def zM_meet_172 (fu : Nat) (S : fd_S) (x2 : Int32) (x4 : Int32) : Option (Int32 × fd_S) := ((zM_write S (43 : Int32)).bind fun S24 => ((zM_writeNumber fu S24 x2).bind fun S26 => ((zM_write S26 (61 : Int32)).bind fun S28 => (if (0 : Int32) ≤ (zM_at x4 (1 : Int32)) ∧ (zM_at x4 (1 : Int32)) < (275 : Int32) then ((zM_writeNumber fu S28 (S28 78 (zM_at x4 (1 : Int32)))).bind fun S31 => (if (0 : Int32) ≤ (zM_at x4 (1 : Int32)) ∧ (zM_at x4 (1 : Int32)) < (275 : Int32) then ((zM_bounded S31 (4 : Int32)).bind fun r34 => (if (S31 78 (zM_at x4 (1 : Int32))) ≤ r34 then (some ((3 : Int32), S31)) else ((zM_isHeld S31 x4).bind fun r37 => (if r37 = (0 : Int32) then (if (0 : Int32) ≤ (zM_at x4 (3 : Int32)) ∧ (zM_at x4 (3 : Int32)) < (275 : Int32) then (fd_lt (fd_up S31 78 (zM_at x4 (3 : Int32)) (1 : Int32)) fun S41 => ((zM_dueAfter fu S41 x4 (S41 78 (63 : Int32))).bind fun r42 => (if (0 : Int32) ≤ (zM_at x4 (4 : Int32)) ∧ (zM_at x4 (4 : Int32)) < (275 : Int32) then (fd_lt (fd_up S41 78 (zM_at x4 (4 : Int32)) r42) fun S45 => ((zM_write S45 (33 : Int32)).bind fun S46 => (some ((4 : Int32), S46)))) else none))) else none) else (some ((3 : Int32), S31)))))) else none)) else none))))
def zM_meet_142 (fu : Nat) (S : fd_S) (x2 : Int32) (x3 : Int32) (x4 : Int32) (t1 : Int32) (t2 : Int32) : Option (Int32 × fd_S) := (if (0 : Int32) ≤ t1 ∧ t1 < (275 : Int32) then (fd_lt (fd_up S 78 t1 t2) fun S20 => (if (0 : Int32) ≤ (zM_at x4 (2 : Int32)) ∧ (zM_at x4 (2 : Int32)) < (275 : Int32) then (fd_lt (fd_up S20 78 (zM_at x4 (2 : Int32)) (S20 78 (63 : Int32))) fun S22 => (if x3 ≤ (0 : Int32) then (zM_meet_172 fu S22 x2 x4) else ((zM_addCause fu S22 x4 x3).bind fun S48 => (zM_meet_172 fu S48 x2 x4)))) else none)) else none)
def zM_meet_62 (fu : Nat) (S : fd_S) (x1 : Int32) (x2 : Int32) (x3 : Int32) : Option (Int32 × fd_S) := ((zM_makeRecord fu S x1).bind fun q9 => (fd_pr q9 fun r8 S6 => (if (0 : Int32) ≤ r8 then ((zM_penaltyAt fu S6 r8 (S6 78 (63 : Int32))).bind fun r11 => (fd_lt ((r11 + x2)) fun y13 => ((zM_bounded S6 (6 : Int32)).bind fun r14 => (if r14 ≤ y13 then ((zM_bounded S6 (6 : Int32)).bind fun r17 => (zM_meet_142 fu S6 x2 x3 r8 (zM_at r8 (1 : Int32)) r17)) else (zM_meet_142 fu S6 x2 x3 r8 (zM_at r8 (1 : Int32)) y13))))) else (fd_lt (fd_up S6 78 (67 : Int32) ((S6 78 (67 : Int32)) + (1 : Int32))) fun S50 => ((zM_write S50 (63 : Int32)).bind fun S51 => (some ((2 : Int32), S51)))))))
def zM_meet (fu : Nat) (S : fd_S) (x1 : Int32) (x2 : Int32) (x3 : Int32) : Option (Int32 × fd_S) := (fd_lt (fd_up S 78 (65 : Int32) ((S 78 (65 : Int32)) + (1 : Int32))) fun S1 => ((zM_recordOf fu S1 x1).bind fun r2 => (if x2 = (0 : Int32) then (some ((0 : Int32), S1)) else (if r2 < (0 : Int32) then (zM_meet_62 fu S1 x1 x2 x3) else (if x3 ≤ (0 : Int32) then (zM_meet_62 fu S1 x1 x2 x3) else ((zM_isCounted fu S1 r2 x3).bind fun r54 => (if r54 = (0 : Int32) then (zM_meet_62 fu S1 x1 x2 x3) else (fd_lt (fd_up S1 78 (66 : Int32) ((S1 78 (66 : Int32)) + (1 : Int32))) fun S57 => ((zM_write S57 (126 : Int32)).bind fun S58 => (some ((1 : Int32), S58)))))))))))
def zM_isRoute (x0 : Int32) (x1 : Int32) : Int32 := (if (zM_in x0 (0 : Int32) (3 : Int32)) = (0 : Int32) then (0 : Int32) else (if (zM_in x1 (0 : Int32) (7 : Int32)) = (0 : Int32) then (0 : Int32) else (1 : Int32)))
def zM_announce (fu : Nat) (S : fd_S) (x1 : Int32) (x2 : Int32) (x3 : Int32) (x4 : Int32) : Option (Int32 × fd_S) := (if (zM_isRoute x1 x2) = (0 : Int32) then (some ((-1 : Int32), S)) else (if (zM_in x3 (0 : Int32) (9 : Int32)) = (0 : Int32) then (some ((-2 : Int32), S)) else (if (zM_in x4 (0 : Int32) (99 : Int32)) = (0 : Int32) then (some ((-2 : Int32), S)) else (fd_lt ((((8 : Int32) * x1) + x2)) fun y4 => (if (0 : Int32) ≤ ((0 : Int32) + y4) ∧ ((0 : Int32) + y4) < (275 : Int32) then (fd_lt ((S 78 ((0 : Int32) + y4))) fun y6 => (if y6 = x3 then (some ((-5 : Int32), S)) else (if (0 : Int32) ≤ ((0 : Int32) + y4) ∧ ((0 : Int32) + y4) < (275 : Int32) then (fd_lt (fd_up S 78 ((0 : Int32) + y4) x3) fun S9 => ((zM_beginLine fu S9 (65 : Int32) y4).bind fun S10 => ((zM_write S10 (58 : Int32)).bind fun S12 => ((zM_write S12 ((48 : Int32) + x3)).bind fun S14 => (if (0 : Int32) ≤ y6 then ((zM_bounded S14 (3 : Int32)).bind fun r17 => ((zM_meet fu S14 y4 r17 x4).bind fun q22 => (fd_pr q22 fun r21 S19 => ((zM_lookAtBest fu S19).bind fun S23 => (some (r21, S23)))))) else ((zM_meet fu S14 y4 (0 : Int32) x4).bind fun q28 => (fd_pr q28 fun r27 S25 => ((zM_lookAtBest fu S25).bind fun S29 => (some (r27, S29)))))))))) else none))) else none)))))
def zM_withdraw (fu : Nat) (S : fd_S) (x1 : Int32) (x2 : Int32) (x3 : Int32) : Option (Int32 × fd_S) := (if (zM_isRoute x1 x2) = (0 : Int32) then (some ((-1 : Int32), S)) else (if (zM_in x3 (0 : Int32) (99 : Int32)) = (0 : Int32) then (some ((-2 : Int32), S)) else (fd_lt ((((8 : Int32) * x1) + x2)) fun y3 => (if (0 : Int32) ≤ ((0 : Int32) + y3) ∧ ((0 : Int32) + y3) < (275 : Int32) then (if (0 : Int32) ≤ (S 78 ((0 : Int32) + y3)) then (if (0 : Int32) ≤ ((0 : Int32) + y3) ∧ ((0 : Int32) + y3) < (275 : Int32) then (fd_lt (fd_up S 78 ((0 : Int32) + y3) (-6 : Int32)) fun S7 => ((zM_beginLine fu S7 (87 : Int32) y3).bind fun S8 => ((zM_bounded S8 (2 : Int32)).bind fun r10 => ((zM_meet fu S8 y3 r10 x3).bind fun q15 => (fd_pr q15 fun r14 S12 => ((zM_lookAtBest fu S12).bind fun S16 => (some (r14, S16)))))))) else none) else (some ((-5 : Int32), S))) else none))))
def zM_lookAtRecords_157 (fu : Nat) : Nat → fd_S → Int32 → Option fd_S
  | 0, _, _ => none
  | n + 1, S, x1 => (if x1 < (0 : Int32) then (some S) else ((zM_isHeld S x1).bind fun r4 => (if r4 = (0 : Int32) then ((zM_penaltyAt fu S x1 (S 78 (63 : Int32))).bind fun r8 => ((zM_bounded S (5 : Int32)).bind fun r10 => (if r10 ≤ ((2 : Int32) * r8) then (fd_lt ((x1 + (-1 : Int32))) fun y13 => (zM_lookAtRecords_157 fu n S y13)) else ((zM_remove fu S x1).bind fun S14 => (fd_lt ((x1 + (-1 : Int32))) fun y16 => (zM_lookAtRecords_157 fu n S14 y16)))))) else (fd_lt ((x1 + (-1 : Int32))) fun y7 => (zM_lookAtRecords_157 fu n S y7)))))
def zM_lookAtRecords_2 (fu : Nat) : Nat → fd_S → Int32 → Option fd_S
  | 0, _, _ => none
  | n + 1, S, x1 => (if (S 78 (64 : Int32)) ≤ x1 then (fd_lt (((S 78 (64 : Int32)) - (1 : Int32))) fun y2 => (zM_lookAtRecords_157 fu fu S y2)) else ((zM_isHeld S x1).bind fun r17 => (if r17 = (0 : Int32) then (fd_lt ((x1 + (1 : Int32))) fun y20 => (zM_lookAtRecords_2 fu n S y20)) else (if (0 : Int32) ≤ (zM_at x1 (4 : Int32)) ∧ (zM_at x1 (4 : Int32)) < (275 : Int32) then (if (S 78 (63 : Int32)) < (S 78 (zM_at x1 (4 : Int32))) then (fd_lt ((x1 + (1 : Int32))) fun y23 => (zM_lookAtRecords_2 fu n S y23)) else ((zM_penaltyAt fu S x1 (S 78 (63 : Int32))).bind fun r24 => ((zM_bounded S (5 : Int32)).bind fun r26 => (if r26 ≤ r24 then ((zM_dueAfter fu S x1 (S 78 (63 : Int32))).bind fun r29 => (if (0 : Int32) ≤ (zM_at x1 (4 : Int32)) ∧ (zM_at x1 (4 : Int32)) < (275 : Int32) then (fd_lt (fd_up S 78 (zM_at x1 (4 : Int32)) r29) fun S32 => (fd_lt ((x1 + (1 : Int32))) fun y33 => (zM_lookAtRecords_2 fu n S32 y33))) else none)) else (if (0 : Int32) ≤ (zM_at x1 (3 : Int32)) ∧ (zM_at x1 (3 : Int32)) < (275 : Int32) then (fd_lt (fd_up S 78 (zM_at x1 (3 : Int32)) (0 : Int32)) fun S35 => (fd_lt (fd_up S35 78 (69 : Int32) ((S35 78 (69 : Int32)) + (1 : Int32))) fun S36 => (if (0 : Int32) ≤ (zM_at x1 (0 : Int32)) ∧ (zM_at x1 (0 : Int32)) < (275 : Int32) then ((zM_beginLine fu S36 (82 : Int32) (S36 78 (zM_at x1 (0 : Int32)))).bind fun S38 => ((zM_write S38 (64 : Int32)).bind fun S40 => ((zM_writeNumber fu S40 (S40 78 (63 : Int32))).bind fun S42 => (fd_lt ((x1 + (1 : Int32))) fun y44 => (zM_lookAtRecords_2 fu n S42 y44))))) else none))) else none))))) else none))))
def zM_lookAtRecords (fu : Nat) (S : fd_S) : Option fd_S := (zM_lookAtRecords_2 fu fu S (0 : Int32))
def zM_heldOnes_4 (fu : Nat) : Nat → fd_S → Int32 → Int32 → Option Int32
  | 0, _, _, _ => none
  | n + 1, S, x1, x2 => (if (S 78 (64 : Int32)) ≤ x2 then (some x1) else ((zM_isHeld S x2).bind fun r2 => (if r2 = (0 : Int32) then (fd_lt ((x1 + (0 : Int32))) fun y5 => (fd_lt ((x2 + (1 : Int32))) fun y6 => (zM_heldOnes_4 fu n S y5 y6))) else (fd_lt ((x1 + (1 : Int32))) fun y7 => (fd_lt ((x2 + (1 : Int32))) fun y8 => (zM_heldOnes_4 fu n S y7 y8))))))
def zM_heldOnes (fu : Nat) (S : fd_S) : Option Int32 := (zM_heldOnes_4 fu fu S (0 : Int32) (0 : Int32))
def zM_pass_16 (fu : Nat) : Nat → fd_S → Int32 → Int32 → Option (Int32 × fd_S)
  | 0, _, _, _ => none
  | n + 1, S, x1, x2 => (if x1 ≤ x2 then ((zM_heldOnes fu S).bind fun r3 => (some (r3, S))) else (fd_lt (fd_up S 78 (63 : Int32) ((S 78 (63 : Int32)) + (1 : Int32))) fun S5 => ((zM_bounded S5 (1 : Int32)).bind fun r6 => (if ¬ r6 = (0 : Int32) then (if (fd_rem (S5 78 (63 : Int32)) r6) = (0 : Int32) then ((zM_lookAtRecords fu S5).bind fun S11 => ((zM_lookAtBest fu S11).bind fun S13 => (fd_lt ((x2 + (1 : Int32))) fun y15 => (zM_pass_16 fu n S13 x1 y15)))) else (fd_lt ((x2 + (1 : Int32))) fun y10 => (zM_pass_16 fu n S5 x1 y10))) else none))))
def zM_pass (fu : Nat) (S : fd_S) (x1 : Int32) : Option (Int32 × fd_S) := (if (zM_in x1 (1 : Int32) (200 : Int32)) = (0 : Int32) then (some ((-2 : Int32), S)) else (zM_pass_16 fu fu S x1 (0 : Int32)))
def zM_route (fu : Nat) (S : fd_S) (x1 : Int32) (x2 : Int32) (x3 : Int32) : Option Int32 := (if (zM_isRoute x1 x2) = (0 : Int32) then (some (-1 : Int32)) else (if (zM_in x3 (0 : Int32) (6 : Int32)) = (0 : Int32) then (some (-2 : Int32)) else ((zM_recordOf fu S (((8 : Int32) * x1) + x2)).bind fun r3 => (if x3 = (0 : Int32) then (if (0 : Int32) ≤ (((0 : Int32) + ((8 : Int32) * x1)) + x2) ∧ (((0 : Int32) + ((8 : Int32) * x1)) + x2) < (275 : Int32) then (some (S 78 (((0 : Int32) + ((8 : Int32) * x1)) + x2))) else none) else (if x3 = (1 : Int32) then (if (0 : Int32) ≤ r3 then ((zM_penaltyAt fu S r3 (S 78 (63 : Int32))).bind fun r9 => (some r9)) else (some (0 : Int32))) else (if x3 = (2 : Int32) then (if r3 < (0 : Int32) then (some (0 : Int32)) else ((zM_isHeld S r3).bind fun r13 => (if r13 = (0 : Int32) then (some (0 : Int32)) else (some (1 : Int32))))) else (if x3 = (3 : Int32) then (if r3 < (0 : Int32) then (some (-6 : Int32)) else ((zM_isHeld S r3).bind fun r18 => (if r18 = (0 : Int32) then (some (-6 : Int32)) else (if (0 : Int32) ≤ (zM_at r3 (4 : Int32)) ∧ (zM_at r3 (4 : Int32)) < (275 : Int32) then (some (S 78 (zM_at r3 (4 : Int32)))) else none)))) else (if x3 = (4 : Int32) then (if (0 : Int32) ≤ r3 then (if (0 : Int32) ≤ (zM_at r3 (1 : Int32)) ∧ (zM_at r3 (1 : Int32)) < (275 : Int32) then (some (S 78 (zM_at r3 (1 : Int32)))) else none) else (some (-6 : Int32))) else (if x3 = (5 : Int32) then (if (0 : Int32) ≤ r3 then (if (0 : Int32) ≤ (zM_at r3 (2 : Int32)) ∧ (zM_at r3 (2 : Int32)) < (275 : Int32) then (some (S 78 (zM_at r3 (2 : Int32)))) else none) else (some (-6 : Int32))) else (if (0 : Int32) ≤ r3 then (if (0 : Int32) ≤ (zM_at r3 (5 : Int32)) ∧ (zM_at r3 (5 : Int32)) < (275 : Int32) then (some (S 78 (zM_at r3 (5 : Int32)))) else none) else (some (0 : Int32))))))))))))
def zM_later (fu : Nat) (S : fd_S) (x1 : Int32) (x2 : Int32) (x3 : Int32) : Option Int32 := (if (zM_isRoute x1 x2) = (0 : Int32) then (some (-1 : Int32)) else (if (zM_in x3 (0 : Int32) (2000 : Int32)) = (0 : Int32) then (some (-2 : Int32)) else ((zM_recordOf fu S (((8 : Int32) * x1) + x2)).bind fun r3 => (if (0 : Int32) ≤ r3 then ((zM_penaltyAt fu S r3 ((S 78 (63 : Int32)) + x3)).bind fun r6 => (some r6)) else (some (0 : Int32))))))
def zM_when_59 (fu : Nat) : Nat → fd_S → Int32 → Int32 → Int32 → Option Int32
  | 0, _, _, _, _ => none
  | n + 1, S, x3, x4, x5 => (if ((S 78 (63 : Int32)) + (5000 : Int32)) < x5 then (some (-6 : Int32)) else ((zM_bounded S (1 : Int32)).bind fun r12 => (if ¬ r12 = (0 : Int32) then (if (fd_rem x5 r12) = (0 : Int32) then (if x5 < x4 then (fd_lt ((x5 + (1 : Int32))) fun y18 => (zM_when_59 fu n S x3 x4 y18)) else ((zM_penaltyAt fu S x3 x5).bind fun r19 => ((zM_bounded S (5 : Int32)).bind fun r21 => (if r21 ≤ r19 then ((zM_dueAfter fu S x3 x5).bind fun r24 => (fd_lt ((x5 + (1 : Int32))) fun y26 => (zM_when_59 fu n S x3 r24 y26))) else (some x5))))) else (fd_lt ((x5 + (1 : Int32))) fun y16 => (zM_when_59 fu n S x3 x4 y16))) else none)))
def zM_when (fu : Nat) (S : fd_S) (x1 : Int32) (x2 : Int32) : Option Int32 := (if (zM_isRoute x1 x2) = (0 : Int32) then (some (-1 : Int32)) else ((zM_recordOf fu S (((8 : Int32) * x1) + x2)).bind fun r2 => (if r2 < (0 : Int32) then (some (-6 : Int32)) else ((zM_isHeld S r2).bind fun r5 => (if r5 = (0 : Int32) then (some (-6 : Int32)) else (if (0 : Int32) ≤ (zM_at r2 (4 : Int32)) ∧ (zM_at r2 (4 : Int32)) < (275 : Int32) then (fd_lt ((S 78 (zM_at r2 (4 : Int32)))) fun y9 => (fd_lt (((S 78 (63 : Int32)) + (1 : Int32))) fun y10 => (zM_when_59 fu fu S r2 y9 y10))) else none))))))
def zM_longest_2 (fu : Nat) : Nat → fd_S → Int32 → Option Int32
  | 0, _, _ => none
  | n + 1, S, x1 => (if (5000 : Int32) < x1 then (some (-6 : Int32)) else ((zM_bounded S (6 : Int32)).bind fun r2 => ((zM_lessened fu S r2 x1).bind fun r4 => ((zM_bounded S (5 : Int32)).bind fun r6 => (if r6 ≤ r4 then (fd_lt ((x1 + (1 : Int32))) fun y9 => (zM_longest_2 fu n S y9)) else (some x1))))))
def zM_longest (fu : Nat) (S : fd_S) : Option Int32 := (zM_longest_2 fu fu S (0 : Int32))
def zM_best (S : fd_S) (x1 : Int32) (x2 : Int32) : Option Int32 := (if (zM_in x1 (0 : Int32) (7 : Int32)) = (0 : Int32) then (some (-1 : Int32)) else (if (zM_in x2 (0 : Int32) (2 : Int32)) = (0 : Int32) then (some (-2 : Int32)) else (if (0 : Int32) ≤ (((39 : Int32) + ((3 : Int32) * x1)) + x2) ∧ (((39 : Int32) + ((3 : Int32) * x1)) + x2) < (275 : Int32) then (some (S 78 (((39 : Int32) + ((3 : Int32) * x1)) + x2))) else none)))
def zM_record (S : fd_S) (x1 : Int32) : Option Int32 := (if (zM_in x1 (0 : Int32) ((S 78 (64 : Int32)) - (1 : Int32))) = (0 : Int32) then (some (-6 : Int32)) else (if (0 : Int32) ≤ (zM_at x1 (0 : Int32)) ∧ (zM_at x1 (0 : Int32)) < (275 : Int32) then (some (S 78 (zM_at x1 (0 : Int32)))) else none))
def zM_line_24 (fu : Nat) (S : fd_S) (x1 : Int32) (x2 : Int32) (t0 : Int32) : Option Int32 := (if (zM_in x1 (0 : Int32) (t0 - (1 : Int32))) = (0 : Int32) then (some (-6 : Int32)) else (if (0 : Int32) ≤ ((131 : Int32) + ((24 : Int32) * x1)) ∧ ((131 : Int32) + ((24 : Int32) * x1)) < (275 : Int32) then (if (zM_in x2 (-1 : Int32) ((S 78 ((131 : Int32) + ((24 : Int32) * x1))) - (1 : Int32))) = (0 : Int32) then (some (-6 : Int32)) else (if (0 : Int32) ≤ (zM_lineAt x1 x2) ∧ (zM_lineAt x1 x2) < (275 : Int32) then (some (S 78 (zM_lineAt x1 x2))) else none)) else none))
def zM_line (fu : Nat) (S : fd_S) (x1 : Int32) (x2 : Int32) : Option Int32 := (if (6 : Int32) ≤ (S 78 (70 : Int32)) then (zM_line_24 fu S x1 x2 (6 : Int32)) else (zM_line_24 fu S x1 x2 (S 78 (70 : Int32))))
def zM_count (fu : Nat) (S : fd_S) (x1 : Int32) : Option Int32 := (if x1 = (0 : Int32) then (some (S 78 (63 : Int32))) else (if x1 = (1 : Int32) then (some (S 78 (64 : Int32))) else (if x1 = (2 : Int32) then ((zM_heldOnes fu S).bind fun r4 => (some r4)) else (if x1 = (3 : Int32) then (some (S 78 (65 : Int32))) else (if x1 = (4 : Int32) then (some (S 78 (66 : Int32))) else (if x1 = (5 : Int32) then (some (S 78 (67 : Int32))) else (if x1 = (6 : Int32) then (some (S 78 (68 : Int32))) else (if x1 = (7 : Int32) then (some (S 78 (69 : Int32))) else (if x1 = (8 : Int32) then (some (S 78 (70 : Int32))) else (if x1 = (9 : Int32) then (if (S 80 (0 : Int32)) = (0 : Int32) then (if (S 80 (1 : Int32)) = (0 : Int32) then (some ((0 : Int32) + (0 : Int32))) else (some ((0 : Int32) + (2 : Int32)))) else (if (S 80 (1 : Int32)) = (0 : Int32) then (some ((1 : Int32) + (0 : Int32))) else (some ((1 : Int32) + (2 : Int32))))) else (some (-2 : Int32))))))))))))
def zM_image_14 (fu : Nat) : Nat → fd_S → Int32 → Int32 → Option (Int32 × fd_S)
  | 0, _, _, _ => none
  | n + 1, S, x1, x2 => (if (275 : Int32) ≤ x2 then (if (0 : Int32) ≤ x1 ∧ x1 < (2 : Int32) then (fd_lt (fd_up S 80 x1 (1 : Int32)) fun S4 => (some ((1 : Int32), S4))) else none) else (if (0 : Int32) ≤ x2 ∧ x2 < (275 : Int32) then (if (0 : Int32) ≤ (((275 : Int32) * x1) + x2) ∧ (((275 : Int32) * x1) + x2) < (550 : Int32) then (fd_lt (fd_up S 79 (((275 : Int32) * x1) + x2) (S 78 x2)) fun S7 => (fd_lt ((x2 + (1 : Int32))) fun y8 => (zM_image_14 fu n S7 x1 y8))) else none) else none))
def zM_image (fu : Nat) (S : fd_S) (x1 : Int32) : Option (Int32 × fd_S) := (if (zM_in x1 (0 : Int32) (1 : Int32)) = (0 : Int32) then (some ((-2 : Int32), S)) else (zM_image_14 fu fu S x1 (0 : Int32)))
def zM_restore_26 (fu : Nat) : Nat → fd_S → Int32 → Int32 → Option (Int32 × fd_S)
  | 0, _, _, _ => none
  | n + 1, S, x1, x2 => (if (275 : Int32) ≤ x2 then (some ((1 : Int32), S)) else (if (0 : Int32) ≤ (((275 : Int32) * x1) + x2) ∧ (((275 : Int32) * x1) + x2) < (550 : Int32) then (if (0 : Int32) ≤ x2 ∧ x2 < (275 : Int32) then (fd_lt (fd_up S 78 x2 (S 79 (((275 : Int32) * x1) + x2))) fun S7 => (fd_lt ((x2 + (1 : Int32))) fun y8 => (zM_restore_26 fu n S7 x1 y8))) else none) else none))
def zM_restore (fu : Nat) (S : fd_S) (x1 : Int32) : Option (Int32 × fd_S) := (if (zM_in x1 (0 : Int32) (1 : Int32)) = (0 : Int32) then (some ((-2 : Int32), S)) else (if (0 : Int32) ≤ x1 ∧ x1 < (2 : Int32) then (if (S 80 x1) = (0 : Int32) then (some ((-3 : Int32), S)) else (zM_restore_26 fu fu S x1 (0 : Int32))) else none))
end
section
def zF_isWithin (x0 : Int32) (x1 : Int32) (x2 : Int32) : Int32 := (if x0 < x1 then (0 : Int32) else (if x2 < x0 then (0 : Int32) else (1 : Int32)))
def zF_isRoute (x0 : Int32) (x1 : Int32) : Int32 := (if (zF_isWithin x0 (0 : Int32) (3 : Int32)) = (0 : Int32) then (0 : Int32) else (if (zF_isWithin x1 (0 : Int32) (7 : Int32)) = (0 : Int32) then (0 : Int32) else (1 : Int32)))
def zF_routeOf (x0 : Int32) (x1 : Int32) : Int32 := ((x0 * (8 : Int32)) + x1)
def zB_replace (S : fd_S) (x1 : Int32) (x2 : Int32) : Option (Int32 × fd_S) := (if (0 : Int32) ≤ x1 ∧ x1 < (7 : Int32) then (fd_lt ((S 2 x1)) fun y2 => (if (0 : Int32) ≤ x1 ∧ x1 < (7 : Int32) then (fd_lt (fd_up S 2 x1 x2) fun S4 => (some (y2, S4))) else none)) else none)
def zB_lessened (S : fd_S) (x1 : Int32) (x2 : Int32) : Option Int32 := (fd_lt ((S 2 (0 : Int32))) fun y1 => (if y1 < (1 : Int32) then (some x1) else (if (0 : Int32) ≤ x2 then (if ¬ y1 = (0 : Int32) then (fd_lt ((x2 / y1)) fun y5 => (if y5 ≤ (30 : Int32) then (fd_lt ((x1 >>> (y5 &&& (31 : Int32))).toInt64) fun y7 => (if ¬ y1 = (0 : Int32) then (if ¬ y1 = (0 : Int32) then (fd_lt ((((8 : Int32) * (fd_rem x2 y1)) / y1)) fun y10 => (if (0 : Int32) ≤ y10 ∧ y10 < (8 : Int32) then (some ((y7 * (fd_tl fd_row y10).toInt64) / (65536 : Int64)).toInt32) else none)) else none) else none)) else (some (0 : Int32)))) else none) else (some x1))))
def zB_copyFrom (S : fd_S) (u : Nat) (v : Nat) : Option fd_S := (fd_lt (fd_cp S (v + 2) (u + 2) (0 : Int32) (0 : Int32) (7 : Int32)) fun S1 => (some S1))
def zR_begin (S : fd_S) (k0 : Nat) (x1 : Int32) (x2 : Int32) : Option fd_S := (if fd_rk k0 then (fd_lt (fd_up S k0 (0 : Int32) x1) fun S2 => (fd_lt (fd_up S2 k0 (1 : Int32) (0 : Int32)) fun S3 => (fd_lt (fd_up S3 k0 (2 : Int32) x2) fun S4 => (fd_lt (fd_up S4 k0 (3 : Int32) (0 : Int32)) fun S5 => (fd_lt (fd_up S5 k0 (4 : Int32) (0 : Int32)) fun S6 => (fd_lt (fd_up S6 k0 (6 : Int32) (0 : Int32)) fun S7 => (some S7))))))) else none)
def zR_hasCause_2 (fu : Nat) : Nat → fd_S → Nat → Int32 → Int32 → Option Int32
  | 0, _, _, _, _ => none
  | n + 1, S, k0, x1, x2 => (if fd_rk k0 then (if (S k0 (6 : Int32)) ≤ x2 then (some (0 : Int32)) else (if (0 : Int32) ≤ x2 ∧ x2 < (4 : Int32) then (if (S (k0 + 6) x2) = x1 then (some (1 : Int32)) else (fd_lt ((x2 + (1 : Int32))) fun y5 => (zR_hasCause_2 fu n S k0 x1 y5))) else none)) else none)
def zR_hasCause (fu : Nat) (S : fd_S) (k0 : Nat) (x1 : Int32) : Option Int32 := (zR_hasCause_2 fu fu S k0 x1 (0 : Int32))
def zR_addCause (S : fd_S) (k0 : Nat) (x1 : Int32) : Option fd_S := (if fd_rk k0 then (if (4 : Int32) ≤ (S k0 (6 : Int32)) then (fd_lt (fd_cp S (k0 + 6) (k0 + 6) (1 : Int32) (0 : Int32) (3 : Int32)) fun S3 => (fd_lt (fd_up S3 (k0 + 6) (3 : Int32) x1) fun S4 => (some S4))) else (if (0 : Int32) ≤ (S k0 (6 : Int32)) ∧ (S k0 (6 : Int32)) < (4 : Int32) then (fd_lt (fd_up S (k0 + 6) (S k0 (6 : Int32)) x1) fun S6 => (fd_lt (fd_up S6 k0 (6 : Int32) ((S6 k0 (6 : Int32)) + (1 : Int32))) fun S7 => (some S7))) else none)) else none)
def zR_copyFrom (S : fd_S) (k0 : Nat) (k1 : Nat) : Option fd_S := (if fd_rk k1 then (if fd_rk k0 then (fd_lt (fd_up S k0 (0 : Int32) (S k1 (0 : Int32))) fun S3 => (fd_lt (fd_up S3 k0 (1 : Int32) (S3 k1 (1 : Int32))) fun S4 => (fd_lt (fd_up S4 k0 (2 : Int32) (S4 k1 (2 : Int32))) fun S5 => (if (S5 k1 (3 : Int32)) = (0 : Int32) ∨ (S5 k1 (3 : Int32)) = (1 : Int32) then (fd_lt (fd_up S5 k0 (3 : Int32) (S5 k1 (3 : Int32))) fun S7 => (fd_lt (fd_up S7 k0 (4 : Int32) (S7 k1 (4 : Int32))) fun S8 => (fd_lt (fd_cp S8 (k1 + 6) (k0 + 6) (0 : Int32) (0 : Int32) (4 : Int32)) fun S9 => (fd_lt (fd_up S9 k0 (6 : Int32) (S9 k1 (6 : Int32))) fun S10 => (some S10))))) else none)))) else none) else none)
def zQ_find_2 (fu : Nat) : Nat → fd_S → Int32 → Int32 → Option (Option Nat)
  | 0, _, _, _ => none
  | n + 1, S, x1, x2 => (if (S 3 (1 : Int32)) ≤ x2 then (some none) else (if (0 : Int32) ≤ x2 ∧ x2 < (6 : Int32) then (fd_lt (fd_rc 4 (S 4 x2)) fun k3 => (if fd_rk k3 then (if (S k3 (0 : Int32)) = x1 then (if (0 : Int32) ≤ x2 ∧ x2 < (6 : Int32) then (fd_lt (fd_rc 4 (S 4 x2)) fun k8 => (some (some k8))) else none) else (fd_lt ((x2 + (1 : Int32))) fun y6 => (zQ_find_2 fu n S x1 y6))) else none)) else none))
def zQ_find (fu : Nat) (S : fd_S) (x1 : Int32) : Option (Option Nat) := (zQ_find_2 fu fu S x1 (0 : Int32))
def zQ_drop_24 (fu : Nat) : Nat → fd_S → Nat → Int32 → Option fd_S
  | 0, _, _, _ => none
  | n + 1, S, k2, x3 => (if ((S 3 (1 : Int32)) - (1 : Int32)) ≤ x3 then (fd_lt (fd_up S 3 (1 : Int32) ((S 3 (1 : Int32)) - (1 : Int32))) fun S5 => (if (0 : Int32) ≤ (S5 3 (1 : Int32)) ∧ (S5 3 (1 : Int32)) < (6 : Int32) then (if 8 ≤ k2 ∧ k2 < 14 then (fd_lt (fd_up S5 4 (S5 3 (1 : Int32)) (nI (k2 - 8))) fun S8 => (fd_lt (fd_up S8 3 (2 : Int32) ((S8 3 (2 : Int32)) + (1 : Int32))) fun S9 => (some S9))) else none) else none)) else (if (0 : Int32) ≤ (x3 + (1 : Int32)) ∧ (x3 + (1 : Int32)) < (6 : Int32) then (fd_lt (fd_rc 4 (S 4 (x3 + (1 : Int32)))) fun k11 => (if (0 : Int32) ≤ x3 ∧ x3 < (6 : Int32) then (if 8 ≤ k11 ∧ k11 < 14 then (fd_lt (fd_up S 4 x3 (nI (k11 - 8))) fun S14 => (fd_lt ((x3 + (1 : Int32))) fun y15 => (zQ_drop_24 fu n S14 k2 y15))) else none) else none)) else none))
def zQ_drop (fu : Nat) (S : fd_S) (x1 : Int32) : Option fd_S := (if (zF_isWithin x1 (0 : Int32) ((S 3 (1 : Int32)) - (1 : Int32))) = (0 : Int32) then (some S) else (if (0 : Int32) ≤ x1 ∧ x1 < (6 : Int32) then (fd_lt (fd_rc 4 (S 4 x1)) fun k3 => (zQ_drop_24 fu fu S k3 x1)) else none))
def zQ_dropFirstFree_2 (fu : Nat) : Nat → fd_S → Int32 → Option (Int32 × fd_S)
  | 0, _, _ => none
  | n + 1, S, x1 => (if (S 3 (1 : Int32)) ≤ x1 then (some ((0 : Int32), S)) else (if (0 : Int32) ≤ x1 ∧ x1 < (6 : Int32) then (fd_lt (fd_rc 4 (S 4 x1)) fun k3 => (if fd_rk k3 then (if (S k3 (3 : Int32)) = (0 : Int32) then ((zQ_drop fu S x1).bind fun S7 => (some ((1 : Int32), S7))) else (fd_lt ((x1 + (1 : Int32))) fun y6 => (zQ_dropFirstFree_2 fu n S y6))) else none)) else none))
def zQ_dropFirstFree (fu : Nat) (S : fd_S) : Option (Int32 × fd_S) := (zQ_dropFirstFree_2 fu fu S (0 : Int32))
def zQ_make_18 (fu : Nat) (S : fd_S) (x1 : Int32) (x2 : Int32) : Option ((Option Nat) × fd_S) := (if (0 : Int32) ≤ (S 3 (1 : Int32)) ∧ (S 3 (1 : Int32)) < (6 : Int32) then (fd_lt (fd_rc 4 (S 4 (S 3 (1 : Int32)))) fun k3 => (fd_lt (fd_up S 3 (1 : Int32) ((S 3 (1 : Int32)) + (1 : Int32))) fun S4 => (if fd_rk k3 then ((zR_begin S4 k3 x1 x2).bind fun S6 => (some ((some k3), S6))) else none))) else none)
def zQ_make (fu : Nat) (S : fd_S) (x1 : Int32) (x2 : Int32) : Option ((Option Nat) × fd_S) := (if (S 3 (1 : Int32)) < (6 : Int32) then (zQ_make_18 fu S x1 x2) else ((zQ_dropFirstFree fu S).bind fun q11 => (fd_pr q11 fun r10 S8 => (if r10 = (0 : Int32) then (some (none, S8)) else (zQ_make_18 fu S8 x1 x2)))))
def zQ_heldOnes_4 (fu : Nat) : Nat → fd_S → Int32 → Int32 → Option Int32
  | 0, _, _, _ => none
  | n + 1, S, x1, x2 => (if (S 3 (1 : Int32)) ≤ x2 then (some x1) else (if (0 : Int32) ≤ x2 ∧ x2 < (6 : Int32) then (fd_lt (fd_rc 4 (S 4 x2)) fun k3 => (if fd_rk k3 then (if (S k3 (3 : Int32)) = (0 : Int32) then (fd_lt ((x2 + (1 : Int32))) fun y6 => (zQ_heldOnes_4 fu n S x1 y6)) else (fd_lt ((x1 + (1 : Int32))) fun y7 => (fd_lt ((x2 + (1 : Int32))) fun y8 => (zQ_heldOnes_4 fu n S y7 y8)))) else none)) else none))
def zQ_heldOnes (fu : Nat) (S : fd_S) : Option Int32 := (zQ_heldOnes_4 fu fu S (0 : Int32) (0 : Int32))
def zQ_copyFrom_2 (u : Nat) (v : Nat) (fu : Nat) : Nat → fd_S → Int32 → Option fd_S
  | 0, _, _ => none
  | n + 1, S, x2 => (if (6 : Int32) ≤ x2 then (fd_lt (fd_up S (u + 3) (1 : Int32) (S (v + 3) (1 : Int32))) fun S2 => (fd_lt (fd_up S2 (u + 3) (2 : Int32) (S2 (v + 3) (2 : Int32))) fun S3 => (some S3))) else (if (0 : Int32) ≤ x2 ∧ x2 < (6 : Int32) then (fd_lt (fd_rc (u + 4) (S (u + 4) x2)) fun k5 => (if (0 : Int32) ≤ x2 ∧ x2 < (6 : Int32) then (fd_lt (fd_rc (v + 4) (S (v + 4) x2)) fun k7 => (if fd_rk k5 then ((zR_copyFrom S k5 k7).bind fun S9 => (fd_lt ((x2 + (1 : Int32))) fun y11 => (zQ_copyFrom_2 u v fu n S9 y11))) else none)) else none)) else none))
def zQ_copyFrom (fu : Nat) (S : fd_S) (u : Nat) (v : Nat) : Option fd_S := (zQ_copyFrom_2 u v fu fu S (0 : Int32))
def zL_put (S : fd_S) (x1 : Int32) : Option fd_S := (if (0 : Int32) ≤ (S 5 (2 : Int32)) ∧ (S 5 (2 : Int32)) < (6 : Int32) then (fd_lt ((S 7 (S 5 (2 : Int32)))) fun y2 => (if (20 : Int32) ≤ y2 then (some S) else (if (0 : Int32) ≤ (((S 5 (2 : Int32)) * (20 : Int32)) + y2) ∧ (((S 5 (2 : Int32)) * (20 : Int32)) + y2) < (120 : Int32) then (fd_lt (fd_up S 6 (((S 5 (2 : Int32)) * (20 : Int32)) + y2) x1) fun S5 => (if (0 : Int32) ≤ (S5 5 (2 : Int32)) ∧ (S5 5 (2 : Int32)) < (6 : Int32) then (fd_lt (fd_up S5 7 (S5 5 (2 : Int32)) (y2 + (1 : Int32))) fun S7 => (some S7)) else none)) else none))) else none)
def zL_putNumber_29 (fu : Nat) : Nat → fd_S → Int32 → Int32 → Option fd_S
  | 0, _, _, _ => none
  | n + 1, S, x1, x2 => (if x2 ≤ (0 : Int32) then (some S) else (if ¬ x2 = (0 : Int32) then ((zL_put S ((48 : Int32) + (fd_rem (x1 / x2) (10 : Int32)))).bind fun S4 => (fd_lt ((x2 / (10 : Int32))) fun y6 => (zL_putNumber_29 fu n S4 x1 y6))) else none))
def zL_putNumber_4 (fu : Nat) : Nat → fd_S → Int32 → Int32 → Int32 → Option fd_S
  | 0, _, _, _, _ => none
  | n + 1, S, x1, x2, x3 => (if (9 : Int32) ≤ x3 then (zL_putNumber_29 fu fu S x1 x2) else (if ¬ x2 = (0 : Int32) then (if (x1 / x2) < (10 : Int32) then (zL_putNumber_29 fu fu S x1 x2) else (fd_lt ((x2 * (10 : Int32))) fun y9 => (fd_lt ((x3 + (1 : Int32))) fun y10 => (zL_putNumber_4 fu n S x1 y9 y10)))) else none))
def zL_putNumber (fu : Nat) (S : fd_S) (x1 : Int32) : Option fd_S := (zL_putNumber_4 fu fu S x1 (1 : Int32) (0 : Int32))
def zL_begin (fu : Nat) (S : fd_S) (x1 : Int32) (x2 : Int32) : Option fd_S := (fd_lt (fd_up S 5 (2 : Int32) (fd_rem ((S 5 (2 : Int32)) + (1 : Int32)) (6 : Int32))) fun S1 => (if (0 : Int32) ≤ (S1 5 (2 : Int32)) ∧ (S1 5 (2 : Int32)) < (6 : Int32) then (fd_lt (fd_up S1 7 (S1 5 (2 : Int32)) (0 : Int32)) fun S3 => (fd_lt (fd_up S3 5 (3 : Int32) ((S3 5 (3 : Int32)) + (1 : Int32))) fun S4 => ((zL_put S4 x1).bind fun S5 => ((zL_putNumber fu S5 (x2 / (8 : Int32))).bind fun S7 => ((zL_putNumber fu S7 (fd_rem x2 (8 : Int32))).bind fun S9 => (some S9)))))) else none))
def zL_tell (S : fd_S) (x1 : Int32) (x2 : Int32) : Option Int32 := (if (zF_isWithin x1 (0 : Int32) ((fd_min (S 5 (3 : Int32)) (6 : Int32)) - (1 : Int32))) = (0 : Int32) then (some (-6 : Int32)) else (fd_lt ((fd_rem (((S 5 (2 : Int32)) - x1) + (6 : Int32)) (6 : Int32))) fun y2 => (if x2 = (-1 : Int32) then (if (0 : Int32) ≤ y2 ∧ y2 < (6 : Int32) then (some (S 7 y2)) else none) else (if (0 : Int32) ≤ y2 ∧ y2 < (6 : Int32) then (if (zF_isWithin x2 (0 : Int32) ((S 7 y2) - (1 : Int32))) = (0 : Int32) then (some (-6 : Int32)) else (if (0 : Int32) ≤ ((y2 * (20 : Int32)) + x2) ∧ ((y2 * (20 : Int32)) + x2) < (120 : Int32) then (some (S 6 ((y2 * (20 : Int32)) + x2))) else none)) else none))))
def zL_copyFrom (S : fd_S) (u : Nat) (v : Nat) : Option fd_S := (fd_lt (fd_cp S (v + 6) (u + 6) (0 : Int32) (0 : Int32) (120 : Int32)) fun S1 => (fd_lt (fd_cp S1 (v + 7) (u + 7) (0 : Int32) (0 : Int32) (6 : Int32)) fun S2 => (fd_lt (fd_up S2 (u + 5) (2 : Int32) (S2 (v + 5) (2 : Int32))) fun S3 => (fd_lt (fd_up S3 (u + 5) (3 : Int32) (S3 (v + 5) (3 : Int32))) fun S4 => (some S4)))))
def zS_weigh (S : fd_S) (x1 : Int32) (x2 : Int32) : Int32 := (if x2 = (-6 : Int32) then (S 2 (2 : Int32)) else (if x1 = (-6 : Int32) then (0 : Int32) else (S 2 (3 : Int32))))
def zS_penaltyAt (S : fd_S) (o1 : (Option Nat)) (x2 : Int32) : Option Int32 := (fd_on o1 (some (0 : Int32)) (fun k1 => (if fd_rk k1 then ((zB_lessened S (S k1 (1 : Int32)) (x2 - (S k1 (2 : Int32)))).bind fun r2 => (some r2)) else none)))
def zS_isBelowBack (S : fd_S) (k1 : Nat) (x2 : Int32) : Option Int32 := (if fd_rk k1 then ((zB_lessened S (S k1 (1 : Int32)) (x2 - (S k1 (2 : Int32)))).bind fun r2 => (if (S 2 (5 : Int32)) ≤ r2 then (some (0 : Int32)) else (some (1 : Int32)))) else none)
def zS_dueAfter_24 (fu : Nat) : Nat → fd_S → Nat → Int32 → Int32 → Int32 → Option Int32
  | 0, _, _, _, _, _ => none
  | n + 1, S, k1, x3, x4, x5 => (if (8 : Int32) ≤ x5 then (some x4) else (fd_lt ((x4 + x3)) fun y5 => ((zS_isBelowBack S k1 y5).bind fun r6 => (if r6 = (0 : Int32) then (fd_lt ((x5 + (1 : Int32))) fun y9 => (zS_dueAfter_24 fu n S k1 x3 y5 y9)) else (some y5)))))
def zS_dueAfter (fu : Nat) (S : fd_S) (k1 : Nat) (x2 : Int32) : Option Int32 := (fd_lt ((fd_max (S 2 (1 : Int32)) (1 : Int32))) fun y1 => (if ¬ y1 = (0 : Int32) then (fd_lt ((x2 - (fd_rem x2 y1))) fun y3 => (zS_dueAfter_24 fu fu S k1 y1 y3 (0 : Int32))) else none))
def zS_addTo_45 (fu : Nat) (S : fd_S) (k1 : Nat) : Option (Int32 × fd_S) := (if fd_rk k1 then (if (S k1 (3 : Int32)) = (0 : Int32) then (if (S 2 (4 : Int32)) < (S k1 (1 : Int32)) then (fd_lt (fd_up S k1 (3 : Int32) (1 : Int32)) fun S10 => ((zS_dueAfter fu S10 k1 (S10 0 (6 : Int32))).bind fun r11 => (fd_lt (fd_up S10 k1 (4 : Int32) r11) fun S13 => (some ((4 : Int32), S13))))) else (some ((3 : Int32), S))) else (some ((3 : Int32), S))) else none)
def zS_addTo (fu : Nat) (S : fd_S) (k1 : Nat) (x2 : Int32) (x3 : Int32) : Option (Int32 × fd_S) := ((zS_penaltyAt S (some k1) (S 0 (6 : Int32))).bind fun r1 => (if fd_rk k1 then (fd_lt (fd_up S k1 (1 : Int32) (fd_min (r1 + x2) (S 2 (6 : Int32)))) fun S4 => (fd_lt (fd_up S4 k1 (2 : Int32) (S4 0 (6 : Int32))) fun S5 => (if x3 = (0 : Int32) then (zS_addTo_45 fu S5 k1) else ((zR_addCause S5 k1 x3).bind fun S14 => (zS_addTo_45 fu S14 k1))))) else none))
def zS_judge (fu : Nat) (S : fd_S) (x1 : Int32) (x2 : Int32) (x3 : Int32) : Option (Int32 × fd_S) := (if x2 = (0 : Int32) then (some ((0 : Int32), S)) else ((zQ_find fu S x1).bind fun r2 => (fd_on r2 (((zQ_make fu S x1 (S 0 (6 : Int32))).bind fun q8 => (fd_pr q8 fun r7 S5 => (fd_on r7 ((fd_lt (fd_up S5 0 (9 : Int32) ((S5 0 (9 : Int32)) + (1 : Int32))) fun S10 => (some ((2 : Int32), S10)))) (fun k9 => ((zS_addTo fu S5 k9 x2 x3).bind fun q14 => (fd_pr q14 fun r13 S11 => (some (r13, S11))))))))) (fun k4 => (if x3 = (0 : Int32) then ((zS_addTo fu S k4 x2 x3).bind fun q19 => (fd_pr q19 fun r18 S16 => (some (r18, S16)))) else (if fd_rk k4 then ((zR_hasCause fu S k4 x3).bind fun r21 => (if r21 = (0 : Int32) then ((zS_addTo fu S k4 x2 x3).bind fun q27 => (fd_pr q27 fun r26 S24 => (some (r26, S24)))) else (fd_lt (fd_up S 0 (8 : Int32) ((S 0 (8 : Int32)) + (1 : Int32))) fun S28 => (some ((1 : Int32), S28))))) else none))))))
def zS_writeEvent_108 (fu : Nat) (S : fd_S) (x2 : Int32) (x3 : Int32) (k5 : Nat) : Option fd_S := ((zL_put S (43 : Int32)).bind fun S16 => ((zL_putNumber fu S16 x2).bind fun S18 => ((zL_put S18 (61 : Int32)).bind fun S20 => (if fd_rk k5 then ((zL_putNumber fu S20 (S20 k5 (1 : Int32))).bind fun S23 => (if x3 = (4 : Int32) then ((zL_put S23 (33 : Int32)).bind fun S26 => (some S26)) else (some S23))) else none))))
def zS_writeEvent_83 (fu : Nat) (S : fd_S) (x1 : Int32) (x2 : Int32) (x3 : Int32) : Option fd_S := ((zQ_find fu S x1).bind fun r9 => (fd_on r9 ((if x3 = (4 : Int32) then ((zL_put S (33 : Int32)).bind fun S13 => (some S13)) else (some S))) (fun k11 => (if x3 = (3 : Int32) then (zS_writeEvent_108 fu S x2 x3 k11) else (if x3 = (4 : Int32) then (zS_writeEvent_108 fu S x2 x3 k11) else (if x3 = (4 : Int32) then ((zL_put S (33 : Int32)).bind fun S30 => (some S30)) else (some S)))))))
def zS_writeEvent_26 (fu : Nat) (S : fd_S) (x1 : Int32) (x2 : Int32) (x3 : Int32) (x4 : Int32) (t1 : Int32) : Option fd_S := ((zL_begin fu S t1 x1).bind fun S4 => (if x4 = (-6 : Int32) then (if x3 = (1 : Int32) then ((zL_put S4 (126 : Int32)).bind fun S34 => (if x3 = (2 : Int32) then ((zL_put S34 (63 : Int32)).bind fun S37 => (zS_writeEvent_83 fu S37 x1 x2 x3)) else (zS_writeEvent_83 fu S34 x1 x2 x3))) else (if x3 = (2 : Int32) then ((zL_put S4 (63 : Int32)).bind fun S32 => (zS_writeEvent_83 fu S32 x1 x2 x3)) else (zS_writeEvent_83 fu S4 x1 x2 x3))) else ((zL_put S4 (58 : Int32)).bind fun S39 => ((zL_putNumber fu S39 x4).bind fun S41 => (if x3 = (1 : Int32) then ((zL_put S41 (126 : Int32)).bind fun S47 => (if x3 = (2 : Int32) then ((zL_put S47 (63 : Int32)).bind fun S50 => (zS_writeEvent_83 fu S50 x1 x2 x3)) else (zS_writeEvent_83 fu S47 x1 x2 x3))) else (if x3 = (2 : Int32) then ((zL_put S41 (63 : Int32)).bind fun S45 => (zS_writeEvent_83 fu S45 x1 x2 x3)) else (zS_writeEvent_83 fu S41 x1 x2 x3)))))))
def zS_writeEvent (fu : Nat) (S : fd_S) (x1 : Int32) (x2 : Int32) (x3 : Int32) : Option fd_S := (if (0 : Int32) ≤ x1 ∧ x1 < (32 : Int32) then (fd_lt ((S 20 x1)) fun y2 => (if y2 = (-6 : Int32) then (zS_writeEvent_26 fu S x1 x2 x3 y2 (87 : Int32)) else (zS_writeEvent_26 fu S x1 x2 x3 y2 (65 : Int32)))) else none)
def zS_isHeld (S : fd_S) (o0 : (Option Nat)) : Option Int32 := (fd_on o0 (some (0 : Int32)) (fun k0 => (if fd_rk k0 then (if (S k0 (3 : Int32)) = (0 : Int32) then (some (0 : Int32)) else (some (1 : Int32))) else none)))
def zS_findBest_5 (fu : Nat) : Nat → fd_S → Int32 → Int32 → Int32 → Option Int32
  | 0, _, _, _, _ => none
  | n + 1, S, x1, x2, x3 => (if (4 : Int32) ≤ x3 then (some x2) else (fd_lt ((zF_routeOf x3 x1)) fun y2 => (if (0 : Int32) ≤ y2 ∧ y2 < (32 : Int32) then (fd_lt ((S 20 y2)) fun y4 => (fd_lt (((y4 * (4 : Int32)) + x3)) fun y5 => (if y4 = (-6 : Int32) then (fd_lt ((x3 + (1 : Int32))) fun y7 => (zS_findBest_5 fu n S x1 x2 y7)) else (if x2 = (-6 : Int32) then ((zQ_find fu S y2).bind fun r9 => ((zS_isHeld S r9).bind fun r11 => (if r11 = (0 : Int32) then (fd_lt ((x3 + (1 : Int32))) fun y15 => (zS_findBest_5 fu n S x1 y5 y15)) else (fd_lt ((x3 + (1 : Int32))) fun y14 => (zS_findBest_5 fu n S x1 x2 y14))))) else (if x2 ≤ y5 then (fd_lt ((x3 + (1 : Int32))) fun y17 => (zS_findBest_5 fu n S x1 x2 y17)) else ((zQ_find fu S y2).bind fun r18 => ((zS_isHeld S r18).bind fun r20 => (if r20 = (0 : Int32) then (fd_lt ((x3 + (1 : Int32))) fun y24 => (zS_findBest_5 fu n S x1 y5 y24)) else (fd_lt ((x3 + (1 : Int32))) fun y23 => (zS_findBest_5 fu n S x1 x2 y23)))))))))) else none)))
def zS_findBest (fu : Nat) (S : fd_S) (x1 : Int32) : Option Int32 := (zS_findBest_5 fu fu S x1 (-6 : Int32) (0 : Int32))
def zS_refreshBest (fu : Nat) (S : fd_S) (x1 : Int32) : Option fd_S := ((zS_findBest fu S x1).bind fun r1 => (if (0 : Int32) ≤ x1 ∧ x1 < (8 : Int32) then (if r1 = (S 21 x1) then (some S) else (if (0 : Int32) ≤ x1 ∧ x1 < (8 : Int32) then (fd_lt (fd_up S 21 x1 r1) fun S6 => (if (0 : Int32) ≤ x1 ∧ x1 < (8 : Int32) then (if (0 : Int32) ≤ x1 ∧ x1 < (8 : Int32) then (fd_lt (fd_up S6 22 x1 ((S6 22 x1) + (1 : Int32))) fun S9 => (some S9)) else none) else none)) else none)) else none))
def zS_happen (fu : Nat) (S : fd_S) (x1 : Int32) (x2 : Int32) (x3 : Int32) : Option (Int32 × fd_S) := (if (0 : Int32) ≤ x1 ∧ x1 < (32 : Int32) then (fd_lt ((zS_weigh S (S 20 x1) x2)) fun y2 => (if (0 : Int32) ≤ x1 ∧ x1 < (32 : Int32) then (fd_lt (fd_up S 20 x1 x2) fun S4 => (fd_lt (fd_up S4 0 (7 : Int32) ((S4 0 (7 : Int32)) + (1 : Int32))) fun S5 => ((zS_judge fu S5 x1 y2 x3).bind fun q9 => (fd_pr q9 fun r8 S6 => ((zS_writeEvent fu S6 x1 y2 r8).bind fun S10 => ((zS_refreshBest fu S10 (fd_rem x1 (8 : Int32))).bind fun S12 => (some (r8, S12)))))))) else none)) else none)
def zS_isLookedAt (S : fd_S) (x1 : Int32) : Option Int32 := (if ¬ (fd_max (S 2 (1 : Int32)) (1 : Int32)) = (0 : Int32) then (if (fd_rem x1 (fd_max (S 2 (1 : Int32)) (1 : Int32))) = (0 : Int32) then (some (1 : Int32)) else (some (0 : Int32))) else none)
def zS_lookAt (fu : Nat) (S : fd_S) (k1 : Nat) : Option fd_S := (if fd_rk k1 then (if (S k1 (3 : Int32)) = (0 : Int32) then (some S) else (if (S k1 (4 : Int32)) ≤ (S 0 (6 : Int32)) then ((zS_isBelowBack S k1 (S 0 (6 : Int32))).bind fun r4 => (if r4 = (0 : Int32) then ((zS_dueAfter fu S k1 (S 0 (6 : Int32))).bind fun r15 => (fd_lt (fd_up S k1 (4 : Int32) r15) fun S17 => (some S17))) else (fd_lt (fd_up S k1 (3 : Int32) (0 : Int32)) fun S7 => (fd_lt (fd_up S7 0 (10 : Int32) ((S7 0 (10 : Int32)) + (1 : Int32))) fun S8 => ((zL_begin fu S8 (82 : Int32) (S8 k1 (0 : Int32))).bind fun S9 => ((zL_put S9 (64 : Int32)).bind fun S11 => ((zL_putNumber fu S11 (S11 0 (6 : Int32))).bind fun S13 => (some S13)))))))) else (some S))) else none)
def zS_dropSmallOnes_10 (fu : Nat) : Nat → fd_S → Int32 → Option fd_S
  | 0, _, _ => none
  | n + 1, S, x1 => (if x1 < (0 : Int32) then (some S) else (if (0 : Int32) ≤ x1 ∧ x1 < (6 : Int32) then (fd_lt (fd_rc 4 (S 4 x1)) fun k4 => (if fd_rk k4 then (if (S k4 (3 : Int32)) = (0 : Int32) then ((zS_penaltyAt S (some k4) (S 0 (6 : Int32))).bind fun r8 => (if (S 2 (5 : Int32)) ≤ ((2 : Int32) * r8) then (fd_lt ((x1 + (-1 : Int32))) fun y11 => (zS_dropSmallOnes_10 fu n S y11)) else ((zQ_drop fu S x1).bind fun S12 => (fd_lt ((x1 + (-1 : Int32))) fun y14 => (zS_dropSmallOnes_10 fu n S12 y14))))) else (fd_lt ((x1 + (-1 : Int32))) fun y7 => (zS_dropSmallOnes_10 fu n S y7))) else none)) else none))
def zS_dropSmallOnes (fu : Nat) (S : fd_S) : Option fd_S := (fd_lt (((S 3 (1 : Int32)) - (1 : Int32))) fun y1 => (zS_dropSmallOnes_10 fu fu S y1))
def zS_nextTick_73 (fu : Nat) : Nat → fd_S → Int32 → Option fd_S
  | 0, _, _ => none
  | n + 1, S, x2 => (if (8 : Int32) ≤ x2 then (some S) else ((zS_refreshBest fu S x2).bind fun S11 => (fd_lt ((x2 + (1 : Int32))) fun y13 => (zS_nextTick_73 fu n S11 y13))))
def zS_nextTick_29 (fu : Nat) : Nat → fd_S → Int32 → Int32 → Option fd_S
  | 0, _, _, _ => none
  | n + 1, S, x1, x2 => (if (S 3 (1 : Int32)) ≤ x2 then ((zS_dropSmallOnes fu S).bind fun S7 => (if (S7 0 (10 : Int32)) = x1 then (some S7) else (zS_nextTick_73 fu fu S7 (0 : Int32)))) else (if (0 : Int32) ≤ x2 ∧ x2 < (6 : Int32) then (fd_lt (fd_rc 4 (S 4 x2)) fun k15 => ((zS_lookAt fu S k15).bind fun S16 => (fd_lt ((x2 + (1 : Int32))) fun y18 => (zS_nextTick_29 fu n S16 x1 y18)))) else none))
def zS_nextTick (fu : Nat) (S : fd_S) : Option fd_S := (fd_lt (fd_up S 0 (6 : Int32) ((S 0 (6 : Int32)) + (1 : Int32))) fun S1 => ((zS_isLookedAt S1 (S1 0 (6 : Int32))).bind fun r2 => (if r2 = (0 : Int32) then (some S1) else (fd_lt ((S1 0 (10 : Int32))) fun y5 => (zS_nextTick_29 fu fu S1 y5 (0 : Int32))))))
def zS_letGoAt_21 (fu : Nat) : Nat → fd_S → Nat → Int32 → Int32 → Option Int32
  | 0, _, _, _, _ => none
  | n + 1, S, k1, x2, x3 => (if (5000 : Int32) < x3 then (some (-6 : Int32)) else (fd_lt (((S 0 (6 : Int32)) + x3)) fun y5 => (if y5 < x2 then (fd_lt ((x3 + (1 : Int32))) fun y7 => (zS_letGoAt_21 fu n S k1 x2 y7)) else ((zS_isLookedAt S y5).bind fun r8 => (if r8 = (0 : Int32) then (fd_lt ((x3 + (1 : Int32))) fun y11 => (zS_letGoAt_21 fu n S k1 x2 y11)) else ((zS_isBelowBack S k1 y5).bind fun r12 => (if r12 = (0 : Int32) then ((zS_dueAfter fu S k1 y5).bind fun r15 => (fd_lt ((x3 + (1 : Int32))) fun y17 => (zS_letGoAt_21 fu n S k1 r15 y17))) else (some y5))))))))
def zS_letGoAt (fu : Nat) (S : fd_S) (o1 : (Option Nat)) : Option Int32 := (fd_on o1 (some (-6 : Int32)) (fun k1 => (if fd_rk k1 then (if (S k1 (3 : Int32)) = (0 : Int32) then (some (-6 : Int32)) else (fd_lt ((S k1 (4 : Int32))) fun y3 => (zS_letGoAt_21 fu fu S k1 y3 (1 : Int32)))) else none)))
def zS_tellRecord (S : fd_S) (o1 : (Option Nat)) (x2 : Int32) : Option Int32 := (fd_on o1 (if x2 = (1 : Int32) then ((zS_penaltyAt S none (S 0 (6 : Int32))).bind fun r2 => (some r2)) else (if x2 = (2 : Int32) then ((zS_isHeld S none).bind fun r5 => (if r5 = (0 : Int32) then (some (0 : Int32)) else (some (1 : Int32)))) else (if x2 = (3 : Int32) then ((zS_isHeld S none).bind fun r9 => (if r9 = (0 : Int32) then (some (-6 : Int32)) else none)) else (if x2 = (4 : Int32) then (some (-6 : Int32)) else (if x2 = (5 : Int32) then (some (-6 : Int32)) else (some (0 : Int32))))))) (fun k1 => (if x2 = (1 : Int32) then ((zS_penaltyAt S (some k1) (S 0 (6 : Int32))).bind fun r15 => (some r15)) else (if x2 = (2 : Int32) then ((zS_isHeld S (some k1)).bind fun r18 => (if r18 = (0 : Int32) then (some (0 : Int32)) else (some (1 : Int32)))) else (if x2 = (3 : Int32) then ((zS_isHeld S (some k1)).bind fun r22 => (if r22 = (0 : Int32) then (some (-6 : Int32)) else (if fd_rk k1 then (some (S k1 (4 : Int32))) else none))) else (if x2 = (4 : Int32) then (if fd_rk k1 then (some (S k1 (1 : Int32))) else none) else (if x2 = (5 : Int32) then (if fd_rk k1 then (some (S k1 (2 : Int32))) else none) else (if fd_rk k1 then (some (S k1 (6 : Int32))) else none))))))))
def zS_tellBest (S : fd_S) (x1 : Int32) (x2 : Int32) : Option Int32 := (if x2 = (2 : Int32) then (if (0 : Int32) ≤ x1 ∧ x1 < (8 : Int32) then (some (S 22 x1)) else none) else (if (0 : Int32) ≤ x1 ∧ x1 < (8 : Int32) then (if (S 21 x1) = (-6 : Int32) then (some (-6 : Int32)) else (if x2 = (0 : Int32) then (if (0 : Int32) ≤ x1 ∧ x1 < (8 : Int32) then (some (fd_rem (S 21 x1) (4 : Int32))) else none) else (if (0 : Int32) ≤ x1 ∧ x1 < (8 : Int32) then (some ((S 21 x1) / (4 : Int32))) else none))) else none))
def zS_tellCount (fu : Nat) (S : fd_S) (x1 : Int32) : Option Int32 := (if x1 = (0 : Int32) then (some (S 0 (6 : Int32))) else (if x1 = (1 : Int32) then (some (S 3 (1 : Int32))) else (if x1 = (2 : Int32) then ((zQ_heldOnes fu S).bind fun r4 => (some r4)) else (if x1 = (3 : Int32) then (some (S 0 (7 : Int32))) else (if x1 = (4 : Int32) then (some (S 0 (8 : Int32))) else (if x1 = (5 : Int32) then (some (S 0 (9 : Int32))) else (if x1 = (6 : Int32) then (some (S 3 (2 : Int32))) else (if x1 = (7 : Int32) then (some (S 0 (10 : Int32))) else (some (S 5 (3 : Int32)))))))))))
def zS_copyFrom (fu : Nat) (S : fd_S) (u : Nat) (v : Nat) : Option fd_S := ((zB_copyFrom S u v).bind fun S1 => ((zQ_copyFrom fu S1 u v).bind fun S3 => ((zL_copyFrom S3 u v).bind fun S5 => (fd_lt (fd_cp S5 (v + 20) (u + 20) (0 : Int32) (0 : Int32) (32 : Int32)) fun S7 => (fd_lt (fd_cp S7 (v + 21) (u + 21) (0 : Int32) (0 : Int32) (8 : Int32)) fun S8 => (fd_lt (fd_cp S8 (v + 22) (u + 22) (0 : Int32) (0 : Int32) (8 : Int32)) fun S9 => (fd_lt (fd_up S9 u (6 : Int32) (S9 v (6 : Int32))) fun S10 => (fd_lt (fd_up S10 u (7 : Int32) (S10 v (7 : Int32))) fun S11 => (fd_lt (fd_up S11 u (8 : Int32) (S11 v (8 : Int32))) fun S12 => (fd_lt (fd_up S12 u (9 : Int32) (S12 v (9 : Int32))) fun S13 => (fd_lt (fd_up S13 u (10 : Int32) (S13 v (10 : Int32))) fun S14 => (some S14))))))))))))
def zT_append (S : fd_S) (x1 : Int32) : Option (Int32 × fd_S) := (if (S 71 (1 : Int32)) < (12 : Int32) then (if (0 : Int32) ≤ (S 71 (1 : Int32)) ∧ (S 71 (1 : Int32)) < (12 : Int32) then (fd_lt (fd_up S 72 (S 71 (1 : Int32)) x1) fun S3 => (fd_lt (fd_up S3 71 (1 : Int32) ((S3 71 (1 : Int32)) + (1 : Int32))) fun S4 => (some ((1 : Int32), S4)))) else none) else (some ((0 : Int32), S)))
def zT_clear (S : fd_S) : Option (Int32 × fd_S) := (fd_lt ((S 71 (1 : Int32))) fun y1 => (fd_lt (fd_up S 71 (1 : Int32) (0 : Int32)) fun S2 => (some (y1, S2))))
def zT_isFigure (x0 : Int32) : Int32 := (if x0 < (48 : Int32) then (0 : Int32) else (if (57 : Int32) < x0 then (0 : Int32) else (1 : Int32)))
def zT_nameOf (x0 : Int32) : Nat := (if x0 = (0 : Int32) then 0 else (if x0 = (1 : Int32) then 1 else (if x0 = (2 : Int32) then 2 else (if x0 = (3 : Int32) then 3 else (if x0 = (4 : Int32) then 4 else (if x0 = (5 : Int32) then 5 else 6))))))
def zT_fits (S : fd_S) (i1 : Nat) (x2 : Int32) : Option Int32 := (if i1 < 7 then (if (fd_sl i1) ≤ x2 then (if x2 = (fd_sl i1) then (if (0 : Int32) ≤ x2 ∧ x2 < (12 : Int32) then (if (S 72 x2) = (61 : Int32) then (some (1 : Int32)) else (some (0 : Int32))) else none) else (if ((fd_sl i1) + (5 : Int32)) < x2 then (some (0 : Int32)) else (if (0 : Int32) ≤ x2 ∧ x2 < (12 : Int32) then (if (zT_isFigure (S 72 x2)) = (0 : Int32) then (some (0 : Int32)) else (some (1 : Int32))) else none))) else (if (0 : Int32) ≤ x2 ∧ x2 < (12 : Int32) then (if (0 : Int32) ≤ x2 ∧ x2 < fd_sl i1 then (if (S 72 x2) = (fd_sc i1 x2) then (some (1 : Int32)) else (some (0 : Int32))) else none) else none)) else none)
def zT_fittingSigns_2 (fu : Nat) : Nat → fd_S → Nat → Int32 → Option Int32
  | 0, _, _, _ => none
  | n + 1, S, i1, x2 => (if (S 71 (1 : Int32)) ≤ x2 then (some x2) else ((zT_fits S i1 x2).bind fun r2 => (if r2 = (0 : Int32) then (some x2) else (fd_lt ((x2 + (1 : Int32))) fun y5 => (zT_fittingSigns_2 fu n S i1 y5)))))
def zT_fittingSigns (fu : Nat) (S : fd_S) (i1 : Nat) : Option Int32 := (zT_fittingSigns_2 fu fu S i1 (0 : Int32))
def zT_tells (fu : Nat) (S : fd_S) (i1 : Nat) : Option Int32 := (if i1 < 7 then (if (S 71 (1 : Int32)) ≤ ((fd_sl i1) + (1 : Int32)) then (some (0 : Int32)) else ((zT_fittingSigns fu S i1).bind fun r3 => (if r3 = (S 71 (1 : Int32)) then (some (1 : Int32)) else (some (0 : Int32))))) else none)
def zT_toldBound_2 (fu : Nat) : Nat → fd_S → Int32 → Option Int32
  | 0, _, _ => none
  | n + 1, S, x1 => (if (7 : Int32) ≤ x1 then (some (-6 : Int32)) else ((zT_tells fu S (zT_nameOf x1)).bind fun r2 => (if r2 = (0 : Int32) then (fd_lt ((x1 + (1 : Int32))) fun y5 => (zT_toldBound_2 fu n S y5)) else (some x1))))
def zT_toldBound (fu : Nat) (S : fd_S) : Option Int32 := (zT_toldBound_2 fu fu S (0 : Int32))
def zT_toldNumber_4 (fu : Nat) : Nat → fd_S → Int32 → Int32 → Option Int32
  | 0, _, _, _ => none
  | n + 1, S, x1, x2 => (if (S 71 (1 : Int32)) ≤ x2 then (some x1) else (if (0 : Int32) ≤ x2 ∧ x2 < (12 : Int32) then (if (zT_isFigure (S 72 x2)) = (0 : Int32) then (fd_lt ((x2 + (1 : Int32))) fun y4 => (zT_toldNumber_4 fu n S x1 y4)) else (if (0 : Int32) ≤ x2 ∧ x2 < (12 : Int32) then (fd_lt ((((x1 * (10 : Int32)) + (S 72 x2)) - (48 : Int32))) fun y6 => (fd_lt ((x2 + (1 : Int32))) fun y7 => (zT_toldNumber_4 fu n S y6 y7))) else none)) else none))
def zT_toldNumber (fu : Nat) (S : fd_S) : Option Int32 := (zT_toldNumber_4 fu fu S (0 : Int32) (0 : Int32))
def zT_findFault_16 (fu : Nat) : Nat → fd_S → Int32 → Int32 → Option Int32
  | 0, _, _, _ => none
  | n + 1, S, x1, x2 => (if (7 : Int32) ≤ x2 then (some x1) else ((zT_fittingSigns fu S (zT_nameOf x2)).bind fun r5 => (fd_lt ((fd_max x1 r5)) fun y7 => (fd_lt ((x2 + (1 : Int32))) fun y8 => (zT_findFault_16 fu n S y7 y8)))))
def zT_findFault (fu : Nat) (S : fd_S) : Option Int32 := ((zT_toldBound fu S).bind fun r1 => (if r1 = (-6 : Int32) then (zT_findFault_16 fu fu S (0 : Int32) (0 : Int32)) else (some (-6 : Int32))))
def zF_say (S : fd_S) (x1 : Int32) : Option (Int32 × fd_S) := (if (zF_isWithin x1 (33 : Int32) (126 : Int32)) = (0 : Int32) then (some ((-2 : Int32), S)) else ((zT_append S x1).bind fun q5 => (fd_pr q5 fun r4 S2 => (if r4 = (0 : Int32) then (some ((-4 : Int32), S2)) else (some ((S2 71 (1 : Int32)), S2))))))
def zF_wipe (S : fd_S) : Option (Int32 × fd_S) := ((zT_clear S).bind fun q4 => (fd_pr q4 fun r3 S1 => (some (r3, S1))))
def zF_fault (fu : Nat) (S : fd_S) : Option Int32 := ((zT_findFault fu S).bind fun r1 => (some r1))
def zF_set (fu : Nat) (S : fd_S) : Option (Int32 × fd_S) := ((zT_toldBound fu S).bind fun r1 => (if r1 = (-6 : Int32) then (some ((-7 : Int32), S)) else ((zT_toldNumber fu S).bind fun r4 => (if (0 : Int32) ≤ r1 ∧ r1 < (7 : Int32) then (if (0 : Int32) ≤ r1 ∧ r1 < (7 : Int32) then (if (zF_isWithin r4 (fd_tl fd_least r1) (fd_tl fd_most r1)) = (0 : Int32) then (some ((-2 : Int32), S)) else ((zT_clear S).bind fun q12 => (fd_pr q12 fun r11 S9 => ((zB_replace S9 r1 r4).bind fun q16 => (fd_pr q16 fun r15 S13 => (some (r15, S13))))))) else none) else none))))
def zF_bound (S : fd_S) (x1 : Int32) : Option Int32 := (if (zF_isWithin x1 (0 : Int32) (6 : Int32)) = (0 : Int32) then (some (-2 : Int32)) else (if (0 : Int32) ≤ x1 ∧ x1 < (7 : Int32) then (some (S 2 x1)) else none))
def zF_announce (fu : Nat) (S : fd_S) (x1 : Int32) (x2 : Int32) (x3 : Int32) (x4 : Int32) : Option (Int32 × fd_S) := (if (zF_isRoute x1 x2) = (0 : Int32) then (some ((-1 : Int32), S)) else (if (zF_isWithin x3 (0 : Int32) (9 : Int32)) = (0 : Int32) then (some ((-2 : Int32), S)) else (if (zF_isWithin x4 (0 : Int32) (99 : Int32)) = (0 : Int32) then (some ((-2 : Int32), S)) else (fd_lt ((zF_routeOf x1 x2)) fun y4 => (if (0 : Int32) ≤ y4 ∧ y4 < (32 : Int32) then (if (S 20 y4) = x3 then (some ((-5 : Int32), S)) else ((zS_happen fu S y4 x3 x4).bind fun q10 => (fd_pr q10 fun r9 S7 => (some (r9, S7))))) else none)))))
def zF_withdraw (fu : Nat) (S : fd_S) (x1 : Int32) (x2 : Int32) (x3 : Int32) : Option (Int32 × fd_S) := (if (zF_isRoute x1 x2) = (0 : Int32) then (some ((-1 : Int32), S)) else (if (zF_isWithin x3 (0 : Int32) (99 : Int32)) = (0 : Int32) then (some ((-2 : Int32), S)) else (fd_lt ((zF_routeOf x1 x2)) fun y3 => (if (0 : Int32) ≤ y3 ∧ y3 < (32 : Int32) then (if (S 20 y3) = (-6 : Int32) then (some ((-5 : Int32), S)) else ((zS_happen fu S y3 (-6 : Int32) x3).bind fun q9 => (fd_pr q9 fun r8 S6 => (some (r8, S6))))) else none))))
def zF_pass_16 (fu : Nat) : Nat → fd_S → Int32 → Int32 → Option (Int32 × fd_S)
  | 0, _, _, _ => none
  | n + 1, S, x1, x2 => (if x1 ≤ x2 then ((zQ_heldOnes fu S).bind fun r3 => (some (r3, S))) else ((zS_nextTick fu S).bind fun S5 => (fd_lt ((x2 + (1 : Int32))) fun y7 => (zF_pass_16 fu n S5 x1 y7))))
def zF_pass (fu : Nat) (S : fd_S) (x1 : Int32) : Option (Int32 × fd_S) := (if (zF_isWithin x1 (1 : Int32) (200 : Int32)) = (0 : Int32) then (some ((-2 : Int32), S)) else (zF_pass_16 fu fu S x1 (0 : Int32)))
def zF_route (fu : Nat) (S : fd_S) (x1 : Int32) (x2 : Int32) (x3 : Int32) : Option Int32 := (if (zF_isRoute x1 x2) = (0 : Int32) then (some (-1 : Int32)) else (if (zF_isWithin x3 (0 : Int32) (6 : Int32)) = (0 : Int32) then (some (-2 : Int32)) else (fd_lt ((zF_routeOf x1 x2)) fun y3 => (if x3 = (0 : Int32) then (if (0 : Int32) ≤ y3 ∧ y3 < (32 : Int32) then (some (S 20 y3)) else none) else ((zQ_find fu S y3).bind fun r5 => ((zS_tellRecord S r5 x3).bind fun r7 => (some r7)))))))
def zF_later (fu : Nat) (S : fd_S) (x1 : Int32) (x2 : Int32) (x3 : Int32) : Option Int32 := (if (zF_isRoute x1 x2) = (0 : Int32) then (some (-1 : Int32)) else (if (zF_isWithin x3 (0 : Int32) (2000 : Int32)) = (0 : Int32) then (some (-2 : Int32)) else ((zQ_find fu S (zF_routeOf x1 x2)).bind fun r3 => ((zS_penaltyAt S r3 ((S 0 (6 : Int32)) + x3)).bind fun r5 => (some r5)))))
def zF_when (fu : Nat) (S : fd_S) (x1 : Int32) (x2 : Int32) : Option Int32 := (if (zF_isRoute x1 x2) = (0 : Int32) then (some (-1 : Int32)) else ((zQ_find fu S (zF_routeOf x1 x2)).bind fun r2 => ((zS_letGoAt fu S r2).bind fun r4 => (some r4))))
def zF_longest_10 (fu : Nat) : Nat → fd_S → Int32 → Option Int32
  | 0, _, _ => none
  | n + 1, S, x2 => (if (5000 : Int32) < x2 then (some (-6 : Int32)) else ((zB_lessened S (S 2 (6 : Int32)) x2).bind fun r2 => (if (S 2 (5 : Int32)) ≤ r2 then (fd_lt ((x2 + (1 : Int32))) fun y5 => (zF_longest_10 fu n S y5)) else (some x2))))
def zF_longest (fu : Nat) (S : fd_S) : Option Int32 := (zF_longest_10 fu fu S (0 : Int32))
def zF_best (S : fd_S) (x1 : Int32) (x2 : Int32) : Option Int32 := (if (zF_isWithin x1 (0 : Int32) (7 : Int32)) = (0 : Int32) then (some (-1 : Int32)) else (if (zF_isWithin x2 (0 : Int32) (2 : Int32)) = (0 : Int32) then (some (-2 : Int32)) else ((zS_tellBest S x1 x2).bind fun r3 => (some r3))))
def zF_record (S : fd_S) (x1 : Int32) : Option Int32 := (if (zF_isWithin x1 (0 : Int32) ((S 3 (1 : Int32)) - (1 : Int32))) = (0 : Int32) then (some (-6 : Int32)) else (if (0 : Int32) ≤ x1 ∧ x1 < (6 : Int32) then (fd_lt (fd_rc 4 (S 4 x1)) fun k3 => (if fd_rk k3 then (some (S k3 (0 : Int32))) else none)) else none))
def zF_line (S : fd_S) (x1 : Int32) (x2 : Int32) : Option Int32 := ((zL_tell S x1 x2).bind fun r1 => (some r1))
def zF_imageOf (x1 : Int32) : Nat := (if x1 = (0 : Int32) then 23 else 46)
theorem zF_imageOf_st (x : Int32) : fd_st (zF_imageOf x) := by
  unfold zF_imageOf
  split
  · exact Or.inr (Or.inl rfl)
  · exact Or.inr (Or.inr rfl)
def zF_keptImages (S : fd_S) : Int32 := (if (S 70 (0 : Int32)) = (0 : Int32) then (if (S 70 (1 : Int32)) = (0 : Int32) then ((0 : Int32) + (0 : Int32)) else ((0 : Int32) + (2 : Int32))) else (if (S 70 (1 : Int32)) = (0 : Int32) then ((1 : Int32) + (0 : Int32)) else ((1 : Int32) + (2 : Int32))))
def zF_count (fu : Nat) (S : fd_S) (x1 : Int32) : Option Int32 := (if (zF_isWithin x1 (0 : Int32) (9 : Int32)) = (0 : Int32) then (some (-2 : Int32)) else (if x1 = (9 : Int32) then (some (zF_keptImages S)) else ((zS_tellCount fu S x1).bind fun r3 => (some r3))))
def zF_image (fu : Nat) (S : fd_S) (x1 : Int32) : Option (Int32 × fd_S) := (if (zF_isWithin x1 (0 : Int32) (1 : Int32)) = (0 : Int32) then (some ((-2 : Int32), S)) else ((zS_copyFrom fu S ((zF_imageOf x1)) 0).bind fun S2 => (if (0 : Int32) ≤ x1 ∧ x1 < (2 : Int32) then (fd_lt (fd_up S2 70 x1 (1 : Int32)) fun S5 => (some ((1 : Int32), S5))) else none)))
def zF_restore (fu : Nat) (S : fd_S) (x1 : Int32) : Option (Int32 × fd_S) := (if (zF_isWithin x1 (0 : Int32) (1 : Int32)) = (0 : Int32) then (some ((-2 : Int32), S)) else (if (0 : Int32) ≤ x1 ∧ x1 < (2 : Int32) then (if (S 70 x1) = (0 : Int32) then (some ((-3 : Int32), S)) else ((zS_copyFrom fu S 0 ((zF_imageOf x1))).bind fun S4 => (some ((1 : Int32), S4)))) else none))
end
