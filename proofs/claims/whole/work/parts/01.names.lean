-- ===== PART A: goes FIRST, ahead of the names: the tables' words, and 'selects' of the private methods out of them =====
/-- a private method of a class that the tables say can be made, by its rows of tables_1 -/
def lw_okq (q : MethodName × Nat) : Prop := (q.1.cls ≠ "java/lang/invoke/MethodHandle" ∧ q.1.cls ≠ "java/lang/invoke/VarHandle") ∧ Cond.instantiable q.1.cls q.2 ∈ tables_1 ∧ Cond.privateMethod q.1 ∈ tables_1 ∧ Cond.instanceMethod q.1 ∈ tables_1
theorem lw_p0 : lw_okq (⟨"LiveViews", "change", "(III)I"⟩, 12) := ⟨⟨by decide +kernel, by decide +kernel⟩, List.mem_of_getElem? (i := 9) (by decide +kernel), List.mem_of_getElem? (i := 108) (by decide +kernel), List.mem_of_getElem? (i := 109) (by decide +kernel)⟩
theorem lw_p1 : lw_okq (⟨"LiveViews$State", "writtenAs", "(I)I"⟩, 3) := ⟨⟨by decide +kernel, by decide +kernel⟩, List.mem_of_getElem? (i := 17) (by decide +kernel), List.mem_of_getElem? (i := 112) (by decide +kernel), List.mem_of_getElem? (i := 113) (by decide +kernel)⟩
theorem lw_p2 : lw_okq (⟨"LiveViews$State", "lives", "(I)Z"⟩, 3) := ⟨⟨by decide +kernel, by decide +kernel⟩, List.mem_of_getElem? (i := 17) (by decide +kernel), List.mem_of_getElem? (i := 116) (by decide +kernel), List.mem_of_getElem? (i := 117) (by decide +kernel)⟩
theorem lw_p3 : lw_okq (⟨"LiveViews$State", "change", "(II)I"⟩, 3) := ⟨⟨by decide +kernel, by decide +kernel⟩, List.mem_of_getElem? (i := 17) (by decide +kernel), List.mem_of_getElem? (i := 120) (by decide +kernel), List.mem_of_getElem? (i := 121) (by decide +kernel)⟩
theorem lw_p4 : lw_okq (⟨"LiveViews", "heldView", "(I)LLiveViews$View;"⟩, 12) := ⟨⟨by decide +kernel, by decide +kernel⟩, List.mem_of_getElem? (i := 9) (by decide +kernel), List.mem_of_getElem? (i := 132) (by decide +kernel), List.mem_of_getElem? (i := 133) (by decide +kernel)⟩
theorem lw_p5 : lw_okq (⟨"LiveViews$State", "fits", "(II)Z"⟩, 3) := ⟨⟨by decide +kernel, by decide +kernel⟩, List.mem_of_getElem? (i := 17) (by decide +kernel), List.mem_of_getElem? (i := 142) (by decide +kernel), List.mem_of_getElem? (i := 143) (by decide +kernel)⟩
theorem lw_p6 : lw_okq (⟨"LiveViews", "countUnchanged", "(LLiveViews$State;I)I"⟩, 12) := ⟨⟨by decide +kernel, by decide +kernel⟩, List.mem_of_getElem? (i := 9) (by decide +kernel), List.mem_of_getElem? (i := 146) (by decide +kernel), List.mem_of_getElem? (i := 147) (by decide +kernel)⟩
theorem lw_p7 : lw_okq (⟨"LiveViews", "isUnchanged", "(LLiveViews$State;II)Z"⟩, 12) := ⟨⟨by decide +kernel, by decide +kernel⟩, List.mem_of_getElem? (i := 9) (by decide +kernel), List.mem_of_getElem? (i := 150) (by decide +kernel), List.mem_of_getElem? (i := 151) (by decide +kernel)⟩
theorem lw_p8 : lw_okq (⟨"LiveViews", "hasRoomToRefresh", "(LLiveViews$View;LLiveViews$State;)Z"⟩, 12) := ⟨⟨by decide +kernel, by decide +kernel⟩, List.mem_of_getElem? (i := 9) (by decide +kernel), List.mem_of_getElem? (i := 162) (by decide +kernel), List.mem_of_getElem? (i := 163) (by decide +kernel)⟩
theorem lw_p9 : lw_okq (⟨"LiveViews", "refreshLatest", "()V"⟩, 12) := ⟨⟨by decide +kernel, by decide +kernel⟩, List.mem_of_getElem? (i := 9) (by decide +kernel), List.mem_of_getElem? (i := 166) (by decide +kernel), List.mem_of_getElem? (i := 167) (by decide +kernel)⟩
theorem lw_p10 : lw_okq (⟨"LiveViews$Segment", "countLive", "(LLiveViews$State;)I"⟩, 4) := ⟨⟨by decide +kernel, by decide +kernel⟩, List.mem_of_getElem? (i := 172) (by decide +kernel), List.mem_of_getElem? (i := 170) (by decide +kernel), List.mem_of_getElem? (i := 171) (by decide +kernel)⟩
theorem lw_p11 : lw_okq (⟨"LiveViews$Segment", "isLive", "(ILLiveViews$State;)Z"⟩, 4) := ⟨⟨by decide +kernel, by decide +kernel⟩, List.mem_of_getElem? (i := 172) (by decide +kernel), List.mem_of_getElem? (i := 175) (by decide +kernel), List.mem_of_getElem? (i := 176) (by decide +kernel)⟩
theorem lw_p12 : lw_okq (⟨"LiveViews", "hasNewRow", "()Z"⟩, 12) := ⟨⟨by decide +kernel, by decide +kernel⟩, List.mem_of_getElem? (i := 9) (by decide +kernel), List.mem_of_getElem? (i := 179) (by decide +kernel), List.mem_of_getElem? (i := 180) (by decide +kernel)⟩
theorem lw_p13 : lw_okq (⟨"LiveViews", "isNewRow", "(I)Z"⟩, 12) := ⟨⟨by decide +kernel, by decide +kernel⟩, List.mem_of_getElem? (i := 9) (by decide +kernel), List.mem_of_getElem? (i := 183) (by decide +kernel), List.mem_of_getElem? (i := 184) (by decide +kernel)⟩
theorem lw_p14 : lw_okq (⟨"LiveViews", "segmentOfNewRows", "()LLiveViews$Segment;"⟩, 12) := ⟨⟨by decide +kernel, by decide +kernel⟩, List.mem_of_getElem? (i := 9) (by decide +kernel), List.mem_of_getElem? (i := 187) (by decide +kernel), List.mem_of_getElem? (i := 188) (by decide +kernel)⟩
theorem lw_p15 : lw_okq (⟨"LiveViews", "makeSegment", "()LLiveViews$Segment;"⟩, 12) := ⟨⟨by decide +kernel, by decide +kernel⟩, List.mem_of_getElem? (i := 9) (by decide +kernel), List.mem_of_getElem? (i := 191) (by decide +kernel), List.mem_of_getElem? (i := 192) (by decide +kernel)⟩
def lw_privs_1 : List (MethodName × Nat) := [(⟨"LiveViews", "change", "(III)I"⟩, 12), (⟨"LiveViews$State", "writtenAs", "(I)I"⟩, 3), (⟨"LiveViews$State", "lives", "(I)Z"⟩, 3), (⟨"LiveViews$State", "change", "(II)I"⟩, 3), (⟨"LiveViews", "heldView", "(I)LLiveViews$View;"⟩, 12), (⟨"LiveViews$State", "fits", "(II)Z"⟩, 3), (⟨"LiveViews", "countUnchanged", "(LLiveViews$State;I)I"⟩, 12), (⟨"LiveViews", "isUnchanged", "(LLiveViews$State;II)Z"⟩, 12), (⟨"LiveViews", "hasRoomToRefresh", "(LLiveViews$View;LLiveViews$State;)Z"⟩, 12), (⟨"LiveViews", "refreshLatest", "()V"⟩, 12), (⟨"LiveViews$Segment", "countLive", "(LLiveViews$State;)I"⟩, 4), (⟨"LiveViews$Segment", "isLive", "(ILLiveViews$State;)Z"⟩, 4), (⟨"LiveViews", "hasNewRow", "()Z"⟩, 12), (⟨"LiveViews", "isNewRow", "(I)Z"⟩, 12), (⟨"LiveViews", "segmentOfNewRows", "()LLiveViews$Segment;"⟩, 12), (⟨"LiveViews", "makeSegment", "()LLiveViews$Segment;"⟩, 12)]
theorem lw_r1 : ∀ q ∈ lw_privs_1, lw_okq q := List.forall_mem_cons.mpr ⟨lw_p0, List.forall_mem_cons.mpr ⟨lw_p1, List.forall_mem_cons.mpr ⟨lw_p2, List.forall_mem_cons.mpr ⟨lw_p3, List.forall_mem_cons.mpr ⟨lw_p4, List.forall_mem_cons.mpr ⟨lw_p5, List.forall_mem_cons.mpr ⟨lw_p6, List.forall_mem_cons.mpr ⟨lw_p7, List.forall_mem_cons.mpr ⟨lw_p8, List.forall_mem_cons.mpr ⟨lw_p9, List.forall_mem_cons.mpr ⟨lw_p10, List.forall_mem_cons.mpr ⟨lw_p11, List.forall_mem_cons.mpr ⟨lw_p12, List.forall_mem_cons.mpr ⟨lw_p13, List.forall_mem_cons.mpr ⟨lw_p14, List.forall_mem_cons.mpr ⟨lw_p15, fun _ h => absurd h List.not_mem_nil⟩⟩⟩⟩⟩⟩⟩⟩⟩⟩⟩⟩⟩⟩⟩⟩
theorem lw_p16 : lw_okq (⟨"LiveViews", "putRow", "(LLiveViews$Segment;I)V"⟩, 12) := ⟨⟨by decide +kernel, by decide +kernel⟩, List.mem_of_getElem? (i := 9) (by decide +kernel), List.mem_of_getElem? (i := 215) (by decide +kernel), List.mem_of_getElem? (i := 216) (by decide +kernel)⟩
theorem lw_p17 : lw_okq (⟨"LiveViews$Segment", "put", "(II)V"⟩, 4) := ⟨⟨by decide +kernel, by decide +kernel⟩, List.mem_of_getElem? (i := 172) (by decide +kernel), List.mem_of_getElem? (i := 219) (by decide +kernel), List.mem_of_getElem? (i := 220) (by decide +kernel)⟩
theorem lw_p18 : lw_okq (⟨"LiveViews", "mergeFewest", "([LLiveViews$Segment;I)V"⟩, 12) := ⟨⟨by decide +kernel, by decide +kernel⟩, List.mem_of_getElem? (i := 9) (by decide +kernel), List.mem_of_getElem? (i := 223) (by decide +kernel), List.mem_of_getElem? (i := 224) (by decide +kernel)⟩
theorem lw_p19 : lw_okq (⟨"LiveViews", "segmentOfLiveRows", "(LLiveViews$Segment;LLiveViews$Segment;)LLiveViews$Segment;"⟩, 12) := ⟨⟨by decide +kernel, by decide +kernel⟩, List.mem_of_getElem? (i := 9) (by decide +kernel), List.mem_of_getElem? (i := 227) (by decide +kernel), List.mem_of_getElem? (i := 228) (by decide +kernel)⟩
theorem lw_p20 : lw_okq (⟨"LiveViews", "addView", "([LLiveViews$Segment;)V"⟩, 12) := ⟨⟨by decide +kernel, by decide +kernel⟩, List.mem_of_getElem? (i := 9) (by decide +kernel), List.mem_of_getElem? (i := 235) (by decide +kernel), List.mem_of_getElem? (i := 236) (by decide +kernel)⟩
theorem lw_p21 : lw_okq (⟨"LiveViews$State", "copyFrom", "(LLiveViews$State;)V"⟩, 3) := ⟨⟨by decide +kernel, by decide +kernel⟩, List.mem_of_getElem? (i := 17) (by decide +kernel), List.mem_of_getElem? (i := 239) (by decide +kernel), List.mem_of_getElem? (i := 240) (by decide +kernel)⟩
theorem lw_p22 : lw_okq (⟨"LiveViews", "letGo", "()V"⟩, 12) := ⟨⟨by decide +kernel, by decide +kernel⟩, List.mem_of_getElem? (i := 9) (by decide +kernel), List.mem_of_getElem? (i := 246) (by decide +kernel), List.mem_of_getElem? (i := 247) (by decide +kernel)⟩
theorem lw_p23 : lw_okq (⟨"LiveViews", "closeAll", "()V"⟩, 12) := ⟨⟨by decide +kernel, by decide +kernel⟩, List.mem_of_getElem? (i := 9) (by decide +kernel), List.mem_of_getElem? (i := 262) (by decide +kernel), List.mem_of_getElem? (i := 263) (by decide +kernel)⟩
theorem lw_p24 : lw_okq (⟨"LiveViews$State", "countBefore", "(III)I"⟩, 3) := ⟨⟨by decide +kernel, by decide +kernel⟩, List.mem_of_getElem? (i := 17) (by decide +kernel), List.mem_of_getElem? (i := 294) (by decide +kernel), List.mem_of_getElem? (i := 295) (by decide +kernel)⟩
theorem lw_p25 : lw_okq (⟨"LiveViews$State", "rank", "(II)I"⟩, 3) := ⟨⟨by decide +kernel, by decide +kernel⟩, List.mem_of_getElem? (i := 17) (by decide +kernel), List.mem_of_getElem? (i := 299) (by decide +kernel), List.mem_of_getElem? (i := 300) (by decide +kernel)⟩
theorem lw_p26 : lw_okq (⟨"LiveViews$Segment", "keyOfRow", "(I)I"⟩, 4) := ⟨⟨by decide +kernel, by decide +kernel⟩, List.mem_of_getElem? (i := 172) (by decide +kernel), List.mem_of_getElem? (i := 320) (by decide +kernel), List.mem_of_getElem? (i := 321) (by decide +kernel)⟩
theorem lw_p27 : lw_okq (⟨"LiveViews", "countSegmentsThere", "()I"⟩, 12) := ⟨⟨by decide +kernel, by decide +kernel⟩, List.mem_of_getElem? (i := 9) (by decide +kernel), List.mem_of_getElem? (i := 328) (by decide +kernel), List.mem_of_getElem? (i := 329) (by decide +kernel)⟩
theorem lw_p28 : lw_okq (⟨"LiveViews", "markSegments", "(LLiveViews$View;)I"⟩, 12) := ⟨⟨by decide +kernel, by decide +kernel⟩, List.mem_of_getElem? (i := 9) (by decide +kernel), List.mem_of_getElem? (i := 332) (by decide +kernel), List.mem_of_getElem? (i := 333) (by decide +kernel)⟩
theorem lw_p29 : lw_okq (⟨"LiveViews", "countHeld", "()I"⟩, 12) := ⟨⟨by decide +kernel, by decide +kernel⟩, List.mem_of_getElem? (i := 9) (by decide +kernel), List.mem_of_getElem? (i := 336) (by decide +kernel), List.mem_of_getElem? (i := 337) (by decide +kernel)⟩
theorem lw_p30 : lw_okq (⟨"LiveViewsModel", "told", "(III)I"⟩, 18) := ⟨⟨by decide +kernel, by decide +kernel⟩, List.mem_of_getElem? (i := 340) (by decide +kernel), List.mem_of_getElem? (i := 408) (by decide +kernel), List.mem_of_getElem? (i := 409) (by decide +kernel)⟩
theorem lw_p31 : lw_okq (⟨"LiveViewsModel", "written", "(II)I"⟩, 18) := ⟨⟨by decide +kernel, by decide +kernel⟩, List.mem_of_getElem? (i := 340) (by decide +kernel), List.mem_of_getElem? (i := 412) (by decide +kernel), List.mem_of_getElem? (i := 413) (by decide +kernel)⟩
def lw_privs_2 : List (MethodName × Nat) := [(⟨"LiveViews", "putRow", "(LLiveViews$Segment;I)V"⟩, 12), (⟨"LiveViews$Segment", "put", "(II)V"⟩, 4), (⟨"LiveViews", "mergeFewest", "([LLiveViews$Segment;I)V"⟩, 12), (⟨"LiveViews", "segmentOfLiveRows", "(LLiveViews$Segment;LLiveViews$Segment;)LLiveViews$Segment;"⟩, 12), (⟨"LiveViews", "addView", "([LLiveViews$Segment;)V"⟩, 12), (⟨"LiveViews$State", "copyFrom", "(LLiveViews$State;)V"⟩, 3), (⟨"LiveViews", "letGo", "()V"⟩, 12), (⟨"LiveViews", "closeAll", "()V"⟩, 12), (⟨"LiveViews$State", "countBefore", "(III)I"⟩, 3), (⟨"LiveViews$State", "rank", "(II)I"⟩, 3), (⟨"LiveViews$Segment", "keyOfRow", "(I)I"⟩, 4), (⟨"LiveViews", "countSegmentsThere", "()I"⟩, 12), (⟨"LiveViews", "markSegments", "(LLiveViews$View;)I"⟩, 12), (⟨"LiveViews", "countHeld", "()I"⟩, 12), (⟨"LiveViewsModel", "told", "(III)I"⟩, 18), (⟨"LiveViewsModel", "written", "(II)I"⟩, 18)]
theorem lw_r2 : ∀ q ∈ lw_privs_2, lw_okq q := List.forall_mem_cons.mpr ⟨lw_p16, List.forall_mem_cons.mpr ⟨lw_p17, List.forall_mem_cons.mpr ⟨lw_p18, List.forall_mem_cons.mpr ⟨lw_p19, List.forall_mem_cons.mpr ⟨lw_p20, List.forall_mem_cons.mpr ⟨lw_p21, List.forall_mem_cons.mpr ⟨lw_p22, List.forall_mem_cons.mpr ⟨lw_p23, List.forall_mem_cons.mpr ⟨lw_p24, List.forall_mem_cons.mpr ⟨lw_p25, List.forall_mem_cons.mpr ⟨lw_p26, List.forall_mem_cons.mpr ⟨lw_p27, List.forall_mem_cons.mpr ⟨lw_p28, List.forall_mem_cons.mpr ⟨lw_p29, List.forall_mem_cons.mpr ⟨lw_p30, List.forall_mem_cons.mpr ⟨lw_p31, fun _ h => absurd h List.not_mem_nil⟩⟩⟩⟩⟩⟩⟩⟩⟩⟩⟩⟩⟩⟩⟩⟩
theorem lw_p32 : lw_okq (⟨"LiveViewsModel", "change", "(II)I"⟩, 18) := ⟨⟨by decide +kernel, by decide +kernel⟩, List.mem_of_getElem? (i := 340) (by decide +kernel), List.mem_of_getElem? (i := 416) (by decide +kernel), List.mem_of_getElem? (i := 417) (by decide +kernel)⟩
theorem lw_p33 : lw_okq (⟨"LiveViewsModel", "add", "(II)V"⟩, 18) := ⟨⟨by decide +kernel, by decide +kernel⟩, List.mem_of_getElem? (i := 340) (by decide +kernel), List.mem_of_getElem? (i := 420) (by decide +kernel), List.mem_of_getElem? (i := 421) (by decide +kernel)⟩
theorem lw_p34 : lw_okq (⟨"LiveViewsModel", "isHeld", "(I)Z"⟩, 18) := ⟨⟨by decide +kernel, by decide +kernel⟩, List.mem_of_getElem? (i := 340) (by decide +kernel), List.mem_of_getElem? (i := 432) (by decide +kernel), List.mem_of_getElem? (i := 433) (by decide +kernel)⟩
theorem lw_p35 : lw_okq (⟨"LiveViewsModel", "has", "(III)Z"⟩, 18) := ⟨⟨by decide +kernel, by decide +kernel⟩, List.mem_of_getElem? (i := 340) (by decide +kernel), List.mem_of_getElem? (i := 436) (by decide +kernel), List.mem_of_getElem? (i := 437) (by decide +kernel)⟩
theorem lw_p36 : lw_okq (⟨"LiveViewsModel", "hasNews", "()Z"⟩, 18) := ⟨⟨by decide +kernel, by decide +kernel⟩, List.mem_of_getElem? (i := 340) (by decide +kernel), List.mem_of_getElem? (i := 448) (by decide +kernel), List.mem_of_getElem? (i := 449) (by decide +kernel)⟩
theorem lw_p37 : lw_okq (⟨"LiveViewsModel", "renew", "()V"⟩, 18) := ⟨⟨by decide +kernel, by decide +kernel⟩, List.mem_of_getElem? (i := 340) (by decide +kernel), List.mem_of_getElem? (i := 452) (by decide +kernel), List.mem_of_getElem? (i := 453) (by decide +kernel)⟩
theorem lw_p38 : lw_okq (⟨"LiveViewsModel", "live", "(II)I"⟩, 18) := ⟨⟨by decide +kernel, by decide +kernel⟩, List.mem_of_getElem? (i := 340) (by decide +kernel), List.mem_of_getElem? (i := 456) (by decide +kernel), List.mem_of_getElem? (i := 457) (by decide +kernel)⟩
theorem lw_p39 : lw_okq (⟨"LiveViewsModel", "merged", "(III)I"⟩, 18) := ⟨⟨by decide +kernel, by decide +kernel⟩, List.mem_of_getElem? (i := 340) (by decide +kernel), List.mem_of_getElem? (i := 460) (by decide +kernel), List.mem_of_getElem? (i := 461) (by decide +kernel)⟩
theorem lw_p40 : lw_okq (⟨"LiveViewsModel", "worth", "(III)I"⟩, 18) := ⟨⟨by decide +kernel, by decide +kernel⟩, List.mem_of_getElem? (i := 340) (by decide +kernel), List.mem_of_getElem? (i := 504) (by decide +kernel), List.mem_of_getElem? (i := 505) (by decide +kernel)⟩
theorem lw_p41 : lw_okq (⟨"LiveViewsModel", "isThere", "(I)Z"⟩, 18) := ⟨⟨by decide +kernel, by decide +kernel⟩, List.mem_of_getElem? (i := 340) (by decide +kernel), List.mem_of_getElem? (i := 523) (by decide +kernel), List.mem_of_getElem? (i := 524) (by decide +kernel)⟩
def lw_privs_3 : List (MethodName × Nat) := [(⟨"LiveViewsModel", "change", "(II)I"⟩, 18), (⟨"LiveViewsModel", "add", "(II)V"⟩, 18), (⟨"LiveViewsModel", "isHeld", "(I)Z"⟩, 18), (⟨"LiveViewsModel", "has", "(III)Z"⟩, 18), (⟨"LiveViewsModel", "hasNews", "()Z"⟩, 18), (⟨"LiveViewsModel", "renew", "()V"⟩, 18), (⟨"LiveViewsModel", "live", "(II)I"⟩, 18), (⟨"LiveViewsModel", "merged", "(III)I"⟩, 18), (⟨"LiveViewsModel", "worth", "(III)I"⟩, 18), (⟨"LiveViewsModel", "isThere", "(I)Z"⟩, 18)]
theorem lw_r3 : ∀ q ∈ lw_privs_3, lw_okq q := List.forall_mem_cons.mpr ⟨lw_p32, List.forall_mem_cons.mpr ⟨lw_p33, List.forall_mem_cons.mpr ⟨lw_p34, List.forall_mem_cons.mpr ⟨lw_p35, List.forall_mem_cons.mpr ⟨lw_p36, List.forall_mem_cons.mpr ⟨lw_p37, List.forall_mem_cons.mpr ⟨lw_p38, List.forall_mem_cons.mpr ⟨lw_p39, List.forall_mem_cons.mpr ⟨lw_p40, List.forall_mem_cons.mpr ⟨lw_p41, fun _ h => absurd h List.not_mem_nil⟩⟩⟩⟩⟩⟩⟩⟩⟩⟩
def lw_privs : List (MethodName × Nat) := lw_privs_1 ++ (lw_privs_2 ++ (lw_privs_3))
def lw_tbl : List Cond := k2_sels lw_privs ++ tables_1
theorem lw_privs_ok : ∀ q ∈ lw_privs, lw_okq q := by
  show ∀ q ∈ lw_privs_1 ++ (lw_privs_2 ++ (lw_privs_3)), lw_okq q
  exact List.forall_mem_append.mpr ⟨lw_r1, List.forall_mem_append.mpr ⟨lw_r2, lw_r3⟩⟩
def RX0 : String := "LiveViews$Segment"
def TX0 : u_T := fun k => match k with
  | 0 => ("LiveViews$Segment", "made", "I", true)
  | 1 => ("LiveViews$Segment", "written", "[I", true)
  | 2 => ("LiveViews$Segment", "rows", "I", false)
  | _ => ("LiveViews$Segment", "lastCounting", "I", false)
def tyX0 : Nat → FieldType := fun k => match k with
  | 0 => .int
  | 1 => .array .int
  | 2 => .int
  | _ => .int
theorem nmX0 : ∀ a, a < 4 → ∀ b, b < 4 → a ≠ b → (TX0 a).2.1 ≠ (TX0 b).2.1 := by decide +kernel
theorem tyX0_ok : ∀ k, k < 4 → parseFieldDescriptor (TX0 k).2.2.1 = some (tyX0 k) := by decide +kernel
abbrev cX0_init : ByteArray := prog_2_method_1_code
def yX0_init : MethodName := ⟨RX0, "<init>", "(I)V"⟩
abbrev cX0_put : ByteArray := prog_2_method_2_code
def yX0_put : MethodName := ⟨RX0, "put", "(II)V"⟩
abbrev cX0_isLive : ByteArray := prog_2_method_3_code
def yX0_isLive : MethodName := ⟨RX0, "isLive", "(ILLiveViews$State;)Z"⟩
abbrev cX0_countLive : ByteArray := prog_2_method_4_code
def yX0_countLive : MethodName := ⟨RX0, "countLive", "(LLiveViews$State;)I"⟩
abbrev cX0_keyOfRow : ByteArray := prog_2_method_5_code
def yX0_keyOfRow : MethodName := ⟨RX0, "keyOfRow", "(I)I"⟩
def RX1 : String := "LiveViews$State"
def TX1 : u_T := fun k => match k with
  | 0 => ("LiveViews$State", "asOf", "I", false)
  | 1 => ("LiveViews$State", "changes", "[I", true)
  | _ => ("LiveViews$State", "words", "[I", true)
def tyX1 : Nat → FieldType := fun k => match k with
  | 0 => .int
  | 1 => .array .int
  | _ => .array .int
theorem nmX1 : ∀ a, a < 3 → ∀ b, b < 3 → a ≠ b → (TX1 a).2.1 ≠ (TX1 b).2.1 := by decide +kernel
theorem tyX1_ok : ∀ k, k < 3 → parseFieldDescriptor (TX1 k).2.2.1 = some (tyX1 k) := by decide +kernel
abbrev cX1_init : ByteArray := prog_3_method_1_code
def yX1_init : MethodName := ⟨RX1, "<init>", "()V"⟩
abbrev cX1_change : ByteArray := prog_3_method_2_code
def yX1_change : MethodName := ⟨RX1, "change", "(II)I"⟩
abbrev cX1_copyFrom : ByteArray := prog_3_method_3_code
def yX1_copyFrom : MethodName := ⟨RX1, "copyFrom", "(LLiveViews$State;)V"⟩
abbrev cX1_lives : ByteArray := prog_3_method_4_code
def yX1_lives : MethodName := ⟨RX1, "lives", "(I)Z"⟩
abbrev cX1_writtenAs : ByteArray := prog_3_method_5_code
def yX1_writtenAs : MethodName := ⟨RX1, "writtenAs", "(I)I"⟩
abbrev cX1_fits : ByteArray := prog_3_method_6_code
def yX1_fits : MethodName := ⟨RX1, "fits", "(II)Z"⟩
abbrev cX1_rank : ByteArray := prog_3_method_7_code
def yX1_rank : MethodName := ⟨RX1, "rank", "(II)I"⟩
abbrev cX1_countBefore : ByteArray := prog_3_method_8_code
def yX1_countBefore : MethodName := ⟨RX1, "countBefore", "(III)I"⟩
def RX2 : String := "LiveViews$View"
def TX2 : u_T := fun k => match k with
  | 0 => ("LiveViews$View", "made", "I", true)
  | 1 => ("LiveViews$View", "state", "LLiveViews$State;", true)
  | 2 => ("LiveViews$View", "parts", "[LLiveViews$Segment;", true)
  | _ => ("LiveViews$View", "opened", "I", false)
def tyX2 : Nat → FieldType := fun k => match k with
  | 0 => .int
  | 1 => .object "LiveViews$State"
  | 2 => .array (.object "LiveViews$Segment")
  | _ => .int
theorem nmX2 : ∀ a, a < 4 → ∀ b, b < 4 → a ≠ b → (TX2 a).2.1 ≠ (TX2 b).2.1 := by decide +kernel
theorem tyX2_ok : ∀ k, k < 4 → parseFieldDescriptor (TX2 k).2.2.1 = some (tyX2 k) := by decide +kernel
abbrev cX2_init : ByteArray := prog_4_method_1_code
def yX2_init : MethodName := ⟨RX2, "<init>", "(ILLiveViews$State;[LLiveViews$Segment;)V"⟩
def RX3 : String := "LiveViews"
def TX3 : u_T := fun k => match k with
  | 0 => ("LiveViews", "now", "LLiveViews$State;", true)
  | 1 => ("LiveViews", "safe", "LLiveViews$State;", true)
  | 2 => ("LiveViews", "views", "[LLiveViews$View;", true)
  | 3 => ("LiveViews", "viewsMade", "I", false)
  | 4 => ("LiveViews", "latest", "LLiveViews$View;", false)
  | 5 => ("LiveViews", "committed", "LLiveViews$View;", false)
  | 6 => ("LiveViews", "segmentsMade", "I", false)
  | 7 => ("LiveViews", "copied", "I", false)
  | 8 => ("LiveViews", "missed", "I", false)
  | 9 => ("LiveViews", "conflictExpected", "I", false)
  | 10 => ("LiveViews", "conflictFound", "I", false)
  | _ => ("LiveViews", "countings", "I", false)
def tyX3 : Nat → FieldType := fun k => match k with
  | 0 => .object "LiveViews$State"
  | 1 => .object "LiveViews$State"
  | 2 => .array (.object "LiveViews$View")
  | 3 => .int
  | 4 => .object "LiveViews$View"
  | 5 => .object "LiveViews$View"
  | 6 => .int
  | 7 => .int
  | 8 => .int
  | 9 => .int
  | 10 => .int
  | _ => .int
theorem nmX3 : ∀ a, a < 12 → ∀ b, b < 12 → a ≠ b → (TX3 a).2.1 ≠ (TX3 b).2.1 := by decide +kernel
theorem tyX3_ok : ∀ k, k < 12 → parseFieldDescriptor (TX3 k).2.2.1 = some (tyX3 k) := by decide +kernel
abbrev cX3_init : ByteArray := prog_1_method_1_code
def yX3_init : MethodName := ⟨RX3, "<init>", "()V"⟩
abbrev cX3_write : ByteArray := prog_1_method_2_code
def yX3_write : MethodName := ⟨RX3, "write", "(III)I"⟩
abbrev cX3_remove : ByteArray := prog_1_method_3_code
def yX3_remove : MethodName := ⟨RX3, "remove", "(II)I"⟩
abbrev cX3_drop : ByteArray := prog_1_method_4_code
def yX3_drop : MethodName := ⟨RX3, "drop", "(II)I"⟩
abbrev cX3_conflict : ByteArray := prog_1_method_5_code
def yX3_conflict : MethodName := ⟨RX3, "conflict", "(I)I"⟩
abbrev cX3_refresh : ByteArray := prog_1_method_6_code
def yX3_refresh : MethodName := ⟨RX3, "refresh", "()I"⟩
abbrev cX3_commit : ByteArray := prog_1_method_7_code
def yX3_commit : MethodName := ⟨RX3, "commit", "()I"⟩
abbrev cX3_sync : ByteArray := prog_1_method_8_code
def yX3_sync : MethodName := ⟨RX3, "sync", "()I"⟩
abbrev cX3_crash : ByteArray := prog_1_method_9_code
def yX3_crash : MethodName := ⟨RX3, "crash", "()I"⟩
abbrev cX3_open : ByteArray := prog_1_method_10_code
def yX3_open : MethodName := ⟨RX3, "open", "(I)I"⟩
abbrev cX3_close : ByteArray := prog_1_method_11_code
def yX3_close : MethodName := ⟨RX3, "close", "(I)I"⟩
abbrev cX3_get : ByteArray := prog_1_method_12_code
def yX3_get : MethodName := ⟨RX3, "get", "(I)I"⟩
abbrev cX3_number : ByteArray := prog_1_method_13_code
def yX3_number : MethodName := ⟨RX3, "number", "(I)I"⟩
abbrev cX3_at : ByteArray := prog_1_method_14_code
def yX3_at : MethodName := ⟨RX3, "at", "(II)I"⟩
abbrev cX3_find : ByteArray := prog_1_method_15_code
def yX3_find : MethodName := ⟨RX3, "find", "(II)I"⟩
abbrev cX3_match : ByteArray := prog_1_method_16_code
def yX3_match : MethodName := ⟨RX3, "match", "(IIII)I"⟩
abbrev cX3_segments : ByteArray := prog_1_method_17_code
def yX3_segments : MethodName := ⟨RX3, "segments", "(I)I"⟩
abbrev cX3_segment : ByteArray := prog_1_method_18_code
def yX3_segment : MethodName := ⟨RX3, "segment", "(III)I"⟩
abbrev cX3_told : ByteArray := prog_1_method_19_code
def yX3_told : MethodName := ⟨RX3, "told", "(I)I"⟩
abbrev cX3_isKey : ByteArray := prog_1_method_20_code
def yX3_isKey : MethodName := ⟨RX3, "isKey", "(I)Z"⟩
abbrev cX3_isQuery : ByteArray := prog_1_method_21_code
def yX3_isQuery : MethodName := ⟨RX3, "isQuery", "(I)Z"⟩
abbrev cX3_keyOrOutside : ByteArray := prog_1_method_22_code
def yX3_keyOrOutside : MethodName := ⟨RX3, "keyOrOutside", "(LLiveViews$Segment;I)I"⟩
abbrev cX3_heldView : ByteArray := prog_1_method_23_code
def yX3_heldView : MethodName := ⟨RX3, "heldView", "(I)LLiveViews$View;"⟩
abbrev cX3_change : ByteArray := prog_1_method_24_code
def yX3_change : MethodName := ⟨RX3, "change", "(III)I"⟩
abbrev cX3_isUnchanged : ByteArray := prog_1_method_25_code
def yX3_isUnchanged : MethodName := ⟨RX3, "isUnchanged", "(LLiveViews$State;II)Z"⟩
abbrev cX3_countUnchanged : ByteArray := prog_1_method_26_code
def yX3_countUnchanged : MethodName := ⟨RX3, "countUnchanged", "(LLiveViews$State;I)I"⟩
abbrev cX3_countFitting : ByteArray := prog_1_method_27_code
def yX3_countFitting : MethodName := ⟨RX3, "countFitting", "(LLiveViews$State;I)I"⟩
abbrev cX3_hasRoomToRefresh : ByteArray := prog_1_method_28_code
def yX3_hasRoomToRefresh : MethodName := ⟨RX3, "hasRoomToRefresh", "(LLiveViews$View;LLiveViews$State;)Z"⟩
abbrev cX3_refreshLatest : ByteArray := prog_1_method_29_code
def yX3_refreshLatest : MethodName := ⟨RX3, "refreshLatest", "()V"⟩
abbrev cX3_addView : ByteArray := prog_1_method_30_code
def yX3_addView : MethodName := ⟨RX3, "addView", "([LLiveViews$Segment;)V"⟩
abbrev cX3_firstOf : ByteArray := prog_1_method_31_code
def yX3_firstOf : MethodName := ⟨RX3, "firstOf", "([LLiveViews$Segment;I)[LLiveViews$Segment;"⟩
abbrev cX3_isNewRow : ByteArray := prog_1_method_32_code
def yX3_isNewRow : MethodName := ⟨RX3, "isNewRow", "(I)Z"⟩
abbrev cX3_hasNewRow : ByteArray := prog_1_method_33_code
def yX3_hasNewRow : MethodName := ⟨RX3, "hasNewRow", "()Z"⟩
abbrev cX3_segmentOfNewRows : ByteArray := prog_1_method_34_code
def yX3_segmentOfNewRows : MethodName := ⟨RX3, "segmentOfNewRows", "()LLiveViews$Segment;"⟩
abbrev cX3_mergeFewest : ByteArray := prog_1_method_35_code
def yX3_mergeFewest : MethodName := ⟨RX3, "mergeFewest", "([LLiveViews$Segment;I)V"⟩
abbrev cX3_segmentOfLiveRows : ByteArray := prog_1_method_36_code
def yX3_segmentOfLiveRows : MethodName := ⟨RX3, "segmentOfLiveRows", "(LLiveViews$Segment;LLiveViews$Segment;)LLiveViews$Segment;"⟩
abbrev cX3_makeSegment : ByteArray := prog_1_method_37_code
def yX3_makeSegment : MethodName := ⟨RX3, "makeSegment", "()LLiveViews$Segment;"⟩
abbrev cX3_putRow : ByteArray := prog_1_method_38_code
def yX3_putRow : MethodName := ⟨RX3, "putRow", "(LLiveViews$Segment;I)V"⟩
abbrev cX3_closeAll : ByteArray := prog_1_method_39_code
def yX3_closeAll : MethodName := ⟨RX3, "closeAll", "()V"⟩
abbrev cX3_letGo : ByteArray := prog_1_method_40_code
def yX3_letGo : MethodName := ⟨RX3, "letGo", "()V"⟩
abbrev cX3_countHeld : ByteArray := prog_1_method_41_code
def yX3_countHeld : MethodName := ⟨RX3, "countHeld", "()I"⟩
abbrev cX3_countSegmentsThere : ByteArray := prog_1_method_42_code
def yX3_countSegmentsThere : MethodName := ⟨RX3, "countSegmentsThere", "()I"⟩
abbrev cX3_markSegments : ByteArray := prog_1_method_43_code
def yX3_markSegments : MethodName := ⟨RX3, "markSegments", "(LLiveViews$View;)I"⟩
def RX4 : String := "LiveViewsModel"
def TX4 : u_T := fun k => match k with
  | 0 => ("LiveViewsModel", "changes", "I", false)
  | 1 => ("LiveViewsModel", "changeKey", "[I", true)
  | 2 => ("LiveViewsModel", "changeWords", "[I", true)
  | 3 => ("LiveViewsModel", "missed", "I", false)
  | 4 => ("LiveViewsModel", "expectedThen", "I", false)
  | 5 => ("LiveViewsModel", "wasThen", "I", false)
  | 6 => ("LiveViewsModel", "made", "I", false)
  | 7 => ("LiveViewsModel", "rows", "[I", true)
  | 8 => ("LiveViewsModel", "row", "[I", true)
  | 9 => ("LiveViewsModel", "copied", "I", false)
  | 10 => ("LiveViewsModel", "views", "I", false)
  | 11 => ("LiveViewsModel", "asOf", "[I", true)
  | 12 => ("LiveViewsModel", "many", "[I", true)
  | 13 => ("LiveViewsModel", "of", "[I", true)
  | 14 => ("LiveViewsModel", "opened", "[I", true)
  | 15 => ("LiveViewsModel", "latest", "I", false)
  | 16 => ("LiveViewsModel", "committed", "I", false)
  | _ => ("LiveViewsModel", "safe", "I", false)
def tyX4 : Nat → FieldType := fun k => match k with
  | 0 => .int
  | 1 => .array .int
  | 2 => .array .int
  | 3 => .int
  | 4 => .int
  | 5 => .int
  | 6 => .int
  | 7 => .array .int
  | 8 => .array .int
  | 9 => .int
  | 10 => .int
  | 11 => .array .int
  | 12 => .array .int
  | 13 => .array .int
  | 14 => .array .int
  | 15 => .int
  | 16 => .int
  | _ => .int
theorem nmX4 : ∀ a, a < 18 → ∀ b, b < 18 → a ≠ b → (TX4 a).2.1 ≠ (TX4 b).2.1 := by decide +kernel
theorem tyX4_ok : ∀ k, k < 18 → parseFieldDescriptor (TX4 k).2.2.1 = some (tyX4 k) := by decide +kernel
abbrev cX4_init : ByteArray := prog_6_method_1_code
def yX4_init : MethodName := ⟨RX4, "<init>", "()V"⟩
abbrev cX4_in : ByteArray := prog_6_method_2_code
def yX4_in : MethodName := ⟨RX4, "in", "(III)Z"⟩
abbrev cX4_isHeld : ByteArray := prog_6_method_3_code
def yX4_isHeld : MethodName := ⟨RX4, "isHeld", "(I)Z"⟩
abbrev cX4_change : ByteArray := prog_6_method_4_code
def yX4_change : MethodName := ⟨RX4, "change", "(II)I"⟩
abbrev cX4_written : ByteArray := prog_6_method_5_code
def yX4_written : MethodName := ⟨RX4, "written", "(II)I"⟩
abbrev cX4_add : ByteArray := prog_6_method_6_code
def yX4_add : MethodName := ⟨RX4, "add", "(II)V"⟩
abbrev cX4_told : ByteArray := prog_6_method_7_code
def yX4_told : MethodName := ⟨RX4, "told", "(III)I"⟩
abbrev cX4_write : ByteArray := prog_6_method_8_code
def yX4_write : MethodName := ⟨RX4, "write", "(III)I"⟩
abbrev cX4_remove : ByteArray := prog_6_method_9_code
def yX4_remove : MethodName := ⟨RX4, "remove", "(II)I"⟩
abbrev cX4_has : ByteArray := prog_6_method_10_code
def yX4_has : MethodName := ⟨RX4, "has", "(III)Z"⟩
abbrev cX4_drop : ByteArray := prog_6_method_11_code
def yX4_drop : MethodName := ⟨RX4, "drop", "(II)I"⟩
abbrev cX4_conflict : ByteArray := prog_6_method_12_code
def yX4_conflict : MethodName := ⟨RX4, "conflict", "(I)I"⟩
abbrev cX4_live : ByteArray := prog_6_method_13_code
def yX4_live : MethodName := ⟨RX4, "live", "(II)I"⟩
abbrev cX4_merged : ByteArray := prog_6_method_14_code
def yX4_merged : MethodName := ⟨RX4, "merged", "(III)I"⟩
abbrev cX4_hasNews : ByteArray := prog_6_method_15_code
def yX4_hasNews : MethodName := ⟨RX4, "hasNews", "()Z"⟩
abbrev cX4_renew : ByteArray := prog_6_method_16_code
def yX4_renew : MethodName := ⟨RX4, "renew", "()V"⟩
abbrev cX4_refresh : ByteArray := prog_6_method_17_code
def yX4_refresh : MethodName := ⟨RX4, "refresh", "()I"⟩
abbrev cX4_commit : ByteArray := prog_6_method_18_code
def yX4_commit : MethodName := ⟨RX4, "commit", "()I"⟩
abbrev cX4_sync : ByteArray := prog_6_method_19_code
def yX4_sync : MethodName := ⟨RX4, "sync", "()I"⟩
abbrev cX4_crash : ByteArray := prog_6_method_20_code
def yX4_crash : MethodName := ⟨RX4, "crash", "()I"⟩
abbrev cX4_open : ByteArray := prog_6_method_21_code
def yX4_open : MethodName := ⟨RX4, "open", "(I)I"⟩
abbrev cX4_close : ByteArray := prog_6_method_22_code
def yX4_close : MethodName := ⟨RX4, "close", "(I)I"⟩
abbrev cX4_get : ByteArray := prog_6_method_23_code
def yX4_get : MethodName := ⟨RX4, "get", "(I)I"⟩
abbrev cX4_number : ByteArray := prog_6_method_24_code
def yX4_number : MethodName := ⟨RX4, "number", "(I)I"⟩
abbrev cX4_at : ByteArray := prog_6_method_25_code
def yX4_at : MethodName := ⟨RX4, "at", "(II)I"⟩
abbrev cX4_find : ByteArray := prog_6_method_26_code
def yX4_find : MethodName := ⟨RX4, "find", "(II)I"⟩
abbrev cX4_bits : ByteArray := prog_6_method_27_code
def yX4_bits : MethodName := ⟨RX4, "bits", "(I)I"⟩
abbrev cX4_worth : ByteArray := prog_6_method_28_code
def yX4_worth : MethodName := ⟨RX4, "worth", "(III)I"⟩
abbrev cX4_match : ByteArray := prog_6_method_29_code
def yX4_match : MethodName := ⟨RX4, "match", "(IIII)I"⟩
abbrev cX4_segments : ByteArray := prog_6_method_30_code
def yX4_segments : MethodName := ⟨RX4, "segments", "(I)I"⟩
abbrev cX4_segment : ByteArray := prog_6_method_31_code
def yX4_segment : MethodName := ⟨RX4, "segment", "(III)I"⟩
abbrev cX4_isThere : ByteArray := prog_6_method_32_code
def yX4_isThere : MethodName := ⟨RX4, "isThere", "(I)Z"⟩
abbrev cX4_told_ : ByteArray := prog_6_method_33_code
def yX4_told_ : MethodName := ⟨RX4, "told", "(I)I"⟩
def RJ6 : String := "java/lang/Integer"
def TJ6 : u_T := fun k => match k with
  | _ => ("", "", "", false)
def tyJ6 : Nat → FieldType := fun k => match k with
  | _ => .int
theorem nmJ6 : ∀ a, a < 0 → ∀ b, b < 0 → a ≠ b → (TJ6 a).2.1 ≠ (TJ6 b).2.1 := by decide +kernel
theorem tyJ6_ok : ∀ k, k < 0 → parseFieldDescriptor (TJ6 k).2.2.1 = some (tyJ6 k) := by decide +kernel
abbrev cJ6_bitCount_0f7a4 : ByteArray := prog_7_method_49_code
def yJ6_bitCount_0f7a4 : MethodName := ⟨RJ6, "bitCount", "(I)I"⟩
def RJ10 : String := "java/lang/System"
def TJ10 : u_T := fun k => match k with
  | _ => ("", "", "", false)
def tyJ10 : Nat → FieldType := fun k => match k with
  | _ => .int
theorem nmJ10 : ∀ a, a < 0 → ∀ b, b < 0 → a ≠ b → (TJ10 a).2.1 ≠ (TJ10 b).2.1 := by decide +kernel
theorem tyJ10_ok : ∀ k, k < 0 → parseFieldDescriptor (TJ10 k).2.2.1 = some (tyJ10 k) := by decide +kernel
def RL : String := "LiveViewsLaw"
abbrev cL_law : ByteArray := code
def yL_law : MethodName := ⟨RL, "law", "([I)Z"⟩
abbrev vwCl : List vw_C := [(RX0, TX0, 4), (RX1, TX1, 3), (RX2, TX2, 4), (RX3, TX3, 12), (RX4, TX4, 18)]
