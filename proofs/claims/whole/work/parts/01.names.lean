-- ===== PART A: goes FIRST, ahead of the names: the tables' words, and 'selects' of the private methods out of them =====
/-- a private method of a class that the tables say can be made, by its rows of tables_1 -/
def lw_okq (q : MethodName × Nat) : Prop := (q.1.cls ≠ "java/lang/invoke/MethodHandle" ∧ q.1.cls ≠ "java/lang/invoke/VarHandle") ∧ Cond.instantiable q.1.cls q.2 ∈ tables_1 ∧ Cond.privateMethod q.1 ∈ tables_1 ∧ Cond.instanceMethod q.1 ∈ tables_1
theorem lw_p0 : lw_okq (⟨"CrossedRings", "found", "(I)I"⟩, 13) := ⟨⟨by decide +kernel, by decide +kernel⟩, List.mem_of_getElem? (i := 9) (by decide +kernel), List.mem_of_getElem? (i := 129) (by decide +kernel), List.mem_of_getElem? (i := 130) (by decide +kernel)⟩
theorem lw_p1 : lw_okq (⟨"CrossedRings", "placeRefused", "(LCrossedRings$Row;I)I"⟩, 13) := ⟨⟨by decide +kernel, by decide +kernel⟩, List.mem_of_getElem? (i := 9) (by decide +kernel), List.mem_of_getElem? (i := 144) (by decide +kernel), List.mem_of_getElem? (i := 145) (by decide +kernel)⟩
theorem lw_p2 : lw_okq (⟨"CrossedRings", "told", "(I)I"⟩, 13) := ⟨⟨by decide +kernel, by decide +kernel⟩, List.mem_of_getElem? (i := 9) (by decide +kernel), List.mem_of_getElem? (i := 165) (by decide +kernel), List.mem_of_getElem? (i := 166) (by decide +kernel)⟩
theorem lw_p3 : lw_okq (⟨"CrossedRings", "readBeads", "(LCrossedRings$Row;)V"⟩, 13) := ⟨⟨by decide +kernel, by decide +kernel⟩, List.mem_of_getElem? (i := 9) (by decide +kernel), List.mem_of_getElem? (i := 229) (by decide +kernel), List.mem_of_getElem? (i := 230) (by decide +kernel)⟩
theorem lw_p4 : lw_okq (⟨"CrossedRings", "isBead", "(I)Z"⟩, 13) := ⟨⟨by decide +kernel, by decide +kernel⟩, List.mem_of_getElem? (i := 9) (by decide +kernel), List.mem_of_getElem? (i := 245) (by decide +kernel), List.mem_of_getElem? (i := 246) (by decide +kernel)⟩
theorem lw_p5 : lw_okq (⟨"CrossedRings", "beadSays", "(II)I"⟩, 13) := ⟨⟨by decide +kernel, by decide +kernel⟩, List.mem_of_getElem? (i := 9) (by decide +kernel), List.mem_of_getElem? (i := 249) (by decide +kernel), List.mem_of_getElem? (i := 250) (by decide +kernel)⟩
theorem lw_p6 : lw_okq (⟨"CrossedRings$Toy", "holdsKind", "(II)Z"⟩, 9) := ⟨⟨by decide +kernel, by decide +kernel⟩, List.mem_of_getElem? (i := 19) (by decide +kernel), List.mem_of_getElem? (i := 292) (by decide +kernel), List.mem_of_getElem? (i := 293) (by decide +kernel)⟩
theorem lw_p7 : lw_okq (⟨"CrossedRings$Toy", "swap", "(I)V"⟩, 9) := ⟨⟨by decide +kernel, by decide +kernel⟩, List.mem_of_getElem? (i := 19) (by decide +kernel), List.mem_of_getElem? (i := 317) (by decide +kernel), List.mem_of_getElem? (i := 318) (by decide +kernel)⟩
theorem lw_p8 : lw_okq (⟨"CrossedRings$Toy", "lieIn", "(II)V"⟩, 9) := ⟨⟨by decide +kernel, by decide +kernel⟩, List.mem_of_getElem? (i := 19) (by decide +kernel), List.mem_of_getElem? (i := 321) (by decide +kernel), List.mem_of_getElem? (i := 322) (by decide +kernel)⟩
theorem lw_p9 : lw_okq (⟨"CrossedRings$Toy", "shift", "(I)V"⟩, 9) := ⟨⟨by decide +kernel, by decide +kernel⟩, List.mem_of_getElem? (i := 19) (by decide +kernel), List.mem_of_getElem? (i := 329) (by decide +kernel), List.mem_of_getElem? (i := 330) (by decide +kernel)⟩
theorem lw_p10 : lw_okq (⟨"CrossedRings$Toy", "bear", "(II)V"⟩, 9) := ⟨⟨by decide +kernel, by decide +kernel⟩, List.mem_of_getElem? (i := 19) (by decide +kernel), List.mem_of_getElem? (i := 338) (by decide +kernel), List.mem_of_getElem? (i := 339) (by decide +kernel)⟩
theorem lw_p11 : lw_okq (⟨"CrossedRings", "movesRefused", "(LCrossedRings$Row;II)I"⟩, 13) := ⟨⟨by decide +kernel, by decide +kernel⟩, List.mem_of_getElem? (i := 9) (by decide +kernel), List.mem_of_getElem? (i := 393) (by decide +kernel), List.mem_of_getElem? (i := 394) (by decide +kernel)⟩
theorem lw_p12 : lw_okq (⟨"CrossedRings", "movesMadeAside", "(LCrossedRings$Row;)I"⟩, 13) := ⟨⟨by decide +kernel, by decide +kernel⟩, List.mem_of_getElem? (i := 9) (by decide +kernel), List.mem_of_getElem? (i := 401) (by decide +kernel), List.mem_of_getElem? (i := 402) (by decide +kernel)⟩
theorem lw_p13 : lw_okq (⟨"CrossedRings", "fewestToWanted", "(LCrossedRings$Row;)I"⟩, 13) := ⟨⟨by decide +kernel, by decide +kernel⟩, List.mem_of_getElem? (i := 9) (by decide +kernel), List.mem_of_getElem? (i := 419) (by decide +kernel), List.mem_of_getElem? (i := 420) (by decide +kernel)⟩
theorem lw_p14 : lw_okq (⟨"CrossedRings", "reachesWanted", "(II)Z"⟩, 13) := ⟨⟨by decide +kernel, by decide +kernel⟩, List.mem_of_getElem? (i := 9) (by decide +kernel), List.mem_of_getElem? (i := 423) (by decide +kernel), List.mem_of_getElem? (i := 424) (by decide +kernel)⟩
theorem lw_p15 : lw_okq (⟨"CrossedRings", "pictureRefused", "(LCrossedRings$Row;)I"⟩, 13) := ⟨⟨by decide +kernel, by decide +kernel⟩, List.mem_of_getElem? (i := 9) (by decide +kernel), List.mem_of_getElem? (i := 436) (by decide +kernel), List.mem_of_getElem? (i := 437) (by decide +kernel)⟩
def lw_privs_1 : List (MethodName × Nat) := [(⟨"CrossedRings", "found", "(I)I"⟩, 13), (⟨"CrossedRings", "placeRefused", "(LCrossedRings$Row;I)I"⟩, 13), (⟨"CrossedRings", "told", "(I)I"⟩, 13), (⟨"CrossedRings", "readBeads", "(LCrossedRings$Row;)V"⟩, 13), (⟨"CrossedRings", "isBead", "(I)Z"⟩, 13), (⟨"CrossedRings", "beadSays", "(II)I"⟩, 13), (⟨"CrossedRings$Toy", "holdsKind", "(II)Z"⟩, 9), (⟨"CrossedRings$Toy", "swap", "(I)V"⟩, 9), (⟨"CrossedRings$Toy", "lieIn", "(II)V"⟩, 9), (⟨"CrossedRings$Toy", "shift", "(I)V"⟩, 9), (⟨"CrossedRings$Toy", "bear", "(II)V"⟩, 9), (⟨"CrossedRings", "movesRefused", "(LCrossedRings$Row;II)I"⟩, 13), (⟨"CrossedRings", "movesMadeAside", "(LCrossedRings$Row;)I"⟩, 13), (⟨"CrossedRings", "fewestToWanted", "(LCrossedRings$Row;)I"⟩, 13), (⟨"CrossedRings", "reachesWanted", "(II)Z"⟩, 13), (⟨"CrossedRings", "pictureRefused", "(LCrossedRings$Row;)I"⟩, 13)]
theorem lw_r1 : ∀ q ∈ lw_privs_1, lw_okq q := List.forall_mem_cons.mpr ⟨lw_p0, List.forall_mem_cons.mpr ⟨lw_p1, List.forall_mem_cons.mpr ⟨lw_p2, List.forall_mem_cons.mpr ⟨lw_p3, List.forall_mem_cons.mpr ⟨lw_p4, List.forall_mem_cons.mpr ⟨lw_p5, List.forall_mem_cons.mpr ⟨lw_p6, List.forall_mem_cons.mpr ⟨lw_p7, List.forall_mem_cons.mpr ⟨lw_p8, List.forall_mem_cons.mpr ⟨lw_p9, List.forall_mem_cons.mpr ⟨lw_p10, List.forall_mem_cons.mpr ⟨lw_p11, List.forall_mem_cons.mpr ⟨lw_p12, List.forall_mem_cons.mpr ⟨lw_p13, List.forall_mem_cons.mpr ⟨lw_p14, List.forall_mem_cons.mpr ⟨lw_p15, fun _ h => absurd h List.not_mem_nil⟩⟩⟩⟩⟩⟩⟩⟩⟩⟩⟩⟩⟩⟩⟩⟩
theorem lw_p16 : lw_okq (⟨"CrossedRings", "wantPicture", "(LCrossedRings$Row;)V"⟩, 13) := ⟨⟨by decide +kernel, by decide +kernel⟩, List.mem_of_getElem? (i := 9) (by decide +kernel), List.mem_of_getElem? (i := 440) (by decide +kernel), List.mem_of_getElem? (i := 441) (by decide +kernel)⟩
theorem lw_p17 : lw_okq (⟨"CrossedRings", "pairsRefused", "(II)I"⟩, 13) := ⟨⟨by decide +kernel, by decide +kernel⟩, List.mem_of_getElem? (i := 9) (by decide +kernel), List.mem_of_getElem? (i := 452) (by decide +kernel), List.mem_of_getElem? (i := 453) (by decide +kernel)⟩
theorem lw_p18 : lw_okq (⟨"CrossedRings", "kindsThatFit", "(ILCrossedRings$Row;)I"⟩, 13) := ⟨⟨by decide +kernel, by decide +kernel⟩, List.mem_of_getElem? (i := 9) (by decide +kernel), List.mem_of_getElem? (i := 456) (by decide +kernel), List.mem_of_getElem? (i := 457) (by decide +kernel)⟩
theorem lw_p19 : lw_okq (⟨"CrossedRings", "showedAside", "(ILCrossedRings$Row;)Z"⟩, 13) := ⟨⟨by decide +kernel, by decide +kernel⟩, List.mem_of_getElem? (i := 9) (by decide +kernel), List.mem_of_getElem? (i := 460) (by decide +kernel), List.mem_of_getElem? (i := 461) (by decide +kernel)⟩
theorem lw_p20 : lw_okq (⟨"CrossedRings", "greatestPart", "(III)I"⟩, 13) := ⟨⟨by decide +kernel, by decide +kernel⟩, List.mem_of_getElem? (i := 9) (by decide +kernel), List.mem_of_getElem? (i := 472) (by decide +kernel), List.mem_of_getElem? (i := 473) (by decide +kernel)⟩
theorem lw_p21 : lw_okq (⟨"CrossedRings", "partOfKind", "(III)I"⟩, 13) := ⟨⟨by decide +kernel, by decide +kernel⟩, List.mem_of_getElem? (i := 9) (by decide +kernel), List.mem_of_getElem? (i := 476) (by decide +kernel), List.mem_of_getElem? (i := 477) (by decide +kernel)⟩
theorem lw_p22 : lw_okq (⟨"CrossedRings", "leadByTurns", "(III)I"⟩, 13) := ⟨⟨by decide +kernel, by decide +kernel⟩, List.mem_of_getElem? (i := 9) (by decide +kernel), List.mem_of_getElem? (i := 484) (by decide +kernel), List.mem_of_getElem? (i := 485) (by decide +kernel)⟩
theorem lw_p23 : lw_okq (⟨"CrossedRings", "tellSlips", "(LCrossedRings$Row;III)I"⟩, 13) := ⟨⟨by decide +kernel, by decide +kernel⟩, List.mem_of_getElem? (i := 9) (by decide +kernel), List.mem_of_getElem? (i := 503) (by decide +kernel), List.mem_of_getElem? (i := 504) (by decide +kernel)⟩
theorem lw_p24 : lw_okq (⟨"CrossedRings", "slipWeight", "(LCrossedRings$Row;IIII)J"⟩, 13) := ⟨⟨by decide +kernel, by decide +kernel⟩, List.mem_of_getElem? (i := 9) (by decide +kernel), List.mem_of_getElem? (i := 507) (by decide +kernel), List.mem_of_getElem? (i := 508) (by decide +kernel)⟩
theorem lw_p25 : lw_okq (⟨"CrossedRings", "deedByLot", "(I)I"⟩, 13) := ⟨⟨by decide +kernel, by decide +kernel⟩, List.mem_of_getElem? (i := 9) (by decide +kernel), List.mem_of_getElem? (i := 528) (by decide +kernel), List.mem_of_getElem? (i := 529) (by decide +kernel)⟩
theorem lw_p26 : lw_okq (⟨"CrossedRings", "counted", "(I)I"⟩, 13) := ⟨⟨by decide +kernel, by decide +kernel⟩, List.mem_of_getElem? (i := 9) (by decide +kernel), List.mem_of_getElem? (i := 548) (by decide +kernel), List.mem_of_getElem? (i := 549) (by decide +kernel)⟩
theorem lw_p27 : lw_okq (⟨"CrossedRings", "rowsThere", "()I"⟩, 13) := ⟨⟨by decide +kernel, by decide +kernel⟩, List.mem_of_getElem? (i := 9) (by decide +kernel), List.mem_of_getElem? (i := 552) (by decide +kernel), List.mem_of_getElem? (i := 553) (by decide +kernel)⟩
theorem lw_p28 : lw_okq (⟨"CrossedRings", "textsThere", "()I"⟩, 13) := ⟨⟨by decide +kernel, by decide +kernel⟩, List.mem_of_getElem? (i := 9) (by decide +kernel), List.mem_of_getElem? (i := 556) (by decide +kernel), List.mem_of_getElem? (i := 557) (by decide +kernel)⟩
theorem lw_p29 : lw_okq (⟨"CrossedRings", "toysKept", "()I"⟩, 13) := ⟨⟨by decide +kernel, by decide +kernel⟩, List.mem_of_getElem? (i := 9) (by decide +kernel), List.mem_of_getElem? (i := 560) (by decide +kernel), List.mem_of_getElem? (i := 561) (by decide +kernel)⟩
theorem lw_p30 : lw_okq (⟨"CrossedRings", "countedOfBeads", "(I)I"⟩, 13) := ⟨⟨by decide +kernel, by decide +kernel⟩, List.mem_of_getElem? (i := 9) (by decide +kernel), List.mem_of_getElem? (i := 564) (by decide +kernel), List.mem_of_getElem? (i := 565) (by decide +kernel)⟩
theorem lw_p31 : lw_okq (⟨"CrossedRings", "digestBeads", "(J)J"⟩, 13) := ⟨⟨by decide +kernel, by decide +kernel⟩, List.mem_of_getElem? (i := 9) (by decide +kernel), List.mem_of_getElem? (i := 592) (by decide +kernel), List.mem_of_getElem? (i := 593) (by decide +kernel)⟩
def lw_privs_2 : List (MethodName × Nat) := [(⟨"CrossedRings", "wantPicture", "(LCrossedRings$Row;)V"⟩, 13), (⟨"CrossedRings", "pairsRefused", "(II)I"⟩, 13), (⟨"CrossedRings", "kindsThatFit", "(ILCrossedRings$Row;)I"⟩, 13), (⟨"CrossedRings", "showedAside", "(ILCrossedRings$Row;)Z"⟩, 13), (⟨"CrossedRings", "greatestPart", "(III)I"⟩, 13), (⟨"CrossedRings", "partOfKind", "(III)I"⟩, 13), (⟨"CrossedRings", "leadByTurns", "(III)I"⟩, 13), (⟨"CrossedRings", "tellSlips", "(LCrossedRings$Row;III)I"⟩, 13), (⟨"CrossedRings", "slipWeight", "(LCrossedRings$Row;IIII)J"⟩, 13), (⟨"CrossedRings", "deedByLot", "(I)I"⟩, 13), (⟨"CrossedRings", "counted", "(I)I"⟩, 13), (⟨"CrossedRings", "rowsThere", "()I"⟩, 13), (⟨"CrossedRings", "textsThere", "()I"⟩, 13), (⟨"CrossedRings", "toysKept", "()I"⟩, 13), (⟨"CrossedRings", "countedOfBeads", "(I)I"⟩, 13), (⟨"CrossedRings", "digestBeads", "(J)J"⟩, 13)]
theorem lw_r2 : ∀ q ∈ lw_privs_2, lw_okq q := List.forall_mem_cons.mpr ⟨lw_p16, List.forall_mem_cons.mpr ⟨lw_p17, List.forall_mem_cons.mpr ⟨lw_p18, List.forall_mem_cons.mpr ⟨lw_p19, List.forall_mem_cons.mpr ⟨lw_p20, List.forall_mem_cons.mpr ⟨lw_p21, List.forall_mem_cons.mpr ⟨lw_p22, List.forall_mem_cons.mpr ⟨lw_p23, List.forall_mem_cons.mpr ⟨lw_p24, List.forall_mem_cons.mpr ⟨lw_p25, List.forall_mem_cons.mpr ⟨lw_p26, List.forall_mem_cons.mpr ⟨lw_p27, List.forall_mem_cons.mpr ⟨lw_p28, List.forall_mem_cons.mpr ⟨lw_p29, List.forall_mem_cons.mpr ⟨lw_p30, List.forall_mem_cons.mpr ⟨lw_p31, fun _ h => absurd h List.not_mem_nil⟩⟩⟩⟩⟩⟩⟩⟩⟩⟩⟩⟩⟩⟩⟩⟩
theorem lw_p32 : lw_okq (⟨"CrossedRingsModel", "finds", "(I)I"⟩, 20) := ⟨⟨by decide +kernel, by decide +kernel⟩, List.mem_of_getElem? (i := 601) (by decide +kernel), List.mem_of_getElem? (i := 680) (by decide +kernel), List.mem_of_getElem? (i := 681) (by decide +kernel)⟩
theorem lw_p33 : lw_okq (⟨"CrossedRingsModel", "asks", "(I)I"⟩, 20) := ⟨⟨by decide +kernel, by decide +kernel⟩, List.mem_of_getElem? (i := 601) (by decide +kernel), List.mem_of_getElem? (i := 692) (by decide +kernel), List.mem_of_getElem? (i := 693) (by decide +kernel)⟩
theorem lw_p34 : lw_okq (⟨"CrossedRingsModel", "faultOf", "(I)I"⟩, 20) := ⟨⟨by decide +kernel, by decide +kernel⟩, List.mem_of_getElem? (i := 601) (by decide +kernel), List.mem_of_getElem? (i := 725) (by decide +kernel), List.mem_of_getElem? (i := 726) (by decide +kernel)⟩
theorem lw_p35 : lw_okq (⟨"CrossedRingsModel", "byteAt", "(II)I"⟩, 20) := ⟨⟨by decide +kernel, by decide +kernel⟩, List.mem_of_getElem? (i := 601) (by decide +kernel), List.mem_of_getElem? (i := 729) (by decide +kernel), List.mem_of_getElem? (i := 730) (by decide +kernel)⟩
theorem lw_p36 : lw_okq (⟨"CrossedRingsModel", "isBead", "(I)Z"⟩, 20) := ⟨⟨by decide +kernel, by decide +kernel⟩, List.mem_of_getElem? (i := 601) (by decide +kernel), List.mem_of_getElem? (i := 749) (by decide +kernel), List.mem_of_getElem? (i := 750) (by decide +kernel)⟩
theorem lw_p37 : lw_okq (⟨"CrossedRingsModel", "does", "(I)V"⟩, 20) := ⟨⟨by decide +kernel, by decide +kernel⟩, List.mem_of_getElem? (i := 601) (by decide +kernel), List.mem_of_getElem? (i := 800) (by decide +kernel), List.mem_of_getElem? (i := 801) (by decide +kernel)⟩
theorem lw_p38 : lw_okq (⟨"CrossedRingsModel", "looksAt", "(III)I"⟩, 20) := ⟨⟨by decide +kernel, by decide +kernel⟩, List.mem_of_getElem? (i := 601) (by decide +kernel), List.mem_of_getElem? (i := 842) (by decide +kernel), List.mem_of_getElem? (i := 843) (by decide +kernel)⟩
theorem lw_p39 : lw_okq (⟨"CrossedRingsModel", "layHand", "()V"⟩, 20) := ⟨⟨by decide +kernel, by decide +kernel⟩, List.mem_of_getElem? (i := 601) (by decide +kernel), List.mem_of_getElem? (i := 846) (by decide +kernel), List.mem_of_getElem? (i := 847) (by decide +kernel)⟩
theorem lw_p40 : lw_okq (⟨"CrossedRingsModel", "liesAsNow", "()Z"⟩, 20) := ⟨⟨by decide +kernel, by decide +kernel⟩, List.mem_of_getElem? (i := 601) (by decide +kernel), List.mem_of_getElem? (i := 854) (by decide +kernel), List.mem_of_getElem? (i := 855) (by decide +kernel)⟩
theorem lw_p41 : lw_okq (⟨"CrossedRingsModel", "goesBy", "(II)Z"⟩, 20) := ⟨⟨by decide +kernel, by decide +kernel⟩, List.mem_of_getElem? (i := 601) (by decide +kernel), List.mem_of_getElem? (i := 866) (by decide +kernel), List.mem_of_getElem? (i := 867) (by decide +kernel)⟩
theorem lw_p42 : lw_okq (⟨"CrossedRingsModel", "layMoves", "(III)I"⟩, 20) := ⟨⟨by decide +kernel, by decide +kernel⟩, List.mem_of_getElem? (i := 601) (by decide +kernel), List.mem_of_getElem? (i := 870) (by decide +kernel), List.mem_of_getElem? (i := 871) (by decide +kernel)⟩
theorem lw_p43 : lw_okq (⟨"CrossedRingsModel", "looksAtPicture", "(I)I"⟩, 20) := ⟨⟨by decide +kernel, by decide +kernel⟩, List.mem_of_getElem? (i := 601) (by decide +kernel), List.mem_of_getElem? (i := 878) (by decide +kernel), List.mem_of_getElem? (i := 879) (by decide +kernel)⟩
theorem lw_p44 : lw_okq (⟨"CrossedRingsModel", "isPicture", "(I)Z"⟩, 20) := ⟨⟨by decide +kernel, by decide +kernel⟩, List.mem_of_getElem? (i := 601) (by decide +kernel), List.mem_of_getElem? (i := 883) (by decide +kernel), List.mem_of_getElem? (i := 884) (by decide +kernel)⟩
theorem lw_p45 : lw_okq (⟨"CrossedRingsModel", "looksAtPairs", "(I)I"⟩, 20) := ⟨⟨by decide +kernel, by decide +kernel⟩, List.mem_of_getElem? (i := 601) (by decide +kernel), List.mem_of_getElem? (i := 895) (by decide +kernel), List.mem_of_getElem? (i := 896) (by decide +kernel)⟩
theorem lw_p46 : lw_okq (⟨"CrossedRingsModel", "kindsBy", "(II)I"⟩, 20) := ⟨⟨by decide +kernel, by decide +kernel⟩, List.mem_of_getElem? (i := 601) (by decide +kernel), List.mem_of_getElem? (i := 899) (by decide +kernel), List.mem_of_getElem? (i := 900) (by decide +kernel)⟩
theorem lw_p47 : lw_okq (⟨"CrossedRingsModel", "canBe", "(IIII)Z"⟩, 20) := ⟨⟨by decide +kernel, by decide +kernel⟩, List.mem_of_getElem? (i := 601) (by decide +kernel), List.mem_of_getElem? (i := 903) (by decide +kernel), List.mem_of_getElem? (i := 904) (by decide +kernel)⟩
def lw_privs_3 : List (MethodName × Nat) := [(⟨"CrossedRingsModel", "finds", "(I)I"⟩, 20), (⟨"CrossedRingsModel", "asks", "(I)I"⟩, 20), (⟨"CrossedRingsModel", "faultOf", "(I)I"⟩, 20), (⟨"CrossedRingsModel", "byteAt", "(II)I"⟩, 20), (⟨"CrossedRingsModel", "isBead", "(I)Z"⟩, 20), (⟨"CrossedRingsModel", "does", "(I)V"⟩, 20), (⟨"CrossedRingsModel", "looksAt", "(III)I"⟩, 20), (⟨"CrossedRingsModel", "layHand", "()V"⟩, 20), (⟨"CrossedRingsModel", "liesAsNow", "()Z"⟩, 20), (⟨"CrossedRingsModel", "goesBy", "(II)Z"⟩, 20), (⟨"CrossedRingsModel", "layMoves", "(III)I"⟩, 20), (⟨"CrossedRingsModel", "looksAtPicture", "(I)I"⟩, 20), (⟨"CrossedRingsModel", "isPicture", "(I)Z"⟩, 20), (⟨"CrossedRingsModel", "looksAtPairs", "(I)I"⟩, 20), (⟨"CrossedRingsModel", "kindsBy", "(II)I"⟩, 20), (⟨"CrossedRingsModel", "canBe", "(IIII)Z"⟩, 20)]
theorem lw_r3 : ∀ q ∈ lw_privs_3, lw_okq q := List.forall_mem_cons.mpr ⟨lw_p32, List.forall_mem_cons.mpr ⟨lw_p33, List.forall_mem_cons.mpr ⟨lw_p34, List.forall_mem_cons.mpr ⟨lw_p35, List.forall_mem_cons.mpr ⟨lw_p36, List.forall_mem_cons.mpr ⟨lw_p37, List.forall_mem_cons.mpr ⟨lw_p38, List.forall_mem_cons.mpr ⟨lw_p39, List.forall_mem_cons.mpr ⟨lw_p40, List.forall_mem_cons.mpr ⟨lw_p41, List.forall_mem_cons.mpr ⟨lw_p42, List.forall_mem_cons.mpr ⟨lw_p43, List.forall_mem_cons.mpr ⟨lw_p44, List.forall_mem_cons.mpr ⟨lw_p45, List.forall_mem_cons.mpr ⟨lw_p46, List.forall_mem_cons.mpr ⟨lw_p47, fun _ h => absurd h List.not_mem_nil⟩⟩⟩⟩⟩⟩⟩⟩⟩⟩⟩⟩⟩⟩⟩⟩
theorem lw_p48 : lw_okq (⟨"CrossedRingsModel", "greatestPart", "(I)I"⟩, 20) := ⟨⟨by decide +kernel, by decide +kernel⟩, List.mem_of_getElem? (i := 601) (by decide +kernel), List.mem_of_getElem? (i := 916) (by decide +kernel), List.mem_of_getElem? (i := 917) (by decide +kernel)⟩
theorem lw_p49 : lw_okq (⟨"CrossedRingsModel", "toLevel", "(I)V"⟩, 20) := ⟨⟨by decide +kernel, by decide +kernel⟩, List.mem_of_getElem? (i := 601) (by decide +kernel), List.mem_of_getElem? (i := 924) (by decide +kernel), List.mem_of_getElem? (i := 925) (by decide +kernel)⟩
theorem lw_p50 : lw_okq (⟨"CrossedRingsModel", "sides", "()I"⟩, 20) := ⟨⟨by decide +kernel, by decide +kernel⟩, List.mem_of_getElem? (i := 601) (by decide +kernel), List.mem_of_getElem? (i := 929) (by decide +kernel), List.mem_of_getElem? (i := 930) (by decide +kernel)⟩
theorem lw_p51 : lw_okq (⟨"CrossedRingsModel", "merge", "(II)V"⟩, 20) := ⟨⟨by decide +kernel, by decide +kernel⟩, List.mem_of_getElem? (i := 601) (by decide +kernel), List.mem_of_getElem? (i := 933) (by decide +kernel), List.mem_of_getElem? (i := 934) (by decide +kernel)⟩
theorem lw_p52 : lw_okq (⟨"CrossedRingsModel", "fromLevel", "(I)V"⟩, 20) := ⟨⟨by decide +kernel, by decide +kernel⟩, List.mem_of_getElem? (i := 601) (by decide +kernel), List.mem_of_getElem? (i := 937) (by decide +kernel), List.mem_of_getElem? (i := 938) (by decide +kernel)⟩
theorem lw_p53 : lw_okq (⟨"CrossedRingsModel", "slipsBy", "(III)J"⟩, 20) := ⟨⟨by decide +kernel, by decide +kernel⟩, List.mem_of_getElem? (i := 601) (by decide +kernel), List.mem_of_getElem? (i := 946) (by decide +kernel), List.mem_of_getElem? (i := 947) (by decide +kernel)⟩
theorem lw_p54 : lw_okq (⟨"CrossedRingsModel", "fraction", "(JJ)V"⟩, 20) := ⟨⟨by decide +kernel, by decide +kernel⟩, List.mem_of_getElem? (i := 601) (by decide +kernel), List.mem_of_getElem? (i := 953) (by decide +kernel), List.mem_of_getElem? (i := 954) (by decide +kernel)⟩
theorem lw_p55 : lw_okq (⟨"CrossedRingsModel", "manyThere", "(I)I"⟩, 20) := ⟨⟨by decide +kernel, by decide +kernel⟩, List.mem_of_getElem? (i := 601) (by decide +kernel), List.mem_of_getElem? (i := 990) (by decide +kernel), List.mem_of_getElem? (i := 991) (by decide +kernel)⟩
theorem lw_p56 : lw_okq (⟨"CrossedRingsModel", "counted", "(I)I"⟩, 20) := ⟨⟨by decide +kernel, by decide +kernel⟩, List.mem_of_getElem? (i := 601) (by decide +kernel), List.mem_of_getElem? (i := 994) (by decide +kernel), List.mem_of_getElem? (i := 995) (by decide +kernel)⟩
theorem lw_p57 : lw_okq (⟨"CrossedRingsModel", "manyHome", "()I"⟩, 20) := ⟨⟨by decide +kernel, by decide +kernel⟩, List.mem_of_getElem? (i := 601) (by decide +kernel), List.mem_of_getElem? (i := 1001) (by decide +kernel), List.mem_of_getElem? (i := 1002) (by decide +kernel)⟩
theorem lw_p58 : lw_okq (⟨"CrossedRingsModel", "manyOf", "(I)I"⟩, 20) := ⟨⟨by decide +kernel, by decide +kernel⟩, List.mem_of_getElem? (i := 601) (by decide +kernel), List.mem_of_getElem? (i := 1005) (by decide +kernel), List.mem_of_getElem? (i := 1006) (by decide +kernel)⟩
def lw_privs_4 : List (MethodName × Nat) := [(⟨"CrossedRingsModel", "greatestPart", "(I)I"⟩, 20), (⟨"CrossedRingsModel", "toLevel", "(I)V"⟩, 20), (⟨"CrossedRingsModel", "sides", "()I"⟩, 20), (⟨"CrossedRingsModel", "merge", "(II)V"⟩, 20), (⟨"CrossedRingsModel", "fromLevel", "(I)V"⟩, 20), (⟨"CrossedRingsModel", "slipsBy", "(III)J"⟩, 20), (⟨"CrossedRingsModel", "fraction", "(JJ)V"⟩, 20), (⟨"CrossedRingsModel", "manyThere", "(I)I"⟩, 20), (⟨"CrossedRingsModel", "counted", "(I)I"⟩, 20), (⟨"CrossedRingsModel", "manyHome", "()I"⟩, 20), (⟨"CrossedRingsModel", "manyOf", "(I)I"⟩, 20)]
theorem lw_r4 : ∀ q ∈ lw_privs_4, lw_okq q := List.forall_mem_cons.mpr ⟨lw_p48, List.forall_mem_cons.mpr ⟨lw_p49, List.forall_mem_cons.mpr ⟨lw_p50, List.forall_mem_cons.mpr ⟨lw_p51, List.forall_mem_cons.mpr ⟨lw_p52, List.forall_mem_cons.mpr ⟨lw_p53, List.forall_mem_cons.mpr ⟨lw_p54, List.forall_mem_cons.mpr ⟨lw_p55, List.forall_mem_cons.mpr ⟨lw_p56, List.forall_mem_cons.mpr ⟨lw_p57, List.forall_mem_cons.mpr ⟨lw_p58, fun _ h => absurd h List.not_mem_nil⟩⟩⟩⟩⟩⟩⟩⟩⟩⟩⟩
def lw_privs : List (MethodName × Nat) := lw_privs_1 ++ (lw_privs_2 ++ (lw_privs_3 ++ (lw_privs_4)))
def lw_tbl : List Cond := k2_sels lw_privs ++ tables_1
theorem lw_privs_ok : ∀ q ∈ lw_privs, lw_okq q := by
  show ∀ q ∈ lw_privs_1 ++ (lw_privs_2 ++ (lw_privs_3 ++ (lw_privs_4))), lw_okq q
  exact List.forall_mem_append.mpr ⟨lw_r1, List.forall_mem_append.mpr ⟨lw_r2, List.forall_mem_append.mpr ⟨lw_r3, lw_r4⟩⟩⟩
-- ===== end of PART A; then your names; then what follows =====
/-! ===== BEGIN words of one list among another's, by their places ===== -/
theorem goodIn_r {big : List Cond} (ws : List Cond) (ps : List Nat) (hp : ws = ps.filterMap (fun i => big[i]?)) (h : ws.all goodWord = true) : GoodIn big ws := by
  intro w hw
  have h1 := List.all_eq_true.mp h w hw
  rw [hp] at hw
  obtain ⟨i, -, hi⟩ := List.mem_filterMap.mp hw
  have hm : w ∈ big := by first | exact List.mem_of_getElem? hi | exact List.getElem?_mem hi
  exact ⟨hm, good_of_word h1⟩
theorem goodIn_app {big a b : List Cond} (ha : GoodIn big a) (hb : GoodIn big b) : GoodIn big (a ++ b) := fun w h => (List.mem_append.mp h).elim (ha w) (hb w)
theorem goodIn_ca {big a b : List Cond} {c : Cond} (ha : GoodIn big (c :: a)) (hb : GoodIn big b) : GoodIn big (c :: (a ++ b)) := fun w h => (List.mem_cons.mp h).elim (fun e => ha w (List.mem_cons.mpr (Or.inl e))) (fun h => (List.mem_append.mp h).elim (fun h => ha w (List.mem_cons.mpr (Or.inr h))) (hb w))
theorem goodIn_sub {big ws : List Cond} (hm : ∀ w ∈ ws, w ∈ big) (h : ws.all goodWord = true) : GoodIn big ws := fun w hw => ⟨hm w hw, good_of_word (List.all_eq_true.mp h w hw)⟩
/-! ===== END ===== -/

/-! ===== BEGIN printed: names, fields, word lists, decode rows ===== -/
def RX0 : String := "CrossedRings$Row"
def TX0 : u_T := fun k => match k with
  | 0 => ("CrossedRings$Row", "places", "[I", true)
  | 1 => ("CrossedRings$Row", "fresh", "I", true)
  | _ => ("CrossedRings$Row", "size", "I", false)
def tyX0 : Nat → FieldType := fun k => match k with
  | 0 => .array .int
  | 1 => .int
  | _ => .int
abbrev wsX00 : List Cond := u_ws RX0 TX0 3
theorem nmX0 : ∀ a, a < 3 → ∀ b, b < 3 → a ≠ b → (TX0 a).2.1 ≠ (TX0 b).2.1 := by decide +kernel
theorem tyX0_ok : ∀ k, k < 3 → parseFieldDescriptor (TX0 k).2.2.1 = some (tyX0 k) := by decide +kernel
abbrev cX0_init : ByteArray := prog_2_method_1_code
def yX0_init : MethodName := ⟨RX0, "<init>", "(II)V"⟩
abbrev cX0_isMissing : ByteArray := prog_2_method_2_code
def yX0_isMissing : MethodName := ⟨RX0, "isMissing", "()Z"⟩
abbrev cX0_begin : ByteArray := prog_2_method_3_code
def yX0_begin : MethodName := ⟨RX0, "begin", "(I)V"⟩
abbrev cX0_has : ByteArray := prog_2_method_4_code
def yX0_has : MethodName := ⟨RX0, "has", "(I)Z"⟩
abbrev cX0_hasRun : ByteArray := prog_2_method_5_code
def yX0_hasRun : MethodName := ⟨RX0, "hasRun", "(II)Z"⟩
abbrev cX0_get : ByteArray := prog_2_method_6_code
def yX0_get : MethodName := ⟨RX0, "get", "(I)I"⟩
abbrev cX0_set : ByteArray := prog_2_method_7_code
def yX0_set : MethodName := ⟨RX0, "set", "(II)V"⟩
abbrev cX0_sum : ByteArray := prog_2_method_8_code
def yX0_sum : MethodName := ⟨RX0, "sum", "()J"⟩
abbrev cX0_allWithin : ByteArray := prog_2_method_9_code
def yX0_allWithin : MethodName := ⟨RX0, "allWithin", "(II)Z"⟩
abbrev cX0_digestOn : ByteArray := prog_2_method_10_code
def yX0_digestOn : MethodName := ⟨RX0, "digestOn", "(J)J"⟩
def RX1 : String := "CrossedRings$Toy"
def TX1 : u_T := fun k => match k with
  | 0 => ("CrossedRings$Toy", "kind", "[I", true)
  | 1 => ("CrossedRings$Toy", "colour", "[I", true)
  | 2 => ("CrossedRings$Toy", "place", "[I", true)
  | 3 => ("CrossedRings$Toy", "borne", "[I", true)
  | 4 => ("CrossedRings$Toy", "holds", "[I", true)
  | 5 => ("CrossedRings$Toy", "deed", "[I", true)
  | 6 => ("CrossedRings$Toy", "turns", "I", false)
  | 7 => ("CrossedRings$Toy", "deeds", "I", false)
  | _ => ("CrossedRings$Toy", "there", "Z", false)
def tyX1 : Nat → FieldType := fun k => match k with
  | 0 => .array .int
  | 1 => .array .int
  | 2 => .array .int
  | 3 => .array .int
  | 4 => .array .int
  | 5 => .array .int
  | 6 => .int
  | 7 => .int
  | _ => .boolean
abbrev wsX10 : List Cond := u_ws RX1 TX1 9
theorem nmX1 : ∀ a, a < 9 → ∀ b, b < 9 → a ≠ b → (TX1 a).2.1 ≠ (TX1 b).2.1 := by decide +kernel
theorem tyX1_ok : ∀ k, k < 9 → parseFieldDescriptor (TX1 k).2.2.1 = some (tyX1 k) := by decide +kernel
abbrev cX1_init : ByteArray := prog_3_method_1_code
def yX1_init : MethodName := ⟨RX1, "<init>", "()V"⟩
abbrev cX1_begin : ByteArray := prog_3_method_2_code
def yX1_begin : MethodName := ⟨RX1, "begin", "()V"⟩
abbrev cX1_takeBeads : ByteArray := prog_3_method_3_code
def yX1_takeBeads : MethodName := ⟨RX1, "takeBeads", "(LCrossedRings$Toy;)V"⟩
abbrev cX1_takeDeeds : ByteArray := prog_3_method_4_code
def yX1_takeDeeds : MethodName := ⟨RX1, "takeDeeds", "(LCrossedRings$Toy;)V"⟩
abbrev cX1_setKind : ByteArray := prog_3_method_5_code
def yX1_setKind : MethodName := ⟨RX1, "setKind", "(II)V"⟩
abbrev cX1_setColour : ByteArray := prog_3_method_6_code
def yX1_setColour : MethodName := ⟨RX1, "setColour", "(II)V"⟩
abbrev cX1_beadIn : ByteArray := prog_3_method_7_code
def yX1_beadIn : MethodName := ⟨RX1, "beadIn", "(I)I"⟩
abbrev cX1_lieIn : ByteArray := prog_3_method_8_code
def yX1_lieIn : MethodName := ⟨RX1, "lieIn", "(II)V"⟩
abbrev cX1_showOf : ByteArray := prog_3_method_9_code
def yX1_showOf : MethodName := ⟨RX1, "showOf", "(I)I"⟩
abbrev cX1_showIn : ByteArray := prog_3_method_10_code
def yX1_showIn : MethodName := ⟨RX1, "showIn", "(I)I"⟩
abbrev cX1_showsAs : ByteArray := prog_3_method_11_code
def yX1_showsAs : MethodName := ⟨RX1, "showsAs", "([I)Z"⟩
abbrev cX1_liesAs : ByteArray := prog_3_method_12_code
def yX1_liesAs : MethodName := ⟨RX1, "liesAs", "(LCrossedRings$Toy;)Z"⟩
abbrev cX1_holdsKind : ByteArray := prog_3_method_13_code
def yX1_holdsKind : MethodName := ⟨RX1, "holdsKind", "(II)Z"⟩
abbrev cX1_barsRing : ByteArray := prog_3_method_14_code
def yX1_barsRing : MethodName := ⟨RX1, "barsRing", "(I)Z"⟩
abbrev cX1_bars : ByteArray := prog_3_method_15_code
def yX1_bars : MethodName := ⟨RX1, "bars", "(I)Z"⟩
abbrev cX1_makeMove : ByteArray := prog_3_method_16_code
def yX1_makeMove : MethodName := ⟨RX1, "makeMove", "(I)V"⟩
abbrev cX1_takeBack : ByteArray := prog_3_method_17_code
def yX1_takeBack : MethodName := ⟨RX1, "takeBack", "(I)V"⟩
abbrev cX1_shift : ByteArray := prog_3_method_18_code
def yX1_shift : MethodName := ⟨RX1, "shift", "(I)V"⟩
abbrev cX1_ringCell : ByteArray := prog_3_method_19_code
def yX1_ringCell : MethodName := ⟨RX1, "ringCell", "(I)I"⟩
abbrev cX1_bear : ByteArray := prog_3_method_20_code
def yX1_bear : MethodName := ⟨RX1, "bear", "(II)V"⟩
abbrev cX1_swap : ByteArray := prog_3_method_21_code
def yX1_swap : MethodName := ⟨RX1, "swap", "(I)V"⟩
abbrev cX1_doDeed : ByteArray := prog_3_method_22_code
def yX1_doDeed : MethodName := ⟨RX1, "doDeed", "(I)V"⟩
abbrev cX1_undoLast : ByteArray := prog_3_method_23_code
def yX1_undoLast : MethodName := ⟨RX1, "undoLast", "()V"⟩
abbrev cX1_ringShows : ByteArray := prog_3_method_24_code
def yX1_ringShows : MethodName := ⟨RX1, "ringShows", "(I)I"⟩
abbrev cX1_lead : ByteArray := prog_3_method_25_code
def yX1_lead : MethodName := ⟨RX1, "lead", "()I"⟩
abbrev cX1_beadsAtHome : ByteArray := prog_3_method_26_code
def yX1_beadsAtHome : MethodName := ⟨RX1, "beadsAtHome", "()I"⟩
abbrev cX1_beadsOfKind : ByteArray := prog_3_method_27_code
def yX1_beadsOfKind : MethodName := ⟨RX1, "beadsOfKind", "(I)I"⟩
abbrev cX1_glassInCrossings : ByteArray := prog_3_method_28_code
def yX1_glassInCrossings : MethodName := ⟨RX1, "glassInCrossings", "()I"⟩
def RX2 : String := "CrossedRings"
def TX2 : u_T := fun k => match k with
  | 0 => ("CrossedRings", "rows", "[LCrossedRings$Row;", true)
  | 1 => ("CrossedRings", "texts", "[LCrossedRings$Row;", true)
  | 2 => ("CrossedRings", "live", "LCrossedRings$Toy;", true)
  | 3 => ("CrossedRings", "aside", "LCrossedRings$Toy;", true)
  | 4 => ("CrossedRings", "kept", "[LCrossedRings$Toy;", true)
  | 5 => ("CrossedRings", "findingTimes", "[I", true)
  | 6 => ("CrossedRings", "wanted", "[I", true)
  | 7 => ("CrossedRings", "path", "[I", true)
  | 8 => ("CrossedRings", "parts", "[I", true)
  | 9 => ("CrossedRings", "lastFinding", "I", false)
  | 10 => ("CrossedRings", "lastAsked", "I", false)
  | 11 => ("CrossedRings", "lastUpper", "J", false)
  | _ => ("CrossedRings", "lastLower", "J", false)
def tyX2 : Nat → FieldType := fun k => match k with
  | 0 => .array (.object "CrossedRings$Row")
  | 1 => .array (.object "CrossedRings$Row")
  | 2 => .object "CrossedRings$Toy"
  | 3 => .object "CrossedRings$Toy"
  | 4 => .array (.object "CrossedRings$Toy")
  | 5 => .array .int
  | 6 => .array .int
  | 7 => .array .int
  | 8 => .array .int
  | 9 => .int
  | 10 => .int
  | 11 => .long
  | _ => .long
abbrev wsX20 : List Cond := u_ws RX2 TX2 13
theorem nmX2 : ∀ a, a < 13 → ∀ b, b < 13 → a ≠ b → (TX2 a).2.1 ≠ (TX2 b).2.1 := by decide +kernel
theorem tyX2_ok : ∀ k, k < 13 → parseFieldDescriptor (TX2 k).2.2.1 = some (tyX2 k) := by decide +kernel
abbrev cX2_init : ByteArray := prog_1_method_1_code
def yX2_init : MethodName := ⟨RX2, "<init>", "()V"⟩
abbrev cX2_row : ByteArray := prog_1_method_2_code
def yX2_row : MethodName := ⟨RX2, "row", "(II)I"⟩
abbrev cX2_lay : ByteArray := prog_1_method_3_code
def yX2_lay : MethodName := ⟨RX2, "lay", "(III)I"⟩
abbrev cX2_at : ByteArray := prog_1_method_4_code
def yX2_at : MethodName := ⟨RX2, "at", "(II)I"⟩
abbrev cX2_tear : ByteArray := prog_1_method_5_code
def yX2_tear : MethodName := ⟨RX2, "tear", "(I)I"⟩
abbrev cX2_copy : ByteArray := prog_1_method_6_code
def yX2_copy : MethodName := ⟨RX2, "copy", "(IIIII)I"⟩
abbrev cX2_mean : ByteArray := prog_1_method_7_code
def yX2_mean : MethodName := ⟨RX2, "mean", "(I)I"⟩
abbrev cX2_text : ByteArray := prog_1_method_8_code
def yX2_text : MethodName := ⟨RX2, "text", "(II)I"⟩
abbrev cX2_put : ByteArray := prog_1_method_9_code
def yX2_put : MethodName := ⟨RX2, "put", "(III)I"⟩
abbrev cX2_fault : ByteArray := prog_1_method_10_code
def yX2_fault : MethodName := ⟨RX2, "fault", "(I)I"⟩
abbrev cX2_toy : ByteArray := prog_1_method_11_code
def yX2_toy : MethodName := ⟨RX2, "toy", "(I)I"⟩
abbrev cX2_bead : ByteArray := prog_1_method_12_code
def yX2_bead : MethodName := ⟨RX2, "bead", "(II)I"⟩
abbrev cX2_cell : ByteArray := prog_1_method_13_code
def yX2_cell : MethodName := ⟨RX2, "cell", "(II)I"⟩
abbrev cX2_mark : ByteArray := prog_1_method_14_code
def yX2_mark : MethodName := ⟨RX2, "mark", "(II)I"⟩
abbrev cX2_turn : ByteArray := prog_1_method_15_code
def yX2_turn : MethodName := ⟨RX2, "turn", "(I)I"⟩
abbrev cX2_exchange : ByteArray := prog_1_method_16_code
def yX2_exchange : MethodName := ⟨RX2, "exchange", "(II)I"⟩
abbrev cX2_undo : ByteArray := prog_1_method_17_code
def yX2_undo : MethodName := ⟨RX2, "undo", "(I)I"⟩
abbrev cX2_keep : ByteArray := prog_1_method_18_code
def yX2_keep : MethodName := ⟨RX2, "keep", "(I)I"⟩
abbrev cX2_on : ByteArray := prog_1_method_19_code
def yX2_on : MethodName := ⟨RX2, "on", "(I)I"⟩
abbrev cX2_shows : ByteArray := prog_1_method_20_code
def yX2_shows : MethodName := ⟨RX2, "shows", "(IIII)I"⟩
abbrev cX2_run : ByteArray := prog_1_method_21_code
def yX2_run : MethodName := ⟨RX2, "run", "(II)I"⟩
abbrev cX2_rounds : ByteArray := prog_1_method_22_code
def yX2_rounds : MethodName := ⟨RX2, "rounds", "(I)I"⟩
abbrev cX2_fewest : ByteArray := prog_1_method_23_code
def yX2_fewest : MethodName := ⟨RX2, "fewest", "(III)I"⟩
abbrev cX2_picture : ByteArray := prog_1_method_24_code
def yX2_picture : MethodName := ⟨RX2, "picture", "(II)I"⟩
abbrev cX2_which : ByteArray := prog_1_method_25_code
def yX2_which : MethodName := ⟨RX2, "which", "(I)I"⟩
abbrev cX2_kinds : ByteArray := prog_1_method_26_code
def yX2_kinds : MethodName := ⟨RX2, "kinds", "(II)I"⟩
abbrev cX2_colours : ByteArray := prog_1_method_27_code
def yX2_colours : MethodName := ⟨RX2, "colours", "(II)I"⟩
abbrev cX2_next : ByteArray := prog_1_method_28_code
def yX2_next : MethodName := ⟨RX2, "next", "(II)I"⟩
abbrev cX2_duel : ByteArray := prog_1_method_29_code
def yX2_duel : MethodName := ⟨RX2, "duel", "(I)I"⟩
abbrev cX2_odds : ByteArray := prog_1_method_30_code
def yX2_odds : MethodName := ⟨RX2, "odds", "(IIII)I"⟩
abbrev cX2_mid : ByteArray := prog_1_method_31_code
def yX2_mid : MethodName := ⟨RX2, "mid", "(III)I"⟩
abbrev cX2_lots : ByteArray := prog_1_method_32_code
def yX2_lots : MethodName := ⟨RX2, "lots", "(II)I"⟩
abbrev cX2_asked : ByteArray := prog_1_method_33_code
def yX2_asked : MethodName := ⟨RX2, "asked", "()I"⟩
abbrev cX2_upper : ByteArray := prog_1_method_34_code
def yX2_upper : MethodName := ⟨RX2, "upper", "()J"⟩
abbrev cX2_lower : ByteArray := prog_1_method_35_code
def yX2_lower : MethodName := ⟨RX2, "lower", "()J"⟩
abbrev cX2_count : ByteArray := prog_1_method_36_code
def yX2_count : MethodName := ⟨RX2, "count", "(I)I"⟩
abbrev cX2_finding : ByteArray := prog_1_method_37_code
def yX2_finding : MethodName := ⟨RX2, "finding", "()I"⟩
abbrev cX2_findings : ByteArray := prog_1_method_38_code
def yX2_findings : MethodName := ⟨RX2, "findings", "(I)I"⟩
abbrev cX2_digest : ByteArray := prog_1_method_39_code
def yX2_digest : MethodName := ⟨RX2, "digest", "()J"⟩
abbrev cX2_isWithin : ByteArray := prog_1_method_40_code
def yX2_isWithin : MethodName := ⟨RX2, "isWithin", "(III)Z"⟩
abbrev cX2_isRow : ByteArray := prog_1_method_41_code
def yX2_isRow : MethodName := ⟨RX2, "isRow", "(I)Z"⟩
abbrev cX2_isText : ByteArray := prog_1_method_42_code
def yX2_isText : MethodName := ⟨RX2, "isText", "(I)Z"⟩
abbrev cX2_isKeeping : ByteArray := prog_1_method_43_code
def yX2_isKeeping : MethodName := ⟨RX2, "isKeeping", "(I)Z"⟩
abbrev cX2_isCell : ByteArray := prog_1_method_44_code
def yX2_isCell : MethodName := ⟨RX2, "isCell", "(I)Z"⟩
abbrev cX2_isColour : ByteArray := prog_1_method_45_code
def yX2_isColour : MethodName := ⟨RX2, "isColour", "(I)Z"⟩
abbrev cX2_isMove : ByteArray := prog_1_method_46_code
def yX2_isMove : MethodName := ⟨RX2, "isMove", "(I)Z"⟩
abbrev cX2_isCrossing : ByteArray := prog_1_method_47_code
def yX2_isCrossing : MethodName := ⟨RX2, "isCrossing", "(I)Z"⟩
abbrev cX2_isBead : ByteArray := prog_1_method_48_code
def yX2_isBead : MethodName := ⟨RX2, "isBead", "(I)Z"⟩
abbrev cX2_isOfKind : ByteArray := prog_1_method_49_code
def yX2_isOfKind : MethodName := ⟨RX2, "isOfKind", "(II)Z"⟩
abbrev cX2_found : ByteArray := prog_1_method_50_code
def yX2_found : MethodName := ⟨RX2, "found", "(I)I"⟩
abbrev cX2_told : ByteArray := prog_1_method_51_code
def yX2_told : MethodName := ⟨RX2, "told", "(I)I"⟩
abbrev cX2_placeRefused : ByteArray := prog_1_method_52_code
def yX2_placeRefused : MethodName := ⟨RX2, "placeRefused", "(LCrossedRings$Row;I)I"⟩
abbrev cX2_movesRefused : ByteArray := prog_1_method_53_code
def yX2_movesRefused : MethodName := ⟨RX2, "movesRefused", "(LCrossedRings$Row;II)I"⟩
abbrev cX2_pictureRefused : ByteArray := prog_1_method_54_code
def yX2_pictureRefused : MethodName := ⟨RX2, "pictureRefused", "(LCrossedRings$Row;)I"⟩
abbrev cX2_pairsRefused : ByteArray := prog_1_method_55_code
def yX2_pairsRefused : MethodName := ⟨RX2, "pairsRefused", "(II)I"⟩
abbrev cX2_shown : ByteArray := prog_1_method_56_code
def yX2_shown : MethodName := ⟨RX2, "shown", "(IIIII)I"⟩
abbrev cX2_kindOfLetter : ByteArray := prog_1_method_57_code
def yX2_kindOfLetter : MethodName := ⟨RX2, "kindOfLetter", "(I)I"⟩
abbrev cX2_firstFault : ByteArray := prog_1_method_58_code
def yX2_firstFault : MethodName := ⟨RX2, "firstFault", "(LCrossedRings$Row;)I"⟩
abbrev cX2_readBeads : ByteArray := prog_1_method_59_code
def yX2_readBeads : MethodName := ⟨RX2, "readBeads", "(LCrossedRings$Row;)V"⟩
abbrev cX2_beadSays : ByteArray := prog_1_method_60_code
def yX2_beadSays : MethodName := ⟨RX2, "beadSays", "(II)I"⟩
abbrev cX2_digestBeads : ByteArray := prog_1_method_61_code
def yX2_digestBeads : MethodName := ⟨RX2, "digestBeads", "(J)J"⟩
abbrev cX2_counted : ByteArray := prog_1_method_62_code
def yX2_counted : MethodName := ⟨RX2, "counted", "(I)I"⟩
abbrev cX2_countedOfBeads : ByteArray := prog_1_method_63_code
def yX2_countedOfBeads : MethodName := ⟨RX2, "countedOfBeads", "(I)I"⟩
abbrev cX2_rowsThere : ByteArray := prog_1_method_64_code
def yX2_rowsThere : MethodName := ⟨RX2, "rowsThere", "()I"⟩
abbrev cX2_textsThere : ByteArray := prog_1_method_65_code
def yX2_textsThere : MethodName := ⟨RX2, "textsThere", "()I"⟩
abbrev cX2_toysKept : ByteArray := prog_1_method_66_code
def yX2_toysKept : MethodName := ⟨RX2, "toysKept", "()I"⟩
abbrev cX2_exchangeDeed : ByteArray := prog_1_method_67_code
def yX2_exchangeDeed : MethodName := ⟨RX2, "exchangeDeed", "(II)I"⟩
abbrev cX2_deedByLot : ByteArray := prog_1_method_68_code
def yX2_deedByLot : MethodName := ⟨RX2, "deedByLot", "(I)I"⟩
abbrev cX2_movesMadeAside : ByteArray := prog_1_method_69_code
def yX2_movesMadeAside : MethodName := ⟨RX2, "movesMadeAside", "(LCrossedRings$Row;)I"⟩
abbrev cX2_wantPicture : ByteArray := prog_1_method_70_code
def yX2_wantPicture : MethodName := ⟨RX2, "wantPicture", "(LCrossedRings$Row;)V"⟩
abbrev cX2_fewestToWanted : ByteArray := prog_1_method_71_code
def yX2_fewestToWanted : MethodName := ⟨RX2, "fewestToWanted", "(LCrossedRings$Row;)I"⟩
abbrev cX2_reachesWanted : ByteArray := prog_1_method_72_code
def yX2_reachesWanted : MethodName := ⟨RX2, "reachesWanted", "(II)Z"⟩
abbrev cX2_kindsThatFit : ByteArray := prog_1_method_73_code
def yX2_kindsThatFit : MethodName := ⟨RX2, "kindsThatFit", "(ILCrossedRings$Row;)I"⟩
abbrev cX2_showedAside : ByteArray := prog_1_method_74_code
def yX2_showedAside : MethodName := ⟨RX2, "showedAside", "(ILCrossedRings$Row;)Z"⟩
abbrev cX2_greatestPart : ByteArray := prog_1_method_75_code
def yX2_greatestPart : MethodName := ⟨RX2, "greatestPart", "(III)I"⟩
abbrev cX2_partOfKind : ByteArray := prog_1_method_76_code
def yX2_partOfKind : MethodName := ⟨RX2, "partOfKind", "(III)I"⟩
abbrev cX2_leadByTurns : ByteArray := prog_1_method_77_code
def yX2_leadByTurns : MethodName := ⟨RX2, "leadByTurns", "(III)I"⟩
abbrev cX2_tellSlips : ByteArray := prog_1_method_78_code
def yX2_tellSlips : MethodName := ⟨RX2, "tellSlips", "(LCrossedRings$Row;III)I"⟩
abbrev cX2_slipWeight : ByteArray := prog_1_method_79_code
def yX2_slipWeight : MethodName := ⟨RX2, "slipWeight", "(LCrossedRings$Row;IIII)J"⟩
abbrev cX2_greatestDivisor : ByteArray := prog_1_method_80_code
def yX2_greatestDivisor : MethodName := ⟨RX2, "greatestDivisor", "(JJ)J"⟩
def RX3 : String := "CrossedRingsModel"
def TX3 : u_T := fun k => match k with
  | 0 => ("CrossedRingsModel", "here", "[I", true)
  | 1 => ("CrossedRingsModel", "isHere", "Z", false)
  | 2 => ("CrossedRingsModel", "kept", "[I", true)
  | 3 => ("CrossedRingsModel", "isKept", "[Z", true)
  | 4 => ("CrossedRingsModel", "rows", "[I", true)
  | 5 => ("CrossedRingsModel", "rowLong", "[I", true)
  | 6 => ("CrossedRingsModel", "texts", "[I", true)
  | 7 => ("CrossedRingsModel", "textLong", "[I", true)
  | 8 => ("CrossedRingsModel", "found", "[I", true)
  | 9 => ("CrossedRingsModel", "latest", "I", false)
  | 10 => ("CrossedRingsModel", "askedIs", "I", false)
  | 11 => ("CrossedRingsModel", "above", "J", false)
  | 12 => ("CrossedRingsModel", "below", "J", false)
  | 13 => ("CrossedRingsModel", "taken", "[I", true)
  | 14 => ("CrossedRingsModel", "told", "[I", true)
  | 15 => ("CrossedRingsModel", "hand", "[I", true)
  | 16 => ("CrossedRingsModel", "tells", "[I", true)
  | 17 => ("CrossedRingsModel", "levels", "[I", true)
  | 18 => ("CrossedRingsModel", "choice", "[I", true)
  | _ => ("CrossedRingsModel", "bestOf", "[I", true)
def tyX3 : Nat → FieldType := fun k => match k with
  | 0 => .array .int
  | 1 => .boolean
  | 2 => .array .int
  | 3 => .array .boolean
  | 4 => .array .int
  | 5 => .array .int
  | 6 => .array .int
  | 7 => .array .int
  | 8 => .array .int
  | 9 => .int
  | 10 => .int
  | 11 => .long
  | 12 => .long
  | 13 => .array .int
  | 14 => .array .int
  | 15 => .array .int
  | 16 => .array .int
  | 17 => .array .int
  | 18 => .array .int
  | _ => .array .int
abbrev wsX30 : List Cond := u_ws RX3 TX3 20
theorem nmX3 : ∀ a, a < 20 → ∀ b, b < 20 → a ≠ b → (TX3 a).2.1 ≠ (TX3 b).2.1 := by decide +kernel
theorem tyX3_ok : ∀ k, k < 20 → parseFieldDescriptor (TX3 k).2.2.1 = some (tyX3 k) := by decide +kernel
abbrev cX3_init : ByteArray := prog_5_method_1_code
def yX3_init : MethodName := ⟨RX3, "<init>", "()V"⟩
abbrev cX3_in : ByteArray := prog_5_method_3_code
def yX3_in : MethodName := ⟨RX3, "in", "(JJJ)Z"⟩
abbrev cX3_finds : ByteArray := prog_5_method_4_code
def yX3_finds : MethodName := ⟨RX3, "finds", "(I)I"⟩
abbrev cX3_asks : ByteArray := prog_5_method_5_code
def yX3_asks : MethodName := ⟨RX3, "asks", "(I)I"⟩
abbrev cX3_isRow : ByteArray := prog_5_method_6_code
def yX3_isRow : MethodName := ⟨RX3, "isRow", "(I)Z"⟩
abbrev cX3_isText : ByteArray := prog_5_method_7_code
def yX3_isText : MethodName := ⟨RX3, "isText", "(I)Z"⟩
abbrev cX3_row : ByteArray := prog_5_method_8_code
def yX3_row : MethodName := ⟨RX3, "row", "(II)I"⟩
abbrev cX3_lay : ByteArray := prog_5_method_9_code
def yX3_lay : MethodName := ⟨RX3, "lay", "(III)I"⟩
abbrev cX3_at : ByteArray := prog_5_method_10_code
def yX3_at : MethodName := ⟨RX3, "at", "(II)I"⟩
abbrev cX3_tear : ByteArray := prog_5_method_11_code
def yX3_tear : MethodName := ⟨RX3, "tear", "(I)I"⟩
abbrev cX3_copy : ByteArray := prog_5_method_12_code
def yX3_copy : MethodName := ⟨RX3, "copy", "(IIIII)I"⟩
abbrev cX3_mean : ByteArray := prog_5_method_13_code
def yX3_mean : MethodName := ⟨RX3, "mean", "(I)I"⟩
abbrev cX3_text : ByteArray := prog_5_method_14_code
def yX3_text : MethodName := ⟨RX3, "text", "(II)I"⟩
abbrev cX3_put : ByteArray := prog_5_method_15_code
def yX3_put : MethodName := ⟨RX3, "put", "(III)I"⟩
abbrev cX3_byteAt : ByteArray := prog_5_method_16_code
def yX3_byteAt : MethodName := ⟨RX3, "byteAt", "(II)I"⟩
abbrev cX3_kindBy : ByteArray := prog_5_method_17_code
def yX3_kindBy : MethodName := ⟨RX3, "kindBy", "(I)I"⟩
abbrev cX3_faultOf : ByteArray := prog_5_method_18_code
def yX3_faultOf : MethodName := ⟨RX3, "faultOf", "(I)I"⟩
abbrev cX3_fault : ByteArray := prog_5_method_19_code
def yX3_fault : MethodName := ⟨RX3, "fault", "(I)I"⟩
abbrev cX3_toy : ByteArray := prog_5_method_20_code
def yX3_toy : MethodName := ⟨RX3, "toy", "(I)I"⟩
abbrev cX3_begin : ByteArray := prog_5_method_21_code
def yX3_begin : MethodName := ⟨RX3, "begin", "([I)V"⟩
abbrev cX3_ringCell : ByteArray := prog_5_method_22_code
def yX3_ringCell : MethodName := ⟨RX3, "ringCell", "(II)I"⟩
abbrev cX3_isStuck : ByteArray := prog_5_method_23_code
def yX3_isStuck : MethodName := ⟨RX3, "isStuck", "(I)Z"⟩
abbrev cX3_cellOf : ByteArray := prog_5_method_24_code
def yX3_cellOf : MethodName := ⟨RX3, "cellOf", "([II)I"⟩
abbrev cX3_isCrossing : ByteArray := prog_5_method_25_code
def yX3_isCrossing : MethodName := ⟨RX3, "isCrossing", "(I)Z"⟩
abbrev cX3_showsAs : ByteArray := prog_5_method_26_code
def yX3_showsAs : MethodName := ⟨RX3, "showsAs", "(IIIII)I"⟩
abbrev cX3_showsIn : ByteArray := prog_5_method_27_code
def yX3_showsIn : MethodName := ⟨RX3, "showsIn", "([II)I"⟩
abbrev cX3_kindIn : ByteArray := prog_5_method_28_code
def yX3_kindIn : MethodName := ⟨RX3, "kindIn", "([II)I"⟩
abbrev cX3_barred : ByteArray := prog_5_method_29_code
def yX3_barred : MethodName := ⟨RX3, "barred", "([I)I"⟩
abbrev cX3_isBarred : ByteArray := prog_5_method_30_code
def yX3_isBarred : MethodName := ⟨RX3, "isBarred", "([II)Z"⟩
abbrev cX3_goMove : ByteArray := prog_5_method_31_code
def yX3_goMove : MethodName := ⟨RX3, "goMove", "([II)V"⟩
abbrev cX3_goExchange : ByteArray := prog_5_method_32_code
def yX3_goExchange : MethodName := ⟨RX3, "goExchange", "([III)V"⟩
abbrev cX3_goDeed : ByteArray := prog_5_method_33_code
def yX3_goDeed : MethodName := ⟨RX3, "goDeed", "([II)V"⟩
abbrev cX3_does : ByteArray := prog_5_method_34_code
def yX3_does : MethodName := ⟨RX3, "does", "(I)V"⟩
abbrev cX3_isBead : ByteArray := prog_5_method_35_code
def yX3_isBead : MethodName := ⟨RX3, "isBead", "(I)Z"⟩
abbrev cX3_isCell : ByteArray := prog_5_method_36_code
def yX3_isCell : MethodName := ⟨RX3, "isCell", "(I)Z"⟩
abbrev cX3_isMove : ByteArray := prog_5_method_37_code
def yX3_isMove : MethodName := ⟨RX3, "isMove", "(I)Z"⟩
abbrev cX3_isColour : ByteArray := prog_5_method_38_code
def yX3_isColour : MethodName := ⟨RX3, "isColour", "(I)Z"⟩
abbrev cX3_bead : ByteArray := prog_5_method_39_code
def yX3_bead : MethodName := ⟨RX3, "bead", "(II)I"⟩
abbrev cX3_cell : ByteArray := prog_5_method_40_code
def yX3_cell : MethodName := ⟨RX3, "cell", "(II)I"⟩
abbrev cX3_isOf : ByteArray := prog_5_method_41_code
def yX3_isOf : MethodName := ⟨RX3, "isOf", "(II)Z"⟩
abbrev cX3_mark : ByteArray := prog_5_method_42_code
def yX3_mark : MethodName := ⟨RX3, "mark", "(II)I"⟩
abbrev cX3_turn : ByteArray := prog_5_method_43_code
def yX3_turn : MethodName := ⟨RX3, "turn", "(I)I"⟩
abbrev cX3_exchange : ByteArray := prog_5_method_44_code
def yX3_exchange : MethodName := ⟨RX3, "exchange", "(II)I"⟩
abbrev cX3_undo : ByteArray := prog_5_method_45_code
def yX3_undo : MethodName := ⟨RX3, "undo", "(I)I"⟩
abbrev cX3_keep : ByteArray := prog_5_method_46_code
def yX3_keep : MethodName := ⟨RX3, "keep", "(I)I"⟩
abbrev cX3_on : ByteArray := prog_5_method_47_code
def yX3_on : MethodName := ⟨RX3, "on", "(I)I"⟩
abbrev cX3_layHand : ByteArray := prog_5_method_48_code
def yX3_layHand : MethodName := ⟨RX3, "layHand", "()V"⟩
abbrev cX3_shows : ByteArray := prog_5_method_49_code
def yX3_shows : MethodName := ⟨RX3, "shows", "(IIII)I"⟩
abbrev cX3_looksAt : ByteArray := prog_5_method_50_code
def yX3_looksAt : MethodName := ⟨RX3, "looksAt", "(III)I"⟩
abbrev cX3_run : ByteArray := prog_5_method_51_code
def yX3_run : MethodName := ⟨RX3, "run", "(II)I"⟩
abbrev cX3_liesAsNow : ByteArray := prog_5_method_52_code
def yX3_liesAsNow : MethodName := ⟨RX3, "liesAsNow", "()Z"⟩
abbrev cX3_rounds : ByteArray := prog_5_method_53_code
def yX3_rounds : MethodName := ⟨RX3, "rounds", "(I)I"⟩
abbrev cX3_goesBy : ByteArray := prog_5_method_54_code
def yX3_goesBy : MethodName := ⟨RX3, "goesBy", "(II)Z"⟩
abbrev cX3_layMoves : ByteArray := prog_5_method_55_code
def yX3_layMoves : MethodName := ⟨RX3, "layMoves", "(III)I"⟩
abbrev cX3_fewest : ByteArray := prog_5_method_56_code
def yX3_fewest : MethodName := ⟨RX3, "fewest", "(III)I"⟩
abbrev cX3_looksAtPicture : ByteArray := prog_5_method_57_code
def yX3_looksAtPicture : MethodName := ⟨RX3, "looksAtPicture", "(I)I"⟩
abbrev cX3_isPicture : ByteArray := prog_5_method_58_code
def yX3_isPicture : MethodName := ⟨RX3, "isPicture", "(I)Z"⟩
abbrev cX3_picture : ByteArray := prog_5_method_59_code
def yX3_picture : MethodName := ⟨RX3, "picture", "(II)I"⟩
abbrev cX3_which : ByteArray := prog_5_method_60_code
def yX3_which : MethodName := ⟨RX3, "which", "(I)I"⟩
abbrev cX3_looksAtPairs : ByteArray := prog_5_method_61_code
def yX3_looksAtPairs : MethodName := ⟨RX3, "looksAtPairs", "(I)I"⟩
abbrev cX3_canBe : ByteArray := prog_5_method_62_code
def yX3_canBe : MethodName := ⟨RX3, "canBe", "(IIII)Z"⟩
abbrev cX3_kindsBy : ByteArray := prog_5_method_63_code
def yX3_kindsBy : MethodName := ⟨RX3, "kindsBy", "(II)I"⟩
abbrev cX3_kinds : ByteArray := prog_5_method_64_code
def yX3_kinds : MethodName := ⟨RX3, "kinds", "(II)I"⟩
abbrev cX3_colours : ByteArray := prog_5_method_65_code
def yX3_colours : MethodName := ⟨RX3, "colours", "(II)I"⟩
abbrev cX3_greatestPart : ByteArray := prog_5_method_66_code
def yX3_greatestPart : MethodName := ⟨RX3, "greatestPart", "(I)I"⟩
abbrev cX3_next : ByteArray := prog_5_method_67_code
def yX3_next : MethodName := ⟨RX3, "next", "(II)I"⟩
abbrev cX3_sides : ByteArray := prog_5_method_68_code
def yX3_sides : MethodName := ⟨RX3, "sides", "()I"⟩
abbrev cX3_fromLevel : ByteArray := prog_5_method_69_code
def yX3_fromLevel : MethodName := ⟨RX3, "fromLevel", "(I)V"⟩
abbrev cX3_toLevel : ByteArray := prog_5_method_70_code
def yX3_toLevel : MethodName := ⟨RX3, "toLevel", "(I)V"⟩
abbrev cX3_merge : ByteArray := prog_5_method_71_code
def yX3_merge : MethodName := ⟨RX3, "merge", "(II)V"⟩
abbrev cX3_duel : ByteArray := prog_5_method_72_code
def yX3_duel : MethodName := ⟨RX3, "duel", "(I)I"⟩
abbrev cX3_fraction : ByteArray := prog_5_method_73_code
def yX3_fraction : MethodName := ⟨RX3, "fraction", "(JJ)V"⟩
abbrev cX3_slipsBy : ByteArray := prog_5_method_74_code
def yX3_slipsBy : MethodName := ⟨RX3, "slipsBy", "(III)J"⟩
abbrev cX3_whole : ByteArray := prog_5_method_75_code
def yX3_whole : MethodName := ⟨RX3, "whole", "(I)J"⟩
abbrev cX3_odds : ByteArray := prog_5_method_76_code
def yX3_odds : MethodName := ⟨RX3, "odds", "(IIII)I"⟩
abbrev cX3_mid : ByteArray := prog_5_method_77_code
def yX3_mid : MethodName := ⟨RX3, "mid", "(III)I"⟩
abbrev cX3_lots : ByteArray := prog_5_method_78_code
def yX3_lots : MethodName := ⟨RX3, "lots", "(II)I"⟩
abbrev cX3_asked : ByteArray := prog_5_method_79_code
def yX3_asked : MethodName := ⟨RX3, "asked", "()I"⟩
abbrev cX3_upper : ByteArray := prog_5_method_80_code
def yX3_upper : MethodName := ⟨RX3, "upper", "()J"⟩
abbrev cX3_lower : ByteArray := prog_5_method_81_code
def yX3_lower : MethodName := ⟨RX3, "lower", "()J"⟩
abbrev cX3_ringShows : ByteArray := prog_5_method_82_code
def yX3_ringShows : MethodName := ⟨RX3, "ringShows", "([II)I"⟩
abbrev cX3_manyHome : ByteArray := prog_5_method_83_code
def yX3_manyHome : MethodName := ⟨RX3, "manyHome", "()I"⟩
abbrev cX3_manyOf : ByteArray := prog_5_method_84_code
def yX3_manyOf : MethodName := ⟨RX3, "manyOf", "(I)I"⟩
abbrev cX3_manyThere : ByteArray := prog_5_method_85_code
def yX3_manyThere : MethodName := ⟨RX3, "manyThere", "(I)I"⟩
abbrev cX3_counted : ByteArray := prog_5_method_86_code
def yX3_counted : MethodName := ⟨RX3, "counted", "(I)I"⟩
abbrev cX3_count : ByteArray := prog_5_method_87_code
def yX3_count : MethodName := ⟨RX3, "count", "(I)I"⟩
abbrev cX3_finding : ByteArray := prog_5_method_88_code
def yX3_finding : MethodName := ⟨RX3, "finding", "()I"⟩
abbrev cX3_findings : ByteArray := prog_5_method_89_code
def yX3_findings : MethodName := ⟨RX3, "findings", "(I)I"⟩
abbrev cX3_digest : ByteArray := prog_5_method_90_code
def yX3_digest : MethodName := ⟨RX3, "digest", "()J"⟩
def RJ9 : String := "java/lang/Math"
def TJ9 : u_T := fun k => match k with
  | _ => ("", "", "", false)
def tyJ9 : Nat → FieldType := fun k => match k with
  | _ => .int
abbrev wsJ90 : List Cond := u_ws RJ9 TJ9 0
theorem nmJ9 : ∀ a, a < 0 → ∀ b, b < 0 → a ≠ b → (TJ9 a).2.1 ≠ (TJ9 b).2.1 := by decide +kernel
theorem tyJ9_ok : ∀ k, k < 0 → parseFieldDescriptor (TJ9 k).2.2.1 = some (tyJ9 k) := by decide +kernel
abbrev cJ9_max_7cf53 : ByteArray := prog_6_method_65_code
def yJ9_max_7cf53 : MethodName := ⟨RJ9, "max", "(II)I"⟩
abbrev cJ9_max_f86c9 : ByteArray := prog_6_method_66_code
def yJ9_max_f86c9 : MethodName := ⟨RJ9, "max", "(JJ)J"⟩
abbrev cJ9_min_7cf53 : ByteArray := prog_6_method_69_code
def yJ9_min_7cf53 : MethodName := ⟨RJ9, "min", "(II)I"⟩
def RJ10 : String := "java/lang/System"
def TJ10 : u_T := fun k => match k with
  | _ => ("", "", "", false)
def tyJ10 : Nat → FieldType := fun k => match k with
  | _ => .int
abbrev wsJ100 : List Cond := u_ws RJ10 TJ10 0
theorem nmJ10 : ∀ a, a < 0 → ∀ b, b < 0 → a ≠ b → (TJ10 a).2.1 ≠ (TJ10 b).2.1 := by decide +kernel
theorem tyJ10_ok : ∀ k, k < 0 → parseFieldDescriptor (TJ10 k).2.2.1 = some (tyJ10 k) := by decide +kernel
def RJ7 : String := "java/util/Arrays"
def TJ7 : u_T := fun k => match k with
  | _ => ("", "", "", false)
def tyJ7 : Nat → FieldType := fun k => match k with
  | _ => .int
abbrev wsJ70 : List Cond := u_ws RJ7 TJ7 0
theorem nmJ7 : ∀ a, a < 0 → ∀ b, b < 0 → a ≠ b → (TJ7 a).2.1 ≠ (TJ7 b).2.1 := by decide +kernel
theorem tyJ7_ok : ∀ k, k < 0 → parseFieldDescriptor (TJ7 k).2.2.1 = some (tyJ7 k) := by decide +kernel
abbrev cJ7_fill_53178 : ByteArray := prog_8_method_103_code
def yJ7_fill_53178 : MethodName := ⟨RJ7, "fill", "([II)V"⟩
def RL : String := "CrossedRingsLaw"
abbrev vwCl : List vw_C := [(RX0, TX0, 3), (RX1, TX1, 9), (RX2, TX2, 13), (RX3, TX3, 20)]
