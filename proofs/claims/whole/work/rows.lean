section
-- ===== PART A: goes FIRST, ahead of the names: the tables' words, and 'selects' of the private methods out of them =====
/-- a private method of a class that the tables say can be made, by its rows of tables_1 -/
def lw_okq (q : MethodName × Nat) : Prop := (q.1.cls ≠ "java/lang/invoke/MethodHandle" ∧ q.1.cls ≠ "java/lang/invoke/VarHandle") ∧ Cond.instantiable q.1.cls q.2 ∈ tables_1 ∧ Cond.privateMethod q.1 ∈ tables_1 ∧ Cond.instanceMethod q.1 ∈ tables_1
theorem lw_p0 : lw_okq (⟨"TrialBook", "codeAt", "(I)LTrialBook$Code;"⟩, 10) := ⟨⟨by decide +kernel, by decide +kernel⟩, List.mem_of_getElem? (i := 10) (by decide +kernel), List.mem_of_getElem? (i := 102) (by decide +kernel), List.mem_of_getElem? (i := 103) (by decide +kernel)⟩
theorem lw_p1 : lw_okq (⟨"TrialBook", "enter", "(LTrialBook$Run;)I"⟩, 10) := ⟨⟨by decide +kernel, by decide +kernel⟩, List.mem_of_getElem? (i := 10) (by decide +kernel), List.mem_of_getElem? (i := 204) (by decide +kernel), List.mem_of_getElem? (i := 205) (by decide +kernel)⟩
theorem lw_p2 : lw_okq (⟨"TrialBook$Run", "afterTick", "(IILTrialBook$World;)I"⟩, 12) := ⟨⟨by decide +kernel, by decide +kernel⟩, List.mem_of_getElem? (i := 121) (by decide +kernel), List.mem_of_getElem? (i := 220) (by decide +kernel), List.mem_of_getElem? (i := 221) (by decide +kernel)⟩
theorem lw_p3 : lw_okq (⟨"TrialBook$Run", "readSetting", "(I)I"⟩, 12) := ⟨⟨by decide +kernel, by decide +kernel⟩, List.mem_of_getElem? (i := 121) (by decide +kernel), List.mem_of_getElem? (i := 228) (by decide +kernel), List.mem_of_getElem? (i := 229) (by decide +kernel)⟩
theorem lw_p4 : lw_okq (⟨"TrialBook$Run", "afterStep", "(IIIILTrialBook$World;)I"⟩, 12) := ⟨⟨by decide +kernel, by decide +kernel⟩, List.mem_of_getElem? (i := 121) (by decide +kernel), List.mem_of_getElem? (i := 236) (by decide +kernel), List.mem_of_getElem? (i := 237) (by decide +kernel)⟩
theorem lw_p5 : lw_okq (⟨"TrialBook$Run", "readSeed", "()I"⟩, 12) := ⟨⟨by decide +kernel, by decide +kernel⟩, List.mem_of_getElem? (i := 121) (by decide +kernel), List.mem_of_getElem? (i := 240) (by decide +kernel), List.mem_of_getElem? (i := 241) (by decide +kernel)⟩
theorem lw_p6 : lw_okq (⟨"TrialBook$Run", "readWord", "(ILTrialBook$World;)I"⟩, 12) := ⟨⟨by decide +kernel, by decide +kernel⟩, List.mem_of_getElem? (i := 121) (by decide +kernel), List.mem_of_getElem? (i := 244) (by decide +kernel), List.mem_of_getElem? (i := 245) (by decide +kernel)⟩
theorem lw_p7 : lw_okq (⟨"TrialBook$Run", "readClock", "(LTrialBook$World;)I"⟩, 12) := ⟨⟨by decide +kernel, by decide +kernel⟩, List.mem_of_getElem? (i := 121) (by decide +kernel), List.mem_of_getElem? (i := 256) (by decide +kernel), List.mem_of_getElem? (i := 257) (by decide +kernel)⟩
theorem lw_p8 : lw_okq (⟨"TrialBook", "isCountedAlready", "(LTrialBook$Run;)Z"⟩, 10) := ⟨⟨by decide +kernel, by decide +kernel⟩, List.mem_of_getElem? (i := 10) (by decide +kernel), List.mem_of_getElem? (i := 268) (by decide +kernel), List.mem_of_getElem? (i := 269) (by decide +kernel)⟩
theorem lw_p9 : lw_okq (⟨"TrialBook", "runAt", "(I)LTrialBook$Run;"⟩, 10) := ⟨⟨by decide +kernel, by decide +kernel⟩, List.mem_of_getElem? (i := 10) (by decide +kernel), List.mem_of_getElem? (i := 272) (by decide +kernel), List.mem_of_getElem? (i := 273) (by decide +kernel)⟩
theorem lw_p10 : lw_okq (⟨"TrialBook", "isStale", "(LTrialBook$Run;)Z"⟩, 10) := ⟨⟨by decide +kernel, by decide +kernel⟩, List.mem_of_getElem? (i := 10) (by decide +kernel), List.mem_of_getElem? (i := 316) (by decide +kernel), List.mem_of_getElem? (i := 317) (by decide +kernel)⟩
theorem lw_p11 : lw_okq (⟨"TrialBook", "countPairs", "(IIIII)I"⟩, 10) := ⟨⟨by decide +kernel, by decide +kernel⟩, List.mem_of_getElem? (i := 10) (by decide +kernel), List.mem_of_getElem? (i := 379) (by decide +kernel), List.mem_of_getElem? (i := 380) (by decide +kernel)⟩
theorem lw_p12 : lw_okq (⟨"TrialBook", "judge", "(IIIIJ)I"⟩, 10) := ⟨⟨by decide +kernel, by decide +kernel⟩, List.mem_of_getElem? (i := 10) (by decide +kernel), List.mem_of_getElem? (i := 406) (by decide +kernel), List.mem_of_getElem? (i := 407) (by decide +kernel)⟩
theorem lw_p13 : lw_okq (⟨"TrialBook", "boundOf", "(I)I"⟩, 10) := ⟨⟨by decide +kernel, by decide +kernel⟩, List.mem_of_getElem? (i := 10) (by decide +kernel), List.mem_of_getElem? (i := 417) (by decide +kernel), List.mem_of_getElem? (i := 418) (by decide +kernel)⟩
theorem lw_p14 : lw_okq (⟨"TrialBook", "beatsOthers", "(IIIJ)Z"⟩, 10) := ⟨⟨by decide +kernel, by decide +kernel⟩, List.mem_of_getElem? (i := 10) (by decide +kernel), List.mem_of_getElem? (i := 421) (by decide +kernel), List.mem_of_getElem? (i := 422) (by decide +kernel)⟩
theorem lw_p15 : lw_okq (⟨"TrialBook", "gatherFillers", "(LTrialBook$Code;I)V"⟩, 10) := ⟨⟨by decide +kernel, by decide +kernel⟩, List.mem_of_getElem? (i := 10) (by decide +kernel), List.mem_of_getElem? (i := 432) (by decide +kernel), List.mem_of_getElem? (i := 433) (by decide +kernel)⟩
def lw_privs_1 : List (MethodName × Nat) := [(⟨"TrialBook", "codeAt", "(I)LTrialBook$Code;"⟩, 10), (⟨"TrialBook", "enter", "(LTrialBook$Run;)I"⟩, 10), (⟨"TrialBook$Run", "afterTick", "(IILTrialBook$World;)I"⟩, 12), (⟨"TrialBook$Run", "readSetting", "(I)I"⟩, 12), (⟨"TrialBook$Run", "afterStep", "(IIIILTrialBook$World;)I"⟩, 12), (⟨"TrialBook$Run", "readSeed", "()I"⟩, 12), (⟨"TrialBook$Run", "readWord", "(ILTrialBook$World;)I"⟩, 12), (⟨"TrialBook$Run", "readClock", "(LTrialBook$World;)I"⟩, 12), (⟨"TrialBook", "isCountedAlready", "(LTrialBook$Run;)Z"⟩, 10), (⟨"TrialBook", "runAt", "(I)LTrialBook$Run;"⟩, 10), (⟨"TrialBook", "isStale", "(LTrialBook$Run;)Z"⟩, 10), (⟨"TrialBook", "countPairs", "(IIIII)I"⟩, 10), (⟨"TrialBook", "judge", "(IIIIJ)I"⟩, 10), (⟨"TrialBook", "boundOf", "(I)I"⟩, 10), (⟨"TrialBook", "beatsOthers", "(IIIJ)Z"⟩, 10), (⟨"TrialBook", "gatherFillers", "(LTrialBook$Code;I)V"⟩, 10)]
theorem lw_r1 : ∀ q ∈ lw_privs_1, lw_okq q := List.forall_mem_cons.mpr ⟨lw_p0, List.forall_mem_cons.mpr ⟨lw_p1, List.forall_mem_cons.mpr ⟨lw_p2, List.forall_mem_cons.mpr ⟨lw_p3, List.forall_mem_cons.mpr ⟨lw_p4, List.forall_mem_cons.mpr ⟨lw_p5, List.forall_mem_cons.mpr ⟨lw_p6, List.forall_mem_cons.mpr ⟨lw_p7, List.forall_mem_cons.mpr ⟨lw_p8, List.forall_mem_cons.mpr ⟨lw_p9, List.forall_mem_cons.mpr ⟨lw_p10, List.forall_mem_cons.mpr ⟨lw_p11, List.forall_mem_cons.mpr ⟨lw_p12, List.forall_mem_cons.mpr ⟨lw_p13, List.forall_mem_cons.mpr ⟨lw_p14, List.forall_mem_cons.mpr ⟨lw_p15, fun _ h => absurd h List.not_mem_nil⟩⟩⟩⟩⟩⟩⟩⟩⟩⟩⟩⟩⟩⟩⟩⟩
theorem lw_p16 : lw_okq (⟨"TrialBook", "openSeeds", "(II)I"⟩, 10) := ⟨⟨by decide +kernel, by decide +kernel⟩, List.mem_of_getElem? (i := 10) (by decide +kernel), List.mem_of_getElem? (i := 436) (by decide +kernel), List.mem_of_getElem? (i := 437) (by decide +kernel)⟩
theorem lw_p17 : lw_okq (⟨"TrialBook", "nextSettings", "(I)I"⟩, 10) := ⟨⟨by decide +kernel, by decide +kernel⟩, List.mem_of_getElem? (i := 10) (by decide +kernel), List.mem_of_getElem? (i := 450) (by decide +kernel), List.mem_of_getElem? (i := 451) (by decide +kernel)⟩
theorem lw_p18 : lw_okq (⟨"TrialBookModel", "isCode", "(I)Z"⟩, 37) := ⟨⟨by decide +kernel, by decide +kernel⟩, List.mem_of_getElem? (i := 474) (by decide +kernel), List.mem_of_getElem? (i := 597) (by decide +kernel), List.mem_of_getElem? (i := 598) (by decide +kernel)⟩
theorem lw_p19 : lw_okq (⟨"TrialBookModel", "areSettings", "(I)Z"⟩, 37) := ⟨⟨by decide +kernel, by decide +kernel⟩, List.mem_of_getElem? (i := 474) (by decide +kernel), List.mem_of_getElem? (i := 613) (by decide +kernel), List.mem_of_getElem? (i := 614) (by decide +kernel)⟩
theorem lw_p20 : lw_okq (⟨"TrialBookModel", "setting", "(II)I"⟩, 37) := ⟨⟨by decide +kernel, by decide +kernel⟩, List.mem_of_getElem? (i := 474) (by decide +kernel), List.mem_of_getElem? (i := 618) (by decide +kernel), List.mem_of_getElem? (i := 619) (by decide +kernel)⟩
theorem lw_p21 : lw_okq (⟨"TrialBookModel", "isSeed", "(I)Z"⟩, 37) := ⟨⟨by decide +kernel, by decide +kernel⟩, List.mem_of_getElem? (i := 474) (by decide +kernel), List.mem_of_getElem? (i := 622) (by decide +kernel), List.mem_of_getElem? (i := 623) (by decide +kernel)⟩
theorem lw_p22 : lw_okq (⟨"TrialBookModel", "areTicks", "(I)Z"⟩, 37) := ⟨⟨by decide +kernel, by decide +kernel⟩, List.mem_of_getElem? (i := 474) (by decide +kernel), List.mem_of_getElem? (i := 626) (by decide +kernel), List.mem_of_getElem? (i := 627) (by decide +kernel)⟩
theorem lw_p23 : lw_okq (⟨"TrialBookModel", "goes", "(IIIIII)V"⟩, 37) := ⟨⟨by decide +kernel, by decide +kernel⟩, List.mem_of_getElem? (i := 474) (by decide +kernel), List.mem_of_getElem? (i := 630) (by decide +kernel), List.mem_of_getElem? (i := 631) (by decide +kernel)⟩
theorem lw_p24 : lw_okq (⟨"TrialBookModel", "step", "(IIIII)I"⟩, 37) := ⟨⟨by decide +kernel, by decide +kernel⟩, List.mem_of_getElem? (i := 474) (by decide +kernel), List.mem_of_getElem? (i := 634) (by decide +kernel), List.mem_of_getElem? (i := 635) (by decide +kernel)⟩
theorem lw_p25 : lw_okq (⟨"TrialBookModel", "takes", "(II)V"⟩, 37) := ⟨⟨by decide +kernel, by decide +kernel⟩, List.mem_of_getElem? (i := 474) (by decide +kernel), List.mem_of_getElem? (i := 638) (by decide +kernel), List.mem_of_getElem? (i := 639) (by decide +kernel)⟩
theorem lw_p26 : lw_okq (⟨"TrialBookModel", "isRun", "(I)Z"⟩, 37) := ⟨⟨by decide +kernel, by decide +kernel⟩, List.mem_of_getElem? (i := 474) (by decide +kernel), List.mem_of_getElem? (i := 646) (by decide +kernel), List.mem_of_getElem? (i := 647) (by decide +kernel)⟩
theorem lw_p27 : lw_okq (⟨"TrialBookModel", "isStale", "(I)Z"⟩, 37) := ⟨⟨by decide +kernel, by decide +kernel⟩, List.mem_of_getElem? (i := 474) (by decide +kernel), List.mem_of_getElem? (i := 654) (by decide +kernel), List.mem_of_getElem? (i := 655) (by decide +kernel)⟩
theorem lw_p28 : lw_okq (⟨"TrialBookModel", "isCodeOf", "(II)Z"⟩, 37) := ⟨⟨by decide +kernel, by decide +kernel⟩, List.mem_of_getElem? (i := 474) (by decide +kernel), List.mem_of_getElem? (i := 658) (by decide +kernel), List.mem_of_getElem? (i := 659) (by decide +kernel)⟩
theorem lw_p29 : lw_okq (⟨"TrialBookModel", "isOtherWord", "(II)Z"⟩, 37) := ⟨⟨by decide +kernel, by decide +kernel⟩, List.mem_of_getElem? (i := 474) (by decide +kernel), List.mem_of_getElem? (i := 662) (by decide +kernel), List.mem_of_getElem? (i := 663) (by decide +kernel)⟩
theorem lw_p30 : lw_okq (⟨"TrialBookModel", "savedBy", "(IIII)I"⟩, 37) := ⟨⟨by decide +kernel, by decide +kernel⟩, List.mem_of_getElem? (i := 474) (by decide +kernel), List.mem_of_getElem? (i := 686) (by decide +kernel), List.mem_of_getElem? (i := 687) (by decide +kernel)⟩
theorem lw_p31 : lw_okq (⟨"TrialBookModel", "canPair", "(IIII)Z"⟩, 37) := ⟨⟨by decide +kernel, by decide +kernel⟩, List.mem_of_getElem? (i := 474) (by decide +kernel), List.mem_of_getElem? (i := 694) (by decide +kernel), List.mem_of_getElem? (i := 695) (by decide +kernel)⟩
def lw_privs_2 : List (MethodName × Nat) := [(⟨"TrialBook", "openSeeds", "(II)I"⟩, 10), (⟨"TrialBook", "nextSettings", "(I)I"⟩, 10), (⟨"TrialBookModel", "isCode", "(I)Z"⟩, 37), (⟨"TrialBookModel", "areSettings", "(I)Z"⟩, 37), (⟨"TrialBookModel", "setting", "(II)I"⟩, 37), (⟨"TrialBookModel", "isSeed", "(I)Z"⟩, 37), (⟨"TrialBookModel", "areTicks", "(I)Z"⟩, 37), (⟨"TrialBookModel", "goes", "(IIIIII)V"⟩, 37), (⟨"TrialBookModel", "step", "(IIIII)I"⟩, 37), (⟨"TrialBookModel", "takes", "(II)V"⟩, 37), (⟨"TrialBookModel", "isRun", "(I)Z"⟩, 37), (⟨"TrialBookModel", "isStale", "(I)Z"⟩, 37), (⟨"TrialBookModel", "isCodeOf", "(II)Z"⟩, 37), (⟨"TrialBookModel", "isOtherWord", "(II)Z"⟩, 37), (⟨"TrialBookModel", "savedBy", "(IIII)I"⟩, 37), (⟨"TrialBookModel", "canPair", "(IIII)Z"⟩, 37)]
theorem lw_r2 : ∀ q ∈ lw_privs_2, lw_okq q := List.forall_mem_cons.mpr ⟨lw_p16, List.forall_mem_cons.mpr ⟨lw_p17, List.forall_mem_cons.mpr ⟨lw_p18, List.forall_mem_cons.mpr ⟨lw_p19, List.forall_mem_cons.mpr ⟨lw_p20, List.forall_mem_cons.mpr ⟨lw_p21, List.forall_mem_cons.mpr ⟨lw_p22, List.forall_mem_cons.mpr ⟨lw_p23, List.forall_mem_cons.mpr ⟨lw_p24, List.forall_mem_cons.mpr ⟨lw_p25, List.forall_mem_cons.mpr ⟨lw_p26, List.forall_mem_cons.mpr ⟨lw_p27, List.forall_mem_cons.mpr ⟨lw_p28, List.forall_mem_cons.mpr ⟨lw_p29, List.forall_mem_cons.mpr ⟨lw_p30, List.forall_mem_cons.mpr ⟨lw_p31, fun _ h => absurd h List.not_mem_nil⟩⟩⟩⟩⟩⟩⟩⟩⟩⟩⟩⟩⟩⟩⟩⟩
theorem lw_p32 : lw_okq (⟨"TrialBookModel", "findPairs", "(IIII)V"⟩, 37) := ⟨⟨by decide +kernel, by decide +kernel⟩, List.mem_of_getElem? (i := 474) (by decide +kernel), List.mem_of_getElem? (i := 698) (by decide +kernel), List.mem_of_getElem? (i := 699) (by decide +kernel)⟩
theorem lw_p33 : lw_okq (⟨"TrialBookModel", "isPair", "(IIIIII)Z"⟩, 37) := ⟨⟨by decide +kernel, by decide +kernel⟩, List.mem_of_getElem? (i := 474) (by decide +kernel), List.mem_of_getElem? (i := 702) (by decide +kernel), List.mem_of_getElem? (i := 703) (by decide +kernel)⟩
theorem lw_p34 : lw_okq (⟨"TrialBookModel", "mayBe", "(II)Z"⟩, 37) := ⟨⟨by decide +kernel, by decide +kernel⟩, List.mem_of_getElem? (i := 474) (by decide +kernel), List.mem_of_getElem? (i := 706) (by decide +kernel), List.mem_of_getElem? (i := 707) (by decide +kernel)⟩
theorem lw_p35 : lw_okq (⟨"TrialBookModel", "isLike", "(II)Z"⟩, 37) := ⟨⟨by decide +kernel, by decide +kernel⟩, List.mem_of_getElem? (i := 474) (by decide +kernel), List.mem_of_getElem? (i := 710) (by decide +kernel), List.mem_of_getElem? (i := 711) (by decide +kernel)⟩
theorem lw_p36 : lw_okq (⟨"TrialBookModel", "isLikeCode", "(II)Z"⟩, 37) := ⟨⟨by decide +kernel, by decide +kernel⟩, List.mem_of_getElem? (i := 474) (by decide +kernel), List.mem_of_getElem? (i := 714) (by decide +kernel), List.mem_of_getElem? (i := 715) (by decide +kernel)⟩
theorem lw_p37 : lw_okq (⟨"TrialBookModel", "isLeast", "(II)Z"⟩, 37) := ⟨⟨by decide +kernel, by decide +kernel⟩, List.mem_of_getElem? (i := 474) (by decide +kernel), List.mem_of_getElem? (i := 718) (by decide +kernel), List.mem_of_getElem? (i := 719) (by decide +kernel)⟩
theorem lw_p38 : lw_okq (⟨"TrialBookModel", "sureOf", "(IIIIJ)I"⟩, 37) := ⟨⟨by decide +kernel, by decide +kernel⟩, List.mem_of_getElem? (i := 474) (by decide +kernel), List.mem_of_getElem? (i := 731) (by decide +kernel), List.mem_of_getElem? (i := 732) (by decide +kernel)⟩
theorem lw_p39 : lw_okq (⟨"TrialBookModel", "overs", "(II)J"⟩, 37) := ⟨⟨by decide +kernel, by decide +kernel⟩, List.mem_of_getElem? (i := 474) (by decide +kernel), List.mem_of_getElem? (i := 735) (by decide +kernel), List.mem_of_getElem? (i := 736) (by decide +kernel)⟩
theorem lw_p40 : lw_okq (⟨"TrialBookModel", "canHole", "(III)Z"⟩, 37) := ⟨⟨by decide +kernel, by decide +kernel⟩, List.mem_of_getElem? (i := 474) (by decide +kernel), List.mem_of_getElem? (i := 747) (by decide +kernel), List.mem_of_getElem? (i := 748) (by decide +kernel)⟩
theorem lw_p41 : lw_okq (⟨"TrialBookModel", "grid", "()I"⟩, 37) := ⟨⟨by decide +kernel, by decide +kernel⟩, List.mem_of_getElem? (i := 474) (by decide +kernel), List.mem_of_getElem? (i := 751) (by decide +kernel), List.mem_of_getElem? (i := 752) (by decide +kernel)⟩
theorem lw_p42 : lw_okq (⟨"TrialBookModel", "settingsAt", "(I)I"⟩, 37) := ⟨⟨by decide +kernel, by decide +kernel⟩, List.mem_of_getElem? (i := 474) (by decide +kernel), List.mem_of_getElem? (i := 755) (by decide +kernel), List.mem_of_getElem? (i := 756) (by decide +kernel)⟩
def lw_privs_3 : List (MethodName × Nat) := [(⟨"TrialBookModel", "findPairs", "(IIII)V"⟩, 37), (⟨"TrialBookModel", "isPair", "(IIIIII)Z"⟩, 37), (⟨"TrialBookModel", "mayBe", "(II)Z"⟩, 37), (⟨"TrialBookModel", "isLike", "(II)Z"⟩, 37), (⟨"TrialBookModel", "isLikeCode", "(II)Z"⟩, 37), (⟨"TrialBookModel", "isLeast", "(II)Z"⟩, 37), (⟨"TrialBookModel", "sureOf", "(IIIIJ)I"⟩, 37), (⟨"TrialBookModel", "overs", "(II)J"⟩, 37), (⟨"TrialBookModel", "canHole", "(III)Z"⟩, 37), (⟨"TrialBookModel", "grid", "()I"⟩, 37), (⟨"TrialBookModel", "settingsAt", "(I)I"⟩, 37)]
theorem lw_r3 : ∀ q ∈ lw_privs_3, lw_okq q := List.forall_mem_cons.mpr ⟨lw_p32, List.forall_mem_cons.mpr ⟨lw_p33, List.forall_mem_cons.mpr ⟨lw_p34, List.forall_mem_cons.mpr ⟨lw_p35, List.forall_mem_cons.mpr ⟨lw_p36, List.forall_mem_cons.mpr ⟨lw_p37, List.forall_mem_cons.mpr ⟨lw_p38, List.forall_mem_cons.mpr ⟨lw_p39, List.forall_mem_cons.mpr ⟨lw_p40, List.forall_mem_cons.mpr ⟨lw_p41, List.forall_mem_cons.mpr ⟨lw_p42, fun _ h => absurd h List.not_mem_nil⟩⟩⟩⟩⟩⟩⟩⟩⟩⟩⟩
def lw_privs : List (MethodName × Nat) := lw_privs_1 ++ (lw_privs_2 ++ (lw_privs_3))
def lw_tbl : List Cond := k2_sels lw_privs ++ tables_1
theorem lw_privs_ok : ∀ q ∈ lw_privs, lw_okq q := by
  show ∀ q ∈ lw_privs_1 ++ (lw_privs_2 ++ (lw_privs_3)), lw_okq q
  exact List.forall_mem_append.mpr ⟨lw_r1, List.forall_mem_append.mpr ⟨lw_r2, lw_r3⟩⟩
end
section
/-! ===== BEGIN words of one list among another's, by their places ===== -/
theorem goodIn_r {big : List Cond} (ws : List Cond) (ps : List Nat) (hp : ws = ps.filterMap (fun i => big[i]?)) (h : ws.all goodWord = true) : GoodIn big ws := by
  intro w hw
  have h1 := List.all_eq_true.mp h w hw
  rw [hp] at hw
  obtain ⟨i, -, hi⟩ := List.mem_filterMap.mp hw
  have hm : w ∈ big := by first | exact List.mem_of_getElem? hi | exact List.getElem?_mem hi
  exact ⟨hm, good_of_word h1⟩
theorem goodIn_app {big a b : List Cond} (ha : GoodIn big a) (hb : GoodIn big b) : GoodIn big (a ++ b) := fun w h => (List.mem_append.mp h).elim (ha w) (hb w)
theorem goodIn_ca {big a b : List Cond} {c : Cond} (ha : GoodIn big (c :: a)) (hb : GoodIn big b) : GoodIn big (c :: (a ++ b)) := fun w h => (List.mem_cons.mp h).elim (fun e => ha w (List.mem_cons.mpr (Or.inl e))) (fun h => (List.mem_append.mp h).elim (fun h => ha w (List.mem_cons.mpr (Or.inr h))) (hb w))
theorem goodIn_sub {big ws : List Cond} (hm : ∀ w ∈ ws, w ∈ big) (h : ws.all goodWord = true) : GoodIn big ws := fun w hw => ⟨hm w hw, good_of_word (List.all_eq_true.mp h w hw)⟩
/-! ===== END ===== -/

/-! ===== BEGIN printed: names, fields, word lists, decode rows ===== -/
def RX0 : String := "TrialBook$Code"
def TX0 : u_T := fun k => match k with
  | 0 => ("TrialBook$Code", "count", "I", true)
  | _ => ("TrialBook$Code", "bytes", "J", true)
def tyX0 : Nat → FieldType := fun k => match k with
  | 0 => .int
  | _ => .long
abbrev wsX00 : List Cond := u_ws RX0 TX0 2
theorem nmX0 : ∀ a, a < 2 → ∀ b, b < 2 → a ≠ b → (TX0 a).2.1 ≠ (TX0 b).2.1 := by decide +kernel
theorem tyX0_ok : ∀ k, k < 2 → parseFieldDescriptor (TX0 k).2.2.1 = some (tyX0 k) := by decide +kernel
abbrev cX0_init : ByteArray := prog_2_method_1_code
def yX0_init : MethodName := ⟨RX0, "<init>", "(III)V"⟩
abbrev cX0_stepAt : ByteArray := prog_2_method_2_code
def yX0_stepAt : MethodName := ⟨RX0, "stepAt", "(I)I"⟩
abbrev cX0_isLike : ByteArray := prog_2_method_3_code
def yX0_isLike : MethodName := ⟨RX0, "isLike", "(LTrialBook$Code;)Z"⟩
def RX1 : String := "TrialBook$Notes"
def TX1 : u_T := fun k => match k with
  | 0 => ("TrialBook$Notes", "settings", "I", false)
  | 1 => ("TrialBook$Notes", "words", "I", false)
  | 2 => ("TrialBook$Notes", "seed", "Z", false)
  | 3 => ("TrialBook$Notes", "clock", "Z", false)
  | _ => ("TrialBook$Notes", "values", "[I", true)
def tyX1 : Nat → FieldType := fun k => match k with
  | 0 => .int
  | 1 => .int
  | 2 => .boolean
  | 3 => .boolean
  | _ => .array .int
abbrev wsX10 : List Cond := u_ws RX1 TX1 5
theorem nmX1 : ∀ a, a < 5 → ∀ b, b < 5 → a ≠ b → (TX1 a).2.1 ≠ (TX1 b).2.1 := by decide +kernel
theorem tyX1_ok : ∀ k, k < 5 → parseFieldDescriptor (TX1 k).2.2.1 = some (tyX1 k) := by decide +kernel
abbrev cX1_init : ByteArray := prog_3_method_1_code
def yX1_init : MethodName := ⟨RX1, "<init>", "()V"⟩
abbrev cX1_addWord : ByteArray := prog_3_method_2_code
def yX1_addWord : MethodName := ⟨RX1, "addWord", "(II)V"⟩
abbrev cX1_addAll : ByteArray := prog_3_method_3_code
def yX1_addAll : MethodName := ⟨RX1, "addAll", "(LTrialBook$Notes;)V"⟩
abbrev cX1_changedWords : ByteArray := prog_3_method_4_code
def yX1_changedWords : MethodName := ⟨RX1, "changedWords", "(LTrialBook$World;)I"⟩
abbrev cX1_agreesOnSharedWords : ByteArray := prog_3_method_5_code
def yX1_agreesOnSharedWords : MethodName := ⟨RX1, "agreesOnSharedWords", "(LTrialBook$Notes;)Z"⟩
def RX2 : String := "TrialBook$Run"
def TX2 : u_T := fun k => match k with
  | 0 => ("TrialBook$Run", "codeNumber", "I", true)
  | 1 => ("TrialBook$Run", "code", "LTrialBook$Code;", true)
  | 2 => ("TrialBook$Run", "settings", "I", true)
  | 3 => ("TrialBook$Run", "seed", "I", true)
  | 4 => ("TrialBook$Run", "ticks", "I", true)
  | 5 => ("TrialBook$Run", "read", "LTrialBook$Notes;", true)
  | 6 => ("TrialBook$Run", "rows", "[I", true)
  | 7 => ("TrialBook$Run", "rowCount", "I", false)
  | 8 => ("TrialBook$Run", "broken", "Z", false)
  | 9 => ("TrialBook$Run", "counts", "Z", false)
  | 10 => ("TrialBook$Run", "origin", "I", false)
  | _ => ("TrialBook$Run", "originTick", "I", false)
def tyX2 : Nat → FieldType := fun k => match k with
  | 0 => .int
  | 1 => .object "TrialBook$Code"
  | 2 => .int
  | 3 => .int
  | 4 => .int
  | 5 => .object "TrialBook$Notes"
  | 6 => .array .int
  | 7 => .int
  | 8 => .boolean
  | 9 => .boolean
  | 10 => .int
  | _ => .int
abbrev wsX20 : List Cond := u_ws RX2 TX2 12
theorem nmX2 : ∀ a, a < 12 → ∀ b, b < 12 → a ≠ b → (TX2 a).2.1 ≠ (TX2 b).2.1 := by decide +kernel
theorem tyX2_ok : ∀ k, k < 12 → parseFieldDescriptor (TX2 k).2.2.1 = some (tyX2 k) := by decide +kernel
abbrev cX2_init : ByteArray := prog_4_method_1_code
def yX2_init : MethodName := ⟨RX2, "<init>", "(ILTrialBook$Code;III)V"⟩
abbrev cX2_comeOf : ByteArray := prog_4_method_2_code
def yX2_comeOf : MethodName := ⟨RX2, "comeOf", "(II)V"⟩
abbrev cX2_takeRows : ByteArray := prog_4_method_3_code
def yX2_takeRows : MethodName := ⟨RX2, "takeRows", "(LTrialBook$Run;I)V"⟩
abbrev cX2_isFork : ByteArray := prog_4_method_4_code
def yX2_isFork : MethodName := ⟨RX2, "isFork", "()Z"⟩
abbrev cX2_rowAt : ByteArray := prog_4_method_5_code
def yX2_rowAt : MethodName := ⟨RX2, "rowAt", "(I)I"⟩
abbrev cX2_lastRow : ByteArray := prog_4_method_6_code
def yX2_lastRow : MethodName := ⟨RX2, "lastRow", "()I"⟩
abbrev cX2_doTicks : ByteArray := prog_4_method_7_code
def yX2_doTicks : MethodName := ⟨RX2, "doTicks", "(LTrialBook$World;)V"⟩
abbrev cX2_afterTick : ByteArray := prog_4_method_8_code
def yX2_afterTick : MethodName := ⟨RX2, "afterTick", "(IILTrialBook$World;)I"⟩
abbrev cX2_afterStep : ByteArray := prog_4_method_9_code
def yX2_afterStep : MethodName := ⟨RX2, "afterStep", "(IIIILTrialBook$World;)I"⟩
abbrev cX2_readSetting : ByteArray := prog_4_method_10_code
def yX2_readSetting : MethodName := ⟨RX2, "readSetting", "(I)I"⟩
abbrev cX2_readSeed : ByteArray := prog_4_method_11_code
def yX2_readSeed : MethodName := ⟨RX2, "readSeed", "()I"⟩
abbrev cX2_readWord : ByteArray := prog_4_method_12_code
def yX2_readWord : MethodName := ⟨RX2, "readWord", "(ILTrialBook$World;)I"⟩
abbrev cX2_readClock : ByteArray := prog_4_method_13_code
def yX2_readClock : MethodName := ⟨RX2, "readClock", "(LTrialBook$World;)I"⟩
abbrev cX2_firstOtherTick : ByteArray := prog_4_method_14_code
def yX2_firstOtherTick : MethodName := ⟨RX2, "firstOtherTick", "(LTrialBook$Run;)I"⟩
abbrev cX2_isComparable : ByteArray := prog_4_method_15_code
def yX2_isComparable : MethodName := ⟨RX2, "isComparable", "()Z"⟩
abbrev cX2_isLike : ByteArray := prog_4_method_16_code
def yX2_isLike : MethodName := ⟨RX2, "isLike", "(LTrialBook$Run;)Z"⟩
abbrev cX2_pairsWith : ByteArray := prog_4_method_17_code
def yX2_pairsWith : MethodName := ⟨RX2, "pairsWith", "(LTrialBook$Run;I)Z"⟩
abbrev cX2_isUsable : ByteArray := prog_4_method_18_code
def yX2_isUsable : MethodName := ⟨RX2, "isUsable", "(LTrialBook$Code;ILTrialBook$World;)Z"⟩
abbrev cX2_fitsSettings : ByteArray := prog_4_method_19_code
def yX2_fitsSettings : MethodName := ⟨RX2, "fitsSettings", "(I)Z"⟩
abbrev cX2_fitsSeed : ByteArray := prog_4_method_20_code
def yX2_fitsSeed : MethodName := ⟨RX2, "fitsSeed", "(I)Z"⟩
abbrev cX2_gridSeeds : ByteArray := prog_4_method_21_code
def yX2_gridSeeds : MethodName := ⟨RX2, "gridSeeds", "()I"⟩
def RX3 : String := "TrialBook$World"
def TX3 : u_T := fun k => match k with
  | 0 => ("TrialBook$World", "words", "[I", true)
  | _ => ("TrialBook$World", "clock", "I", false)
def tyX3 : Nat → FieldType := fun k => match k with
  | 0 => .array .int
  | _ => .int
abbrev wsX30 : List Cond := u_ws RX3 TX3 2
theorem nmX3 : ∀ a, a < 2 → ∀ b, b < 2 → a ≠ b → (TX3 a).2.1 ≠ (TX3 b).2.1 := by decide +kernel
theorem tyX3_ok : ∀ k, k < 2 → parseFieldDescriptor (TX3 k).2.2.1 = some (tyX3 k) := by decide +kernel
abbrev cX3_init : ByteArray := prog_5_method_1_code
def yX3_init : MethodName := ⟨RX3, "<init>", "()V"⟩
abbrev cX3_setWord : ByteArray := prog_5_method_2_code
def yX3_setWord : MethodName := ⟨RX3, "setWord", "(II)Z"⟩
abbrev cX3_wordAt : ByteArray := prog_5_method_3_code
def yX3_wordAt : MethodName := ⟨RX3, "wordAt", "(I)I"⟩
def RX4 : String := "TrialBook"
def TX4 : u_T := fun k => match k with
  | 0 => ("TrialBook", "codeRows", "[LTrialBook$Code;", true)
  | 1 => ("TrialBook", "bounds", "[I", true)
  | 2 => ("TrialBook", "world", "LTrialBook$World;", true)
  | 3 => ("TrialBook", "runRows", "[LTrialBook$Run;", true)
  | 4 => ("TrialBook", "runCount", "I", false)
  | 5 => ("TrialBook", "claimRuns", "[I", true)
  | 6 => ("TrialBook", "claimRows", "[I", true)
  | 7 => ("TrialBook", "claimCount", "I", false)
  | 8 => ("TrialBook", "fillers", "[LTrialBook$Run;", true)
  | _ => ("TrialBook", "fillerCount", "I", false)
def tyX4 : Nat → FieldType := fun k => match k with
  | 0 => .array (.object "TrialBook$Code")
  | 1 => .array .int
  | 2 => .object "TrialBook$World"
  | 3 => .array (.object "TrialBook$Run")
  | 4 => .int
  | 5 => .array .int
  | 6 => .array .int
  | 7 => .int
  | 8 => .array (.object "TrialBook$Run")
  | _ => .int
abbrev wsX40 : List Cond := u_ws RX4 TX4 10
theorem nmX4 : ∀ a, a < 10 → ∀ b, b < 10 → a ≠ b → (TX4 a).2.1 ≠ (TX4 b).2.1 := by decide +kernel
theorem tyX4_ok : ∀ k, k < 10 → parseFieldDescriptor (TX4 k).2.2.1 = some (tyX4 k) := by decide +kernel
abbrev cX4_init : ByteArray := prog_1_method_1_code
def yX4_init : MethodName := ⟨RX4, "<init>", "()V"⟩
abbrev cX4_code : ByteArray := prog_1_method_2_code
def yX4_code : MethodName := ⟨RX4, "code", "(IIII)Z"⟩
abbrev cX4_data : ByteArray := prog_1_method_3_code
def yX4_data : MethodName := ⟨RX4, "data", "(II)Z"⟩
abbrev cX4_bound : ByteArray := prog_1_method_4_code
def yX4_bound : MethodName := ⟨RX4, "bound", "(II)Z"⟩
abbrev cX4_run : ByteArray := prog_1_method_5_code
def yX4_run : MethodName := ⟨RX4, "run", "(IIII)I"⟩
abbrev cX4_fork : ByteArray := prog_1_method_6_code
def yX4_fork : MethodName := ⟨RX4, "fork", "(IIII)I"⟩
abbrev cX4_of : ByteArray := prog_1_method_7_code
def yX4_of : MethodName := ⟨RX4, "of", "(II)I"⟩
abbrev cX4_clock : ByteArray := prog_1_method_8_code
def yX4_clock : MethodName := ⟨RX4, "clock", "()I"⟩
abbrev cX4_runs : ByteArray := prog_1_method_9_code
def yX4_runs : MethodName := ⟨RX4, "runs", "()I"⟩
abbrev cX4_again : ByteArray := prog_1_method_10_code
def yX4_again : MethodName := ⟨RX4, "again", "(I)I"⟩
abbrev cX4_loose : ByteArray := prog_1_method_11_code
def yX4_loose : MethodName := ⟨RX4, "loose", "(I)I"⟩
abbrev cX4_saved : ByteArray := prog_1_method_12_code
def yX4_saved : MethodName := ⟨RX4, "saved", "(IIII)I"⟩
abbrev cX4_pairs : ByteArray := prog_1_method_13_code
def yX4_pairs : MethodName := ⟨RX4, "pairs", "(IIIII)I"⟩
abbrev cX4_pair : ByteArray := prog_1_method_14_code
def yX4_pair : MethodName := ⟨RX4, "pair", "(IIIIII)I"⟩
abbrev cX4_sure : ByteArray := prog_1_method_15_code
def yX4_sure : MethodName := ⟨RX4, "sure", "(IIIIII)I"⟩
abbrev cX4_best : ByteArray := prog_1_method_16_code
def yX4_best : MethodName := ⟨RX4, "best", "(III)I"⟩
abbrev cX4_holes : ByteArray := prog_1_method_17_code
def yX4_holes : MethodName := ⟨RX4, "holes", "(III)I"⟩
abbrev cX4_hole : ByteArray := prog_1_method_18_code
def yX4_hole : MethodName := ⟨RX4, "hole", "(IIIII)I"⟩
abbrev cX4_idle : ByteArray := prog_1_method_19_code
def yX4_idle : MethodName := ⟨RX4, "idle", "()I"⟩
abbrev cX4_claim : ByteArray := prog_1_method_20_code
def yX4_claim : MethodName := ⟨RX4, "claim", "(I)I"⟩
abbrev cX4_claimed : ByteArray := prog_1_method_21_code
def yX4_claimed : MethodName := ⟨RX4, "claimed", "(II)I"⟩
abbrev cX4_codeAt : ByteArray := prog_1_method_22_code
def yX4_codeAt : MethodName := ⟨RX4, "codeAt", "(I)LTrialBook$Code;"⟩
abbrev cX4_runAt : ByteArray := prog_1_method_23_code
def yX4_runAt : MethodName := ⟨RX4, "runAt", "(I)LTrialBook$Run;"⟩
abbrev cX4_boundOf : ByteArray := prog_1_method_24_code
def yX4_boundOf : MethodName := ⟨RX4, "boundOf", "(I)I"⟩
abbrev cX4_enter : ByteArray := prog_1_method_25_code
def yX4_enter : MethodName := ⟨RX4, "enter", "(LTrialBook$Run;)I"⟩
abbrev cX4_isCountedAlready : ByteArray := prog_1_method_26_code
def yX4_isCountedAlready : MethodName := ⟨RX4, "isCountedAlready", "(LTrialBook$Run;)Z"⟩
abbrev cX4_isStale : ByteArray := prog_1_method_27_code
def yX4_isStale : MethodName := ⟨RX4, "isStale", "(LTrialBook$Run;)Z"⟩
abbrev cX4_canCompare : ByteArray := prog_1_method_28_code
def yX4_canCompare : MethodName := ⟨RX4, "canCompare", "(IIII)Z"⟩
abbrev cX4_standsFor : ByteArray := prog_1_method_29_code
def yX4_standsFor : MethodName := ⟨RX4, "standsFor", "(LTrialBook$Run;III)Z"⟩
abbrev cX4_countPairs : ByteArray := prog_1_method_30_code
def yX4_countPairs : MethodName := ⟨RX4, "countPairs", "(IIIII)I"⟩
abbrev cX4_endsAsAsked : ByteArray := prog_1_method_31_code
def yX4_endsAsAsked : MethodName := ⟨RX4, "endsAsAsked", "(III)Z"⟩
abbrev cX4_judge : ByteArray := prog_1_method_32_code
def yX4_judge : MethodName := ⟨RX4, "judge", "(IIIIJ)I"⟩
abbrev cX4_waysToWin : ByteArray := prog_1_method_33_code
def yX4_waysToWin : MethodName := ⟨RX4, "waysToWin", "(II)J"⟩
abbrev cX4_beatsOthers : ByteArray := prog_1_method_34_code
def yX4_beatsOthers : MethodName := ⟨RX4, "beatsOthers", "(IIIJ)Z"⟩
abbrev cX4_gatherFillers : ByteArray := prog_1_method_35_code
def yX4_gatherFillers : MethodName := ⟨RX4, "gatherFillers", "(LTrialBook$Code;I)V"⟩
abbrev cX4_openSeeds : ByteArray := prog_1_method_36_code
def yX4_openSeeds : MethodName := ⟨RX4, "openSeeds", "(II)I"⟩
abbrev cX4_nextSettings : ByteArray := prog_1_method_37_code
def yX4_nextSettings : MethodName := ⟨RX4, "nextSettings", "(I)I"⟩
abbrev cX4_memberAt : ByteArray := prog_1_method_38_code
def yX4_memberAt : MethodName := ⟨RX4, "memberAt", "(II)I"⟩
abbrev cX4_isIn : ByteArray := prog_1_method_39_code
def yX4_isIn : MethodName := ⟨RX4, "isIn", "(II)Z"⟩
abbrev cX4_settingOf : ByteArray := prog_1_method_40_code
def yX4_settingOf : MethodName := ⟨RX4, "settingOf", "(II)I"⟩
abbrev cX4_areSettings : ByteArray := prog_1_method_41_code
def yX4_areSettings : MethodName := ⟨RX4, "areSettings", "(I)Z"⟩
abbrev cX4_isSetting : ByteArray := prog_1_method_42_code
def yX4_isSetting : MethodName := ⟨RX4, "isSetting", "(I)Z"⟩
abbrev cX4_isValue : ByteArray := prog_1_method_43_code
def yX4_isValue : MethodName := ⟨RX4, "isValue", "(I)Z"⟩
abbrev cX4_isSeed : ByteArray := prog_1_method_44_code
def yX4_isSeed : MethodName := ⟨RX4, "isSeed", "(I)Z"⟩
abbrev cX4_areTicks : ByteArray := prog_1_method_45_code
def yX4_areTicks : MethodName := ⟨RX4, "areTicks", "(I)Z"⟩
abbrev cX4_areGridSeeds : ByteArray := prog_1_method_46_code
def yX4_areGridSeeds : MethodName := ⟨RX4, "areGridSeeds", "(I)Z"⟩
abbrev cX4_areOdds : ByteArray := prog_1_method_47_code
def yX4_areOdds : MethodName := ⟨RX4, "areOdds", "(I)Z"⟩
abbrev cX4_asNumber : ByteArray := prog_1_method_48_code
def yX4_asNumber : MethodName := ⟨RX4, "asNumber", "(Z)I"⟩
abbrev cX4_remainder : ByteArray := prog_1_method_49_code
def yX4_remainder : MethodName := ⟨RX4, "remainder", "(II)I"⟩
def RX5 : String := "TrialBookModel"
def TX5 : u_T := fun k => match k with
  | 0 => ("TrialBookModel", "told", "I", false)
  | 1 => ("TrialBookModel", "codeLong", "[I", true)
  | 2 => ("TrialBookModel", "codeStep", "[I", true)
  | 3 => ("TrialBookModel", "data", "[I", true)
  | 4 => ("TrialBookModel", "bound", "[I", true)
  | 5 => ("TrialBookModel", "clock", "I", false)
  | 6 => ("TrialBookModel", "runs", "I", false)
  | 7 => ("TrialBookModel", "code", "[I", true)
  | 8 => ("TrialBookModel", "runLong", "[I", true)
  | 9 => ("TrialBookModel", "runStep", "[I", true)
  | 10 => ("TrialBookModel", "settings", "[I", true)
  | 11 => ("TrialBookModel", "seed", "[I", true)
  | 12 => ("TrialBookModel", "ticks", "[I", true)
  | 13 => ("TrialBookModel", "rows", "[I", true)
  | 14 => ("TrialBookModel", "row", "[I", true)
  | 15 => ("TrialBookModel", "isBroken", "[Z", true)
  | 16 => ("TrialBookModel", "parent", "[I", true)
  | 17 => ("TrialBookModel", "at", "[I", true)
  | 18 => ("TrialBookModel", "readSettings", "[I", true)
  | 19 => ("TrialBookModel", "readData", "[I", true)
  | 20 => ("TrialBookModel", "dataWas", "[I", true)
  | 21 => ("TrialBookModel", "readSeed", "[Z", true)
  | 22 => ("TrialBookModel", "readClock", "[Z", true)
  | 23 => ("TrialBookModel", "doneRow", "[I", true)
  | 24 => ("TrialBookModel", "doneRows", "I", false)
  | 25 => ("TrialBookModel", "doneBroken", "Z", false)
  | 26 => ("TrialBookModel", "doneReadSettings", "I", false)
  | 27 => ("TrialBookModel", "doneReadData", "I", false)
  | 28 => ("TrialBookModel", "doneReadSeed", "Z", false)
  | 29 => ("TrialBookModel", "doneReadClock", "Z", false)
  | 30 => ("TrialBookModel", "stops", "Z", false)
  | 31 => ("TrialBookModel", "skips", "Z", false)
  | 32 => ("TrialBookModel", "pairs", "I", false)
  | 33 => ("TrialBookModel", "wins", "I", false)
  | 34 => ("TrialBookModel", "loses", "I", false)
  | 35 => ("TrialBookModel", "claims", "I", false)
  | _ => ("TrialBookModel", "claimRun", "[I", true)
def tyX5 : Nat → FieldType := fun k => match k with
  | 0 => .int
  | 1 => .array .int
  | 2 => .array .int
  | 3 => .array .int
  | 4 => .array .int
  | 5 => .int
  | 6 => .int
  | 7 => .array .int
  | 8 => .array .int
  | 9 => .array .int
  | 10 => .array .int
  | 11 => .array .int
  | 12 => .array .int
  | 13 => .array .int
  | 14 => .array .int
  | 15 => .array .boolean
  | 16 => .array .int
  | 17 => .array .int
  | 18 => .array .int
  | 19 => .array .int
  | 20 => .array .int
  | 21 => .array .boolean
  | 22 => .array .boolean
  | 23 => .array .int
  | 24 => .int
  | 25 => .boolean
  | 26 => .int
  | 27 => .int
  | 28 => .boolean
  | 29 => .boolean
  | 30 => .boolean
  | 31 => .boolean
  | 32 => .int
  | 33 => .int
  | 34 => .int
  | 35 => .int
  | _ => .array .int
abbrev wsX50 : List Cond := u_ws RX5 TX5 37
theorem nmX5 : ∀ a, a < 37 → ∀ b, b < 37 → a ≠ b → (TX5 a).2.1 ≠ (TX5 b).2.1 := by decide +kernel
theorem tyX5_ok : ∀ k, k < 37 → parseFieldDescriptor (TX5 k).2.2.1 = some (tyX5 k) := by decide +kernel
abbrev cX5_init : ByteArray := prog_7_method_1_code
def yX5_init : MethodName := ⟨RX5, "<init>", "()V"⟩
abbrev cX5_isCode : ByteArray := prog_7_method_3_code
def yX5_isCode : MethodName := ⟨RX5, "isCode", "(I)Z"⟩
abbrev cX5_code : ByteArray := prog_7_method_4_code
def yX5_code : MethodName := ⟨RX5, "code", "(IIII)Z"⟩
abbrev cX5_data : ByteArray := prog_7_method_5_code
def yX5_data : MethodName := ⟨RX5, "data", "(II)Z"⟩
abbrev cX5_bound : ByteArray := prog_7_method_6_code
def yX5_bound : MethodName := ⟨RX5, "bound", "(II)Z"⟩
abbrev cX5_setting : ByteArray := prog_7_method_7_code
def yX5_setting : MethodName := ⟨RX5, "setting", "(II)I"⟩
abbrev cX5_areSettings : ByteArray := prog_7_method_8_code
def yX5_areSettings : MethodName := ⟨RX5, "areSettings", "(I)Z"⟩
abbrev cX5_isSeed : ByteArray := prog_7_method_9_code
def yX5_isSeed : MethodName := ⟨RX5, "isSeed", "(I)Z"⟩
abbrev cX5_areTicks : ByteArray := prog_7_method_10_code
def yX5_areTicks : MethodName := ⟨RX5, "areTicks", "(I)Z"⟩
abbrev cX5_isRun : ByteArray := prog_7_method_11_code
def yX5_isRun : MethodName := ⟨RX5, "isRun", "(I)Z"⟩
abbrev cX5_step : ByteArray := prog_7_method_12_code
def yX5_step : MethodName := ⟨RX5, "step", "(IIIII)I"⟩
abbrev cX5_goes : ByteArray := prog_7_method_13_code
def yX5_goes : MethodName := ⟨RX5, "goes", "(IIIIII)V"⟩
abbrev cX5_takes : ByteArray := prog_7_method_14_code
def yX5_takes : MethodName := ⟨RX5, "takes", "(II)V"⟩
abbrev cX5_run : ByteArray := prog_7_method_15_code
def yX5_run : MethodName := ⟨RX5, "run", "(IIII)I"⟩
abbrev cX5_fork : ByteArray := prog_7_method_16_code
def yX5_fork : MethodName := ⟨RX5, "fork", "(IIII)I"⟩
abbrev cX5_isOtherWord : ByteArray := prog_7_method_17_code
def yX5_isOtherWord : MethodName := ⟨RX5, "isOtherWord", "(II)Z"⟩
abbrev cX5_isCodeOf : ByteArray := prog_7_method_18_code
def yX5_isCodeOf : MethodName := ⟨RX5, "isCodeOf", "(II)Z"⟩
abbrev cX5_isStale : ByteArray := prog_7_method_19_code
def yX5_isStale : MethodName := ⟨RX5, "isStale", "(I)Z"⟩
abbrev cX5_of : ByteArray := prog_7_method_20_code
def yX5_of : MethodName := ⟨RX5, "of", "(II)I"⟩
abbrev cX5_clock : ByteArray := prog_7_method_21_code
def yX5_clock : MethodName := ⟨RX5, "clock", "()I"⟩
abbrev cX5_runs : ByteArray := prog_7_method_22_code
def yX5_runs : MethodName := ⟨RX5, "runs", "()I"⟩
abbrev cX5_again : ByteArray := prog_7_method_23_code
def yX5_again : MethodName := ⟨RX5, "again", "(I)I"⟩
abbrev cX5_loose : ByteArray := prog_7_method_24_code
def yX5_loose : MethodName := ⟨RX5, "loose", "(I)I"⟩
abbrev cX5_savedBy : ByteArray := prog_7_method_25_code
def yX5_savedBy : MethodName := ⟨RX5, "savedBy", "(IIII)I"⟩
abbrev cX5_saved : ByteArray := prog_7_method_26_code
def yX5_saved : MethodName := ⟨RX5, "saved", "(IIII)I"⟩
abbrev cX5_isLikeCode : ByteArray := prog_7_method_27_code
def yX5_isLikeCode : MethodName := ⟨RX5, "isLikeCode", "(II)Z"⟩
abbrev cX5_isLike : ByteArray := prog_7_method_28_code
def yX5_isLike : MethodName := ⟨RX5, "isLike", "(II)Z"⟩
abbrev cX5_mayBe : ByteArray := prog_7_method_29_code
def yX5_mayBe : MethodName := ⟨RX5, "mayBe", "(II)Z"⟩
abbrev cX5_isLeast : ByteArray := prog_7_method_30_code
def yX5_isLeast : MethodName := ⟨RX5, "isLeast", "(II)Z"⟩
abbrev cX5_isPair : ByteArray := prog_7_method_31_code
def yX5_isPair : MethodName := ⟨RX5, "isPair", "(IIIIII)Z"⟩
abbrev cX5_findPairs : ByteArray := prog_7_method_32_code
def yX5_findPairs : MethodName := ⟨RX5, "findPairs", "(IIII)V"⟩
abbrev cX5_canPair : ByteArray := prog_7_method_33_code
def yX5_canPair : MethodName := ⟨RX5, "canPair", "(IIII)Z"⟩
abbrev cX5_pairs : ByteArray := prog_7_method_34_code
def yX5_pairs : MethodName := ⟨RX5, "pairs", "(IIIII)I"⟩
abbrev cX5_pair : ByteArray := prog_7_method_35_code
def yX5_pair : MethodName := ⟨RX5, "pair", "(IIIIII)I"⟩
abbrev cX5_overs : ByteArray := prog_7_method_36_code
def yX5_overs : MethodName := ⟨RX5, "overs", "(II)J"⟩
abbrev cX5_sureOf : ByteArray := prog_7_method_37_code
def yX5_sureOf : MethodName := ⟨RX5, "sureOf", "(IIIIJ)I"⟩
abbrev cX5_sure : ByteArray := prog_7_method_38_code
def yX5_sure : MethodName := ⟨RX5, "sure", "(IIIIII)I"⟩
abbrev cX5_best : ByteArray := prog_7_method_39_code
def yX5_best : MethodName := ⟨RX5, "best", "(III)I"⟩
abbrev cX5_settingsAt : ByteArray := prog_7_method_40_code
def yX5_settingsAt : MethodName := ⟨RX5, "settingsAt", "(I)I"⟩
abbrev cX5_grid : ByteArray := prog_7_method_41_code
def yX5_grid : MethodName := ⟨RX5, "grid", "()I"⟩
abbrev cX5_canHole : ByteArray := prog_7_method_42_code
def yX5_canHole : MethodName := ⟨RX5, "canHole", "(III)Z"⟩
abbrev cX5_holes : ByteArray := prog_7_method_43_code
def yX5_holes : MethodName := ⟨RX5, "holes", "(III)I"⟩
abbrev cX5_hole : ByteArray := prog_7_method_44_code
def yX5_hole : MethodName := ⟨RX5, "hole", "(IIIII)I"⟩
abbrev cX5_idle : ByteArray := prog_7_method_45_code
def yX5_idle : MethodName := ⟨RX5, "idle", "()I"⟩
abbrev cX5_claim : ByteArray := prog_7_method_46_code
def yX5_claim : MethodName := ⟨RX5, "claim", "(I)I"⟩
abbrev cX5_claimed : ByteArray := prog_7_method_47_code
def yX5_claimed : MethodName := ⟨RX5, "claimed", "(II)I"⟩
def RJ6 : String := "java/lang/Integer"
def TJ6 : u_T := fun k => match k with
  | _ => ("", "", "", false)
def tyJ6 : Nat → FieldType := fun k => match k with
  | _ => .int
abbrev wsJ60 : List Cond := u_ws RJ6 TJ6 0
theorem nmJ6 : ∀ a, a < 0 → ∀ b, b < 0 → a ≠ b → (TJ6 a).2.1 ≠ (TJ6 b).2.1 := by decide +kernel
theorem tyJ6_ok : ∀ k, k < 0 → parseFieldDescriptor (TJ6 k).2.2.1 = some (tyJ6 k) := by decide +kernel
abbrev cJ6_bitCount_0f7a4 : ByteArray := prog_8_method_49_code
def yJ6_bitCount_0f7a4 : MethodName := ⟨RJ6, "bitCount", "(I)I"⟩
def RJ9 : String := "java/lang/Math"
def TJ9 : u_T := fun k => match k with
  | _ => ("", "", "", false)
def tyJ9 : Nat → FieldType := fun k => match k with
  | _ => .int
abbrev wsJ90 : List Cond := u_ws RJ9 TJ9 0
theorem nmJ9 : ∀ a, a < 0 → ∀ b, b < 0 → a ≠ b → (TJ9 a).2.1 ≠ (TJ9 b).2.1 := by decide +kernel
theorem tyJ9_ok : ∀ k, k < 0 → parseFieldDescriptor (TJ9 k).2.2.1 = some (tyJ9 k) := by decide +kernel
abbrev cJ9_min_7cf53 : ByteArray := prog_9_method_69_code
def yJ9_min_7cf53 : MethodName := ⟨RJ9, "min", "(II)I"⟩
def RL : String := "TrialBookLaw"
abbrev cL_law : ByteArray := code
def yL_law : MethodName := ⟨RL, "law", "([I)Z"⟩
def wsX0_init : List Cond := .code yX0_init cX0_init 6 none :: ([.methodLink RX0 3 objectInit, .instanceMethod objectInit, .code objectInit ⟨#[0xb1]⟩ 1 none, .constantLong RX0 9 (4294967295), .fieldLink RX0 11 "TrialBook$Code" "count" "I", .fieldLink RX0 17 "TrialBook$Code" "bytes" "J"] ++ wsX00)
def wsX0_stepAt : List Cond := .code yX0_stepAt cX0_stepAt 2 (some .int) :: ([.fieldLink RX0 17 "TrialBook$Code" "bytes" "J", .fieldLink RX0 11 "TrialBook$Code" "count" "I"] ++ wsX00)
def wsX0_isLike : List Cond := .code yX0_isLike cX0_isLike 2 (some .boolean) :: ([.fieldLink RX0 11 "TrialBook$Code" "count" "I", .fieldLink RX0 17 "TrialBook$Code" "bytes" "J"] ++ wsX00)
def wsX1_init : List Cond := .code yX1_init cX1_init 1 none :: ([.methodLink RX1 3 objectInit, .instanceMethod objectInit, .code objectInit ⟨#[0xb1]⟩ 1 none, .arrayClass .int, .fieldLink RX1 9 "TrialBook$Notes" "values" "[I"] ++ wsX10)
def wsX1_addWord : List Cond := .code yX1_addWord cX1_addWord 3 none :: ([.fieldLink RX1 9 "TrialBook$Notes" "values" "[I", .fieldLink RX1 15 "TrialBook$Notes" "words" "I"] ++ wsX10)
def wsX4_isIn : List Cond := .code yX4_isIn cX4_isIn 2 (some .boolean) :: ([])
def wsX1_addAll : List Cond := .code yX1_addAll cX1_addAll 3 none :: ([.fieldLink RX1 19 "TrialBook$Notes" "settings" "I", .fieldLink RX1 22 "TrialBook$Notes" "seed" "Z", .fieldLink RX1 26 "TrialBook$Notes" "clock" "Z", .fieldLink RX1 9 "TrialBook$Notes" "values" "[I", .fieldLink RX1 15 "TrialBook$Notes" "words" "I", .static yX4_isIn, .initialized RX4, .code yX4_isIn cX4_isIn 2 (some .boolean), .methodLink RX1 33 yX1_addWord, .instanceMethod yX1_addWord, .selects RX1 yX1_addWord yX1_addWord, .initialized RX1, .code yX1_addWord cX1_addWord 3 none] ++ wsX10)
def wsX3_wordAt : List Cond := .code yX3_wordAt cX3_wordAt 2 (some .int) :: ([.fieldLink RX3 9 "TrialBook$World" "words" "[I"] ++ wsX30)
def wsX1_changedWords : List Cond := .code yX1_changedWords cX1_changedWords 4 (some .int) :: ([.fieldLink RX1 9 "TrialBook$Notes" "values" "[I", .fieldLink RX1 15 "TrialBook$Notes" "words" "I", .static yX4_isIn, .initialized RX4, .code yX4_isIn cX4_isIn 2 (some .boolean), .methodLink RX1 37 yX3_wordAt, .instanceMethod yX3_wordAt, .selects RX3 yX3_wordAt yX3_wordAt, .initialized RX3, .code yX3_wordAt cX3_wordAt 2 (some .int), .fieldLink RX3 9 "TrialBook$World" "words" "[I"] ++ wsX10 ++ wsX30)
def wsX1_agreesOnSharedWords : List Cond := .code yX1_agreesOnSharedWords cX1_agreesOnSharedWords 4 (some .boolean) :: ([.fieldLink RX1 15 "TrialBook$Notes" "words" "I", .fieldLink RX1 9 "TrialBook$Notes" "values" "[I", .static yX4_isIn, .initialized RX4, .code yX4_isIn cX4_isIn 2 (some .boolean)] ++ wsX10)
def wsX2_init : List Cond := .code yX2_init cX2_init 6 none :: ([.methodLink RX2 3 objectInit, .instanceMethod objectInit, .code objectInit ⟨#[0xb1]⟩ 1 none, .classLink RX2 9 RX1, .instantiable RX1 5, .initialized RX1, .fieldLink RX2 12 "TrialBook$Run" "read" "LTrialBook$Notes;", .arrayClass .int, .fieldLink RX2 18 "TrialBook$Run" "rows" "[I", .fieldLink RX2 22 "TrialBook$Run" "origin" "I", .fieldLink RX2 26 "TrialBook$Run" "originTick" "I", .fieldLink RX2 29 "TrialBook$Run" "codeNumber" "I", .fieldLink RX2 32 "TrialBook$Run" "code" "LTrialBook$Code;", .fieldLink RX2 36 "TrialBook$Run" "settings" "I", .fieldLink RX2 39 "TrialBook$Run" "seed" "I", .fieldLink RX2 42 "TrialBook$Run" "ticks" "I", .instanceMethod yX1_init, .code yX1_init cX1_init 1 none, .methodLink RX1 3 objectInit, .fieldLink RX1 9 "TrialBook$Notes" "values" "[I"] ++ wsX10 ++ wsX20)
def wsX2_comeOf : List Cond := .code yX2_comeOf cX2_comeOf 3 none :: ([.fieldLink RX2 22 "TrialBook$Run" "origin" "I", .fieldLink RX2 26 "TrialBook$Run" "originTick" "I"] ++ wsX20)
def wsX2_rowAt : List Cond := .code yX2_rowAt cX2_rowAt 2 (some .int) :: ([.fieldLink RX2 49 "TrialBook$Run" "rowCount" "I", .fieldLink RX2 18 "TrialBook$Run" "rows" "[I"] ++ wsX20)
def wsX2_takeRows : List Cond := .code yX2_takeRows cX2_takeRows 4 none :: ([.fieldLink RX2 18 "TrialBook$Run" "rows" "[I", .fieldLink RX2 49 "TrialBook$Run" "rowCount" "I", .methodLink RX2 45 yX2_rowAt, .instanceMethod yX2_rowAt, .selects RX2 yX2_rowAt yX2_rowAt, .initialized RX2, .code yX2_rowAt cX2_rowAt 2 (some .int)] ++ wsX20)
def wsX2_isFork : List Cond := .code yX2_isFork cX2_isFork 1 (some .boolean) :: ([.fieldLink RX2 22 "TrialBook$Run" "origin" "I"] ++ wsX20)
def wsX2_lastRow : List Cond := .code yX2_lastRow cX2_lastRow 1 (some .int) :: ([.fieldLink RX2 49 "TrialBook$Run" "rowCount" "I", .methodLink RX2 45 yX2_rowAt, .instanceMethod yX2_rowAt, .selects RX2 yX2_rowAt yX2_rowAt, .initialized RX2, .code yX2_rowAt cX2_rowAt 2 (some .int), .fieldLink RX2 18 "TrialBook$Run" "rows" "[I"] ++ wsX20)
def wsX4_settingOf : List Cond := .code yX4_settingOf cX4_settingOf 2 (some .int) :: ([])
def wsX2_readSetting : List Cond := .code yX2_readSetting cX2_readSetting 3 (some .int) :: ([.fieldLink RX2 12 "TrialBook$Run" "read" "LTrialBook$Notes;", .fieldLink RX2 94 "TrialBook$Notes" "settings" "I", .fieldLink RX2 36 "TrialBook$Run" "settings" "I", .static yX4_settingOf, .initialized RX4, .code yX4_settingOf cX4_settingOf 2 (some .int)] ++ wsX20 ++ wsX10)
def wsX4_remainder : List Cond := .code yX4_remainder cX4_remainder 2 (some .int) :: ([])
def wsX2_readSeed : List Cond := .code yX2_readSeed cX2_readSeed 1 (some .int) :: ([.fieldLink RX2 12 "TrialBook$Run" "read" "LTrialBook$Notes;", .fieldLink RX2 98 "TrialBook$Notes" "seed" "Z", .fieldLink RX2 39 "TrialBook$Run" "seed" "I"] ++ wsX20 ++ wsX10)
def wsX2_readWord : List Cond := .code yX2_readWord cX2_readWord 4 (some .int) :: ([.fieldLink RX2 12 "TrialBook$Run" "read" "LTrialBook$Notes;", .methodLink RX2 100 yX3_wordAt, .instanceMethod yX3_wordAt, .selects RX3 yX3_wordAt yX3_wordAt, .initialized RX3, .code yX3_wordAt cX3_wordAt 2 (some .int), .fieldLink RX3 9 "TrialBook$World" "words" "[I", .methodLink RX2 105 yX1_addWord, .instanceMethod yX1_addWord, .selects RX1 yX1_addWord yX1_addWord, .initialized RX1, .code yX1_addWord cX1_addWord 3 none, .fieldLink RX1 9 "TrialBook$Notes" "values" "[I", .fieldLink RX1 15 "TrialBook$Notes" "words" "I"] ++ wsX20 ++ wsX30 ++ wsX10)
def wsX2_readClock : List Cond := .code yX2_readClock cX2_readClock 2 (some .int) :: ([.fieldLink RX2 12 "TrialBook$Run" "read" "LTrialBook$Notes;", .fieldLink RX2 109 "TrialBook$Notes" "clock" "Z", .fieldLink RX2 112 "TrialBook$World" "clock" "I"] ++ wsX20 ++ wsX10 ++ wsX30)
def wsX2_afterStep_r1 : List Cond := [Cond.methodLink RX2 72 yX2_readSetting, Cond.instanceMethod yX2_readSetting, Cond.selects RX2 yX2_readSetting yX2_readSetting, Cond.initialized RX2, Cond.code yX2_readSetting cX2_readSetting 3 (some .int), Cond.fieldLink RX2 12 "TrialBook$Run" "read" "LTrialBook$Notes;", Cond.fieldLink RX2 94 "TrialBook$Notes" "settings" "I", Cond.fieldLink RX2 36 "TrialBook$Run" "settings" "I", Cond.static yX4_settingOf, Cond.initialized RX4, Cond.code yX4_settingOf cX4_settingOf 2 (some .int), Cond.methodLink RX2 83 yX2_readSeed, Cond.instanceMethod yX2_readSeed, Cond.selects RX2 yX2_readSeed yX2_readSeed, Cond.code yX2_readSeed cX2_readSeed 1 (some .int), Cond.fieldLink RX2 98 "TrialBook$Notes" "seed" "Z", Cond.fieldLink RX2 39 "TrialBook$Run" "seed" "I", Cond.methodLink RX2 86 yX2_readWord, Cond.instanceMethod yX2_readWord, Cond.selects RX2 yX2_readWord yX2_readWord, Cond.code yX2_readWord cX2_readWord 4 (some .int), Cond.methodLink RX2 100 yX3_wordAt, Cond.instanceMethod yX3_wordAt, Cond.selects RX3 yX3_wordAt yX3_wordAt]
def wsX2_afterStep_r2 : List Cond := [Cond.initialized RX3, Cond.code yX3_wordAt cX3_wordAt 2 (some .int), Cond.fieldLink RX3 9 "TrialBook$World" "words" "[I", Cond.methodLink RX2 105 yX1_addWord, Cond.instanceMethod yX1_addWord, Cond.selects RX1 yX1_addWord yX1_addWord, Cond.initialized RX1, Cond.code yX1_addWord cX1_addWord 3 none, Cond.fieldLink RX1 9 "TrialBook$Notes" "values" "[I", Cond.fieldLink RX1 15 "TrialBook$Notes" "words" "I", Cond.methodLink RX2 90 yX2_readClock, Cond.instanceMethod yX2_readClock, Cond.selects RX2 yX2_readClock yX2_readClock, Cond.code yX2_readClock cX2_readClock 2 (some .int), Cond.fieldLink RX2 109 "TrialBook$Notes" "clock" "Z", Cond.fieldLink RX2 112 "TrialBook$World" "clock" "I", Cond.static yX4_remainder, Cond.code yX4_remainder cX4_remainder 2 (some .int)]
def wsX2_afterStep : List Cond := .code yX2_afterStep cX2_afterStep 6 (some .int) :: ((wsX2_afterStep_r1 ++ wsX2_afterStep_r2) ++ wsX20 ++ wsX10 ++ wsX30)
def wsX2_afterTick_r1 : List Cond := [Cond.fieldLink RX2 32 "TrialBook$Run" "code" "LTrialBook$Code;", Cond.fieldLink RX2 64 "TrialBook$Code" "count" "I", Cond.fieldLink RX2 60 "TrialBook$Run" "broken" "Z", Cond.methodLink RX2 69 yX0_stepAt, Cond.instanceMethod yX0_stepAt, Cond.selects RX0 yX0_stepAt yX0_stepAt, Cond.initialized RX0, Cond.code yX0_stepAt cX0_stepAt 2 (some .int), Cond.fieldLink RX0 17 "TrialBook$Code" "bytes" "J", Cond.fieldLink RX0 11 "TrialBook$Code" "count" "I", Cond.methodLink RX2 72 yX2_readSetting, Cond.instanceMethod yX2_readSetting, Cond.selects RX2 yX2_readSetting yX2_readSetting, Cond.initialized RX2, Cond.code yX2_readSetting cX2_readSetting 3 (some .int), Cond.fieldLink RX2 12 "TrialBook$Run" "read" "LTrialBook$Notes;", Cond.fieldLink RX2 94 "TrialBook$Notes" "settings" "I", Cond.fieldLink RX2 36 "TrialBook$Run" "settings" "I", Cond.static yX4_settingOf, Cond.initialized RX4, Cond.code yX4_settingOf cX4_settingOf 2 (some .int), Cond.static yX4_remainder, Cond.code yX4_remainder cX4_remainder 2 (some .int), Cond.methodLink RX2 79 yX2_afterStep]
def wsX2_afterTick_r2 : List Cond := [Cond.instanceMethod yX2_afterStep, Cond.selects RX2 yX2_afterStep yX2_afterStep, Cond.code yX2_afterStep cX2_afterStep 6 (some .int), Cond.methodLink RX2 83 yX2_readSeed, Cond.instanceMethod yX2_readSeed, Cond.selects RX2 yX2_readSeed yX2_readSeed, Cond.code yX2_readSeed cX2_readSeed 1 (some .int), Cond.fieldLink RX2 98 "TrialBook$Notes" "seed" "Z", Cond.fieldLink RX2 39 "TrialBook$Run" "seed" "I", Cond.methodLink RX2 86 yX2_readWord, Cond.instanceMethod yX2_readWord, Cond.selects RX2 yX2_readWord yX2_readWord, Cond.code yX2_readWord cX2_readWord 4 (some .int), Cond.methodLink RX2 100 yX3_wordAt, Cond.instanceMethod yX3_wordAt, Cond.selects RX3 yX3_wordAt yX3_wordAt, Cond.initialized RX3, Cond.code yX3_wordAt cX3_wordAt 2 (some .int), Cond.fieldLink RX3 9 "TrialBook$World" "words" "[I", Cond.methodLink RX2 105 yX1_addWord, Cond.instanceMethod yX1_addWord, Cond.selects RX1 yX1_addWord yX1_addWord, Cond.initialized RX1, Cond.code yX1_addWord cX1_addWord 3 none]
def wsX2_afterTick_r3 : List Cond := [Cond.fieldLink RX1 9 "TrialBook$Notes" "values" "[I", Cond.fieldLink RX1 15 "TrialBook$Notes" "words" "I", Cond.methodLink RX2 90 yX2_readClock, Cond.instanceMethod yX2_readClock, Cond.selects RX2 yX2_readClock yX2_readClock, Cond.code yX2_readClock cX2_readClock 2 (some .int), Cond.fieldLink RX2 109 "TrialBook$Notes" "clock" "Z", Cond.fieldLink RX2 112 "TrialBook$World" "clock" "I"]
def wsX2_afterTick : List Cond := .code yX2_afterTick cX2_afterTick 9 (some .int) :: ((wsX2_afterTick_r1 ++ (wsX2_afterTick_r2 ++ wsX2_afterTick_r3)) ++ wsX20 ++ wsX00 ++ wsX10 ++ wsX30)
def wsX2_doTicks_r1 : List Cond := [Cond.fieldLink RX2 49 "TrialBook$Run" "rowCount" "I", Cond.fieldLink RX2 42 "TrialBook$Run" "ticks" "I", Cond.fieldLink RX2 18 "TrialBook$Run" "rows" "[I", Cond.fieldLink RX2 60 "TrialBook$Run" "broken" "Z", Cond.methodLink RX2 52 yX2_lastRow, Cond.instanceMethod yX2_lastRow, Cond.selects RX2 yX2_lastRow yX2_lastRow, Cond.initialized RX2, Cond.code yX2_lastRow cX2_lastRow 1 (some .int), Cond.methodLink RX2 45 yX2_rowAt, Cond.instanceMethod yX2_rowAt, Cond.selects RX2 yX2_rowAt yX2_rowAt, Cond.code yX2_rowAt cX2_rowAt 2 (some .int), Cond.methodLink RX2 56 yX2_afterTick, Cond.instanceMethod yX2_afterTick, Cond.selects RX2 yX2_afterTick yX2_afterTick, Cond.code yX2_afterTick cX2_afterTick 9 (some .int), Cond.fieldLink RX2 32 "TrialBook$Run" "code" "LTrialBook$Code;", Cond.fieldLink RX2 64 "TrialBook$Code" "count" "I", Cond.methodLink RX2 69 yX0_stepAt, Cond.instanceMethod yX0_stepAt, Cond.selects RX0 yX0_stepAt yX0_stepAt, Cond.initialized RX0, Cond.code yX0_stepAt cX0_stepAt 2 (some .int)]
def wsX2_doTicks_r2 : List Cond := [Cond.fieldLink RX0 17 "TrialBook$Code" "bytes" "J", Cond.fieldLink RX0 11 "TrialBook$Code" "count" "I", Cond.methodLink RX2 72 yX2_readSetting, Cond.instanceMethod yX2_readSetting, Cond.selects RX2 yX2_readSetting yX2_readSetting, Cond.code yX2_readSetting cX2_readSetting 3 (some .int), Cond.fieldLink RX2 12 "TrialBook$Run" "read" "LTrialBook$Notes;", Cond.fieldLink RX2 94 "TrialBook$Notes" "settings" "I", Cond.fieldLink RX2 36 "TrialBook$Run" "settings" "I", Cond.static yX4_settingOf, Cond.initialized RX4, Cond.code yX4_settingOf cX4_settingOf 2 (some .int), Cond.static yX4_remainder, Cond.code yX4_remainder cX4_remainder 2 (some .int), Cond.methodLink RX2 79 yX2_afterStep, Cond.instanceMethod yX2_afterStep, Cond.selects RX2 yX2_afterStep yX2_afterStep, Cond.code yX2_afterStep cX2_afterStep 6 (some .int), Cond.methodLink RX2 83 yX2_readSeed, Cond.instanceMethod yX2_readSeed, Cond.selects RX2 yX2_readSeed yX2_readSeed, Cond.code yX2_readSeed cX2_readSeed 1 (some .int), Cond.fieldLink RX2 98 "TrialBook$Notes" "seed" "Z", Cond.fieldLink RX2 39 "TrialBook$Run" "seed" "I"]
def wsX2_doTicks_r3 : List Cond := [Cond.methodLink RX2 86 yX2_readWord, Cond.instanceMethod yX2_readWord, Cond.selects RX2 yX2_readWord yX2_readWord, Cond.code yX2_readWord cX2_readWord 4 (some .int), Cond.methodLink RX2 100 yX3_wordAt, Cond.instanceMethod yX3_wordAt, Cond.selects RX3 yX3_wordAt yX3_wordAt, Cond.initialized RX3, Cond.code yX3_wordAt cX3_wordAt 2 (some .int), Cond.fieldLink RX3 9 "TrialBook$World" "words" "[I", Cond.methodLink RX2 105 yX1_addWord, Cond.instanceMethod yX1_addWord, Cond.selects RX1 yX1_addWord yX1_addWord, Cond.initialized RX1, Cond.code yX1_addWord cX1_addWord 3 none, Cond.fieldLink RX1 9 "TrialBook$Notes" "values" "[I", Cond.fieldLink RX1 15 "TrialBook$Notes" "words" "I", Cond.methodLink RX2 90 yX2_readClock, Cond.instanceMethod yX2_readClock, Cond.selects RX2 yX2_readClock yX2_readClock, Cond.code yX2_readClock cX2_readClock 2 (some .int), Cond.fieldLink RX2 109 "TrialBook$Notes" "clock" "Z", Cond.fieldLink RX2 112 "TrialBook$World" "clock" "I"]
def wsX2_doTicks : List Cond := .code yX2_doTicks cX2_doTicks 4 none :: ((wsX2_doTicks_r1 ++ (wsX2_doTicks_r2 ++ wsX2_doTicks_r3)) ++ wsX20 ++ wsX00 ++ wsX10 ++ wsX30)
def wsX2_firstOtherTick : List Cond := .code yX2_firstOtherTick cX2_firstOtherTick 4 (some .int) :: ([.fieldLink RX2 49 "TrialBook$Run" "rowCount" "I", .methodLink RX2 114 Lib.Math.min.name, .static Lib.Math.min.name, .initialized "java/lang/Math", .code Lib.Math.min.name Lib.Math.min.code 2 (some .int), .fieldLink RX2 42 "TrialBook$Run" "ticks" "I", .methodLink RX2 45 yX2_rowAt, .instanceMethod yX2_rowAt, .selects RX2 yX2_rowAt yX2_rowAt, .initialized RX2, .code yX2_rowAt cX2_rowAt 2 (some .int), .fieldLink RX2 18 "TrialBook$Run" "rows" "[I"] ++ wsX20)
def wsX2_isComparable : List Cond := .code yX2_isComparable cX2_isComparable 1 (some .boolean) :: ([.fieldLink RX2 60 "TrialBook$Run" "broken" "Z", .fieldLink RX2 12 "TrialBook$Run" "read" "LTrialBook$Notes;", .fieldLink RX2 109 "TrialBook$Notes" "clock" "Z", .methodLink RX2 119 yX2_isFork, .instanceMethod yX2_isFork, .selects RX2 yX2_isFork yX2_isFork, .initialized RX2, .code yX2_isFork cX2_isFork 1 (some .boolean), .fieldLink RX2 22 "TrialBook$Run" "origin" "I"] ++ wsX20 ++ wsX10)
def wsX2_isLike : List Cond := .code yX2_isLike cX2_isLike 2 (some .boolean) :: ([.fieldLink RX2 32 "TrialBook$Run" "code" "LTrialBook$Code;", .fieldLink RX2 36 "TrialBook$Run" "settings" "I", .fieldLink RX2 39 "TrialBook$Run" "seed" "I", .fieldLink RX2 42 "TrialBook$Run" "ticks" "I", .fieldLink RX2 12 "TrialBook$Run" "read" "LTrialBook$Notes;", .fieldLink RX2 127 "TrialBook$Notes" "words" "I", .methodLink RX2 123 yX0_isLike, .instanceMethod yX0_isLike, .selects RX0 yX0_isLike yX0_isLike, .initialized RX0, .code yX0_isLike cX0_isLike 2 (some .boolean), .fieldLink RX0 11 "TrialBook$Code" "count" "I", .fieldLink RX0 17 "TrialBook$Code" "bytes" "J", .methodLink RX2 130 yX1_agreesOnSharedWords, .instanceMethod yX1_agreesOnSharedWords, .selects RX1 yX1_agreesOnSharedWords yX1_agreesOnSharedWords, .initialized RX1, .code yX1_agreesOnSharedWords cX1_agreesOnSharedWords 4 (some .boolean), .fieldLink RX1 15 "TrialBook$Notes" "words" "I", .fieldLink RX1 9 "TrialBook$Notes" "values" "[I", .static yX4_isIn, .initialized RX4, .code yX4_isIn cX4_isIn 2 (some .boolean)] ++ wsX20 ++ wsX10 ++ wsX00)
def wsX2_pairsWith : List Cond := .code yX2_pairsWith cX2_pairsWith 4 (some .boolean) :: ([.fieldLink RX2 32 "TrialBook$Run" "code" "LTrialBook$Code;", .fieldLink RX2 39 "TrialBook$Run" "seed" "I", .fieldLink RX2 36 "TrialBook$Run" "settings" "I", .fieldLink RX2 12 "TrialBook$Run" "read" "LTrialBook$Notes;", .methodLink RX2 123 yX0_isLike, .instanceMethod yX0_isLike, .selects RX0 yX0_isLike yX0_isLike, .initialized RX0, .code yX0_isLike cX0_isLike 2 (some .boolean), .fieldLink RX0 11 "TrialBook$Code" "count" "I", .fieldLink RX0 17 "TrialBook$Code" "bytes" "J", .methodLink RX2 130 yX1_agreesOnSharedWords, .instanceMethod yX1_agreesOnSharedWords, .selects RX1 yX1_agreesOnSharedWords yX1_agreesOnSharedWords, .initialized RX1, .code yX1_agreesOnSharedWords cX1_agreesOnSharedWords 4 (some .boolean), .fieldLink RX1 15 "TrialBook$Notes" "words" "I", .fieldLink RX1 9 "TrialBook$Notes" "values" "[I", .static yX4_isIn, .initialized RX4, .code yX4_isIn cX4_isIn 2 (some .boolean)] ++ wsX20 ++ wsX00 ++ wsX10)
def wsX2_isUsable_r1 : List Cond := [Cond.fieldLink RX2 42 "TrialBook$Run" "ticks" "I", Cond.fieldLink RX2 32 "TrialBook$Run" "code" "LTrialBook$Code;", Cond.fieldLink RX2 12 "TrialBook$Run" "read" "LTrialBook$Notes;", Cond.methodLink RX2 134 yX2_isComparable, Cond.instanceMethod yX2_isComparable, Cond.selects RX2 yX2_isComparable yX2_isComparable, Cond.initialized RX2, Cond.code yX2_isComparable cX2_isComparable 1 (some .boolean), Cond.fieldLink RX2 60 "TrialBook$Run" "broken" "Z", Cond.fieldLink RX2 109 "TrialBook$Notes" "clock" "Z", Cond.methodLink RX2 119 yX2_isFork, Cond.instanceMethod yX2_isFork, Cond.selects RX2 yX2_isFork yX2_isFork, Cond.code yX2_isFork cX2_isFork 1 (some .boolean), Cond.fieldLink RX2 22 "TrialBook$Run" "origin" "I", Cond.methodLink RX2 123 yX0_isLike, Cond.instanceMethod yX0_isLike, Cond.selects RX0 yX0_isLike yX0_isLike, Cond.initialized RX0, Cond.code yX0_isLike cX0_isLike 2 (some .boolean), Cond.fieldLink RX0 11 "TrialBook$Code" "count" "I", Cond.fieldLink RX0 17 "TrialBook$Code" "bytes" "J", Cond.methodLink RX2 137 yX1_changedWords, Cond.instanceMethod yX1_changedWords]
def wsX2_isUsable_r2 : List Cond := [Cond.selects RX1 yX1_changedWords yX1_changedWords, Cond.initialized RX1, Cond.code yX1_changedWords cX1_changedWords 4 (some .int), Cond.fieldLink RX1 9 "TrialBook$Notes" "values" "[I", Cond.fieldLink RX1 15 "TrialBook$Notes" "words" "I", Cond.static yX4_isIn, Cond.initialized RX4, Cond.code yX4_isIn cX4_isIn 2 (some .boolean), Cond.methodLink RX1 37 yX3_wordAt, Cond.instanceMethod yX3_wordAt, Cond.selects RX3 yX3_wordAt yX3_wordAt, Cond.initialized RX3, Cond.code yX3_wordAt cX3_wordAt 2 (some .int), Cond.fieldLink RX3 9 "TrialBook$World" "words" "[I"]
def wsX2_isUsable : List Cond := .code yX2_isUsable cX2_isUsable 4 (some .boolean) :: ((wsX2_isUsable_r1 ++ wsX2_isUsable_r2) ++ wsX20 ++ wsX10 ++ wsX00 ++ wsX30)
def wsX2_fitsSettings : List Cond := .code yX2_fitsSettings cX2_fitsSettings 3 (some .boolean) :: ([.fieldLink RX2 12 "TrialBook$Run" "read" "LTrialBook$Notes;", .fieldLink RX2 94 "TrialBook$Notes" "settings" "I", .fieldLink RX2 36 "TrialBook$Run" "settings" "I", .static yX4_isIn, .initialized RX4, .code yX4_isIn cX4_isIn 2 (some .boolean), .static yX4_settingOf, .code yX4_settingOf cX4_settingOf 2 (some .int)] ++ wsX20 ++ wsX10)
def wsX2_fitsSeed : List Cond := .code yX2_fitsSeed cX2_fitsSeed 2 (some .boolean) :: ([.fieldLink RX2 12 "TrialBook$Run" "read" "LTrialBook$Notes;", .fieldLink RX2 98 "TrialBook$Notes" "seed" "Z", .fieldLink RX2 39 "TrialBook$Run" "seed" "I"] ++ wsX20 ++ wsX10)
def wsX2_gridSeeds : List Cond := .code yX2_gridSeeds cX2_gridSeeds 1 (some .int) :: ([.fieldLink RX2 12 "TrialBook$Run" "read" "LTrialBook$Notes;", .fieldLink RX2 98 "TrialBook$Notes" "seed" "Z", .fieldLink RX2 39 "TrialBook$Run" "seed" "I"] ++ wsX20 ++ wsX10)
def wsX3_init : List Cond := .code yX3_init cX3_init 1 none :: ([.methodLink RX3 3 objectInit, .instanceMethod objectInit, .code objectInit ⟨#[0xb1]⟩ 1 none, .arrayClass .int, .fieldLink RX3 9 "TrialBook$World" "words" "[I"] ++ wsX30)
def wsX3_setWord : List Cond := .code yX3_setWord cX3_setWord 3 (some .boolean) :: ([.fieldLink RX3 9 "TrialBook$World" "words" "[I"] ++ wsX30)
def wsX4_init_r1 : List Cond := [Cond.methodLink RX4 1 objectInit, Cond.instanceMethod objectInit, Cond.code objectInit ⟨#[0xb1]⟩ 1 none, Cond.classLink RX4 9 RX0, Cond.fieldLink RX4 11 "TrialBook" "codeRows" "[LTrialBook$Code;", Cond.arrayClass .int, Cond.fieldLink RX4 15 "TrialBook" "bounds" "[I", Cond.classLink RX4 19 RX3, Cond.instantiable RX3 2, Cond.initialized RX3, Cond.fieldLink RX4 22 "TrialBook" "world" "LTrialBook$World;", Cond.classLink RX4 26 RX2, Cond.fieldLink RX4 28 "TrialBook" "runRows" "[LTrialBook$Run;", Cond.fieldLink RX4 32 "TrialBook" "claimRuns" "[I", Cond.fieldLink RX4 35 "TrialBook" "claimRows" "[I", Cond.fieldLink RX4 38 "TrialBook" "fillers" "[LTrialBook$Run;", Cond.instantiable RX0 2, Cond.initialized RX0, Cond.instanceMethod yX3_init, Cond.code yX3_init cX3_init 1 none, Cond.methodLink RX3 3 objectInit, Cond.fieldLink RX3 9 "TrialBook$World" "words" "[I", Cond.methodLink RX4 41 yX0_init, Cond.instanceMethod yX0_init]
def wsX4_init_r2 : List Cond := [Cond.code yX0_init cX0_init 6 none, Cond.methodLink RX0 3 objectInit, Cond.constantLong RX0 9 (4294967295), Cond.fieldLink RX0 11 "TrialBook$Code" "count" "I", Cond.fieldLink RX0 17 "TrialBook$Code" "bytes" "J"]
def wsX4_init : List Cond := .code yX4_init cX4_init 2 none :: ((wsX4_init_r1 ++ wsX4_init_r2) ++ wsX40 ++ wsX30 ++ wsX00)
def wsX4_code : List Cond := .code yX4_code cX4_code 5 (some .boolean) :: ([.fieldLink RX4 11 "TrialBook" "codeRows" "[LTrialBook$Code;", .classLink RX4 9 RX0, .instantiable RX0 2, .initialized RX0, .methodLink RX4 41 yX0_init, .instanceMethod yX0_init, .code yX0_init cX0_init 6 none, .methodLink RX0 3 objectInit, .instanceMethod objectInit, .code objectInit ⟨#[0xb1]⟩ 1 none, .constantLong RX0 9 (4294967295), .fieldLink RX0 11 "TrialBook$Code" "count" "I", .fieldLink RX0 17 "TrialBook$Code" "bytes" "J"] ++ wsX40 ++ wsX00)
def wsX4_data : List Cond := .code yX4_data cX4_data 3 (some .boolean) :: ([.fieldLink RX4 22 "TrialBook" "world" "LTrialBook$World;", .methodLink RX4 44 yX3_setWord, .instanceMethod yX3_setWord, .selects RX3 yX3_setWord yX3_setWord, .initialized RX3, .code yX3_setWord cX3_setWord 3 (some .boolean), .fieldLink RX3 9 "TrialBook$World" "words" "[I"] ++ wsX40 ++ wsX30)
def wsX4_bound : List Cond := .code yX4_bound cX4_bound 3 (some .boolean) :: ([.fieldLink RX4 15 "TrialBook" "bounds" "[I"] ++ wsX40)
def wsX4_codeAt : List Cond := .code yX4_codeAt cX4_codeAt 2 (some (.object "TrialBook$Code")) :: ([.fieldLink RX4 11 "TrialBook" "codeRows" "[LTrialBook$Code;"] ++ wsX40)
def wsX4_isValue : List Cond := .code yX4_isValue cX4_isValue 1 (some .boolean) :: ([])
def wsX4_areSettings : List Cond := .code yX4_areSettings cX4_areSettings 2 (some .boolean) :: ([.constant RX4 272 (65536), .methodLink RX4 252 yX4_settingOf, .static yX4_settingOf, .initialized RX4, .code yX4_settingOf cX4_settingOf 2 (some .int), .methodLink RX4 249 yX4_isValue, .static yX4_isValue, .code yX4_isValue cX4_isValue 1 (some .boolean)])
def wsX4_isSeed : List Cond := .code yX4_isSeed cX4_isSeed 1 (some .boolean) :: ([])
def wsX4_areTicks : List Cond := .code yX4_areTicks cX4_areTicks 1 (some .boolean) :: ([])
def wsX4_runAt : List Cond := .code yX4_runAt cX4_runAt 2 (some (.object "TrialBook$Run")) :: ([.fieldLink RX4 144 "TrialBook" "runCount" "I", .fieldLink RX4 28 "TrialBook" "runRows" "[LTrialBook$Run;"] ++ wsX40)
def wsX4_isCountedAlready_r1 : List Cond := [Cond.fieldLink RX4 144 "TrialBook" "runCount" "I", Cond.fieldLink RX4 240 "TrialBook$Run" "counts" "Z", Cond.methodLink RX4 69 yX4_runAt, Cond.instanceMethod yX4_runAt, Cond.selects RX4 yX4_runAt yX4_runAt, Cond.initialized RX4, Cond.code yX4_runAt cX4_runAt 2 (some (.object "TrialBook$Run")), Cond.fieldLink RX4 28 "TrialBook" "runRows" "[LTrialBook$Run;", Cond.methodLink RX4 243 yX2_isLike, Cond.instanceMethod yX2_isLike, Cond.selects RX2 yX2_isLike yX2_isLike, Cond.initialized RX2, Cond.code yX2_isLike cX2_isLike 2 (some .boolean), Cond.fieldLink RX2 32 "TrialBook$Run" "code" "LTrialBook$Code;", Cond.fieldLink RX2 36 "TrialBook$Run" "settings" "I", Cond.fieldLink RX2 39 "TrialBook$Run" "seed" "I", Cond.fieldLink RX2 42 "TrialBook$Run" "ticks" "I", Cond.fieldLink RX2 12 "TrialBook$Run" "read" "LTrialBook$Notes;", Cond.fieldLink RX2 127 "TrialBook$Notes" "words" "I", Cond.methodLink RX2 123 yX0_isLike, Cond.instanceMethod yX0_isLike, Cond.selects RX0 yX0_isLike yX0_isLike, Cond.initialized RX0, Cond.code yX0_isLike cX0_isLike 2 (some .boolean)]
def wsX4_isCountedAlready_r2 : List Cond := [Cond.fieldLink RX0 11 "TrialBook$Code" "count" "I", Cond.fieldLink RX0 17 "TrialBook$Code" "bytes" "J", Cond.methodLink RX2 130 yX1_agreesOnSharedWords, Cond.instanceMethod yX1_agreesOnSharedWords, Cond.selects RX1 yX1_agreesOnSharedWords yX1_agreesOnSharedWords, Cond.initialized RX1, Cond.code yX1_agreesOnSharedWords cX1_agreesOnSharedWords 4 (some .boolean), Cond.fieldLink RX1 15 "TrialBook$Notes" "words" "I", Cond.fieldLink RX1 9 "TrialBook$Notes" "values" "[I", Cond.static yX4_isIn, Cond.code yX4_isIn cX4_isIn 2 (some .boolean)]
def wsX4_isCountedAlready : List Cond := .code yX4_isCountedAlready cX4_isCountedAlready 4 (some .boolean) :: ((wsX4_isCountedAlready_r1 ++ wsX4_isCountedAlready_r2) ++ wsX40 ++ wsX20 ++ wsX10 ++ wsX00)
def wsX4_enter_r1 : List Cond := [Cond.fieldLink RX4 144 "TrialBook" "runCount" "I", Cond.fieldLink RX4 28 "TrialBook" "runRows" "[LTrialBook$Run;", Cond.fieldLink RX4 22 "TrialBook" "world" "LTrialBook$World;", Cond.fieldLink RX4 142 "TrialBook$World" "clock" "I", Cond.fieldLink RX4 240 "TrialBook$Run" "counts" "Z", Cond.methodLink RX4 151 yX2_doTicks, Cond.instanceMethod yX2_doTicks, Cond.selects RX2 yX2_doTicks yX2_doTicks, Cond.initialized RX2, Cond.code yX2_doTicks cX2_doTicks 4 none, Cond.fieldLink RX2 49 "TrialBook$Run" "rowCount" "I", Cond.fieldLink RX2 42 "TrialBook$Run" "ticks" "I", Cond.fieldLink RX2 18 "TrialBook$Run" "rows" "[I", Cond.fieldLink RX2 60 "TrialBook$Run" "broken" "Z", Cond.methodLink RX2 52 yX2_lastRow, Cond.instanceMethod yX2_lastRow, Cond.selects RX2 yX2_lastRow yX2_lastRow, Cond.code yX2_lastRow cX2_lastRow 1 (some .int), Cond.methodLink RX2 45 yX2_rowAt, Cond.instanceMethod yX2_rowAt, Cond.selects RX2 yX2_rowAt yX2_rowAt, Cond.code yX2_rowAt cX2_rowAt 2 (some .int), Cond.methodLink RX2 56 yX2_afterTick, Cond.instanceMethod yX2_afterTick]
def wsX4_enter_r2 : List Cond := [Cond.selects RX2 yX2_afterTick yX2_afterTick, Cond.code yX2_afterTick cX2_afterTick 9 (some .int), Cond.fieldLink RX2 32 "TrialBook$Run" "code" "LTrialBook$Code;", Cond.fieldLink RX2 64 "TrialBook$Code" "count" "I", Cond.methodLink RX2 69 yX0_stepAt, Cond.instanceMethod yX0_stepAt, Cond.selects RX0 yX0_stepAt yX0_stepAt, Cond.initialized RX0, Cond.code yX0_stepAt cX0_stepAt 2 (some .int), Cond.fieldLink RX0 17 "TrialBook$Code" "bytes" "J", Cond.fieldLink RX0 11 "TrialBook$Code" "count" "I", Cond.methodLink RX2 72 yX2_readSetting, Cond.instanceMethod yX2_readSetting, Cond.selects RX2 yX2_readSetting yX2_readSetting, Cond.code yX2_readSetting cX2_readSetting 3 (some .int), Cond.fieldLink RX2 12 "TrialBook$Run" "read" "LTrialBook$Notes;", Cond.fieldLink RX2 94 "TrialBook$Notes" "settings" "I", Cond.fieldLink RX2 36 "TrialBook$Run" "settings" "I", Cond.static yX4_settingOf, Cond.initialized RX4, Cond.code yX4_settingOf cX4_settingOf 2 (some .int), Cond.static yX4_remainder, Cond.code yX4_remainder cX4_remainder 2 (some .int), Cond.methodLink RX2 79 yX2_afterStep]
def wsX4_enter_r3 : List Cond := [Cond.instanceMethod yX2_afterStep, Cond.selects RX2 yX2_afterStep yX2_afterStep, Cond.code yX2_afterStep cX2_afterStep 6 (some .int), Cond.methodLink RX2 83 yX2_readSeed, Cond.instanceMethod yX2_readSeed, Cond.selects RX2 yX2_readSeed yX2_readSeed, Cond.code yX2_readSeed cX2_readSeed 1 (some .int), Cond.fieldLink RX2 98 "TrialBook$Notes" "seed" "Z", Cond.fieldLink RX2 39 "TrialBook$Run" "seed" "I", Cond.methodLink RX2 86 yX2_readWord, Cond.instanceMethod yX2_readWord, Cond.selects RX2 yX2_readWord yX2_readWord, Cond.code yX2_readWord cX2_readWord 4 (some .int), Cond.methodLink RX2 100 yX3_wordAt, Cond.instanceMethod yX3_wordAt, Cond.selects RX3 yX3_wordAt yX3_wordAt, Cond.initialized RX3, Cond.code yX3_wordAt cX3_wordAt 2 (some .int), Cond.fieldLink RX3 9 "TrialBook$World" "words" "[I", Cond.methodLink RX2 105 yX1_addWord, Cond.instanceMethod yX1_addWord, Cond.selects RX1 yX1_addWord yX1_addWord, Cond.initialized RX1, Cond.code yX1_addWord cX1_addWord 3 none]
def wsX4_enter_r4 : List Cond := [Cond.fieldLink RX1 9 "TrialBook$Notes" "values" "[I", Cond.fieldLink RX1 15 "TrialBook$Notes" "words" "I", Cond.methodLink RX2 90 yX2_readClock, Cond.instanceMethod yX2_readClock, Cond.selects RX2 yX2_readClock yX2_readClock, Cond.code yX2_readClock cX2_readClock 2 (some .int), Cond.fieldLink RX2 109 "TrialBook$Notes" "clock" "Z", Cond.fieldLink RX2 112 "TrialBook$World" "clock" "I", Cond.methodLink RX4 234 yX2_isComparable, Cond.instanceMethod yX2_isComparable, Cond.selects RX2 yX2_isComparable yX2_isComparable, Cond.code yX2_isComparable cX2_isComparable 1 (some .boolean), Cond.methodLink RX2 119 yX2_isFork, Cond.instanceMethod yX2_isFork, Cond.selects RX2 yX2_isFork yX2_isFork, Cond.code yX2_isFork cX2_isFork 1 (some .boolean), Cond.fieldLink RX2 22 "TrialBook$Run" "origin" "I", Cond.methodLink RX4 237 yX4_isCountedAlready, Cond.instanceMethod yX4_isCountedAlready, Cond.selects RX4 yX4_isCountedAlready yX4_isCountedAlready, Cond.code yX4_isCountedAlready cX4_isCountedAlready 4 (some .boolean), Cond.methodLink RX4 69 yX4_runAt, Cond.instanceMethod yX4_runAt, Cond.selects RX4 yX4_runAt yX4_runAt]
def wsX4_enter_r5 : List Cond := [Cond.code yX4_runAt cX4_runAt 2 (some (.object "TrialBook$Run")), Cond.methodLink RX4 243 yX2_isLike, Cond.instanceMethod yX2_isLike, Cond.selects RX2 yX2_isLike yX2_isLike, Cond.code yX2_isLike cX2_isLike 2 (some .boolean), Cond.fieldLink RX2 127 "TrialBook$Notes" "words" "I", Cond.methodLink RX2 123 yX0_isLike, Cond.instanceMethod yX0_isLike, Cond.selects RX0 yX0_isLike yX0_isLike, Cond.code yX0_isLike cX0_isLike 2 (some .boolean), Cond.methodLink RX2 130 yX1_agreesOnSharedWords, Cond.instanceMethod yX1_agreesOnSharedWords, Cond.selects RX1 yX1_agreesOnSharedWords yX1_agreesOnSharedWords, Cond.code yX1_agreesOnSharedWords cX1_agreesOnSharedWords 4 (some .boolean), Cond.static yX4_isIn, Cond.code yX4_isIn cX4_isIn 2 (some .boolean)]
def wsX4_enter : List Cond := .code yX4_enter cX4_enter 2 (some .int) :: ((wsX4_enter_r1 ++ (wsX4_enter_r2 ++ (wsX4_enter_r3 ++ (wsX4_enter_r4 ++ wsX4_enter_r5)))) ++ wsX40 ++ wsX30 ++ wsX20 ++ wsX00 ++ wsX10)
def wsX4_run_r1 : List Cond := [Cond.classLink RX4 26 RX2, Cond.instantiable RX2 12, Cond.initialized RX2, Cond.methodLink RX4 48 yX4_codeAt, Cond.instanceMethod yX4_codeAt, Cond.selects RX4 yX4_codeAt yX4_codeAt, Cond.initialized RX4, Cond.code yX4_codeAt cX4_codeAt 2 (some (.object "TrialBook$Code")), Cond.fieldLink RX4 11 "TrialBook" "codeRows" "[LTrialBook$Code;", Cond.methodLink RX4 52 yX4_areSettings, Cond.static yX4_areSettings, Cond.code yX4_areSettings cX4_areSettings 2 (some .boolean), Cond.constant RX4 272 (65536), Cond.methodLink RX4 252 yX4_settingOf, Cond.static yX4_settingOf, Cond.code yX4_settingOf cX4_settingOf 2 (some .int), Cond.methodLink RX4 249 yX4_isValue, Cond.static yX4_isValue, Cond.code yX4_isValue cX4_isValue 1 (some .boolean), Cond.methodLink RX4 56 yX4_isSeed, Cond.static yX4_isSeed, Cond.code yX4_isSeed cX4_isSeed 1 (some .boolean), Cond.methodLink RX4 59 yX4_areTicks, Cond.static yX4_areTicks]
def wsX4_run_r2 : List Cond := [Cond.code yX4_areTicks cX4_areTicks 1 (some .boolean), Cond.methodLink RX4 62 yX2_init, Cond.instanceMethod yX2_init, Cond.code yX2_init cX2_init 6 none, Cond.methodLink RX2 3 objectInit, Cond.instanceMethod objectInit, Cond.code objectInit ⟨#[0xb1]⟩ 1 none, Cond.classLink RX2 9 RX1, Cond.instantiable RX1 5, Cond.initialized RX1, Cond.fieldLink RX2 12 "TrialBook$Run" "read" "LTrialBook$Notes;", Cond.arrayClass .int, Cond.fieldLink RX2 18 "TrialBook$Run" "rows" "[I", Cond.fieldLink RX2 22 "TrialBook$Run" "origin" "I", Cond.fieldLink RX2 26 "TrialBook$Run" "originTick" "I", Cond.fieldLink RX2 29 "TrialBook$Run" "codeNumber" "I", Cond.fieldLink RX2 32 "TrialBook$Run" "code" "LTrialBook$Code;", Cond.fieldLink RX2 36 "TrialBook$Run" "settings" "I", Cond.fieldLink RX2 39 "TrialBook$Run" "seed" "I", Cond.fieldLink RX2 42 "TrialBook$Run" "ticks" "I", Cond.instanceMethod yX1_init, Cond.code yX1_init cX1_init 1 none, Cond.methodLink RX1 3 objectInit, Cond.fieldLink RX1 9 "TrialBook$Notes" "values" "[I"]
def wsX4_run_r3 : List Cond := [Cond.methodLink RX4 65 yX4_enter, Cond.instanceMethod yX4_enter, Cond.selects RX4 yX4_enter yX4_enter, Cond.code yX4_enter cX4_enter 2 (some .int), Cond.fieldLink RX4 144 "TrialBook" "runCount" "I", Cond.fieldLink RX4 28 "TrialBook" "runRows" "[LTrialBook$Run;", Cond.fieldLink RX4 22 "TrialBook" "world" "LTrialBook$World;", Cond.fieldLink RX4 142 "TrialBook$World" "clock" "I", Cond.fieldLink RX4 240 "TrialBook$Run" "counts" "Z", Cond.methodLink RX4 151 yX2_doTicks, Cond.instanceMethod yX2_doTicks, Cond.selects RX2 yX2_doTicks yX2_doTicks, Cond.code yX2_doTicks cX2_doTicks 4 none, Cond.fieldLink RX2 49 "TrialBook$Run" "rowCount" "I", Cond.fieldLink RX2 60 "TrialBook$Run" "broken" "Z", Cond.methodLink RX2 52 yX2_lastRow, Cond.instanceMethod yX2_lastRow, Cond.selects RX2 yX2_lastRow yX2_lastRow, Cond.code yX2_lastRow cX2_lastRow 1 (some .int), Cond.methodLink RX2 45 yX2_rowAt, Cond.instanceMethod yX2_rowAt, Cond.selects RX2 yX2_rowAt yX2_rowAt, Cond.code yX2_rowAt cX2_rowAt 2 (some .int), Cond.methodLink RX2 56 yX2_afterTick]
def wsX4_run_r4 : List Cond := [Cond.instanceMethod yX2_afterTick, Cond.selects RX2 yX2_afterTick yX2_afterTick, Cond.code yX2_afterTick cX2_afterTick 9 (some .int), Cond.fieldLink RX2 64 "TrialBook$Code" "count" "I", Cond.methodLink RX2 69 yX0_stepAt, Cond.instanceMethod yX0_stepAt, Cond.selects RX0 yX0_stepAt yX0_stepAt, Cond.initialized RX0, Cond.code yX0_stepAt cX0_stepAt 2 (some .int), Cond.fieldLink RX0 17 "TrialBook$Code" "bytes" "J", Cond.fieldLink RX0 11 "TrialBook$Code" "count" "I", Cond.methodLink RX2 72 yX2_readSetting, Cond.instanceMethod yX2_readSetting, Cond.selects RX2 yX2_readSetting yX2_readSetting, Cond.code yX2_readSetting cX2_readSetting 3 (some .int), Cond.fieldLink RX2 94 "TrialBook$Notes" "settings" "I", Cond.static yX4_remainder, Cond.code yX4_remainder cX4_remainder 2 (some .int), Cond.methodLink RX2 79 yX2_afterStep, Cond.instanceMethod yX2_afterStep, Cond.selects RX2 yX2_afterStep yX2_afterStep, Cond.code yX2_afterStep cX2_afterStep 6 (some .int), Cond.methodLink RX2 83 yX2_readSeed, Cond.instanceMethod yX2_readSeed]
def wsX4_run_r5 : List Cond := [Cond.selects RX2 yX2_readSeed yX2_readSeed, Cond.code yX2_readSeed cX2_readSeed 1 (some .int), Cond.fieldLink RX2 98 "TrialBook$Notes" "seed" "Z", Cond.methodLink RX2 86 yX2_readWord, Cond.instanceMethod yX2_readWord, Cond.selects RX2 yX2_readWord yX2_readWord, Cond.code yX2_readWord cX2_readWord 4 (some .int), Cond.methodLink RX2 100 yX3_wordAt, Cond.instanceMethod yX3_wordAt, Cond.selects RX3 yX3_wordAt yX3_wordAt, Cond.initialized RX3, Cond.code yX3_wordAt cX3_wordAt 2 (some .int), Cond.fieldLink RX3 9 "TrialBook$World" "words" "[I", Cond.methodLink RX2 105 yX1_addWord, Cond.instanceMethod yX1_addWord, Cond.selects RX1 yX1_addWord yX1_addWord, Cond.code yX1_addWord cX1_addWord 3 none, Cond.fieldLink RX1 15 "TrialBook$Notes" "words" "I", Cond.methodLink RX2 90 yX2_readClock, Cond.instanceMethod yX2_readClock, Cond.selects RX2 yX2_readClock yX2_readClock, Cond.code yX2_readClock cX2_readClock 2 (some .int), Cond.fieldLink RX2 109 "TrialBook$Notes" "clock" "Z", Cond.fieldLink RX2 112 "TrialBook$World" "clock" "I"]
def wsX4_run_r6 : List Cond := [Cond.methodLink RX4 234 yX2_isComparable, Cond.instanceMethod yX2_isComparable, Cond.selects RX2 yX2_isComparable yX2_isComparable, Cond.code yX2_isComparable cX2_isComparable 1 (some .boolean), Cond.methodLink RX2 119 yX2_isFork, Cond.instanceMethod yX2_isFork, Cond.selects RX2 yX2_isFork yX2_isFork, Cond.code yX2_isFork cX2_isFork 1 (some .boolean), Cond.methodLink RX4 237 yX4_isCountedAlready, Cond.instanceMethod yX4_isCountedAlready, Cond.selects RX4 yX4_isCountedAlready yX4_isCountedAlready, Cond.code yX4_isCountedAlready cX4_isCountedAlready 4 (some .boolean), Cond.methodLink RX4 69 yX4_runAt, Cond.instanceMethod yX4_runAt, Cond.selects RX4 yX4_runAt yX4_runAt, Cond.code yX4_runAt cX4_runAt 2 (some (.object "TrialBook$Run")), Cond.methodLink RX4 243 yX2_isLike, Cond.instanceMethod yX2_isLike, Cond.selects RX2 yX2_isLike yX2_isLike, Cond.code yX2_isLike cX2_isLike 2 (some .boolean), Cond.fieldLink RX2 127 "TrialBook$Notes" "words" "I", Cond.methodLink RX2 123 yX0_isLike, Cond.instanceMethod yX0_isLike, Cond.selects RX0 yX0_isLike yX0_isLike]
def wsX4_run_r7 : List Cond := [Cond.code yX0_isLike cX0_isLike 2 (some .boolean), Cond.methodLink RX2 130 yX1_agreesOnSharedWords, Cond.instanceMethod yX1_agreesOnSharedWords, Cond.selects RX1 yX1_agreesOnSharedWords yX1_agreesOnSharedWords, Cond.code yX1_agreesOnSharedWords cX1_agreesOnSharedWords 4 (some .boolean), Cond.static yX4_isIn, Cond.code yX4_isIn cX4_isIn 2 (some .boolean)]
def wsX4_run : List Cond := .code yX4_run cX4_run 6 (some .int) :: ((wsX4_run_r1 ++ (wsX4_run_r2 ++ (wsX4_run_r3 ++ (wsX4_run_r4 ++ (wsX4_run_r5 ++ (wsX4_run_r6 ++ wsX4_run_r7)))))) ++ wsX20 ++ wsX40 ++ wsX10 ++ wsX30 ++ wsX00)
def wsX4_fork_r1 : List Cond := [Cond.fieldLink RX4 73 "TrialBook$Run" "broken" "Z", Cond.fieldLink RX4 77 "TrialBook$Run" "rowCount" "I", Cond.classLink RX4 26 RX2, Cond.instantiable RX2 12, Cond.initialized RX2, Cond.fieldLink RX4 81 "TrialBook$Run" "codeNumber" "I", Cond.fieldLink RX4 84 "TrialBook$Run" "code" "LTrialBook$Code;", Cond.fieldLink RX4 88 "TrialBook$Run" "ticks" "I", Cond.fieldLink RX4 99 "TrialBook$Run" "read" "LTrialBook$Notes;", Cond.methodLink RX4 69 yX4_runAt, Cond.instanceMethod yX4_runAt, Cond.selects RX4 yX4_runAt yX4_runAt, Cond.initialized RX4, Cond.code yX4_runAt cX4_runAt 2 (some (.object "TrialBook$Run")), Cond.fieldLink RX4 144 "TrialBook" "runCount" "I", Cond.fieldLink RX4 28 "TrialBook" "runRows" "[LTrialBook$Run;", Cond.methodLink RX4 52 yX4_areSettings, Cond.static yX4_areSettings, Cond.code yX4_areSettings cX4_areSettings 2 (some .boolean), Cond.constant RX4 272 (65536), Cond.methodLink RX4 252 yX4_settingOf, Cond.static yX4_settingOf, Cond.code yX4_settingOf cX4_settingOf 2 (some .int), Cond.methodLink RX4 249 yX4_isValue]
def wsX4_fork_r2 : List Cond := [Cond.static yX4_isValue, Cond.code yX4_isValue cX4_isValue 1 (some .boolean), Cond.methodLink RX4 56 yX4_isSeed, Cond.static yX4_isSeed, Cond.code yX4_isSeed cX4_isSeed 1 (some .boolean), Cond.methodLink RX4 62 yX2_init, Cond.instanceMethod yX2_init, Cond.code yX2_init cX2_init 6 none, Cond.methodLink RX2 3 objectInit, Cond.instanceMethod objectInit, Cond.code objectInit ⟨#[0xb1]⟩ 1 none, Cond.classLink RX2 9 RX1, Cond.instantiable RX1 5, Cond.initialized RX1, Cond.fieldLink RX2 12 "TrialBook$Run" "read" "LTrialBook$Notes;", Cond.arrayClass .int, Cond.fieldLink RX2 18 "TrialBook$Run" "rows" "[I", Cond.fieldLink RX2 22 "TrialBook$Run" "origin" "I", Cond.fieldLink RX2 26 "TrialBook$Run" "originTick" "I", Cond.fieldLink RX2 29 "TrialBook$Run" "codeNumber" "I", Cond.fieldLink RX2 32 "TrialBook$Run" "code" "LTrialBook$Code;", Cond.fieldLink RX2 36 "TrialBook$Run" "settings" "I", Cond.fieldLink RX2 39 "TrialBook$Run" "seed" "I", Cond.fieldLink RX2 42 "TrialBook$Run" "ticks" "I"]
def wsX4_fork_r3 : List Cond := [Cond.instanceMethod yX1_init, Cond.code yX1_init cX1_init 1 none, Cond.methodLink RX1 3 objectInit, Cond.fieldLink RX1 9 "TrialBook$Notes" "values" "[I", Cond.methodLink RX4 91 yX2_comeOf, Cond.instanceMethod yX2_comeOf, Cond.selects RX2 yX2_comeOf yX2_comeOf, Cond.code yX2_comeOf cX2_comeOf 3 none, Cond.methodLink RX4 95 yX2_takeRows, Cond.instanceMethod yX2_takeRows, Cond.selects RX2 yX2_takeRows yX2_takeRows, Cond.code yX2_takeRows cX2_takeRows 4 none, Cond.fieldLink RX2 49 "TrialBook$Run" "rowCount" "I", Cond.methodLink RX2 45 yX2_rowAt, Cond.instanceMethod yX2_rowAt, Cond.selects RX2 yX2_rowAt yX2_rowAt, Cond.code yX2_rowAt cX2_rowAt 2 (some .int), Cond.methodLink RX4 103 yX1_addAll, Cond.instanceMethod yX1_addAll, Cond.selects RX1 yX1_addAll yX1_addAll, Cond.code yX1_addAll cX1_addAll 3 none, Cond.fieldLink RX1 19 "TrialBook$Notes" "settings" "I", Cond.fieldLink RX1 22 "TrialBook$Notes" "seed" "Z", Cond.fieldLink RX1 26 "TrialBook$Notes" "clock" "Z"]
def wsX4_fork_r4 : List Cond := [Cond.fieldLink RX1 15 "TrialBook$Notes" "words" "I", Cond.static yX4_isIn, Cond.code yX4_isIn cX4_isIn 2 (some .boolean), Cond.methodLink RX1 33 yX1_addWord, Cond.instanceMethod yX1_addWord, Cond.selects RX1 yX1_addWord yX1_addWord, Cond.code yX1_addWord cX1_addWord 3 none, Cond.methodLink RX4 65 yX4_enter, Cond.instanceMethod yX4_enter, Cond.selects RX4 yX4_enter yX4_enter, Cond.code yX4_enter cX4_enter 2 (some .int), Cond.fieldLink RX4 22 "TrialBook" "world" "LTrialBook$World;", Cond.fieldLink RX4 142 "TrialBook$World" "clock" "I", Cond.fieldLink RX4 240 "TrialBook$Run" "counts" "Z", Cond.methodLink RX4 151 yX2_doTicks, Cond.instanceMethod yX2_doTicks, Cond.selects RX2 yX2_doTicks yX2_doTicks, Cond.code yX2_doTicks cX2_doTicks 4 none, Cond.fieldLink RX2 60 "TrialBook$Run" "broken" "Z", Cond.methodLink RX2 52 yX2_lastRow, Cond.instanceMethod yX2_lastRow, Cond.selects RX2 yX2_lastRow yX2_lastRow, Cond.code yX2_lastRow cX2_lastRow 1 (some .int), Cond.methodLink RX2 56 yX2_afterTick]
def wsX4_fork_r5 : List Cond := [Cond.instanceMethod yX2_afterTick, Cond.selects RX2 yX2_afterTick yX2_afterTick, Cond.code yX2_afterTick cX2_afterTick 9 (some .int), Cond.fieldLink RX2 64 "TrialBook$Code" "count" "I", Cond.methodLink RX2 69 yX0_stepAt, Cond.instanceMethod yX0_stepAt, Cond.selects RX0 yX0_stepAt yX0_stepAt, Cond.initialized RX0, Cond.code yX0_stepAt cX0_stepAt 2 (some .int), Cond.fieldLink RX0 17 "TrialBook$Code" "bytes" "J", Cond.fieldLink RX0 11 "TrialBook$Code" "count" "I", Cond.methodLink RX2 72 yX2_readSetting, Cond.instanceMethod yX2_readSetting, Cond.selects RX2 yX2_readSetting yX2_readSetting, Cond.code yX2_readSetting cX2_readSetting 3 (some .int), Cond.fieldLink RX2 94 "TrialBook$Notes" "settings" "I", Cond.static yX4_remainder, Cond.code yX4_remainder cX4_remainder 2 (some .int), Cond.methodLink RX2 79 yX2_afterStep, Cond.instanceMethod yX2_afterStep, Cond.selects RX2 yX2_afterStep yX2_afterStep, Cond.code yX2_afterStep cX2_afterStep 6 (some .int), Cond.methodLink RX2 83 yX2_readSeed, Cond.instanceMethod yX2_readSeed]
def wsX4_fork_r6 : List Cond := [Cond.selects RX2 yX2_readSeed yX2_readSeed, Cond.code yX2_readSeed cX2_readSeed 1 (some .int), Cond.fieldLink RX2 98 "TrialBook$Notes" "seed" "Z", Cond.methodLink RX2 86 yX2_readWord, Cond.instanceMethod yX2_readWord, Cond.selects RX2 yX2_readWord yX2_readWord, Cond.code yX2_readWord cX2_readWord 4 (some .int), Cond.methodLink RX2 100 yX3_wordAt, Cond.instanceMethod yX3_wordAt, Cond.selects RX3 yX3_wordAt yX3_wordAt, Cond.initialized RX3, Cond.code yX3_wordAt cX3_wordAt 2 (some .int), Cond.fieldLink RX3 9 "TrialBook$World" "words" "[I", Cond.methodLink RX2 105 yX1_addWord, Cond.methodLink RX2 90 yX2_readClock, Cond.instanceMethod yX2_readClock, Cond.selects RX2 yX2_readClock yX2_readClock, Cond.code yX2_readClock cX2_readClock 2 (some .int), Cond.fieldLink RX2 109 "TrialBook$Notes" "clock" "Z", Cond.fieldLink RX2 112 "TrialBook$World" "clock" "I", Cond.methodLink RX4 234 yX2_isComparable, Cond.instanceMethod yX2_isComparable, Cond.selects RX2 yX2_isComparable yX2_isComparable, Cond.code yX2_isComparable cX2_isComparable 1 (some .boolean)]
def wsX4_fork_r7 : List Cond := [Cond.methodLink RX2 119 yX2_isFork, Cond.instanceMethod yX2_isFork, Cond.selects RX2 yX2_isFork yX2_isFork, Cond.code yX2_isFork cX2_isFork 1 (some .boolean), Cond.methodLink RX4 237 yX4_isCountedAlready, Cond.instanceMethod yX4_isCountedAlready, Cond.selects RX4 yX4_isCountedAlready yX4_isCountedAlready, Cond.code yX4_isCountedAlready cX4_isCountedAlready 4 (some .boolean), Cond.methodLink RX4 243 yX2_isLike, Cond.instanceMethod yX2_isLike, Cond.selects RX2 yX2_isLike yX2_isLike, Cond.code yX2_isLike cX2_isLike 2 (some .boolean), Cond.fieldLink RX2 127 "TrialBook$Notes" "words" "I", Cond.methodLink RX2 123 yX0_isLike, Cond.instanceMethod yX0_isLike, Cond.selects RX0 yX0_isLike yX0_isLike, Cond.code yX0_isLike cX0_isLike 2 (some .boolean), Cond.methodLink RX2 130 yX1_agreesOnSharedWords, Cond.instanceMethod yX1_agreesOnSharedWords, Cond.selects RX1 yX1_agreesOnSharedWords yX1_agreesOnSharedWords, Cond.code yX1_agreesOnSharedWords cX1_agreesOnSharedWords 4 (some .boolean)]
def wsX4_fork : List Cond := .code yX4_fork cX4_fork 7 (some .int) :: ((wsX4_fork_r1 ++ (wsX4_fork_r2 ++ (wsX4_fork_r3 ++ (wsX4_fork_r4 ++ (wsX4_fork_r5 ++ (wsX4_fork_r6 ++ wsX4_fork_r7)))))) ++ wsX20 ++ wsX40 ++ wsX10 ++ wsX30 ++ wsX00)
def wsX4_asNumber : List Cond := .code yX4_asNumber cX4_asNumber 1 (some .int) :: ([])
def wsX4_isStale_r1 : List Cond := [Cond.fieldLink RX4 84 "TrialBook$Run" "code" "LTrialBook$Code;", Cond.fieldLink RX4 81 "TrialBook$Run" "codeNumber" "I", Cond.fieldLink RX4 99 "TrialBook$Run" "read" "LTrialBook$Notes;", Cond.fieldLink RX4 22 "TrialBook" "world" "LTrialBook$World;", Cond.methodLink RX4 48 yX4_codeAt, Cond.instanceMethod yX4_codeAt, Cond.selects RX4 yX4_codeAt yX4_codeAt, Cond.initialized RX4, Cond.code yX4_codeAt cX4_codeAt 2 (some (.object "TrialBook$Code")), Cond.fieldLink RX4 11 "TrialBook" "codeRows" "[LTrialBook$Code;", Cond.methodLink RX4 246 yX0_isLike, Cond.instanceMethod yX0_isLike, Cond.selects RX0 yX0_isLike yX0_isLike, Cond.initialized RX0, Cond.code yX0_isLike cX0_isLike 2 (some .boolean), Cond.fieldLink RX0 11 "TrialBook$Code" "count" "I", Cond.fieldLink RX0 17 "TrialBook$Code" "bytes" "J", Cond.methodLink RX4 158 yX1_changedWords, Cond.instanceMethod yX1_changedWords, Cond.selects RX1 yX1_changedWords yX1_changedWords, Cond.initialized RX1, Cond.code yX1_changedWords cX1_changedWords 4 (some .int), Cond.fieldLink RX1 9 "TrialBook$Notes" "values" "[I", Cond.fieldLink RX1 15 "TrialBook$Notes" "words" "I"]
def wsX4_isStale_r2 : List Cond := [Cond.static yX4_isIn, Cond.code yX4_isIn cX4_isIn 2 (some .boolean), Cond.methodLink RX1 37 yX3_wordAt, Cond.instanceMethod yX3_wordAt, Cond.selects RX3 yX3_wordAt yX3_wordAt, Cond.initialized RX3, Cond.code yX3_wordAt cX3_wordAt 2 (some .int), Cond.fieldLink RX3 9 "TrialBook$World" "words" "[I"]
def wsX4_isStale : List Cond := .code yX4_isStale cX4_isStale 2 (some .boolean) :: ((wsX4_isStale_r1 ++ wsX4_isStale_r2) ++ wsX20 ++ wsX40 ++ wsX00 ++ wsX10 ++ wsX30)
def wsX4_of_r1 : List Cond := [Cond.fieldLink RX4 81 "TrialBook$Run" "codeNumber" "I", Cond.fieldLink RX4 113 "TrialBook$Run" "settings" "I", Cond.fieldLink RX4 116 "TrialBook$Run" "seed" "I", Cond.fieldLink RX4 88 "TrialBook$Run" "ticks" "I", Cond.fieldLink RX4 77 "TrialBook$Run" "rowCount" "I", Cond.fieldLink RX4 73 "TrialBook$Run" "broken" "Z", Cond.fieldLink RX4 123 "TrialBook$Run" "origin" "I", Cond.fieldLink RX4 126 "TrialBook$Run" "originTick" "I", Cond.fieldLink RX4 99 "TrialBook$Run" "read" "LTrialBook$Notes;", Cond.fieldLink RX4 129 "TrialBook$Notes" "settings" "I", Cond.fieldLink RX4 130 "TrialBook$Notes" "words" "I", Cond.fieldLink RX4 133 "TrialBook$Notes" "seed" "Z", Cond.fieldLink RX4 135 "TrialBook$Notes" "clock" "Z", Cond.methodLink RX4 69 yX4_runAt, Cond.instanceMethod yX4_runAt, Cond.selects RX4 yX4_runAt yX4_runAt, Cond.initialized RX4, Cond.code yX4_runAt cX4_runAt 2 (some (.object "TrialBook$Run")), Cond.fieldLink RX4 144 "TrialBook" "runCount" "I", Cond.fieldLink RX4 28 "TrialBook" "runRows" "[LTrialBook$Run;", Cond.methodLink RX4 109 yX2_rowAt, Cond.instanceMethod yX2_rowAt, Cond.selects RX2 yX2_rowAt yX2_rowAt, Cond.initialized RX2]
def wsX4_of_r2 : List Cond := [Cond.code yX2_rowAt cX2_rowAt 2 (some .int), Cond.fieldLink RX2 49 "TrialBook$Run" "rowCount" "I", Cond.fieldLink RX2 18 "TrialBook$Run" "rows" "[I", Cond.methodLink RX4 119 yX4_asNumber, Cond.static yX4_asNumber, Cond.code yX4_asNumber cX4_asNumber 1 (some .int), Cond.methodLink RX4 138 yX4_isStale, Cond.instanceMethod yX4_isStale, Cond.selects RX4 yX4_isStale yX4_isStale, Cond.code yX4_isStale cX4_isStale 2 (some .boolean), Cond.fieldLink RX4 84 "TrialBook$Run" "code" "LTrialBook$Code;", Cond.fieldLink RX4 22 "TrialBook" "world" "LTrialBook$World;", Cond.methodLink RX4 48 yX4_codeAt, Cond.instanceMethod yX4_codeAt, Cond.selects RX4 yX4_codeAt yX4_codeAt, Cond.code yX4_codeAt cX4_codeAt 2 (some (.object "TrialBook$Code")), Cond.fieldLink RX4 11 "TrialBook" "codeRows" "[LTrialBook$Code;", Cond.methodLink RX4 246 yX0_isLike, Cond.instanceMethod yX0_isLike, Cond.selects RX0 yX0_isLike yX0_isLike, Cond.initialized RX0, Cond.code yX0_isLike cX0_isLike 2 (some .boolean), Cond.fieldLink RX0 11 "TrialBook$Code" "count" "I", Cond.fieldLink RX0 17 "TrialBook$Code" "bytes" "J"]
def wsX4_of_r3 : List Cond := [Cond.methodLink RX4 158 yX1_changedWords, Cond.instanceMethod yX1_changedWords, Cond.selects RX1 yX1_changedWords yX1_changedWords, Cond.initialized RX1, Cond.code yX1_changedWords cX1_changedWords 4 (some .int), Cond.fieldLink RX1 9 "TrialBook$Notes" "values" "[I", Cond.fieldLink RX1 15 "TrialBook$Notes" "words" "I", Cond.static yX4_isIn, Cond.code yX4_isIn cX4_isIn 2 (some .boolean), Cond.methodLink RX1 37 yX3_wordAt, Cond.instanceMethod yX3_wordAt, Cond.selects RX3 yX3_wordAt yX3_wordAt, Cond.initialized RX3, Cond.code yX3_wordAt cX3_wordAt 2 (some .int), Cond.fieldLink RX3 9 "TrialBook$World" "words" "[I"]
def wsX4_of : List Cond := .code yX4_of cX4_of 4 (some .int) :: ((wsX4_of_r1 ++ (wsX4_of_r2 ++ wsX4_of_r3)) ++ wsX20 ++ wsX10 ++ wsX40 ++ wsX00 ++ wsX30)
def wsX4_clock : List Cond := .code yX4_clock cX4_clock 1 (some .int) :: ([.fieldLink RX4 22 "TrialBook" "world" "LTrialBook$World;", .fieldLink RX4 142 "TrialBook$World" "clock" "I"] ++ wsX40 ++ wsX30)
def wsX4_runs : List Cond := .code yX4_runs cX4_runs 1 (some .int) :: ([.fieldLink RX4 144 "TrialBook" "runCount" "I"] ++ wsX40)
def wsX4_again_r1 : List Cond := [Cond.classLink RX4 26 RX2, Cond.instantiable RX2 12, Cond.initialized RX2, Cond.fieldLink RX4 81 "TrialBook$Run" "codeNumber" "I", Cond.fieldLink RX4 84 "TrialBook$Run" "code" "LTrialBook$Code;", Cond.fieldLink RX4 113 "TrialBook$Run" "settings" "I", Cond.fieldLink RX4 116 "TrialBook$Run" "seed" "I", Cond.fieldLink RX4 88 "TrialBook$Run" "ticks" "I", Cond.fieldLink RX4 126 "TrialBook$Run" "originTick" "I", Cond.fieldLink RX4 22 "TrialBook" "world" "LTrialBook$World;", Cond.fieldLink RX4 142 "TrialBook$World" "clock" "I", Cond.methodLink RX4 69 yX4_runAt, Cond.instanceMethod yX4_runAt, Cond.selects RX4 yX4_runAt yX4_runAt, Cond.initialized RX4, Cond.code yX4_runAt cX4_runAt 2 (some (.object "TrialBook$Run")), Cond.fieldLink RX4 144 "TrialBook" "runCount" "I", Cond.fieldLink RX4 28 "TrialBook" "runRows" "[LTrialBook$Run;", Cond.methodLink RX4 62 yX2_init, Cond.instanceMethod yX2_init, Cond.code yX2_init cX2_init 6 none, Cond.methodLink RX2 3 objectInit, Cond.instanceMethod objectInit, Cond.code objectInit ⟨#[0xb1]⟩ 1 none]
def wsX4_again_r2 : List Cond := [Cond.classLink RX2 9 RX1, Cond.instantiable RX1 5, Cond.initialized RX1, Cond.fieldLink RX2 12 "TrialBook$Run" "read" "LTrialBook$Notes;", Cond.arrayClass .int, Cond.fieldLink RX2 18 "TrialBook$Run" "rows" "[I", Cond.fieldLink RX2 22 "TrialBook$Run" "origin" "I", Cond.fieldLink RX2 26 "TrialBook$Run" "originTick" "I", Cond.fieldLink RX2 29 "TrialBook$Run" "codeNumber" "I", Cond.fieldLink RX2 32 "TrialBook$Run" "code" "LTrialBook$Code;", Cond.fieldLink RX2 36 "TrialBook$Run" "settings" "I", Cond.fieldLink RX2 39 "TrialBook$Run" "seed" "I", Cond.fieldLink RX2 42 "TrialBook$Run" "ticks" "I", Cond.instanceMethod yX1_init, Cond.code yX1_init cX1_init 1 none, Cond.methodLink RX1 3 objectInit, Cond.fieldLink RX1 9 "TrialBook$Notes" "values" "[I", Cond.methodLink RX4 147 yX2_isFork, Cond.instanceMethod yX2_isFork, Cond.selects RX2 yX2_isFork yX2_isFork, Cond.code yX2_isFork cX2_isFork 1 (some .boolean), Cond.methodLink RX4 95 yX2_takeRows, Cond.instanceMethod yX2_takeRows, Cond.selects RX2 yX2_takeRows yX2_takeRows]
def wsX4_again_r3 : List Cond := [Cond.code yX2_takeRows cX2_takeRows 4 none, Cond.fieldLink RX2 49 "TrialBook$Run" "rowCount" "I", Cond.methodLink RX2 45 yX2_rowAt, Cond.instanceMethod yX2_rowAt, Cond.selects RX2 yX2_rowAt yX2_rowAt, Cond.code yX2_rowAt cX2_rowAt 2 (some .int), Cond.methodLink RX4 151 yX2_doTicks, Cond.instanceMethod yX2_doTicks, Cond.selects RX2 yX2_doTicks yX2_doTicks, Cond.code yX2_doTicks cX2_doTicks 4 none, Cond.fieldLink RX2 60 "TrialBook$Run" "broken" "Z", Cond.methodLink RX2 52 yX2_lastRow, Cond.instanceMethod yX2_lastRow, Cond.selects RX2 yX2_lastRow yX2_lastRow, Cond.code yX2_lastRow cX2_lastRow 1 (some .int), Cond.methodLink RX2 56 yX2_afterTick, Cond.instanceMethod yX2_afterTick, Cond.selects RX2 yX2_afterTick yX2_afterTick, Cond.code yX2_afterTick cX2_afterTick 9 (some .int), Cond.fieldLink RX2 64 "TrialBook$Code" "count" "I", Cond.methodLink RX2 69 yX0_stepAt, Cond.instanceMethod yX0_stepAt, Cond.selects RX0 yX0_stepAt yX0_stepAt, Cond.initialized RX0]
def wsX4_again_r4 : List Cond := [Cond.code yX0_stepAt cX0_stepAt 2 (some .int), Cond.fieldLink RX0 17 "TrialBook$Code" "bytes" "J", Cond.fieldLink RX0 11 "TrialBook$Code" "count" "I", Cond.methodLink RX2 72 yX2_readSetting, Cond.instanceMethod yX2_readSetting, Cond.selects RX2 yX2_readSetting yX2_readSetting, Cond.code yX2_readSetting cX2_readSetting 3 (some .int), Cond.fieldLink RX2 94 "TrialBook$Notes" "settings" "I", Cond.static yX4_settingOf, Cond.code yX4_settingOf cX4_settingOf 2 (some .int), Cond.static yX4_remainder, Cond.code yX4_remainder cX4_remainder 2 (some .int), Cond.methodLink RX2 79 yX2_afterStep, Cond.instanceMethod yX2_afterStep, Cond.selects RX2 yX2_afterStep yX2_afterStep, Cond.code yX2_afterStep cX2_afterStep 6 (some .int), Cond.methodLink RX2 83 yX2_readSeed, Cond.instanceMethod yX2_readSeed, Cond.selects RX2 yX2_readSeed yX2_readSeed, Cond.code yX2_readSeed cX2_readSeed 1 (some .int), Cond.fieldLink RX2 98 "TrialBook$Notes" "seed" "Z", Cond.methodLink RX2 86 yX2_readWord, Cond.instanceMethod yX2_readWord, Cond.selects RX2 yX2_readWord yX2_readWord]
def wsX4_again_r5 : List Cond := [Cond.code yX2_readWord cX2_readWord 4 (some .int), Cond.methodLink RX2 100 yX3_wordAt, Cond.instanceMethod yX3_wordAt, Cond.selects RX3 yX3_wordAt yX3_wordAt, Cond.initialized RX3, Cond.code yX3_wordAt cX3_wordAt 2 (some .int), Cond.fieldLink RX3 9 "TrialBook$World" "words" "[I", Cond.methodLink RX2 105 yX1_addWord, Cond.instanceMethod yX1_addWord, Cond.selects RX1 yX1_addWord yX1_addWord, Cond.code yX1_addWord cX1_addWord 3 none, Cond.fieldLink RX1 15 "TrialBook$Notes" "words" "I", Cond.methodLink RX2 90 yX2_readClock, Cond.instanceMethod yX2_readClock, Cond.selects RX2 yX2_readClock yX2_readClock, Cond.code yX2_readClock cX2_readClock 2 (some .int), Cond.fieldLink RX2 109 "TrialBook$Notes" "clock" "Z", Cond.fieldLink RX2 112 "TrialBook$World" "clock" "I", Cond.methodLink RX4 155 yX2_firstOtherTick, Cond.instanceMethod yX2_firstOtherTick, Cond.selects RX2 yX2_firstOtherTick yX2_firstOtherTick, Cond.code yX2_firstOtherTick cX2_firstOtherTick 4 (some .int), Cond.methodLink RX2 114 Lib.Math.min.name, Cond.static Lib.Math.min.name]
def wsX4_again_r6 : List Cond := [Cond.initialized "java/lang/Math", Cond.code Lib.Math.min.name Lib.Math.min.code 2 (some .int)]
def wsX4_again : List Cond := .code yX4_again cX4_again 4 (some .int) :: ((wsX4_again_r1 ++ (wsX4_again_r2 ++ (wsX4_again_r3 ++ (wsX4_again_r4 ++ (wsX4_again_r5 ++ wsX4_again_r6))))) ++ wsX20 ++ wsX40 ++ wsX30 ++ wsX10 ++ wsX00)
def wsX4_loose_r1 : List Cond := [Cond.fieldLink RX4 99 "TrialBook$Run" "read" "LTrialBook$Notes;", Cond.fieldLink RX4 22 "TrialBook" "world" "LTrialBook$World;", Cond.fieldLink RX4 135 "TrialBook$Notes" "clock" "Z", Cond.methodLink RX4 69 yX4_runAt, Cond.instanceMethod yX4_runAt, Cond.selects RX4 yX4_runAt yX4_runAt, Cond.initialized RX4, Cond.code yX4_runAt cX4_runAt 2 (some (.object "TrialBook$Run")), Cond.fieldLink RX4 144 "TrialBook" "runCount" "I", Cond.fieldLink RX4 28 "TrialBook" "runRows" "[LTrialBook$Run;", Cond.methodLink RX4 158 yX1_changedWords, Cond.instanceMethod yX1_changedWords, Cond.selects RX1 yX1_changedWords yX1_changedWords, Cond.initialized RX1, Cond.code yX1_changedWords cX1_changedWords 4 (some .int), Cond.fieldLink RX1 9 "TrialBook$Notes" "values" "[I", Cond.fieldLink RX1 15 "TrialBook$Notes" "words" "I", Cond.static yX4_isIn, Cond.code yX4_isIn cX4_isIn 2 (some .boolean), Cond.methodLink RX1 37 yX3_wordAt, Cond.instanceMethod yX3_wordAt, Cond.selects RX3 yX3_wordAt yX3_wordAt, Cond.initialized RX3, Cond.code yX3_wordAt cX3_wordAt 2 (some .int)]
def wsX4_loose_r2 : List Cond := [Cond.fieldLink RX3 9 "TrialBook$World" "words" "[I"]
def wsX4_loose : List Cond := .code yX4_loose cX4_loose 3 (some .int) :: ((wsX4_loose_r1 ++ wsX4_loose_r2) ++ wsX20 ++ wsX40 ++ wsX10 ++ wsX30)
def wsX4_saved_r1 : List Cond := [Cond.fieldLink RX4 144 "TrialBook" "runCount" "I", Cond.fieldLink RX4 22 "TrialBook" "world" "LTrialBook$World;", Cond.methodLink RX4 48 yX4_codeAt, Cond.instanceMethod yX4_codeAt, Cond.selects RX4 yX4_codeAt yX4_codeAt, Cond.initialized RX4, Cond.code yX4_codeAt cX4_codeAt 2 (some (.object "TrialBook$Code")), Cond.fieldLink RX4 11 "TrialBook" "codeRows" "[LTrialBook$Code;", Cond.methodLink RX4 52 yX4_areSettings, Cond.static yX4_areSettings, Cond.code yX4_areSettings cX4_areSettings 2 (some .boolean), Cond.constant RX4 272 (65536), Cond.methodLink RX4 252 yX4_settingOf, Cond.static yX4_settingOf, Cond.code yX4_settingOf cX4_settingOf 2 (some .int), Cond.methodLink RX4 249 yX4_isValue, Cond.static yX4_isValue, Cond.code yX4_isValue cX4_isValue 1 (some .boolean), Cond.methodLink RX4 56 yX4_isSeed, Cond.static yX4_isSeed, Cond.code yX4_isSeed cX4_isSeed 1 (some .boolean), Cond.methodLink RX4 59 yX4_areTicks, Cond.static yX4_areTicks, Cond.code yX4_areTicks cX4_areTicks 1 (some .boolean)]
def wsX4_saved_r2 : List Cond := [Cond.methodLink RX4 69 yX4_runAt, Cond.instanceMethod yX4_runAt, Cond.selects RX4 yX4_runAt yX4_runAt, Cond.code yX4_runAt cX4_runAt 2 (some (.object "TrialBook$Run")), Cond.fieldLink RX4 28 "TrialBook" "runRows" "[LTrialBook$Run;", Cond.methodLink RX4 162 yX2_fitsSettings, Cond.instanceMethod yX2_fitsSettings, Cond.selects RX2 yX2_fitsSettings yX2_fitsSettings, Cond.initialized RX2, Cond.code yX2_fitsSettings cX2_fitsSettings 3 (some .boolean), Cond.fieldLink RX2 12 "TrialBook$Run" "read" "LTrialBook$Notes;", Cond.fieldLink RX2 94 "TrialBook$Notes" "settings" "I", Cond.fieldLink RX2 36 "TrialBook$Run" "settings" "I", Cond.static yX4_isIn, Cond.code yX4_isIn cX4_isIn 2 (some .boolean), Cond.methodLink RX4 165 yX2_fitsSeed, Cond.instanceMethod yX2_fitsSeed, Cond.selects RX2 yX2_fitsSeed yX2_fitsSeed, Cond.code yX2_fitsSeed cX2_fitsSeed 2 (some .boolean), Cond.fieldLink RX2 98 "TrialBook$Notes" "seed" "Z", Cond.fieldLink RX2 39 "TrialBook$Run" "seed" "I", Cond.methodLink RX4 168 yX2_isUsable, Cond.instanceMethod yX2_isUsable, Cond.selects RX2 yX2_isUsable yX2_isUsable]
def wsX4_saved_r3 : List Cond := [Cond.code yX2_isUsable cX2_isUsable 4 (some .boolean), Cond.fieldLink RX2 42 "TrialBook$Run" "ticks" "I", Cond.fieldLink RX2 32 "TrialBook$Run" "code" "LTrialBook$Code;", Cond.methodLink RX2 134 yX2_isComparable, Cond.instanceMethod yX2_isComparable, Cond.selects RX2 yX2_isComparable yX2_isComparable, Cond.code yX2_isComparable cX2_isComparable 1 (some .boolean), Cond.fieldLink RX2 60 "TrialBook$Run" "broken" "Z", Cond.fieldLink RX2 109 "TrialBook$Notes" "clock" "Z", Cond.methodLink RX2 119 yX2_isFork, Cond.instanceMethod yX2_isFork, Cond.selects RX2 yX2_isFork yX2_isFork, Cond.code yX2_isFork cX2_isFork 1 (some .boolean), Cond.fieldLink RX2 22 "TrialBook$Run" "origin" "I", Cond.methodLink RX2 123 yX0_isLike, Cond.instanceMethod yX0_isLike, Cond.selects RX0 yX0_isLike yX0_isLike, Cond.initialized RX0, Cond.code yX0_isLike cX0_isLike 2 (some .boolean), Cond.fieldLink RX0 11 "TrialBook$Code" "count" "I", Cond.fieldLink RX0 17 "TrialBook$Code" "bytes" "J", Cond.methodLink RX2 137 yX1_changedWords, Cond.instanceMethod yX1_changedWords, Cond.selects RX1 yX1_changedWords yX1_changedWords]
def wsX4_saved_r4 : List Cond := [Cond.initialized RX1, Cond.code yX1_changedWords cX1_changedWords 4 (some .int), Cond.fieldLink RX1 9 "TrialBook$Notes" "values" "[I", Cond.fieldLink RX1 15 "TrialBook$Notes" "words" "I", Cond.methodLink RX1 37 yX3_wordAt, Cond.instanceMethod yX3_wordAt, Cond.selects RX3 yX3_wordAt yX3_wordAt, Cond.initialized RX3, Cond.code yX3_wordAt cX3_wordAt 2 (some .int), Cond.fieldLink RX3 9 "TrialBook$World" "words" "[I"]
def wsX4_saved : List Cond := .code yX4_saved cX4_saved 8 (some .int) :: ((wsX4_saved_r1 ++ (wsX4_saved_r2 ++ (wsX4_saved_r3 ++ wsX4_saved_r4))) ++ wsX40 ++ wsX20 ++ wsX10 ++ wsX00 ++ wsX30)
def wsX4_isSetting : List Cond := .code yX4_isSetting cX4_isSetting 1 (some .boolean) :: ([])
def wsX4_canCompare : List Cond := .code yX4_canCompare cX4_canCompare 4 (some .boolean) :: ([.methodLink RX4 195 yX4_isSetting, .static yX4_isSetting, .initialized RX4, .code yX4_isSetting cX4_isSetting 1 (some .boolean), .methodLink RX4 249 yX4_isValue, .static yX4_isValue, .code yX4_isValue cX4_isValue 1 (some .boolean), .methodLink RX4 59 yX4_areTicks, .static yX4_areTicks, .code yX4_areTicks cX4_areTicks 1 (some .boolean)])
def wsX4_standsFor : List Cond := .code yX4_standsFor cX4_standsFor 4 (some .boolean) :: ([.fieldLink RX4 240 "TrialBook$Run" "counts" "Z", .fieldLink RX4 88 "TrialBook$Run" "ticks" "I", .fieldLink RX4 113 "TrialBook$Run" "settings" "I", .methodLink RX4 252 yX4_settingOf, .static yX4_settingOf, .initialized RX4, .code yX4_settingOf cX4_settingOf 2 (some .int)] ++ wsX20)
def wsX4_endsAsAsked : List Cond := .code yX4_endsAsAsked cX4_endsAsAsked 3 (some .boolean) :: ([])
def wsX4_countPairs_r1 : List Cond := [Cond.fieldLink RX4 144 "TrialBook" "runCount" "I", Cond.methodLink RX4 69 yX4_runAt, Cond.instanceMethod yX4_runAt, Cond.selects RX4 yX4_runAt yX4_runAt, Cond.initialized RX4, Cond.code yX4_runAt cX4_runAt 2 (some (.object "TrialBook$Run")), Cond.fieldLink RX4 28 "TrialBook" "runRows" "[LTrialBook$Run;", Cond.methodLink RX4 180 yX4_standsFor, Cond.static yX4_standsFor, Cond.code yX4_standsFor cX4_standsFor 4 (some .boolean), Cond.fieldLink RX4 240 "TrialBook$Run" "counts" "Z", Cond.fieldLink RX4 88 "TrialBook$Run" "ticks" "I", Cond.fieldLink RX4 113 "TrialBook$Run" "settings" "I", Cond.methodLink RX4 252 yX4_settingOf, Cond.static yX4_settingOf, Cond.code yX4_settingOf cX4_settingOf 2 (some .int), Cond.methodLink RX4 184 yX2_pairsWith, Cond.instanceMethod yX2_pairsWith, Cond.selects RX2 yX2_pairsWith yX2_pairsWith, Cond.initialized RX2, Cond.code yX2_pairsWith cX2_pairsWith 4 (some .boolean), Cond.fieldLink RX2 32 "TrialBook$Run" "code" "LTrialBook$Code;", Cond.fieldLink RX2 39 "TrialBook$Run" "seed" "I", Cond.fieldLink RX2 36 "TrialBook$Run" "settings" "I"]
def wsX4_countPairs_r2 : List Cond := [Cond.fieldLink RX2 12 "TrialBook$Run" "read" "LTrialBook$Notes;", Cond.methodLink RX2 123 yX0_isLike, Cond.instanceMethod yX0_isLike, Cond.selects RX0 yX0_isLike yX0_isLike, Cond.initialized RX0, Cond.code yX0_isLike cX0_isLike 2 (some .boolean), Cond.fieldLink RX0 11 "TrialBook$Code" "count" "I", Cond.fieldLink RX0 17 "TrialBook$Code" "bytes" "J", Cond.methodLink RX2 130 yX1_agreesOnSharedWords, Cond.instanceMethod yX1_agreesOnSharedWords, Cond.selects RX1 yX1_agreesOnSharedWords yX1_agreesOnSharedWords, Cond.initialized RX1, Cond.code yX1_agreesOnSharedWords cX1_agreesOnSharedWords 4 (some .boolean), Cond.fieldLink RX1 15 "TrialBook$Notes" "words" "I", Cond.fieldLink RX1 9 "TrialBook$Notes" "values" "[I", Cond.static yX4_isIn, Cond.code yX4_isIn cX4_isIn 2 (some .boolean), Cond.methodLink RX4 230 yX2_lastRow, Cond.instanceMethod yX2_lastRow, Cond.selects RX2 yX2_lastRow yX2_lastRow, Cond.code yX2_lastRow cX2_lastRow 1 (some .int), Cond.fieldLink RX2 49 "TrialBook$Run" "rowCount" "I", Cond.methodLink RX2 45 yX2_rowAt, Cond.instanceMethod yX2_rowAt]
def wsX4_countPairs_r3 : List Cond := [Cond.selects RX2 yX2_rowAt yX2_rowAt, Cond.code yX2_rowAt cX2_rowAt 2 (some .int), Cond.fieldLink RX2 18 "TrialBook$Run" "rows" "[I", Cond.methodLink RX4 255 yX4_endsAsAsked, Cond.static yX4_endsAsAsked, Cond.code yX4_endsAsAsked cX4_endsAsAsked 3 (some .boolean)]
def wsX4_countPairs : List Cond := .code yX4_countPairs cX4_countPairs 11 (some .int) :: ((wsX4_countPairs_r1 ++ (wsX4_countPairs_r2 ++ wsX4_countPairs_r3)) ++ wsX40 ++ wsX20 ++ wsX00 ++ wsX10)
def wsX4_pairs_r1 : List Cond := [Cond.methodLink RX4 172 yX4_canCompare, Cond.static yX4_canCompare, Cond.initialized RX4, Cond.code yX4_canCompare cX4_canCompare 4 (some .boolean), Cond.methodLink RX4 195 yX4_isSetting, Cond.static yX4_isSetting, Cond.code yX4_isSetting cX4_isSetting 1 (some .boolean), Cond.methodLink RX4 249 yX4_isValue, Cond.static yX4_isValue, Cond.code yX4_isValue cX4_isValue 1 (some .boolean), Cond.methodLink RX4 59 yX4_areTicks, Cond.static yX4_areTicks, Cond.code yX4_areTicks cX4_areTicks 1 (some .boolean), Cond.methodLink RX4 176 yX4_countPairs, Cond.instanceMethod yX4_countPairs, Cond.selects RX4 yX4_countPairs yX4_countPairs, Cond.code yX4_countPairs cX4_countPairs 11 (some .int), Cond.fieldLink RX4 144 "TrialBook" "runCount" "I", Cond.methodLink RX4 69 yX4_runAt, Cond.instanceMethod yX4_runAt, Cond.selects RX4 yX4_runAt yX4_runAt, Cond.code yX4_runAt cX4_runAt 2 (some (.object "TrialBook$Run")), Cond.fieldLink RX4 28 "TrialBook" "runRows" "[LTrialBook$Run;", Cond.methodLink RX4 180 yX4_standsFor]
def wsX4_pairs_r2 : List Cond := [Cond.static yX4_standsFor, Cond.code yX4_standsFor cX4_standsFor 4 (some .boolean), Cond.fieldLink RX4 240 "TrialBook$Run" "counts" "Z", Cond.fieldLink RX4 88 "TrialBook$Run" "ticks" "I", Cond.fieldLink RX4 113 "TrialBook$Run" "settings" "I", Cond.methodLink RX4 252 yX4_settingOf, Cond.static yX4_settingOf, Cond.code yX4_settingOf cX4_settingOf 2 (some .int), Cond.methodLink RX4 184 yX2_pairsWith, Cond.instanceMethod yX2_pairsWith, Cond.selects RX2 yX2_pairsWith yX2_pairsWith, Cond.initialized RX2, Cond.code yX2_pairsWith cX2_pairsWith 4 (some .boolean), Cond.fieldLink RX2 32 "TrialBook$Run" "code" "LTrialBook$Code;", Cond.fieldLink RX2 39 "TrialBook$Run" "seed" "I", Cond.fieldLink RX2 36 "TrialBook$Run" "settings" "I", Cond.fieldLink RX2 12 "TrialBook$Run" "read" "LTrialBook$Notes;", Cond.methodLink RX2 123 yX0_isLike, Cond.instanceMethod yX0_isLike, Cond.selects RX0 yX0_isLike yX0_isLike, Cond.initialized RX0, Cond.code yX0_isLike cX0_isLike 2 (some .boolean), Cond.fieldLink RX0 11 "TrialBook$Code" "count" "I", Cond.fieldLink RX0 17 "TrialBook$Code" "bytes" "J"]
def wsX4_pairs_r3 : List Cond := [Cond.methodLink RX2 130 yX1_agreesOnSharedWords, Cond.instanceMethod yX1_agreesOnSharedWords, Cond.selects RX1 yX1_agreesOnSharedWords yX1_agreesOnSharedWords, Cond.initialized RX1, Cond.code yX1_agreesOnSharedWords cX1_agreesOnSharedWords 4 (some .boolean), Cond.fieldLink RX1 15 "TrialBook$Notes" "words" "I", Cond.fieldLink RX1 9 "TrialBook$Notes" "values" "[I", Cond.static yX4_isIn, Cond.code yX4_isIn cX4_isIn 2 (some .boolean), Cond.methodLink RX4 230 yX2_lastRow, Cond.instanceMethod yX2_lastRow, Cond.selects RX2 yX2_lastRow yX2_lastRow, Cond.code yX2_lastRow cX2_lastRow 1 (some .int), Cond.fieldLink RX2 49 "TrialBook$Run" "rowCount" "I", Cond.methodLink RX2 45 yX2_rowAt, Cond.instanceMethod yX2_rowAt, Cond.selects RX2 yX2_rowAt yX2_rowAt, Cond.code yX2_rowAt cX2_rowAt 2 (some .int), Cond.fieldLink RX2 18 "TrialBook$Run" "rows" "[I", Cond.methodLink RX4 255 yX4_endsAsAsked, Cond.static yX4_endsAsAsked, Cond.code yX4_endsAsAsked cX4_endsAsAsked 3 (some .boolean)]
def wsX4_pairs : List Cond := .code yX4_pairs cX4_pairs 6 (some .int) :: ((wsX4_pairs_r1 ++ (wsX4_pairs_r2 ++ wsX4_pairs_r3)) ++ wsX40 ++ wsX20 ++ wsX00 ++ wsX10)
def wsX4_pair_r1 : List Cond := [Cond.fieldLink RX4 144 "TrialBook" "runCount" "I", Cond.methodLink RX4 172 yX4_canCompare, Cond.static yX4_canCompare, Cond.initialized RX4, Cond.code yX4_canCompare cX4_canCompare 4 (some .boolean), Cond.methodLink RX4 195 yX4_isSetting, Cond.static yX4_isSetting, Cond.code yX4_isSetting cX4_isSetting 1 (some .boolean), Cond.methodLink RX4 249 yX4_isValue, Cond.static yX4_isValue, Cond.code yX4_isValue cX4_isValue 1 (some .boolean), Cond.methodLink RX4 59 yX4_areTicks, Cond.static yX4_areTicks, Cond.code yX4_areTicks cX4_areTicks 1 (some .boolean), Cond.methodLink RX4 69 yX4_runAt, Cond.instanceMethod yX4_runAt, Cond.selects RX4 yX4_runAt yX4_runAt, Cond.code yX4_runAt cX4_runAt 2 (some (.object "TrialBook$Run")), Cond.fieldLink RX4 28 "TrialBook" "runRows" "[LTrialBook$Run;", Cond.methodLink RX4 180 yX4_standsFor, Cond.static yX4_standsFor, Cond.code yX4_standsFor cX4_standsFor 4 (some .boolean), Cond.fieldLink RX4 240 "TrialBook$Run" "counts" "Z", Cond.fieldLink RX4 88 "TrialBook$Run" "ticks" "I"]
def wsX4_pair_r2 : List Cond := [Cond.fieldLink RX4 113 "TrialBook$Run" "settings" "I", Cond.methodLink RX4 252 yX4_settingOf, Cond.static yX4_settingOf, Cond.code yX4_settingOf cX4_settingOf 2 (some .int), Cond.methodLink RX4 184 yX2_pairsWith, Cond.instanceMethod yX2_pairsWith, Cond.selects RX2 yX2_pairsWith yX2_pairsWith, Cond.initialized RX2, Cond.code yX2_pairsWith cX2_pairsWith 4 (some .boolean), Cond.fieldLink RX2 32 "TrialBook$Run" "code" "LTrialBook$Code;", Cond.fieldLink RX2 39 "TrialBook$Run" "seed" "I", Cond.fieldLink RX2 36 "TrialBook$Run" "settings" "I", Cond.fieldLink RX2 12 "TrialBook$Run" "read" "LTrialBook$Notes;", Cond.methodLink RX2 123 yX0_isLike, Cond.instanceMethod yX0_isLike, Cond.selects RX0 yX0_isLike yX0_isLike, Cond.initialized RX0, Cond.code yX0_isLike cX0_isLike 2 (some .boolean), Cond.fieldLink RX0 11 "TrialBook$Code" "count" "I", Cond.fieldLink RX0 17 "TrialBook$Code" "bytes" "J", Cond.methodLink RX2 130 yX1_agreesOnSharedWords, Cond.instanceMethod yX1_agreesOnSharedWords, Cond.selects RX1 yX1_agreesOnSharedWords yX1_agreesOnSharedWords, Cond.initialized RX1]
def wsX4_pair_r3 : List Cond := [Cond.code yX1_agreesOnSharedWords cX1_agreesOnSharedWords 4 (some .boolean), Cond.fieldLink RX1 15 "TrialBook$Notes" "words" "I", Cond.fieldLink RX1 9 "TrialBook$Notes" "values" "[I", Cond.static yX4_isIn, Cond.code yX4_isIn cX4_isIn 2 (some .boolean)]
def wsX4_pair : List Cond := .code yX4_pair cX4_pair 12 (some .int) :: ((wsX4_pair_r1 ++ (wsX4_pair_r2 ++ wsX4_pair_r3)) ++ wsX40 ++ wsX20 ++ wsX00 ++ wsX10)
def wsX4_areOdds : List Cond := .code yX4_areOdds cX4_areOdds 1 (some .boolean) :: ([.constant RX4 273 (1000000)])
def wsX4_waysToWin : List Cond := .code yX4_waysToWin cX4_waysToWin 7 (some .long) :: ([])
def wsX4_judge_r1 : List Cond := [Cond.methodLink RX4 176 yX4_countPairs, Cond.instanceMethod yX4_countPairs, Cond.selects RX4 yX4_countPairs yX4_countPairs, Cond.initialized RX4, Cond.code yX4_countPairs cX4_countPairs 11 (some .int), Cond.fieldLink RX4 144 "TrialBook" "runCount" "I", Cond.methodLink RX4 69 yX4_runAt, Cond.instanceMethod yX4_runAt, Cond.selects RX4 yX4_runAt yX4_runAt, Cond.code yX4_runAt cX4_runAt 2 (some (.object "TrialBook$Run")), Cond.fieldLink RX4 28 "TrialBook" "runRows" "[LTrialBook$Run;", Cond.methodLink RX4 180 yX4_standsFor, Cond.static yX4_standsFor, Cond.code yX4_standsFor cX4_standsFor 4 (some .boolean), Cond.fieldLink RX4 240 "TrialBook$Run" "counts" "Z", Cond.fieldLink RX4 88 "TrialBook$Run" "ticks" "I", Cond.fieldLink RX4 113 "TrialBook$Run" "settings" "I", Cond.methodLink RX4 252 yX4_settingOf, Cond.static yX4_settingOf, Cond.code yX4_settingOf cX4_settingOf 2 (some .int), Cond.methodLink RX4 184 yX2_pairsWith, Cond.instanceMethod yX2_pairsWith, Cond.selects RX2 yX2_pairsWith yX2_pairsWith, Cond.initialized RX2]
def wsX4_judge_r2 : List Cond := [Cond.code yX2_pairsWith cX2_pairsWith 4 (some .boolean), Cond.fieldLink RX2 32 "TrialBook$Run" "code" "LTrialBook$Code;", Cond.fieldLink RX2 39 "TrialBook$Run" "seed" "I", Cond.fieldLink RX2 36 "TrialBook$Run" "settings" "I", Cond.fieldLink RX2 12 "TrialBook$Run" "read" "LTrialBook$Notes;", Cond.methodLink RX2 123 yX0_isLike, Cond.instanceMethod yX0_isLike, Cond.selects RX0 yX0_isLike yX0_isLike, Cond.initialized RX0, Cond.code yX0_isLike cX0_isLike 2 (some .boolean), Cond.fieldLink RX0 11 "TrialBook$Code" "count" "I", Cond.fieldLink RX0 17 "TrialBook$Code" "bytes" "J", Cond.methodLink RX2 130 yX1_agreesOnSharedWords, Cond.instanceMethod yX1_agreesOnSharedWords, Cond.selects RX1 yX1_agreesOnSharedWords yX1_agreesOnSharedWords, Cond.initialized RX1, Cond.code yX1_agreesOnSharedWords cX1_agreesOnSharedWords 4 (some .boolean), Cond.fieldLink RX1 15 "TrialBook$Notes" "words" "I", Cond.fieldLink RX1 9 "TrialBook$Notes" "values" "[I", Cond.static yX4_isIn, Cond.code yX4_isIn cX4_isIn 2 (some .boolean), Cond.methodLink RX4 230 yX2_lastRow, Cond.instanceMethod yX2_lastRow, Cond.selects RX2 yX2_lastRow yX2_lastRow]
def wsX4_judge_r3 : List Cond := [Cond.code yX2_lastRow cX2_lastRow 1 (some .int), Cond.fieldLink RX2 49 "TrialBook$Run" "rowCount" "I", Cond.methodLink RX2 45 yX2_rowAt, Cond.instanceMethod yX2_rowAt, Cond.selects RX2 yX2_rowAt yX2_rowAt, Cond.code yX2_rowAt cX2_rowAt 2 (some .int), Cond.fieldLink RX2 18 "TrialBook$Run" "rows" "[I", Cond.methodLink RX4 255 yX4_endsAsAsked, Cond.static yX4_endsAsAsked, Cond.code yX4_endsAsAsked cX4_endsAsAsked 3 (some .boolean), Cond.methodLink RX4 259 yX4_waysToWin, Cond.static yX4_waysToWin, Cond.code yX4_waysToWin cX4_waysToWin 7 (some .long), Cond.methodLink RX4 119 yX4_asNumber, Cond.static yX4_asNumber, Cond.code yX4_asNumber cX4_asNumber 1 (some .int)]
def wsX4_judge : List Cond := .code yX4_judge cX4_judge 9 (some .int) :: ((wsX4_judge_r1 ++ (wsX4_judge_r2 ++ wsX4_judge_r3)) ++ wsX40 ++ wsX20 ++ wsX00 ++ wsX10)
def wsX4_sure_r1 : List Cond := [Cond.methodLink RX4 172 yX4_canCompare, Cond.static yX4_canCompare, Cond.initialized RX4, Cond.code yX4_canCompare cX4_canCompare 4 (some .boolean), Cond.methodLink RX4 195 yX4_isSetting, Cond.static yX4_isSetting, Cond.code yX4_isSetting cX4_isSetting 1 (some .boolean), Cond.methodLink RX4 249 yX4_isValue, Cond.static yX4_isValue, Cond.code yX4_isValue cX4_isValue 1 (some .boolean), Cond.methodLink RX4 59 yX4_areTicks, Cond.static yX4_areTicks, Cond.code yX4_areTicks cX4_areTicks 1 (some .boolean), Cond.methodLink RX4 188 yX4_areOdds, Cond.static yX4_areOdds, Cond.code yX4_areOdds cX4_areOdds 1 (some .boolean), Cond.constant RX4 273 (1000000), Cond.methodLink RX4 191 yX4_judge, Cond.instanceMethod yX4_judge, Cond.selects RX4 yX4_judge yX4_judge, Cond.code yX4_judge cX4_judge 9 (some .int), Cond.methodLink RX4 176 yX4_countPairs, Cond.instanceMethod yX4_countPairs, Cond.selects RX4 yX4_countPairs yX4_countPairs]
def wsX4_sure_r2 : List Cond := [Cond.code yX4_countPairs cX4_countPairs 11 (some .int), Cond.fieldLink RX4 144 "TrialBook" "runCount" "I", Cond.methodLink RX4 69 yX4_runAt, Cond.instanceMethod yX4_runAt, Cond.selects RX4 yX4_runAt yX4_runAt, Cond.code yX4_runAt cX4_runAt 2 (some (.object "TrialBook$Run")), Cond.fieldLink RX4 28 "TrialBook" "runRows" "[LTrialBook$Run;", Cond.methodLink RX4 180 yX4_standsFor, Cond.static yX4_standsFor, Cond.code yX4_standsFor cX4_standsFor 4 (some .boolean), Cond.fieldLink RX4 240 "TrialBook$Run" "counts" "Z", Cond.fieldLink RX4 88 "TrialBook$Run" "ticks" "I", Cond.fieldLink RX4 113 "TrialBook$Run" "settings" "I", Cond.methodLink RX4 252 yX4_settingOf, Cond.static yX4_settingOf, Cond.code yX4_settingOf cX4_settingOf 2 (some .int), Cond.methodLink RX4 184 yX2_pairsWith, Cond.instanceMethod yX2_pairsWith, Cond.selects RX2 yX2_pairsWith yX2_pairsWith, Cond.initialized RX2, Cond.code yX2_pairsWith cX2_pairsWith 4 (some .boolean), Cond.fieldLink RX2 32 "TrialBook$Run" "code" "LTrialBook$Code;", Cond.fieldLink RX2 39 "TrialBook$Run" "seed" "I", Cond.fieldLink RX2 36 "TrialBook$Run" "settings" "I"]
def wsX4_sure_r3 : List Cond := [Cond.fieldLink RX2 12 "TrialBook$Run" "read" "LTrialBook$Notes;", Cond.methodLink RX2 123 yX0_isLike, Cond.instanceMethod yX0_isLike, Cond.selects RX0 yX0_isLike yX0_isLike, Cond.initialized RX0, Cond.code yX0_isLike cX0_isLike 2 (some .boolean), Cond.fieldLink RX0 11 "TrialBook$Code" "count" "I", Cond.fieldLink RX0 17 "TrialBook$Code" "bytes" "J", Cond.methodLink RX2 130 yX1_agreesOnSharedWords, Cond.instanceMethod yX1_agreesOnSharedWords, Cond.selects RX1 yX1_agreesOnSharedWords yX1_agreesOnSharedWords, Cond.initialized RX1, Cond.code yX1_agreesOnSharedWords cX1_agreesOnSharedWords 4 (some .boolean), Cond.fieldLink RX1 15 "TrialBook$Notes" "words" "I", Cond.fieldLink RX1 9 "TrialBook$Notes" "values" "[I", Cond.static yX4_isIn, Cond.code yX4_isIn cX4_isIn 2 (some .boolean), Cond.methodLink RX4 230 yX2_lastRow, Cond.instanceMethod yX2_lastRow, Cond.selects RX2 yX2_lastRow yX2_lastRow, Cond.code yX2_lastRow cX2_lastRow 1 (some .int), Cond.fieldLink RX2 49 "TrialBook$Run" "rowCount" "I", Cond.methodLink RX2 45 yX2_rowAt, Cond.instanceMethod yX2_rowAt]
def wsX4_sure_r4 : List Cond := [Cond.selects RX2 yX2_rowAt yX2_rowAt, Cond.code yX2_rowAt cX2_rowAt 2 (some .int), Cond.fieldLink RX2 18 "TrialBook$Run" "rows" "[I", Cond.methodLink RX4 255 yX4_endsAsAsked, Cond.static yX4_endsAsAsked, Cond.code yX4_endsAsAsked cX4_endsAsAsked 3 (some .boolean), Cond.methodLink RX4 259 yX4_waysToWin, Cond.static yX4_waysToWin, Cond.code yX4_waysToWin cX4_waysToWin 7 (some .long), Cond.methodLink RX4 119 yX4_asNumber, Cond.static yX4_asNumber, Cond.code yX4_asNumber cX4_asNumber 1 (some .int)]
def wsX4_sure : List Cond := .code yX4_sure cX4_sure 7 (some .int) :: ((wsX4_sure_r1 ++ (wsX4_sure_r2 ++ (wsX4_sure_r3 ++ wsX4_sure_r4))) ++ wsX40 ++ wsX20 ++ wsX00 ++ wsX10)
def wsX4_boundOf : List Cond := .code yX4_boundOf cX4_boundOf 2 (some .int) :: ([.fieldLink RX4 15 "TrialBook" "bounds" "[I"] ++ wsX40)
def wsX4_beatsOthers_r1 : List Cond := [Cond.methodLink RX4 198 yX4_boundOf, Cond.instanceMethod yX4_boundOf, Cond.selects RX4 yX4_boundOf yX4_boundOf, Cond.initialized RX4, Cond.code yX4_boundOf cX4_boundOf 2 (some .int), Cond.fieldLink RX4 15 "TrialBook" "bounds" "[I", Cond.methodLink RX4 191 yX4_judge, Cond.instanceMethod yX4_judge, Cond.selects RX4 yX4_judge yX4_judge, Cond.code yX4_judge cX4_judge 9 (some .int), Cond.methodLink RX4 176 yX4_countPairs, Cond.instanceMethod yX4_countPairs, Cond.selects RX4 yX4_countPairs yX4_countPairs, Cond.code yX4_countPairs cX4_countPairs 11 (some .int), Cond.fieldLink RX4 144 "TrialBook" "runCount" "I", Cond.methodLink RX4 69 yX4_runAt, Cond.instanceMethod yX4_runAt, Cond.selects RX4 yX4_runAt yX4_runAt, Cond.code yX4_runAt cX4_runAt 2 (some (.object "TrialBook$Run")), Cond.fieldLink RX4 28 "TrialBook" "runRows" "[LTrialBook$Run;", Cond.methodLink RX4 180 yX4_standsFor, Cond.static yX4_standsFor, Cond.code yX4_standsFor cX4_standsFor 4 (some .boolean), Cond.fieldLink RX4 240 "TrialBook$Run" "counts" "Z"]
def wsX4_beatsOthers_r2 : List Cond := [Cond.fieldLink RX4 88 "TrialBook$Run" "ticks" "I", Cond.fieldLink RX4 113 "TrialBook$Run" "settings" "I", Cond.methodLink RX4 252 yX4_settingOf, Cond.static yX4_settingOf, Cond.code yX4_settingOf cX4_settingOf 2 (some .int), Cond.methodLink RX4 184 yX2_pairsWith, Cond.instanceMethod yX2_pairsWith, Cond.selects RX2 yX2_pairsWith yX2_pairsWith, Cond.initialized RX2, Cond.code yX2_pairsWith cX2_pairsWith 4 (some .boolean), Cond.fieldLink RX2 32 "TrialBook$Run" "code" "LTrialBook$Code;", Cond.fieldLink RX2 39 "TrialBook$Run" "seed" "I", Cond.fieldLink RX2 36 "TrialBook$Run" "settings" "I", Cond.fieldLink RX2 12 "TrialBook$Run" "read" "LTrialBook$Notes;", Cond.methodLink RX2 123 yX0_isLike, Cond.instanceMethod yX0_isLike, Cond.selects RX0 yX0_isLike yX0_isLike, Cond.initialized RX0, Cond.code yX0_isLike cX0_isLike 2 (some .boolean), Cond.fieldLink RX0 11 "TrialBook$Code" "count" "I", Cond.fieldLink RX0 17 "TrialBook$Code" "bytes" "J", Cond.methodLink RX2 130 yX1_agreesOnSharedWords, Cond.instanceMethod yX1_agreesOnSharedWords, Cond.selects RX1 yX1_agreesOnSharedWords yX1_agreesOnSharedWords]
def wsX4_beatsOthers_r3 : List Cond := [Cond.initialized RX1, Cond.code yX1_agreesOnSharedWords cX1_agreesOnSharedWords 4 (some .boolean), Cond.fieldLink RX1 15 "TrialBook$Notes" "words" "I", Cond.fieldLink RX1 9 "TrialBook$Notes" "values" "[I", Cond.static yX4_isIn, Cond.code yX4_isIn cX4_isIn 2 (some .boolean), Cond.methodLink RX4 230 yX2_lastRow, Cond.instanceMethod yX2_lastRow, Cond.selects RX2 yX2_lastRow yX2_lastRow, Cond.code yX2_lastRow cX2_lastRow 1 (some .int), Cond.fieldLink RX2 49 "TrialBook$Run" "rowCount" "I", Cond.methodLink RX2 45 yX2_rowAt, Cond.instanceMethod yX2_rowAt, Cond.selects RX2 yX2_rowAt yX2_rowAt, Cond.code yX2_rowAt cX2_rowAt 2 (some .int), Cond.fieldLink RX2 18 "TrialBook$Run" "rows" "[I", Cond.methodLink RX4 255 yX4_endsAsAsked, Cond.static yX4_endsAsAsked, Cond.code yX4_endsAsAsked cX4_endsAsAsked 3 (some .boolean), Cond.methodLink RX4 259 yX4_waysToWin, Cond.static yX4_waysToWin, Cond.code yX4_waysToWin cX4_waysToWin 7 (some .long), Cond.methodLink RX4 119 yX4_asNumber, Cond.static yX4_asNumber]
def wsX4_beatsOthers_r4 : List Cond := [Cond.code yX4_asNumber cX4_asNumber 1 (some .int)]
def wsX4_beatsOthers : List Cond := .code yX4_beatsOthers cX4_beatsOthers 8 (some .boolean) :: ((wsX4_beatsOthers_r1 ++ (wsX4_beatsOthers_r2 ++ (wsX4_beatsOthers_r3 ++ wsX4_beatsOthers_r4))) ++ wsX40 ++ wsX20 ++ wsX00 ++ wsX10)
def wsX4_best_r1 : List Cond := [Cond.methodLink RX4 195 yX4_isSetting, Cond.static yX4_isSetting, Cond.initialized RX4, Cond.code yX4_isSetting cX4_isSetting 1 (some .boolean), Cond.methodLink RX4 59 yX4_areTicks, Cond.static yX4_areTicks, Cond.code yX4_areTicks cX4_areTicks 1 (some .boolean), Cond.methodLink RX4 188 yX4_areOdds, Cond.static yX4_areOdds, Cond.code yX4_areOdds cX4_areOdds 1 (some .boolean), Cond.constant RX4 273 (1000000), Cond.methodLink RX4 198 yX4_boundOf, Cond.instanceMethod yX4_boundOf, Cond.selects RX4 yX4_boundOf yX4_boundOf, Cond.code yX4_boundOf cX4_boundOf 2 (some .int), Cond.fieldLink RX4 15 "TrialBook" "bounds" "[I", Cond.methodLink RX4 201 yX4_beatsOthers, Cond.instanceMethod yX4_beatsOthers, Cond.selects RX4 yX4_beatsOthers yX4_beatsOthers, Cond.code yX4_beatsOthers cX4_beatsOthers 8 (some .boolean), Cond.methodLink RX4 191 yX4_judge, Cond.instanceMethod yX4_judge, Cond.selects RX4 yX4_judge yX4_judge, Cond.code yX4_judge cX4_judge 9 (some .int)]
def wsX4_best_r2 : List Cond := [Cond.methodLink RX4 176 yX4_countPairs, Cond.instanceMethod yX4_countPairs, Cond.selects RX4 yX4_countPairs yX4_countPairs, Cond.code yX4_countPairs cX4_countPairs 11 (some .int), Cond.fieldLink RX4 144 "TrialBook" "runCount" "I", Cond.methodLink RX4 69 yX4_runAt, Cond.instanceMethod yX4_runAt, Cond.selects RX4 yX4_runAt yX4_runAt, Cond.code yX4_runAt cX4_runAt 2 (some (.object "TrialBook$Run")), Cond.fieldLink RX4 28 "TrialBook" "runRows" "[LTrialBook$Run;", Cond.methodLink RX4 180 yX4_standsFor, Cond.static yX4_standsFor, Cond.code yX4_standsFor cX4_standsFor 4 (some .boolean), Cond.fieldLink RX4 240 "TrialBook$Run" "counts" "Z", Cond.fieldLink RX4 88 "TrialBook$Run" "ticks" "I", Cond.fieldLink RX4 113 "TrialBook$Run" "settings" "I", Cond.methodLink RX4 252 yX4_settingOf, Cond.static yX4_settingOf, Cond.code yX4_settingOf cX4_settingOf 2 (some .int), Cond.methodLink RX4 184 yX2_pairsWith, Cond.instanceMethod yX2_pairsWith, Cond.selects RX2 yX2_pairsWith yX2_pairsWith, Cond.initialized RX2, Cond.code yX2_pairsWith cX2_pairsWith 4 (some .boolean)]
def wsX4_best_r3 : List Cond := [Cond.fieldLink RX2 32 "TrialBook$Run" "code" "LTrialBook$Code;", Cond.fieldLink RX2 39 "TrialBook$Run" "seed" "I", Cond.fieldLink RX2 36 "TrialBook$Run" "settings" "I", Cond.fieldLink RX2 12 "TrialBook$Run" "read" "LTrialBook$Notes;", Cond.methodLink RX2 123 yX0_isLike, Cond.instanceMethod yX0_isLike, Cond.selects RX0 yX0_isLike yX0_isLike, Cond.initialized RX0, Cond.code yX0_isLike cX0_isLike 2 (some .boolean), Cond.fieldLink RX0 11 "TrialBook$Code" "count" "I", Cond.fieldLink RX0 17 "TrialBook$Code" "bytes" "J", Cond.methodLink RX2 130 yX1_agreesOnSharedWords, Cond.instanceMethod yX1_agreesOnSharedWords, Cond.selects RX1 yX1_agreesOnSharedWords yX1_agreesOnSharedWords, Cond.initialized RX1, Cond.code yX1_agreesOnSharedWords cX1_agreesOnSharedWords 4 (some .boolean), Cond.fieldLink RX1 15 "TrialBook$Notes" "words" "I", Cond.fieldLink RX1 9 "TrialBook$Notes" "values" "[I", Cond.static yX4_isIn, Cond.code yX4_isIn cX4_isIn 2 (some .boolean), Cond.methodLink RX4 230 yX2_lastRow, Cond.instanceMethod yX2_lastRow, Cond.selects RX2 yX2_lastRow yX2_lastRow, Cond.code yX2_lastRow cX2_lastRow 1 (some .int)]
def wsX4_best_r4 : List Cond := [Cond.fieldLink RX2 49 "TrialBook$Run" "rowCount" "I", Cond.methodLink RX2 45 yX2_rowAt, Cond.instanceMethod yX2_rowAt, Cond.selects RX2 yX2_rowAt yX2_rowAt, Cond.code yX2_rowAt cX2_rowAt 2 (some .int), Cond.fieldLink RX2 18 "TrialBook$Run" "rows" "[I", Cond.methodLink RX4 255 yX4_endsAsAsked, Cond.static yX4_endsAsAsked, Cond.code yX4_endsAsAsked cX4_endsAsAsked 3 (some .boolean), Cond.methodLink RX4 259 yX4_waysToWin, Cond.static yX4_waysToWin, Cond.code yX4_waysToWin cX4_waysToWin 7 (some .long), Cond.methodLink RX4 119 yX4_asNumber, Cond.static yX4_asNumber, Cond.code yX4_asNumber cX4_asNumber 1 (some .int)]
def wsX4_best : List Cond := .code yX4_best cX4_best 8 (some .int) :: ((wsX4_best_r1 ++ (wsX4_best_r2 ++ (wsX4_best_r3 ++ wsX4_best_r4))) ++ wsX40 ++ wsX20 ++ wsX00 ++ wsX10)
def wsX4_areGridSeeds : List Cond := .code yX4_areGridSeeds cX4_areGridSeeds 1 (some .boolean) :: ([])
def wsX4_gatherFillers_r1 : List Cond := [Cond.fieldLink RX4 263 "TrialBook" "fillerCount" "I", Cond.fieldLink RX4 144 "TrialBook" "runCount" "I", Cond.fieldLink RX4 22 "TrialBook" "world" "LTrialBook$World;", Cond.fieldLink RX4 38 "TrialBook" "fillers" "[LTrialBook$Run;", Cond.methodLink RX4 69 yX4_runAt, Cond.instanceMethod yX4_runAt, Cond.selects RX4 yX4_runAt yX4_runAt, Cond.initialized RX4, Cond.code yX4_runAt cX4_runAt 2 (some (.object "TrialBook$Run")), Cond.fieldLink RX4 28 "TrialBook" "runRows" "[LTrialBook$Run;", Cond.methodLink RX4 168 yX2_isUsable, Cond.instanceMethod yX2_isUsable, Cond.selects RX2 yX2_isUsable yX2_isUsable, Cond.initialized RX2, Cond.code yX2_isUsable cX2_isUsable 4 (some .boolean), Cond.fieldLink RX2 42 "TrialBook$Run" "ticks" "I", Cond.fieldLink RX2 32 "TrialBook$Run" "code" "LTrialBook$Code;", Cond.fieldLink RX2 12 "TrialBook$Run" "read" "LTrialBook$Notes;", Cond.methodLink RX2 134 yX2_isComparable, Cond.instanceMethod yX2_isComparable, Cond.selects RX2 yX2_isComparable yX2_isComparable, Cond.code yX2_isComparable cX2_isComparable 1 (some .boolean), Cond.fieldLink RX2 60 "TrialBook$Run" "broken" "Z", Cond.fieldLink RX2 109 "TrialBook$Notes" "clock" "Z"]
def wsX4_gatherFillers_r2 : List Cond := [Cond.methodLink RX2 119 yX2_isFork, Cond.instanceMethod yX2_isFork, Cond.selects RX2 yX2_isFork yX2_isFork, Cond.code yX2_isFork cX2_isFork 1 (some .boolean), Cond.fieldLink RX2 22 "TrialBook$Run" "origin" "I", Cond.methodLink RX2 123 yX0_isLike, Cond.instanceMethod yX0_isLike, Cond.selects RX0 yX0_isLike yX0_isLike, Cond.initialized RX0, Cond.code yX0_isLike cX0_isLike 2 (some .boolean), Cond.fieldLink RX0 11 "TrialBook$Code" "count" "I", Cond.fieldLink RX0 17 "TrialBook$Code" "bytes" "J", Cond.methodLink RX2 137 yX1_changedWords, Cond.instanceMethod yX1_changedWords, Cond.selects RX1 yX1_changedWords yX1_changedWords, Cond.initialized RX1, Cond.code yX1_changedWords cX1_changedWords 4 (some .int), Cond.fieldLink RX1 9 "TrialBook$Notes" "values" "[I", Cond.fieldLink RX1 15 "TrialBook$Notes" "words" "I", Cond.static yX4_isIn, Cond.code yX4_isIn cX4_isIn 2 (some .boolean), Cond.methodLink RX1 37 yX3_wordAt, Cond.instanceMethod yX3_wordAt, Cond.selects RX3 yX3_wordAt yX3_wordAt]
def wsX4_gatherFillers_r3 : List Cond := [Cond.initialized RX3, Cond.code yX3_wordAt cX3_wordAt 2 (some .int), Cond.fieldLink RX3 9 "TrialBook$World" "words" "[I"]
def wsX4_gatherFillers : List Cond := .code yX4_gatherFillers cX4_gatherFillers 5 none :: ((wsX4_gatherFillers_r1 ++ (wsX4_gatherFillers_r2 ++ wsX4_gatherFillers_r3)) ++ wsX40 ++ wsX20 ++ wsX10 ++ wsX00 ++ wsX30)
def wsX4_openSeeds : List Cond := .code yX4_openSeeds cX4_openSeeds 6 (some .int) :: ([.fieldLink RX4 263 "TrialBook" "fillerCount" "I", .fieldLink RX4 38 "TrialBook" "fillers" "[LTrialBook$Run;", .methodLink RX4 162 yX2_fitsSettings, .instanceMethod yX2_fitsSettings, .selects RX2 yX2_fitsSettings yX2_fitsSettings, .initialized RX2, .code yX2_fitsSettings cX2_fitsSettings 3 (some .boolean), .fieldLink RX2 12 "TrialBook$Run" "read" "LTrialBook$Notes;", .fieldLink RX2 94 "TrialBook$Notes" "settings" "I", .fieldLink RX2 36 "TrialBook$Run" "settings" "I", .static yX4_isIn, .initialized RX4, .code yX4_isIn cX4_isIn 2 (some .boolean), .static yX4_settingOf, .code yX4_settingOf cX4_settingOf 2 (some .int), .methodLink RX4 266 yX2_gridSeeds, .instanceMethod yX2_gridSeeds, .selects RX2 yX2_gridSeeds yX2_gridSeeds, .code yX2_gridSeeds cX2_gridSeeds 1 (some .int), .fieldLink RX2 98 "TrialBook$Notes" "seed" "Z", .fieldLink RX2 39 "TrialBook$Run" "seed" "I"] ++ wsX40 ++ wsX20 ++ wsX10)
def wsJ6_bitCount_0f7a4 : List Cond := .code yJ6_bitCount_0f7a4 cJ6_bitCount_0f7a4 1 (some .int) :: ([.constant RJ6 265 (1431655765), .constant RJ6 266 (858993459), .constant RJ6 267 (252645135)])
def wsX4_nextSettings : List Cond := .code yX4_nextSettings cX4_nextSettings 5 (some .int) :: ([.methodLink RX4 252 yX4_settingOf, .static yX4_settingOf, .initialized RX4, .code yX4_settingOf cX4_settingOf 2 (some .int), .methodLink RX4 198 yX4_boundOf, .instanceMethod yX4_boundOf, .selects RX4 yX4_boundOf yX4_boundOf, .code yX4_boundOf cX4_boundOf 2 (some .int), .fieldLink RX4 15 "TrialBook" "bounds" "[I"] ++ wsX40)
def wsX4_holes_r1 : List Cond := [Cond.methodLink RX4 48 yX4_codeAt, Cond.instanceMethod yX4_codeAt, Cond.selects RX4 yX4_codeAt yX4_codeAt, Cond.initialized RX4, Cond.code yX4_codeAt cX4_codeAt 2 (some (.object "TrialBook$Code")), Cond.fieldLink RX4 11 "TrialBook" "codeRows" "[LTrialBook$Code;", Cond.methodLink RX4 59 yX4_areTicks, Cond.static yX4_areTicks, Cond.code yX4_areTicks cX4_areTicks 1 (some .boolean), Cond.methodLink RX4 205 yX4_areGridSeeds, Cond.static yX4_areGridSeeds, Cond.code yX4_areGridSeeds cX4_areGridSeeds 1 (some .boolean), Cond.methodLink RX4 208 yX4_gatherFillers, Cond.instanceMethod yX4_gatherFillers, Cond.selects RX4 yX4_gatherFillers yX4_gatherFillers, Cond.code yX4_gatherFillers cX4_gatherFillers 5 none, Cond.fieldLink RX4 263 "TrialBook" "fillerCount" "I", Cond.fieldLink RX4 144 "TrialBook" "runCount" "I", Cond.fieldLink RX4 22 "TrialBook" "world" "LTrialBook$World;", Cond.fieldLink RX4 38 "TrialBook" "fillers" "[LTrialBook$Run;", Cond.methodLink RX4 69 yX4_runAt, Cond.instanceMethod yX4_runAt, Cond.selects RX4 yX4_runAt yX4_runAt, Cond.code yX4_runAt cX4_runAt 2 (some (.object "TrialBook$Run"))]
def wsX4_holes_r2 : List Cond := [Cond.fieldLink RX4 28 "TrialBook" "runRows" "[LTrialBook$Run;", Cond.methodLink RX4 168 yX2_isUsable, Cond.instanceMethod yX2_isUsable, Cond.selects RX2 yX2_isUsable yX2_isUsable, Cond.initialized RX2, Cond.code yX2_isUsable cX2_isUsable 4 (some .boolean), Cond.fieldLink RX2 42 "TrialBook$Run" "ticks" "I", Cond.fieldLink RX2 32 "TrialBook$Run" "code" "LTrialBook$Code;", Cond.fieldLink RX2 12 "TrialBook$Run" "read" "LTrialBook$Notes;", Cond.methodLink RX2 134 yX2_isComparable, Cond.instanceMethod yX2_isComparable, Cond.selects RX2 yX2_isComparable yX2_isComparable, Cond.code yX2_isComparable cX2_isComparable 1 (some .boolean), Cond.fieldLink RX2 60 "TrialBook$Run" "broken" "Z", Cond.fieldLink RX2 109 "TrialBook$Notes" "clock" "Z", Cond.methodLink RX2 119 yX2_isFork, Cond.instanceMethod yX2_isFork, Cond.selects RX2 yX2_isFork yX2_isFork, Cond.code yX2_isFork cX2_isFork 1 (some .boolean), Cond.fieldLink RX2 22 "TrialBook$Run" "origin" "I", Cond.methodLink RX2 123 yX0_isLike, Cond.instanceMethod yX0_isLike, Cond.selects RX0 yX0_isLike yX0_isLike, Cond.initialized RX0]
def wsX4_holes_r3 : List Cond := [Cond.code yX0_isLike cX0_isLike 2 (some .boolean), Cond.fieldLink RX0 11 "TrialBook$Code" "count" "I", Cond.fieldLink RX0 17 "TrialBook$Code" "bytes" "J", Cond.methodLink RX2 137 yX1_changedWords, Cond.instanceMethod yX1_changedWords, Cond.selects RX1 yX1_changedWords yX1_changedWords, Cond.initialized RX1, Cond.code yX1_changedWords cX1_changedWords 4 (some .int), Cond.fieldLink RX1 9 "TrialBook$Notes" "values" "[I", Cond.fieldLink RX1 15 "TrialBook$Notes" "words" "I", Cond.static yX4_isIn, Cond.code yX4_isIn cX4_isIn 2 (some .boolean), Cond.methodLink RX1 37 yX3_wordAt, Cond.instanceMethod yX3_wordAt, Cond.selects RX3 yX3_wordAt yX3_wordAt, Cond.initialized RX3, Cond.code yX3_wordAt cX3_wordAt 2 (some .int), Cond.fieldLink RX3 9 "TrialBook$World" "words" "[I", Cond.methodLink RX4 212 yX4_openSeeds, Cond.instanceMethod yX4_openSeeds, Cond.selects RX4 yX4_openSeeds yX4_openSeeds, Cond.code yX4_openSeeds cX4_openSeeds 6 (some .int), Cond.methodLink RX4 162 yX2_fitsSettings, Cond.instanceMethod yX2_fitsSettings]
def wsX4_holes_r4 : List Cond := [Cond.selects RX2 yX2_fitsSettings yX2_fitsSettings, Cond.code yX2_fitsSettings cX2_fitsSettings 3 (some .boolean), Cond.fieldLink RX2 94 "TrialBook$Notes" "settings" "I", Cond.fieldLink RX2 36 "TrialBook$Run" "settings" "I", Cond.static yX4_settingOf, Cond.code yX4_settingOf cX4_settingOf 2 (some .int), Cond.methodLink RX4 266 yX2_gridSeeds, Cond.instanceMethod yX2_gridSeeds, Cond.selects RX2 yX2_gridSeeds yX2_gridSeeds, Cond.code yX2_gridSeeds cX2_gridSeeds 1 (some .int), Cond.fieldLink RX2 98 "TrialBook$Notes" "seed" "Z", Cond.fieldLink RX2 39 "TrialBook$Run" "seed" "I", Cond.methodLink RX4 216 yJ6_bitCount_0f7a4, Cond.static yJ6_bitCount_0f7a4, Cond.initialized RJ6, Cond.code yJ6_bitCount_0f7a4 cJ6_bitCount_0f7a4 1 (some .int), Cond.constant RJ6 265 (1431655765), Cond.constant RJ6 266 (858993459), Cond.constant RJ6 267 (252645135), Cond.methodLink RX4 221 yX4_nextSettings, Cond.instanceMethod yX4_nextSettings, Cond.selects RX4 yX4_nextSettings yX4_nextSettings, Cond.code yX4_nextSettings cX4_nextSettings 5 (some .int), Cond.methodLink RX4 252 yX4_settingOf]
def wsX4_holes_r5 : List Cond := [Cond.methodLink RX4 198 yX4_boundOf, Cond.instanceMethod yX4_boundOf, Cond.selects RX4 yX4_boundOf yX4_boundOf, Cond.code yX4_boundOf cX4_boundOf 2 (some .int), Cond.fieldLink RX4 15 "TrialBook" "bounds" "[I"]
def wsX4_holes : List Cond := .code yX4_holes cX4_holes 8 (some .int) :: ((wsX4_holes_r1 ++ (wsX4_holes_r2 ++ (wsX4_holes_r3 ++ (wsX4_holes_r4 ++ wsX4_holes_r5)))) ++ wsX40 ++ wsX20 ++ wsX10 ++ wsX00 ++ wsX30)
def wsX4_memberAt : List Cond := .code yX4_memberAt cX4_memberAt 4 (some .int) :: ([.methodLink RX4 269 yX4_isIn, .static yX4_isIn, .initialized RX4, .code yX4_isIn cX4_isIn 2 (some .boolean)])
def wsX4_hole_r1 : List Cond := [Cond.methodLink RX4 48 yX4_codeAt, Cond.instanceMethod yX4_codeAt, Cond.selects RX4 yX4_codeAt yX4_codeAt, Cond.initialized RX4, Cond.code yX4_codeAt cX4_codeAt 2 (some (.object "TrialBook$Code")), Cond.fieldLink RX4 11 "TrialBook" "codeRows" "[LTrialBook$Code;", Cond.methodLink RX4 59 yX4_areTicks, Cond.static yX4_areTicks, Cond.code yX4_areTicks cX4_areTicks 1 (some .boolean), Cond.methodLink RX4 205 yX4_areGridSeeds, Cond.static yX4_areGridSeeds, Cond.code yX4_areGridSeeds cX4_areGridSeeds 1 (some .boolean), Cond.methodLink RX4 208 yX4_gatherFillers, Cond.instanceMethod yX4_gatherFillers, Cond.selects RX4 yX4_gatherFillers yX4_gatherFillers, Cond.code yX4_gatherFillers cX4_gatherFillers 5 none, Cond.fieldLink RX4 263 "TrialBook" "fillerCount" "I", Cond.fieldLink RX4 144 "TrialBook" "runCount" "I", Cond.fieldLink RX4 22 "TrialBook" "world" "LTrialBook$World;", Cond.fieldLink RX4 38 "TrialBook" "fillers" "[LTrialBook$Run;", Cond.methodLink RX4 69 yX4_runAt, Cond.instanceMethod yX4_runAt, Cond.selects RX4 yX4_runAt yX4_runAt, Cond.code yX4_runAt cX4_runAt 2 (some (.object "TrialBook$Run"))]
def wsX4_hole_r2 : List Cond := [Cond.fieldLink RX4 28 "TrialBook" "runRows" "[LTrialBook$Run;", Cond.methodLink RX4 168 yX2_isUsable, Cond.instanceMethod yX2_isUsable, Cond.selects RX2 yX2_isUsable yX2_isUsable, Cond.initialized RX2, Cond.code yX2_isUsable cX2_isUsable 4 (some .boolean), Cond.fieldLink RX2 42 "TrialBook$Run" "ticks" "I", Cond.fieldLink RX2 32 "TrialBook$Run" "code" "LTrialBook$Code;", Cond.fieldLink RX2 12 "TrialBook$Run" "read" "LTrialBook$Notes;", Cond.methodLink RX2 134 yX2_isComparable, Cond.instanceMethod yX2_isComparable, Cond.selects RX2 yX2_isComparable yX2_isComparable, Cond.code yX2_isComparable cX2_isComparable 1 (some .boolean), Cond.fieldLink RX2 60 "TrialBook$Run" "broken" "Z", Cond.fieldLink RX2 109 "TrialBook$Notes" "clock" "Z", Cond.methodLink RX2 119 yX2_isFork, Cond.instanceMethod yX2_isFork, Cond.selects RX2 yX2_isFork yX2_isFork, Cond.code yX2_isFork cX2_isFork 1 (some .boolean), Cond.fieldLink RX2 22 "TrialBook$Run" "origin" "I", Cond.methodLink RX2 123 yX0_isLike, Cond.instanceMethod yX0_isLike, Cond.selects RX0 yX0_isLike yX0_isLike, Cond.initialized RX0]
def wsX4_hole_r3 : List Cond := [Cond.code yX0_isLike cX0_isLike 2 (some .boolean), Cond.fieldLink RX0 11 "TrialBook$Code" "count" "I", Cond.fieldLink RX0 17 "TrialBook$Code" "bytes" "J", Cond.methodLink RX2 137 yX1_changedWords, Cond.instanceMethod yX1_changedWords, Cond.selects RX1 yX1_changedWords yX1_changedWords, Cond.initialized RX1, Cond.code yX1_changedWords cX1_changedWords 4 (some .int), Cond.fieldLink RX1 9 "TrialBook$Notes" "values" "[I", Cond.fieldLink RX1 15 "TrialBook$Notes" "words" "I", Cond.static yX4_isIn, Cond.code yX4_isIn cX4_isIn 2 (some .boolean), Cond.methodLink RX1 37 yX3_wordAt, Cond.instanceMethod yX3_wordAt, Cond.selects RX3 yX3_wordAt yX3_wordAt, Cond.initialized RX3, Cond.code yX3_wordAt cX3_wordAt 2 (some .int), Cond.fieldLink RX3 9 "TrialBook$World" "words" "[I", Cond.methodLink RX4 212 yX4_openSeeds, Cond.instanceMethod yX4_openSeeds, Cond.selects RX4 yX4_openSeeds yX4_openSeeds, Cond.code yX4_openSeeds cX4_openSeeds 6 (some .int), Cond.methodLink RX4 162 yX2_fitsSettings, Cond.instanceMethod yX2_fitsSettings]
def wsX4_hole_r4 : List Cond := [Cond.selects RX2 yX2_fitsSettings yX2_fitsSettings, Cond.code yX2_fitsSettings cX2_fitsSettings 3 (some .boolean), Cond.fieldLink RX2 94 "TrialBook$Notes" "settings" "I", Cond.fieldLink RX2 36 "TrialBook$Run" "settings" "I", Cond.static yX4_settingOf, Cond.code yX4_settingOf cX4_settingOf 2 (some .int), Cond.methodLink RX4 266 yX2_gridSeeds, Cond.instanceMethod yX2_gridSeeds, Cond.selects RX2 yX2_gridSeeds yX2_gridSeeds, Cond.code yX2_gridSeeds cX2_gridSeeds 1 (some .int), Cond.fieldLink RX2 98 "TrialBook$Notes" "seed" "Z", Cond.fieldLink RX2 39 "TrialBook$Run" "seed" "I", Cond.methodLink RX4 216 yJ6_bitCount_0f7a4, Cond.static yJ6_bitCount_0f7a4, Cond.initialized RJ6, Cond.code yJ6_bitCount_0f7a4 cJ6_bitCount_0f7a4 1 (some .int), Cond.constant RJ6 265 (1431655765), Cond.constant RJ6 266 (858993459), Cond.constant RJ6 267 (252645135), Cond.methodLink RX4 224 yX4_memberAt, Cond.static yX4_memberAt, Cond.code yX4_memberAt cX4_memberAt 4 (some .int), Cond.methodLink RX4 269 yX4_isIn, Cond.methodLink RX4 221 yX4_nextSettings]
def wsX4_hole_r5 : List Cond := [Cond.instanceMethod yX4_nextSettings, Cond.selects RX4 yX4_nextSettings yX4_nextSettings, Cond.code yX4_nextSettings cX4_nextSettings 5 (some .int), Cond.methodLink RX4 252 yX4_settingOf, Cond.methodLink RX4 198 yX4_boundOf, Cond.instanceMethod yX4_boundOf, Cond.selects RX4 yX4_boundOf yX4_boundOf, Cond.code yX4_boundOf cX4_boundOf 2 (some .int), Cond.fieldLink RX4 15 "TrialBook" "bounds" "[I"]
def wsX4_hole : List Cond := .code yX4_hole cX4_hole 12 (some .int) :: ((wsX4_hole_r1 ++ (wsX4_hole_r2 ++ (wsX4_hole_r3 ++ (wsX4_hole_r4 ++ wsX4_hole_r5)))) ++ wsX40 ++ wsX20 ++ wsX10 ++ wsX00 ++ wsX30)
def wsX4_idle : List Cond := .code yX4_idle cX4_idle 4 (some .int) :: ([.fieldLink RX4 144 "TrialBook" "runCount" "I", .fieldLink RX4 99 "TrialBook$Run" "read" "LTrialBook$Notes;", .fieldLink RX4 129 "TrialBook$Notes" "settings" "I", .methodLink RX4 69 yX4_runAt, .instanceMethod yX4_runAt, .selects RX4 yX4_runAt yX4_runAt, .initialized RX4, .code yX4_runAt cX4_runAt 2 (some (.object "TrialBook$Run")), .fieldLink RX4 28 "TrialBook" "runRows" "[LTrialBook$Run;"] ++ wsX40 ++ wsX20 ++ wsX10)
def wsX4_claim : List Cond := .code yX4_claim cX4_claim 3 (some .int) :: ([.fieldLink RX4 73 "TrialBook$Run" "broken" "Z", .fieldLink RX4 227 "TrialBook" "claimCount" "I", .fieldLink RX4 32 "TrialBook" "claimRuns" "[I", .fieldLink RX4 35 "TrialBook" "claimRows" "[I", .methodLink RX4 69 yX4_runAt, .instanceMethod yX4_runAt, .selects RX4 yX4_runAt yX4_runAt, .initialized RX4, .code yX4_runAt cX4_runAt 2 (some (.object "TrialBook$Run")), .fieldLink RX4 144 "TrialBook" "runCount" "I", .fieldLink RX4 28 "TrialBook" "runRows" "[LTrialBook$Run;", .methodLink RX4 230 yX2_lastRow, .instanceMethod yX2_lastRow, .selects RX2 yX2_lastRow yX2_lastRow, .initialized RX2, .code yX2_lastRow cX2_lastRow 1 (some .int), .fieldLink RX2 49 "TrialBook$Run" "rowCount" "I", .methodLink RX2 45 yX2_rowAt, .instanceMethod yX2_rowAt, .selects RX2 yX2_rowAt yX2_rowAt, .code yX2_rowAt cX2_rowAt 2 (some .int), .fieldLink RX2 18 "TrialBook$Run" "rows" "[I"] ++ wsX20 ++ wsX40)
def wsX4_claimed_r1 : List Cond := [Cond.fieldLink RX4 227 "TrialBook" "claimCount" "I", Cond.fieldLink RX4 32 "TrialBook" "claimRuns" "[I", Cond.fieldLink RX4 35 "TrialBook" "claimRows" "[I", Cond.methodLink RX4 69 yX4_runAt, Cond.instanceMethod yX4_runAt, Cond.selects RX4 yX4_runAt yX4_runAt, Cond.initialized RX4, Cond.code yX4_runAt cX4_runAt 2 (some (.object "TrialBook$Run")), Cond.fieldLink RX4 144 "TrialBook" "runCount" "I", Cond.fieldLink RX4 28 "TrialBook" "runRows" "[LTrialBook$Run;", Cond.methodLink RX4 138 yX4_isStale, Cond.instanceMethod yX4_isStale, Cond.selects RX4 yX4_isStale yX4_isStale, Cond.code yX4_isStale cX4_isStale 2 (some .boolean), Cond.fieldLink RX4 84 "TrialBook$Run" "code" "LTrialBook$Code;", Cond.fieldLink RX4 81 "TrialBook$Run" "codeNumber" "I", Cond.fieldLink RX4 99 "TrialBook$Run" "read" "LTrialBook$Notes;", Cond.fieldLink RX4 22 "TrialBook" "world" "LTrialBook$World;", Cond.methodLink RX4 48 yX4_codeAt, Cond.instanceMethod yX4_codeAt, Cond.selects RX4 yX4_codeAt yX4_codeAt, Cond.code yX4_codeAt cX4_codeAt 2 (some (.object "TrialBook$Code")), Cond.fieldLink RX4 11 "TrialBook" "codeRows" "[LTrialBook$Code;", Cond.methodLink RX4 246 yX0_isLike]
def wsX4_claimed_r2 : List Cond := [Cond.instanceMethod yX0_isLike, Cond.selects RX0 yX0_isLike yX0_isLike, Cond.initialized RX0, Cond.code yX0_isLike cX0_isLike 2 (some .boolean), Cond.fieldLink RX0 11 "TrialBook$Code" "count" "I", Cond.fieldLink RX0 17 "TrialBook$Code" "bytes" "J", Cond.methodLink RX4 158 yX1_changedWords, Cond.instanceMethod yX1_changedWords, Cond.selects RX1 yX1_changedWords yX1_changedWords, Cond.initialized RX1, Cond.code yX1_changedWords cX1_changedWords 4 (some .int), Cond.fieldLink RX1 9 "TrialBook$Notes" "values" "[I", Cond.fieldLink RX1 15 "TrialBook$Notes" "words" "I", Cond.static yX4_isIn, Cond.code yX4_isIn cX4_isIn 2 (some .boolean), Cond.methodLink RX1 37 yX3_wordAt, Cond.instanceMethod yX3_wordAt, Cond.selects RX3 yX3_wordAt yX3_wordAt, Cond.initialized RX3, Cond.code yX3_wordAt cX3_wordAt 2 (some .int), Cond.fieldLink RX3 9 "TrialBook$World" "words" "[I", Cond.methodLink RX4 119 yX4_asNumber, Cond.static yX4_asNumber, Cond.code yX4_asNumber cX4_asNumber 1 (some .int)]
def wsX4_claimed : List Cond := .code yX4_claimed cX4_claimed 3 (some .int) :: ((wsX4_claimed_r1 ++ wsX4_claimed_r2) ++ wsX40 ++ wsX20 ++ wsX00 ++ wsX10 ++ wsX30)
def wsX5_init_r1 : List Cond := [Cond.methodLink RX5 1 objectInit, Cond.instanceMethod objectInit, Cond.code objectInit ⟨#[0xb1]⟩ 1 none, Cond.arrayClass .int, Cond.fieldLink RX5 7 "TrialBookModel" "codeLong" "[I", Cond.fieldLink RX5 13 "TrialBookModel" "codeStep" "[I", Cond.fieldLink RX5 16 "TrialBookModel" "data" "[I", Cond.fieldLink RX5 19 "TrialBookModel" "bound" "[I", Cond.fieldLink RX5 22 "TrialBookModel" "code" "[I", Cond.fieldLink RX5 25 "TrialBookModel" "runLong" "[I", Cond.fieldLink RX5 28 "TrialBookModel" "runStep" "[I", Cond.fieldLink RX5 31 "TrialBookModel" "settings" "[I", Cond.fieldLink RX5 34 "TrialBookModel" "seed" "[I", Cond.fieldLink RX5 37 "TrialBookModel" "ticks" "[I", Cond.fieldLink RX5 40 "TrialBookModel" "rows" "[I", Cond.fieldLink RX5 43 "TrialBookModel" "row" "[I", Cond.arrayClass .boolean, Cond.fieldLink RX5 46 "TrialBookModel" "isBroken" "[Z", Cond.fieldLink RX5 50 "TrialBookModel" "parent" "[I", Cond.fieldLink RX5 53 "TrialBookModel" "at" "[I", Cond.fieldLink RX5 56 "TrialBookModel" "readSettings" "[I", Cond.fieldLink RX5 59 "TrialBookModel" "readData" "[I", Cond.fieldLink RX5 62 "TrialBookModel" "dataWas" "[I", Cond.fieldLink RX5 65 "TrialBookModel" "readSeed" "[Z"]
def wsX5_init_r2 : List Cond := [Cond.fieldLink RX5 68 "TrialBookModel" "readClock" "[Z", Cond.fieldLink RX5 71 "TrialBookModel" "doneRow" "[I", Cond.fieldLink RX5 74 "TrialBookModel" "claimRun" "[I"]
def wsX5_init : List Cond := .code yX5_init cX5_init 1 none :: ((wsX5_init_r1 ++ wsX5_init_r2) ++ wsX50)
def wsX5_isCode : List Cond := .code yX5_isCode cX5_isCode 2 (some .boolean) :: ([])
def wsX5_code : List Cond := .code yX5_code cX5_code 6 (some .boolean) :: ([.fieldLink RX5 77 "TrialBookModel" "told" "I", .fieldLink RX5 7 "TrialBookModel" "codeLong" "[I", .fieldLink RX5 13 "TrialBookModel" "codeStep" "[I", .methodLink RX5 81 yX5_isCode, .instanceMethod yX5_isCode, .selects RX5 yX5_isCode yX5_isCode, .initialized RX5, .code yX5_isCode cX5_isCode 2 (some .boolean)] ++ wsX50)
def wsX5_data : List Cond := .code yX5_data cX5_data 3 (some .boolean) :: ([.fieldLink RX5 77 "TrialBookModel" "told" "I", .fieldLink RX5 16 "TrialBookModel" "data" "[I"] ++ wsX50)
def wsX5_bound : List Cond := .code yX5_bound cX5_bound 3 (some .boolean) :: ([.fieldLink RX5 77 "TrialBookModel" "told" "I", .fieldLink RX5 19 "TrialBookModel" "bound" "[I"] ++ wsX50)
def wsX5_setting : List Cond := .code yX5_setting cX5_setting 3 (some .int) :: ([])
def wsX5_areSettings : List Cond := .code yX5_areSettings cX5_areSettings 3 (some .boolean) :: ([.constant RX5 85 (65535), .methodLink RX5 86 yX5_setting, .instanceMethod yX5_setting, .selects RX5 yX5_setting yX5_setting, .initialized RX5, .code yX5_setting cX5_setting 3 (some .int)])
def wsX5_isSeed : List Cond := .code yX5_isSeed cX5_isSeed 2 (some .boolean) :: ([])
def wsX5_areTicks : List Cond := .code yX5_areTicks cX5_areTicks 2 (some .boolean) :: ([])
def wsX5_isRun : List Cond := .code yX5_isRun cX5_isRun 2 (some .boolean) :: ([.fieldLink RX5 90 "TrialBookModel" "runs" "I"] ++ wsX50)
def wsX5_step : List Cond := .code yX5_step cX5_step 8 (some .int) :: ([.fieldLink RX5 93 "TrialBookModel" "doneReadSettings" "I", .fieldLink RX5 96 "TrialBookModel" "skips" "Z", .fieldLink RX5 100 "TrialBookModel" "doneReadSeed" "Z", .fieldLink RX5 103 "TrialBookModel" "doneReadData" "I", .fieldLink RX5 16 "TrialBookModel" "data" "[I", .fieldLink RX5 106 "TrialBookModel" "doneReadClock" "Z", .fieldLink RX5 109 "TrialBookModel" "clock" "I", .fieldLink RX5 112 "TrialBookModel" "stops" "Z", .methodLink RX5 86 yX5_setting, .instanceMethod yX5_setting, .selects RX5 yX5_setting yX5_setting, .initialized RX5, .code yX5_setting cX5_setting 3 (some .int)] ++ wsX50)
def wsX5_goes : List Cond := .code yX5_goes cX5_goes 10 none :: ([.fieldLink RX5 115 "TrialBookModel" "doneRows" "I", .fieldLink RX5 118 "TrialBookModel" "doneBroken" "Z", .fieldLink RX5 93 "TrialBookModel" "doneReadSettings" "I", .fieldLink RX5 103 "TrialBookModel" "doneReadData" "I", .fieldLink RX5 100 "TrialBookModel" "doneReadSeed" "Z", .fieldLink RX5 106 "TrialBookModel" "doneReadClock" "Z", .fieldLink RX5 112 "TrialBookModel" "stops" "Z", .fieldLink RX5 96 "TrialBookModel" "skips" "Z", .fieldLink RX5 25 "TrialBookModel" "runLong" "[I", .fieldLink RX5 28 "TrialBookModel" "runStep" "[I", .fieldLink RX5 71 "TrialBookModel" "doneRow" "[I", .methodLink RX5 121 yX5_step, .instanceMethod yX5_step, .selects RX5 yX5_step yX5_step, .initialized RX5, .code yX5_step cX5_step 8 (some .int), .fieldLink RX5 16 "TrialBookModel" "data" "[I", .fieldLink RX5 109 "TrialBookModel" "clock" "I", .methodLink RX5 86 yX5_setting, .instanceMethod yX5_setting, .selects RX5 yX5_setting yX5_setting, .code yX5_setting cX5_setting 3 (some .int)] ++ wsX50)
def wsX5_takes : List Cond := .code yX5_takes cX5_takes 4 none :: ([.fieldLink RX5 115 "TrialBookModel" "doneRows" "I", .fieldLink RX5 43 "TrialBookModel" "row" "[I", .fieldLink RX5 71 "TrialBookModel" "doneRow" "[I", .fieldLink RX5 40 "TrialBookModel" "rows" "[I", .fieldLink RX5 46 "TrialBookModel" "isBroken" "[Z", .fieldLink RX5 118 "TrialBookModel" "doneBroken" "Z", .fieldLink RX5 56 "TrialBookModel" "readSettings" "[I", .fieldLink RX5 93 "TrialBookModel" "doneReadSettings" "I", .fieldLink RX5 65 "TrialBookModel" "readSeed" "[Z", .fieldLink RX5 100 "TrialBookModel" "doneReadSeed" "Z", .fieldLink RX5 68 "TrialBookModel" "readClock" "[Z", .fieldLink RX5 106 "TrialBookModel" "doneReadClock" "Z", .fieldLink RX5 103 "TrialBookModel" "doneReadData" "I", .fieldLink RX5 62 "TrialBookModel" "dataWas" "[I", .fieldLink RX5 16 "TrialBookModel" "data" "[I", .fieldLink RX5 59 "TrialBookModel" "readData" "[I"] ++ wsX50)
def wsX5_run_r1 : List Cond := [Cond.fieldLink RX5 77 "TrialBookModel" "told" "I", Cond.fieldLink RX5 90 "TrialBookModel" "runs" "I", Cond.fieldLink RX5 109 "TrialBookModel" "clock" "I", Cond.fieldLink RX5 22 "TrialBookModel" "code" "[I", Cond.fieldLink RX5 25 "TrialBookModel" "runLong" "[I", Cond.fieldLink RX5 7 "TrialBookModel" "codeLong" "[I", Cond.fieldLink RX5 28 "TrialBookModel" "runStep" "[I", Cond.fieldLink RX5 13 "TrialBookModel" "codeStep" "[I", Cond.fieldLink RX5 31 "TrialBookModel" "settings" "[I", Cond.fieldLink RX5 34 "TrialBookModel" "seed" "[I", Cond.fieldLink RX5 37 "TrialBookModel" "ticks" "[I", Cond.fieldLink RX5 50 "TrialBookModel" "parent" "[I", Cond.fieldLink RX5 53 "TrialBookModel" "at" "[I", Cond.methodLink RX5 81 yX5_isCode, Cond.instanceMethod yX5_isCode, Cond.selects RX5 yX5_isCode yX5_isCode, Cond.initialized RX5, Cond.code yX5_isCode cX5_isCode 2 (some .boolean), Cond.methodLink RX5 125 yX5_areSettings, Cond.instanceMethod yX5_areSettings, Cond.selects RX5 yX5_areSettings yX5_areSettings, Cond.code yX5_areSettings cX5_areSettings 3 (some .boolean), Cond.constant RX5 85 (65535), Cond.methodLink RX5 86 yX5_setting]
def wsX5_run_r2 : List Cond := [Cond.instanceMethod yX5_setting, Cond.selects RX5 yX5_setting yX5_setting, Cond.code yX5_setting cX5_setting 3 (some .int), Cond.methodLink RX5 128 yX5_isSeed, Cond.instanceMethod yX5_isSeed, Cond.selects RX5 yX5_isSeed yX5_isSeed, Cond.code yX5_isSeed cX5_isSeed 2 (some .boolean), Cond.methodLink RX5 131 yX5_areTicks, Cond.instanceMethod yX5_areTicks, Cond.selects RX5 yX5_areTicks yX5_areTicks, Cond.code yX5_areTicks cX5_areTicks 2 (some .boolean), Cond.methodLink RX5 134 yX5_goes, Cond.instanceMethod yX5_goes, Cond.selects RX5 yX5_goes yX5_goes, Cond.code yX5_goes cX5_goes 10 none, Cond.fieldLink RX5 115 "TrialBookModel" "doneRows" "I", Cond.fieldLink RX5 118 "TrialBookModel" "doneBroken" "Z", Cond.fieldLink RX5 93 "TrialBookModel" "doneReadSettings" "I", Cond.fieldLink RX5 103 "TrialBookModel" "doneReadData" "I", Cond.fieldLink RX5 100 "TrialBookModel" "doneReadSeed" "Z", Cond.fieldLink RX5 106 "TrialBookModel" "doneReadClock" "Z", Cond.fieldLink RX5 112 "TrialBookModel" "stops" "Z", Cond.fieldLink RX5 96 "TrialBookModel" "skips" "Z", Cond.fieldLink RX5 71 "TrialBookModel" "doneRow" "[I"]
def wsX5_run_r3 : List Cond := [Cond.methodLink RX5 121 yX5_step, Cond.instanceMethod yX5_step, Cond.selects RX5 yX5_step yX5_step, Cond.code yX5_step cX5_step 8 (some .int), Cond.fieldLink RX5 16 "TrialBookModel" "data" "[I", Cond.methodLink RX5 138 yX5_takes, Cond.instanceMethod yX5_takes, Cond.selects RX5 yX5_takes yX5_takes, Cond.code yX5_takes cX5_takes 4 none, Cond.fieldLink RX5 43 "TrialBookModel" "row" "[I", Cond.fieldLink RX5 40 "TrialBookModel" "rows" "[I", Cond.fieldLink RX5 46 "TrialBookModel" "isBroken" "[Z", Cond.fieldLink RX5 56 "TrialBookModel" "readSettings" "[I", Cond.fieldLink RX5 65 "TrialBookModel" "readSeed" "[Z", Cond.fieldLink RX5 68 "TrialBookModel" "readClock" "[Z", Cond.fieldLink RX5 62 "TrialBookModel" "dataWas" "[I", Cond.fieldLink RX5 59 "TrialBookModel" "readData" "[I"]
def wsX5_run : List Cond := .code yX5_run cX5_run 7 (some .int) :: ((wsX5_run_r1 ++ (wsX5_run_r2 ++ wsX5_run_r3)) ++ wsX50)
def wsX5_fork_r1 : List Cond := [Cond.fieldLink RX5 77 "TrialBookModel" "told" "I", Cond.fieldLink RX5 46 "TrialBookModel" "isBroken" "[Z", Cond.fieldLink RX5 40 "TrialBookModel" "rows" "[I", Cond.fieldLink RX5 90 "TrialBookModel" "runs" "I", Cond.fieldLink RX5 109 "TrialBookModel" "clock" "I", Cond.fieldLink RX5 22 "TrialBookModel" "code" "[I", Cond.fieldLink RX5 25 "TrialBookModel" "runLong" "[I", Cond.fieldLink RX5 28 "TrialBookModel" "runStep" "[I", Cond.fieldLink RX5 31 "TrialBookModel" "settings" "[I", Cond.fieldLink RX5 34 "TrialBookModel" "seed" "[I", Cond.fieldLink RX5 37 "TrialBookModel" "ticks" "[I", Cond.fieldLink RX5 50 "TrialBookModel" "parent" "[I", Cond.fieldLink RX5 53 "TrialBookModel" "at" "[I", Cond.fieldLink RX5 43 "TrialBookModel" "row" "[I", Cond.fieldLink RX5 56 "TrialBookModel" "readSettings" "[I", Cond.fieldLink RX5 59 "TrialBookModel" "readData" "[I", Cond.fieldLink RX5 62 "TrialBookModel" "dataWas" "[I", Cond.fieldLink RX5 65 "TrialBookModel" "readSeed" "[Z", Cond.fieldLink RX5 68 "TrialBookModel" "readClock" "[Z", Cond.methodLink RX5 142 yX5_isRun, Cond.instanceMethod yX5_isRun, Cond.selects RX5 yX5_isRun yX5_isRun, Cond.initialized RX5, Cond.code yX5_isRun cX5_isRun 2 (some .boolean)]
def wsX5_fork_r2 : List Cond := [Cond.methodLink RX5 125 yX5_areSettings, Cond.instanceMethod yX5_areSettings, Cond.selects RX5 yX5_areSettings yX5_areSettings, Cond.code yX5_areSettings cX5_areSettings 3 (some .boolean), Cond.constant RX5 85 (65535), Cond.methodLink RX5 86 yX5_setting, Cond.instanceMethod yX5_setting, Cond.selects RX5 yX5_setting yX5_setting, Cond.code yX5_setting cX5_setting 3 (some .int), Cond.methodLink RX5 128 yX5_isSeed, Cond.instanceMethod yX5_isSeed, Cond.selects RX5 yX5_isSeed yX5_isSeed, Cond.code yX5_isSeed cX5_isSeed 2 (some .boolean), Cond.methodLink RX5 134 yX5_goes, Cond.instanceMethod yX5_goes, Cond.selects RX5 yX5_goes yX5_goes, Cond.code yX5_goes cX5_goes 10 none, Cond.fieldLink RX5 115 "TrialBookModel" "doneRows" "I", Cond.fieldLink RX5 118 "TrialBookModel" "doneBroken" "Z", Cond.fieldLink RX5 93 "TrialBookModel" "doneReadSettings" "I", Cond.fieldLink RX5 103 "TrialBookModel" "doneReadData" "I", Cond.fieldLink RX5 100 "TrialBookModel" "doneReadSeed" "Z", Cond.fieldLink RX5 106 "TrialBookModel" "doneReadClock" "Z", Cond.fieldLink RX5 112 "TrialBookModel" "stops" "Z"]
def wsX5_fork_r3 : List Cond := [Cond.fieldLink RX5 96 "TrialBookModel" "skips" "Z", Cond.fieldLink RX5 71 "TrialBookModel" "doneRow" "[I", Cond.methodLink RX5 121 yX5_step, Cond.instanceMethod yX5_step, Cond.selects RX5 yX5_step yX5_step, Cond.code yX5_step cX5_step 8 (some .int), Cond.fieldLink RX5 16 "TrialBookModel" "data" "[I", Cond.methodLink RX5 138 yX5_takes, Cond.instanceMethod yX5_takes, Cond.selects RX5 yX5_takes yX5_takes, Cond.code yX5_takes cX5_takes 4 none]
def wsX5_fork : List Cond := .code yX5_fork cX5_fork 7 (some .int) :: ((wsX5_fork_r1 ++ (wsX5_fork_r2 ++ wsX5_fork_r3)) ++ wsX50)
def wsX5_isOtherWord : List Cond := .code yX5_isOtherWord cX5_isOtherWord 3 (some .boolean) :: ([.fieldLink RX5 59 "TrialBookModel" "readData" "[I", .fieldLink RX5 62 "TrialBookModel" "dataWas" "[I", .fieldLink RX5 16 "TrialBookModel" "data" "[I"] ++ wsX50)
def wsX5_isCodeOf : List Cond := .code yX5_isCodeOf cX5_isCodeOf 4 (some .boolean) :: ([.fieldLink RX5 25 "TrialBookModel" "runLong" "[I", .fieldLink RX5 7 "TrialBookModel" "codeLong" "[I", .fieldLink RX5 28 "TrialBookModel" "runStep" "[I", .fieldLink RX5 13 "TrialBookModel" "codeStep" "[I"] ++ wsX50)
def wsX5_isStale : List Cond := .code yX5_isStale cX5_isStale 3 (some .boolean) :: ([.fieldLink RX5 22 "TrialBookModel" "code" "[I", .methodLink RX5 145 yX5_isCodeOf, .instanceMethod yX5_isCodeOf, .selects RX5 yX5_isCodeOf yX5_isCodeOf, .initialized RX5, .code yX5_isCodeOf cX5_isCodeOf 4 (some .boolean), .fieldLink RX5 25 "TrialBookModel" "runLong" "[I", .fieldLink RX5 7 "TrialBookModel" "codeLong" "[I", .fieldLink RX5 28 "TrialBookModel" "runStep" "[I", .fieldLink RX5 13 "TrialBookModel" "codeStep" "[I", .methodLink RX5 149 yX5_isOtherWord, .instanceMethod yX5_isOtherWord, .selects RX5 yX5_isOtherWord yX5_isOtherWord, .code yX5_isOtherWord cX5_isOtherWord 3 (some .boolean), .fieldLink RX5 59 "TrialBookModel" "readData" "[I", .fieldLink RX5 62 "TrialBookModel" "dataWas" "[I", .fieldLink RX5 16 "TrialBookModel" "data" "[I"] ++ wsX50)
def wsX5_of_r1 : List Cond := [Cond.fieldLink RX5 77 "TrialBookModel" "told" "I", Cond.fieldLink RX5 22 "TrialBookModel" "code" "[I", Cond.fieldLink RX5 31 "TrialBookModel" "settings" "[I", Cond.fieldLink RX5 34 "TrialBookModel" "seed" "[I", Cond.fieldLink RX5 37 "TrialBookModel" "ticks" "[I", Cond.fieldLink RX5 40 "TrialBookModel" "rows" "[I", Cond.fieldLink RX5 46 "TrialBookModel" "isBroken" "[Z", Cond.fieldLink RX5 50 "TrialBookModel" "parent" "[I", Cond.fieldLink RX5 53 "TrialBookModel" "at" "[I", Cond.fieldLink RX5 56 "TrialBookModel" "readSettings" "[I", Cond.fieldLink RX5 59 "TrialBookModel" "readData" "[I", Cond.fieldLink RX5 65 "TrialBookModel" "readSeed" "[Z", Cond.fieldLink RX5 68 "TrialBookModel" "readClock" "[Z", Cond.fieldLink RX5 43 "TrialBookModel" "row" "[I", Cond.methodLink RX5 142 yX5_isRun, Cond.instanceMethod yX5_isRun, Cond.selects RX5 yX5_isRun yX5_isRun, Cond.initialized RX5, Cond.code yX5_isRun cX5_isRun 2 (some .boolean), Cond.fieldLink RX5 90 "TrialBookModel" "runs" "I", Cond.methodLink RX5 152 yX5_isStale, Cond.instanceMethod yX5_isStale, Cond.selects RX5 yX5_isStale yX5_isStale, Cond.code yX5_isStale cX5_isStale 3 (some .boolean)]
def wsX5_of_r2 : List Cond := [Cond.methodLink RX5 145 yX5_isCodeOf, Cond.instanceMethod yX5_isCodeOf, Cond.selects RX5 yX5_isCodeOf yX5_isCodeOf, Cond.code yX5_isCodeOf cX5_isCodeOf 4 (some .boolean), Cond.fieldLink RX5 25 "TrialBookModel" "runLong" "[I", Cond.fieldLink RX5 7 "TrialBookModel" "codeLong" "[I", Cond.fieldLink RX5 28 "TrialBookModel" "runStep" "[I", Cond.fieldLink RX5 13 "TrialBookModel" "codeStep" "[I", Cond.methodLink RX5 149 yX5_isOtherWord, Cond.instanceMethod yX5_isOtherWord, Cond.selects RX5 yX5_isOtherWord yX5_isOtherWord, Cond.code yX5_isOtherWord cX5_isOtherWord 3 (some .boolean), Cond.fieldLink RX5 62 "TrialBookModel" "dataWas" "[I", Cond.fieldLink RX5 16 "TrialBookModel" "data" "[I"]
def wsX5_of : List Cond := .code yX5_of cX5_of 3 (some .int) :: ((wsX5_of_r1 ++ wsX5_of_r2) ++ wsX50)
def wsX5_clock : List Cond := .code yX5_clock cX5_clock 1 (some .int) :: ([.fieldLink RX5 77 "TrialBookModel" "told" "I", .fieldLink RX5 109 "TrialBookModel" "clock" "I"] ++ wsX50)
def wsX5_runs : List Cond := .code yX5_runs cX5_runs 1 (some .int) :: ([.fieldLink RX5 77 "TrialBookModel" "told" "I", .fieldLink RX5 90 "TrialBookModel" "runs" "I"] ++ wsX50)
def wsX5_again_r1 : List Cond := [Cond.fieldLink RX5 77 "TrialBookModel" "told" "I", Cond.fieldLink RX5 109 "TrialBookModel" "clock" "I", Cond.fieldLink RX5 53 "TrialBookModel" "at" "[I", Cond.fieldLink RX5 43 "TrialBookModel" "row" "[I", Cond.fieldLink RX5 31 "TrialBookModel" "settings" "[I", Cond.fieldLink RX5 34 "TrialBookModel" "seed" "[I", Cond.fieldLink RX5 37 "TrialBookModel" "ticks" "[I", Cond.fieldLink RX5 40 "TrialBookModel" "rows" "[I", Cond.fieldLink RX5 115 "TrialBookModel" "doneRows" "I", Cond.fieldLink RX5 71 "TrialBookModel" "doneRow" "[I", Cond.methodLink RX5 142 yX5_isRun, Cond.instanceMethod yX5_isRun, Cond.selects RX5 yX5_isRun yX5_isRun, Cond.initialized RX5, Cond.code yX5_isRun cX5_isRun 2 (some .boolean), Cond.fieldLink RX5 90 "TrialBookModel" "runs" "I", Cond.methodLink RX5 134 yX5_goes, Cond.instanceMethod yX5_goes, Cond.selects RX5 yX5_goes yX5_goes, Cond.code yX5_goes cX5_goes 10 none, Cond.fieldLink RX5 118 "TrialBookModel" "doneBroken" "Z", Cond.fieldLink RX5 93 "TrialBookModel" "doneReadSettings" "I", Cond.fieldLink RX5 103 "TrialBookModel" "doneReadData" "I", Cond.fieldLink RX5 100 "TrialBookModel" "doneReadSeed" "Z"]
def wsX5_again_r2 : List Cond := [Cond.fieldLink RX5 106 "TrialBookModel" "doneReadClock" "Z", Cond.fieldLink RX5 112 "TrialBookModel" "stops" "Z", Cond.fieldLink RX5 96 "TrialBookModel" "skips" "Z", Cond.fieldLink RX5 25 "TrialBookModel" "runLong" "[I", Cond.fieldLink RX5 28 "TrialBookModel" "runStep" "[I", Cond.methodLink RX5 121 yX5_step, Cond.instanceMethod yX5_step, Cond.selects RX5 yX5_step yX5_step, Cond.code yX5_step cX5_step 8 (some .int), Cond.fieldLink RX5 16 "TrialBookModel" "data" "[I", Cond.methodLink RX5 86 yX5_setting, Cond.instanceMethod yX5_setting, Cond.selects RX5 yX5_setting yX5_setting, Cond.code yX5_setting cX5_setting 3 (some .int)]
def wsX5_again : List Cond := .code yX5_again cX5_again 6 (some .int) :: ((wsX5_again_r1 ++ wsX5_again_r2) ++ wsX50)
def wsX5_loose : List Cond := .code yX5_loose cX5_loose 4 (some .int) :: ([.fieldLink RX5 77 "TrialBookModel" "told" "I", .fieldLink RX5 68 "TrialBookModel" "readClock" "[Z", .methodLink RX5 142 yX5_isRun, .instanceMethod yX5_isRun, .selects RX5 yX5_isRun yX5_isRun, .initialized RX5, .code yX5_isRun cX5_isRun 2 (some .boolean), .fieldLink RX5 90 "TrialBookModel" "runs" "I", .methodLink RX5 149 yX5_isOtherWord, .instanceMethod yX5_isOtherWord, .selects RX5 yX5_isOtherWord yX5_isOtherWord, .code yX5_isOtherWord cX5_isOtherWord 3 (some .boolean), .fieldLink RX5 59 "TrialBookModel" "readData" "[I", .fieldLink RX5 62 "TrialBookModel" "dataWas" "[I", .fieldLink RX5 16 "TrialBookModel" "data" "[I"] ++ wsX50)
def wsX5_savedBy_r1 : List Cond := [Cond.fieldLink RX5 90 "TrialBookModel" "runs" "I", Cond.fieldLink RX5 50 "TrialBookModel" "parent" "[I", Cond.fieldLink RX5 46 "TrialBookModel" "isBroken" "[Z", Cond.fieldLink RX5 68 "TrialBookModel" "readClock" "[Z", Cond.fieldLink RX5 37 "TrialBookModel" "ticks" "[I", Cond.fieldLink RX5 65 "TrialBookModel" "readSeed" "[Z", Cond.fieldLink RX5 34 "TrialBookModel" "seed" "[I", Cond.fieldLink RX5 56 "TrialBookModel" "readSettings" "[I", Cond.fieldLink RX5 31 "TrialBookModel" "settings" "[I", Cond.methodLink RX5 145 yX5_isCodeOf, Cond.instanceMethod yX5_isCodeOf, Cond.selects RX5 yX5_isCodeOf yX5_isCodeOf, Cond.initialized RX5, Cond.code yX5_isCodeOf cX5_isCodeOf 4 (some .boolean), Cond.fieldLink RX5 25 "TrialBookModel" "runLong" "[I", Cond.fieldLink RX5 7 "TrialBookModel" "codeLong" "[I", Cond.fieldLink RX5 28 "TrialBookModel" "runStep" "[I", Cond.fieldLink RX5 13 "TrialBookModel" "codeStep" "[I", Cond.methodLink RX5 86 yX5_setting, Cond.instanceMethod yX5_setting, Cond.selects RX5 yX5_setting yX5_setting, Cond.code yX5_setting cX5_setting 3 (some .int), Cond.methodLink RX5 149 yX5_isOtherWord, Cond.instanceMethod yX5_isOtherWord]
def wsX5_savedBy_r2 : List Cond := [Cond.selects RX5 yX5_isOtherWord yX5_isOtherWord, Cond.code yX5_isOtherWord cX5_isOtherWord 3 (some .boolean), Cond.fieldLink RX5 59 "TrialBookModel" "readData" "[I", Cond.fieldLink RX5 62 "TrialBookModel" "dataWas" "[I", Cond.fieldLink RX5 16 "TrialBookModel" "data" "[I"]
def wsX5_savedBy : List Cond := .code yX5_savedBy cX5_savedBy 8 (some .int) :: ((wsX5_savedBy_r1 ++ wsX5_savedBy_r2) ++ wsX50)
def wsX5_saved_r1 : List Cond := [Cond.fieldLink RX5 77 "TrialBookModel" "told" "I", Cond.methodLink RX5 81 yX5_isCode, Cond.instanceMethod yX5_isCode, Cond.selects RX5 yX5_isCode yX5_isCode, Cond.initialized RX5, Cond.code yX5_isCode cX5_isCode 2 (some .boolean), Cond.methodLink RX5 125 yX5_areSettings, Cond.instanceMethod yX5_areSettings, Cond.selects RX5 yX5_areSettings yX5_areSettings, Cond.code yX5_areSettings cX5_areSettings 3 (some .boolean), Cond.constant RX5 85 (65535), Cond.methodLink RX5 86 yX5_setting, Cond.instanceMethod yX5_setting, Cond.selects RX5 yX5_setting yX5_setting, Cond.code yX5_setting cX5_setting 3 (some .int), Cond.methodLink RX5 128 yX5_isSeed, Cond.instanceMethod yX5_isSeed, Cond.selects RX5 yX5_isSeed yX5_isSeed, Cond.code yX5_isSeed cX5_isSeed 2 (some .boolean), Cond.methodLink RX5 131 yX5_areTicks, Cond.instanceMethod yX5_areTicks, Cond.selects RX5 yX5_areTicks yX5_areTicks, Cond.code yX5_areTicks cX5_areTicks 2 (some .boolean), Cond.methodLink RX5 155 yX5_savedBy]
def wsX5_saved_r2 : List Cond := [Cond.instanceMethod yX5_savedBy, Cond.selects RX5 yX5_savedBy yX5_savedBy, Cond.code yX5_savedBy cX5_savedBy 8 (some .int), Cond.fieldLink RX5 90 "TrialBookModel" "runs" "I", Cond.fieldLink RX5 50 "TrialBookModel" "parent" "[I", Cond.fieldLink RX5 46 "TrialBookModel" "isBroken" "[Z", Cond.fieldLink RX5 68 "TrialBookModel" "readClock" "[Z", Cond.fieldLink RX5 37 "TrialBookModel" "ticks" "[I", Cond.fieldLink RX5 65 "TrialBookModel" "readSeed" "[Z", Cond.fieldLink RX5 34 "TrialBookModel" "seed" "[I", Cond.fieldLink RX5 56 "TrialBookModel" "readSettings" "[I", Cond.fieldLink RX5 31 "TrialBookModel" "settings" "[I", Cond.methodLink RX5 145 yX5_isCodeOf, Cond.instanceMethod yX5_isCodeOf, Cond.selects RX5 yX5_isCodeOf yX5_isCodeOf, Cond.code yX5_isCodeOf cX5_isCodeOf 4 (some .boolean), Cond.fieldLink RX5 25 "TrialBookModel" "runLong" "[I", Cond.fieldLink RX5 7 "TrialBookModel" "codeLong" "[I", Cond.fieldLink RX5 28 "TrialBookModel" "runStep" "[I", Cond.fieldLink RX5 13 "TrialBookModel" "codeStep" "[I", Cond.methodLink RX5 149 yX5_isOtherWord, Cond.instanceMethod yX5_isOtherWord, Cond.selects RX5 yX5_isOtherWord yX5_isOtherWord, Cond.code yX5_isOtherWord cX5_isOtherWord 3 (some .boolean)]
def wsX5_saved_r3 : List Cond := [Cond.fieldLink RX5 59 "TrialBookModel" "readData" "[I", Cond.fieldLink RX5 62 "TrialBookModel" "dataWas" "[I", Cond.fieldLink RX5 16 "TrialBookModel" "data" "[I"]
def wsX5_saved : List Cond := .code yX5_saved cX5_saved 5 (some .int) :: ((wsX5_saved_r1 ++ (wsX5_saved_r2 ++ wsX5_saved_r3)) ++ wsX50)
def wsX5_isLikeCode : List Cond := .code yX5_isLikeCode cX5_isLikeCode 4 (some .boolean) :: ([.fieldLink RX5 25 "TrialBookModel" "runLong" "[I", .fieldLink RX5 28 "TrialBookModel" "runStep" "[I"] ++ wsX50)
def wsX5_isLike : List Cond := .code yX5_isLike cX5_isLike 4 (some .boolean) :: ([.fieldLink RX5 34 "TrialBookModel" "seed" "[I", .fieldLink RX5 37 "TrialBookModel" "ticks" "[I", .fieldLink RX5 59 "TrialBookModel" "readData" "[I", .fieldLink RX5 62 "TrialBookModel" "dataWas" "[I", .methodLink RX5 159 yX5_isLikeCode, .instanceMethod yX5_isLikeCode, .selects RX5 yX5_isLikeCode yX5_isLikeCode, .initialized RX5, .code yX5_isLikeCode cX5_isLikeCode 4 (some .boolean), .fieldLink RX5 25 "TrialBookModel" "runLong" "[I", .fieldLink RX5 28 "TrialBookModel" "runStep" "[I"] ++ wsX50)
def wsX5_mayBe : List Cond := .code yX5_mayBe cX5_mayBe 3 (some .boolean) :: ([.fieldLink RX5 50 "TrialBookModel" "parent" "[I", .fieldLink RX5 46 "TrialBookModel" "isBroken" "[Z", .fieldLink RX5 68 "TrialBookModel" "readClock" "[Z", .fieldLink RX5 37 "TrialBookModel" "ticks" "[I"] ++ wsX50)
def wsX5_isLeast : List Cond := .code yX5_isLeast cX5_isLeast 4 (some .boolean) :: ([.fieldLink RX5 31 "TrialBookModel" "settings" "[I", .methodLink RX5 162 yX5_mayBe, .instanceMethod yX5_mayBe, .selects RX5 yX5_mayBe yX5_mayBe, .initialized RX5, .code yX5_mayBe cX5_mayBe 3 (some .boolean), .fieldLink RX5 50 "TrialBookModel" "parent" "[I", .fieldLink RX5 46 "TrialBookModel" "isBroken" "[Z", .fieldLink RX5 68 "TrialBookModel" "readClock" "[Z", .fieldLink RX5 37 "TrialBookModel" "ticks" "[I", .methodLink RX5 165 yX5_isLike, .instanceMethod yX5_isLike, .selects RX5 yX5_isLike yX5_isLike, .code yX5_isLike cX5_isLike 4 (some .boolean), .fieldLink RX5 34 "TrialBookModel" "seed" "[I", .fieldLink RX5 59 "TrialBookModel" "readData" "[I", .fieldLink RX5 62 "TrialBookModel" "dataWas" "[I", .methodLink RX5 159 yX5_isLikeCode, .instanceMethod yX5_isLikeCode, .selects RX5 yX5_isLikeCode yX5_isLikeCode, .code yX5_isLikeCode cX5_isLikeCode 4 (some .boolean), .fieldLink RX5 25 "TrialBookModel" "runLong" "[I", .fieldLink RX5 28 "TrialBookModel" "runStep" "[I"] ++ wsX50)
def wsX5_isPair_r1 : List Cond := [Cond.fieldLink RX5 31 "TrialBookModel" "settings" "[I", Cond.methodLink RX5 162 yX5_mayBe, Cond.instanceMethod yX5_mayBe, Cond.selects RX5 yX5_mayBe yX5_mayBe, Cond.initialized RX5, Cond.code yX5_mayBe cX5_mayBe 3 (some .boolean), Cond.fieldLink RX5 50 "TrialBookModel" "parent" "[I", Cond.fieldLink RX5 46 "TrialBookModel" "isBroken" "[Z", Cond.fieldLink RX5 68 "TrialBookModel" "readClock" "[Z", Cond.fieldLink RX5 37 "TrialBookModel" "ticks" "[I", Cond.methodLink RX5 86 yX5_setting, Cond.instanceMethod yX5_setting, Cond.selects RX5 yX5_setting yX5_setting, Cond.code yX5_setting cX5_setting 3 (some .int), Cond.methodLink RX5 165 yX5_isLike, Cond.instanceMethod yX5_isLike, Cond.selects RX5 yX5_isLike yX5_isLike, Cond.code yX5_isLike cX5_isLike 4 (some .boolean), Cond.fieldLink RX5 34 "TrialBookModel" "seed" "[I", Cond.fieldLink RX5 59 "TrialBookModel" "readData" "[I", Cond.fieldLink RX5 62 "TrialBookModel" "dataWas" "[I", Cond.methodLink RX5 159 yX5_isLikeCode, Cond.instanceMethod yX5_isLikeCode, Cond.selects RX5 yX5_isLikeCode yX5_isLikeCode]
def wsX5_isPair_r2 : List Cond := [Cond.code yX5_isLikeCode cX5_isLikeCode 4 (some .boolean), Cond.fieldLink RX5 25 "TrialBookModel" "runLong" "[I", Cond.fieldLink RX5 28 "TrialBookModel" "runStep" "[I", Cond.methodLink RX5 168 yX5_isLeast, Cond.instanceMethod yX5_isLeast, Cond.selects RX5 yX5_isLeast yX5_isLeast, Cond.code yX5_isLeast cX5_isLeast 4 (some .boolean)]
def wsX5_isPair : List Cond := .code yX5_isPair cX5_isPair 7 (some .boolean) :: ((wsX5_isPair_r1 ++ wsX5_isPair_r2) ++ wsX50)
def wsX5_findPairs_r1 : List Cond := [Cond.fieldLink RX5 171 "TrialBookModel" "pairs" "I", Cond.fieldLink RX5 174 "TrialBookModel" "wins" "I", Cond.fieldLink RX5 177 "TrialBookModel" "loses" "I", Cond.fieldLink RX5 90 "TrialBookModel" "runs" "I", Cond.fieldLink RX5 43 "TrialBookModel" "row" "[I", Cond.methodLink RX5 180 yX5_isPair, Cond.instanceMethod yX5_isPair, Cond.selects RX5 yX5_isPair yX5_isPair, Cond.initialized RX5, Cond.code yX5_isPair cX5_isPair 7 (some .boolean), Cond.fieldLink RX5 31 "TrialBookModel" "settings" "[I", Cond.methodLink RX5 162 yX5_mayBe, Cond.instanceMethod yX5_mayBe, Cond.selects RX5 yX5_mayBe yX5_mayBe, Cond.code yX5_mayBe cX5_mayBe 3 (some .boolean), Cond.fieldLink RX5 50 "TrialBookModel" "parent" "[I", Cond.fieldLink RX5 46 "TrialBookModel" "isBroken" "[Z", Cond.fieldLink RX5 68 "TrialBookModel" "readClock" "[Z", Cond.fieldLink RX5 37 "TrialBookModel" "ticks" "[I", Cond.methodLink RX5 86 yX5_setting, Cond.instanceMethod yX5_setting, Cond.selects RX5 yX5_setting yX5_setting, Cond.code yX5_setting cX5_setting 3 (some .int), Cond.methodLink RX5 165 yX5_isLike]
def wsX5_findPairs_r2 : List Cond := [Cond.instanceMethod yX5_isLike, Cond.selects RX5 yX5_isLike yX5_isLike, Cond.code yX5_isLike cX5_isLike 4 (some .boolean), Cond.fieldLink RX5 34 "TrialBookModel" "seed" "[I", Cond.fieldLink RX5 59 "TrialBookModel" "readData" "[I", Cond.fieldLink RX5 62 "TrialBookModel" "dataWas" "[I", Cond.methodLink RX5 159 yX5_isLikeCode, Cond.instanceMethod yX5_isLikeCode, Cond.selects RX5 yX5_isLikeCode yX5_isLikeCode, Cond.code yX5_isLikeCode cX5_isLikeCode 4 (some .boolean), Cond.fieldLink RX5 25 "TrialBookModel" "runLong" "[I", Cond.fieldLink RX5 28 "TrialBookModel" "runStep" "[I", Cond.methodLink RX5 168 yX5_isLeast, Cond.instanceMethod yX5_isLeast, Cond.selects RX5 yX5_isLeast yX5_isLeast, Cond.code yX5_isLeast cX5_isLeast 4 (some .boolean)]
def wsX5_findPairs : List Cond := .code yX5_findPairs cX5_findPairs 9 none :: ((wsX5_findPairs_r1 ++ wsX5_findPairs_r2) ++ wsX50)
def wsX5_canPair : List Cond := .code yX5_canPair cX5_canPair 5 (some .boolean) :: ([.methodLink RX5 131 yX5_areTicks, .instanceMethod yX5_areTicks, .selects RX5 yX5_areTicks yX5_areTicks, .initialized RX5, .code yX5_areTicks cX5_areTicks 2 (some .boolean)])
def wsX5_pairs_r1 : List Cond := [Cond.fieldLink RX5 77 "TrialBookModel" "told" "I", Cond.fieldLink RX5 171 "TrialBookModel" "pairs" "I", Cond.fieldLink RX5 174 "TrialBookModel" "wins" "I", Cond.fieldLink RX5 177 "TrialBookModel" "loses" "I", Cond.methodLink RX5 184 yX5_canPair, Cond.instanceMethod yX5_canPair, Cond.selects RX5 yX5_canPair yX5_canPair, Cond.initialized RX5, Cond.code yX5_canPair cX5_canPair 5 (some .boolean), Cond.methodLink RX5 131 yX5_areTicks, Cond.instanceMethod yX5_areTicks, Cond.selects RX5 yX5_areTicks yX5_areTicks, Cond.code yX5_areTicks cX5_areTicks 2 (some .boolean), Cond.methodLink RX5 188 yX5_findPairs, Cond.instanceMethod yX5_findPairs, Cond.selects RX5 yX5_findPairs yX5_findPairs, Cond.code yX5_findPairs cX5_findPairs 9 none, Cond.fieldLink RX5 90 "TrialBookModel" "runs" "I", Cond.fieldLink RX5 43 "TrialBookModel" "row" "[I", Cond.methodLink RX5 180 yX5_isPair, Cond.instanceMethod yX5_isPair, Cond.selects RX5 yX5_isPair yX5_isPair, Cond.code yX5_isPair cX5_isPair 7 (some .boolean), Cond.fieldLink RX5 31 "TrialBookModel" "settings" "[I"]
def wsX5_pairs_r2 : List Cond := [Cond.methodLink RX5 162 yX5_mayBe, Cond.instanceMethod yX5_mayBe, Cond.selects RX5 yX5_mayBe yX5_mayBe, Cond.code yX5_mayBe cX5_mayBe 3 (some .boolean), Cond.fieldLink RX5 50 "TrialBookModel" "parent" "[I", Cond.fieldLink RX5 46 "TrialBookModel" "isBroken" "[Z", Cond.fieldLink RX5 68 "TrialBookModel" "readClock" "[Z", Cond.fieldLink RX5 37 "TrialBookModel" "ticks" "[I", Cond.methodLink RX5 86 yX5_setting, Cond.instanceMethod yX5_setting, Cond.selects RX5 yX5_setting yX5_setting, Cond.code yX5_setting cX5_setting 3 (some .int), Cond.methodLink RX5 165 yX5_isLike, Cond.instanceMethod yX5_isLike, Cond.selects RX5 yX5_isLike yX5_isLike, Cond.code yX5_isLike cX5_isLike 4 (some .boolean), Cond.fieldLink RX5 34 "TrialBookModel" "seed" "[I", Cond.fieldLink RX5 59 "TrialBookModel" "readData" "[I", Cond.fieldLink RX5 62 "TrialBookModel" "dataWas" "[I", Cond.methodLink RX5 159 yX5_isLikeCode, Cond.instanceMethod yX5_isLikeCode, Cond.selects RX5 yX5_isLikeCode yX5_isLikeCode, Cond.code yX5_isLikeCode cX5_isLikeCode 4 (some .boolean), Cond.fieldLink RX5 25 "TrialBookModel" "runLong" "[I"]
def wsX5_pairs_r3 : List Cond := [Cond.fieldLink RX5 28 "TrialBookModel" "runStep" "[I", Cond.methodLink RX5 168 yX5_isLeast, Cond.instanceMethod yX5_isLeast, Cond.selects RX5 yX5_isLeast yX5_isLeast, Cond.code yX5_isLeast cX5_isLeast 4 (some .boolean)]
def wsX5_pairs : List Cond := .code yX5_pairs cX5_pairs 6 (some .int) :: ((wsX5_pairs_r1 ++ (wsX5_pairs_r2 ++ wsX5_pairs_r3)) ++ wsX50)
def wsX5_pair_r1 : List Cond := [Cond.fieldLink RX5 77 "TrialBookModel" "told" "I", Cond.fieldLink RX5 90 "TrialBookModel" "runs" "I", Cond.methodLink RX5 184 yX5_canPair, Cond.instanceMethod yX5_canPair, Cond.selects RX5 yX5_canPair yX5_canPair, Cond.initialized RX5, Cond.code yX5_canPair cX5_canPair 5 (some .boolean), Cond.methodLink RX5 131 yX5_areTicks, Cond.instanceMethod yX5_areTicks, Cond.selects RX5 yX5_areTicks yX5_areTicks, Cond.code yX5_areTicks cX5_areTicks 2 (some .boolean), Cond.methodLink RX5 180 yX5_isPair, Cond.instanceMethod yX5_isPair, Cond.selects RX5 yX5_isPair yX5_isPair, Cond.code yX5_isPair cX5_isPair 7 (some .boolean), Cond.fieldLink RX5 31 "TrialBookModel" "settings" "[I", Cond.methodLink RX5 162 yX5_mayBe, Cond.instanceMethod yX5_mayBe, Cond.selects RX5 yX5_mayBe yX5_mayBe, Cond.code yX5_mayBe cX5_mayBe 3 (some .boolean), Cond.fieldLink RX5 50 "TrialBookModel" "parent" "[I", Cond.fieldLink RX5 46 "TrialBookModel" "isBroken" "[Z", Cond.fieldLink RX5 68 "TrialBookModel" "readClock" "[Z", Cond.fieldLink RX5 37 "TrialBookModel" "ticks" "[I"]
def wsX5_pair_r2 : List Cond := [Cond.methodLink RX5 86 yX5_setting, Cond.instanceMethod yX5_setting, Cond.selects RX5 yX5_setting yX5_setting, Cond.code yX5_setting cX5_setting 3 (some .int), Cond.methodLink RX5 165 yX5_isLike, Cond.instanceMethod yX5_isLike, Cond.selects RX5 yX5_isLike yX5_isLike, Cond.code yX5_isLike cX5_isLike 4 (some .boolean), Cond.fieldLink RX5 34 "TrialBookModel" "seed" "[I", Cond.fieldLink RX5 59 "TrialBookModel" "readData" "[I", Cond.fieldLink RX5 62 "TrialBookModel" "dataWas" "[I", Cond.methodLink RX5 159 yX5_isLikeCode, Cond.instanceMethod yX5_isLikeCode, Cond.selects RX5 yX5_isLikeCode yX5_isLikeCode, Cond.code yX5_isLikeCode cX5_isLikeCode 4 (some .boolean), Cond.fieldLink RX5 25 "TrialBookModel" "runLong" "[I", Cond.fieldLink RX5 28 "TrialBookModel" "runStep" "[I", Cond.methodLink RX5 168 yX5_isLeast, Cond.instanceMethod yX5_isLeast, Cond.selects RX5 yX5_isLeast yX5_isLeast, Cond.code yX5_isLeast cX5_isLeast 4 (some .boolean)]
def wsX5_pair : List Cond := .code yX5_pair cX5_pair 10 (some .int) :: ((wsX5_pair_r1 ++ wsX5_pair_r2) ++ wsX50)
def wsX5_overs : List Cond := .code yX5_overs cX5_overs 8 (some .long) :: ([])
def wsX5_sureOf_r1 : List Cond := [Cond.fieldLink RX5 174 "TrialBookModel" "wins" "I", Cond.fieldLink RX5 177 "TrialBookModel" "loses" "I", Cond.methodLink RX5 188 yX5_findPairs, Cond.instanceMethod yX5_findPairs, Cond.selects RX5 yX5_findPairs yX5_findPairs, Cond.initialized RX5, Cond.code yX5_findPairs cX5_findPairs 9 none, Cond.fieldLink RX5 171 "TrialBookModel" "pairs" "I", Cond.fieldLink RX5 90 "TrialBookModel" "runs" "I", Cond.fieldLink RX5 43 "TrialBookModel" "row" "[I", Cond.methodLink RX5 180 yX5_isPair, Cond.instanceMethod yX5_isPair, Cond.selects RX5 yX5_isPair yX5_isPair, Cond.code yX5_isPair cX5_isPair 7 (some .boolean), Cond.fieldLink RX5 31 "TrialBookModel" "settings" "[I", Cond.methodLink RX5 162 yX5_mayBe, Cond.instanceMethod yX5_mayBe, Cond.selects RX5 yX5_mayBe yX5_mayBe, Cond.code yX5_mayBe cX5_mayBe 3 (some .boolean), Cond.fieldLink RX5 50 "TrialBookModel" "parent" "[I", Cond.fieldLink RX5 46 "TrialBookModel" "isBroken" "[Z", Cond.fieldLink RX5 68 "TrialBookModel" "readClock" "[Z", Cond.fieldLink RX5 37 "TrialBookModel" "ticks" "[I", Cond.methodLink RX5 86 yX5_setting]
def wsX5_sureOf_r2 : List Cond := [Cond.instanceMethod yX5_setting, Cond.selects RX5 yX5_setting yX5_setting, Cond.code yX5_setting cX5_setting 3 (some .int), Cond.methodLink RX5 165 yX5_isLike, Cond.instanceMethod yX5_isLike, Cond.selects RX5 yX5_isLike yX5_isLike, Cond.code yX5_isLike cX5_isLike 4 (some .boolean), Cond.fieldLink RX5 34 "TrialBookModel" "seed" "[I", Cond.fieldLink RX5 59 "TrialBookModel" "readData" "[I", Cond.fieldLink RX5 62 "TrialBookModel" "dataWas" "[I", Cond.methodLink RX5 159 yX5_isLikeCode, Cond.instanceMethod yX5_isLikeCode, Cond.selects RX5 yX5_isLikeCode yX5_isLikeCode, Cond.code yX5_isLikeCode cX5_isLikeCode 4 (some .boolean), Cond.fieldLink RX5 25 "TrialBookModel" "runLong" "[I", Cond.fieldLink RX5 28 "TrialBookModel" "runStep" "[I", Cond.methodLink RX5 168 yX5_isLeast, Cond.instanceMethod yX5_isLeast, Cond.selects RX5 yX5_isLeast yX5_isLeast, Cond.code yX5_isLeast cX5_isLeast 4 (some .boolean), Cond.methodLink RX5 192 yX5_overs, Cond.instanceMethod yX5_overs, Cond.selects RX5 yX5_overs yX5_overs, Cond.code yX5_overs cX5_overs 8 (some .long)]
def wsX5_sureOf : List Cond := .code yX5_sureOf cX5_sureOf 8 (some .int) :: ((wsX5_sureOf_r1 ++ wsX5_sureOf_r2) ++ wsX50)
def wsX5_sure_r1 : List Cond := [Cond.fieldLink RX5 77 "TrialBookModel" "told" "I", Cond.constant RX5 196 (1000000), Cond.methodLink RX5 184 yX5_canPair, Cond.instanceMethod yX5_canPair, Cond.selects RX5 yX5_canPair yX5_canPair, Cond.initialized RX5, Cond.code yX5_canPair cX5_canPair 5 (some .boolean), Cond.methodLink RX5 131 yX5_areTicks, Cond.instanceMethod yX5_areTicks, Cond.selects RX5 yX5_areTicks yX5_areTicks, Cond.code yX5_areTicks cX5_areTicks 2 (some .boolean), Cond.methodLink RX5 197 yX5_sureOf, Cond.instanceMethod yX5_sureOf, Cond.selects RX5 yX5_sureOf yX5_sureOf, Cond.code yX5_sureOf cX5_sureOf 8 (some .int), Cond.fieldLink RX5 174 "TrialBookModel" "wins" "I", Cond.fieldLink RX5 177 "TrialBookModel" "loses" "I", Cond.methodLink RX5 188 yX5_findPairs, Cond.instanceMethod yX5_findPairs, Cond.selects RX5 yX5_findPairs yX5_findPairs, Cond.code yX5_findPairs cX5_findPairs 9 none, Cond.fieldLink RX5 171 "TrialBookModel" "pairs" "I", Cond.fieldLink RX5 90 "TrialBookModel" "runs" "I", Cond.fieldLink RX5 43 "TrialBookModel" "row" "[I"]
def wsX5_sure_r2 : List Cond := [Cond.methodLink RX5 180 yX5_isPair, Cond.instanceMethod yX5_isPair, Cond.selects RX5 yX5_isPair yX5_isPair, Cond.code yX5_isPair cX5_isPair 7 (some .boolean), Cond.fieldLink RX5 31 "TrialBookModel" "settings" "[I", Cond.methodLink RX5 162 yX5_mayBe, Cond.instanceMethod yX5_mayBe, Cond.selects RX5 yX5_mayBe yX5_mayBe, Cond.code yX5_mayBe cX5_mayBe 3 (some .boolean), Cond.fieldLink RX5 50 "TrialBookModel" "parent" "[I", Cond.fieldLink RX5 46 "TrialBookModel" "isBroken" "[Z", Cond.fieldLink RX5 68 "TrialBookModel" "readClock" "[Z", Cond.fieldLink RX5 37 "TrialBookModel" "ticks" "[I", Cond.methodLink RX5 86 yX5_setting, Cond.instanceMethod yX5_setting, Cond.selects RX5 yX5_setting yX5_setting, Cond.code yX5_setting cX5_setting 3 (some .int), Cond.methodLink RX5 165 yX5_isLike, Cond.instanceMethod yX5_isLike, Cond.selects RX5 yX5_isLike yX5_isLike, Cond.code yX5_isLike cX5_isLike 4 (some .boolean), Cond.fieldLink RX5 34 "TrialBookModel" "seed" "[I", Cond.fieldLink RX5 59 "TrialBookModel" "readData" "[I", Cond.fieldLink RX5 62 "TrialBookModel" "dataWas" "[I"]
def wsX5_sure_r3 : List Cond := [Cond.methodLink RX5 159 yX5_isLikeCode, Cond.instanceMethod yX5_isLikeCode, Cond.selects RX5 yX5_isLikeCode yX5_isLikeCode, Cond.code yX5_isLikeCode cX5_isLikeCode 4 (some .boolean), Cond.fieldLink RX5 25 "TrialBookModel" "runLong" "[I", Cond.fieldLink RX5 28 "TrialBookModel" "runStep" "[I", Cond.methodLink RX5 168 yX5_isLeast, Cond.instanceMethod yX5_isLeast, Cond.selects RX5 yX5_isLeast yX5_isLeast, Cond.code yX5_isLeast cX5_isLeast 4 (some .boolean), Cond.methodLink RX5 192 yX5_overs, Cond.instanceMethod yX5_overs, Cond.selects RX5 yX5_overs yX5_overs, Cond.code yX5_overs cX5_overs 8 (some .long)]
def wsX5_sure : List Cond := .code yX5_sure cX5_sure 7 (some .int) :: ((wsX5_sure_r1 ++ (wsX5_sure_r2 ++ wsX5_sure_r3)) ++ wsX50)
def wsX5_best_r1 : List Cond := [Cond.fieldLink RX5 77 "TrialBookModel" "told" "I", Cond.constant RX5 196 (1000000), Cond.fieldLink RX5 19 "TrialBookModel" "bound" "[I", Cond.methodLink RX5 131 yX5_areTicks, Cond.instanceMethod yX5_areTicks, Cond.selects RX5 yX5_areTicks yX5_areTicks, Cond.initialized RX5, Cond.code yX5_areTicks cX5_areTicks 2 (some .boolean), Cond.methodLink RX5 197 yX5_sureOf, Cond.instanceMethod yX5_sureOf, Cond.selects RX5 yX5_sureOf yX5_sureOf, Cond.code yX5_sureOf cX5_sureOf 8 (some .int), Cond.fieldLink RX5 174 "TrialBookModel" "wins" "I", Cond.fieldLink RX5 177 "TrialBookModel" "loses" "I", Cond.methodLink RX5 188 yX5_findPairs, Cond.instanceMethod yX5_findPairs, Cond.selects RX5 yX5_findPairs yX5_findPairs, Cond.code yX5_findPairs cX5_findPairs 9 none, Cond.fieldLink RX5 171 "TrialBookModel" "pairs" "I", Cond.fieldLink RX5 90 "TrialBookModel" "runs" "I", Cond.fieldLink RX5 43 "TrialBookModel" "row" "[I", Cond.methodLink RX5 180 yX5_isPair, Cond.instanceMethod yX5_isPair, Cond.selects RX5 yX5_isPair yX5_isPair]
def wsX5_best_r2 : List Cond := [Cond.code yX5_isPair cX5_isPair 7 (some .boolean), Cond.fieldLink RX5 31 "TrialBookModel" "settings" "[I", Cond.methodLink RX5 162 yX5_mayBe, Cond.instanceMethod yX5_mayBe, Cond.selects RX5 yX5_mayBe yX5_mayBe, Cond.code yX5_mayBe cX5_mayBe 3 (some .boolean), Cond.fieldLink RX5 50 "TrialBookModel" "parent" "[I", Cond.fieldLink RX5 46 "TrialBookModel" "isBroken" "[Z", Cond.fieldLink RX5 68 "TrialBookModel" "readClock" "[Z", Cond.fieldLink RX5 37 "TrialBookModel" "ticks" "[I", Cond.methodLink RX5 86 yX5_setting, Cond.instanceMethod yX5_setting, Cond.selects RX5 yX5_setting yX5_setting, Cond.code yX5_setting cX5_setting 3 (some .int), Cond.methodLink RX5 165 yX5_isLike, Cond.instanceMethod yX5_isLike, Cond.selects RX5 yX5_isLike yX5_isLike, Cond.code yX5_isLike cX5_isLike 4 (some .boolean), Cond.fieldLink RX5 34 "TrialBookModel" "seed" "[I", Cond.fieldLink RX5 59 "TrialBookModel" "readData" "[I", Cond.fieldLink RX5 62 "TrialBookModel" "dataWas" "[I", Cond.methodLink RX5 159 yX5_isLikeCode, Cond.instanceMethod yX5_isLikeCode, Cond.selects RX5 yX5_isLikeCode yX5_isLikeCode]
def wsX5_best_r3 : List Cond := [Cond.code yX5_isLikeCode cX5_isLikeCode 4 (some .boolean), Cond.fieldLink RX5 25 "TrialBookModel" "runLong" "[I", Cond.fieldLink RX5 28 "TrialBookModel" "runStep" "[I", Cond.methodLink RX5 168 yX5_isLeast, Cond.instanceMethod yX5_isLeast, Cond.selects RX5 yX5_isLeast yX5_isLeast, Cond.code yX5_isLeast cX5_isLeast 4 (some .boolean), Cond.methodLink RX5 192 yX5_overs, Cond.instanceMethod yX5_overs, Cond.selects RX5 yX5_overs yX5_overs, Cond.code yX5_overs cX5_overs 8 (some .long)]
def wsX5_best : List Cond := .code yX5_best cX5_best 7 (some .int) :: ((wsX5_best_r1 ++ (wsX5_best_r2 ++ wsX5_best_r3)) ++ wsX50)
def wsX5_settingsAt : List Cond := .code yX5_settingsAt cX5_settingsAt 5 (some .int) :: ([.fieldLink RX5 19 "TrialBookModel" "bound" "[I"] ++ wsX50)
def wsX5_grid : List Cond := .code yX5_grid cX5_grid 1 (some .int) :: ([.fieldLink RX5 19 "TrialBookModel" "bound" "[I"] ++ wsX50)
def wsX5_canHole : List Cond := .code yX5_canHole cX5_canHole 4 (some .boolean) :: ([.methodLink RX5 81 yX5_isCode, .instanceMethod yX5_isCode, .selects RX5 yX5_isCode yX5_isCode, .initialized RX5, .code yX5_isCode cX5_isCode 2 (some .boolean), .methodLink RX5 131 yX5_areTicks, .instanceMethod yX5_areTicks, .selects RX5 yX5_areTicks yX5_areTicks, .code yX5_areTicks cX5_areTicks 2 (some .boolean)])
def wsX5_holes_r1 : List Cond := [Cond.fieldLink RX5 77 "TrialBookModel" "told" "I", Cond.methodLink RX5 201 yX5_canHole, Cond.instanceMethod yX5_canHole, Cond.selects RX5 yX5_canHole yX5_canHole, Cond.initialized RX5, Cond.code yX5_canHole cX5_canHole 4 (some .boolean), Cond.methodLink RX5 81 yX5_isCode, Cond.instanceMethod yX5_isCode, Cond.selects RX5 yX5_isCode yX5_isCode, Cond.code yX5_isCode cX5_isCode 2 (some .boolean), Cond.methodLink RX5 131 yX5_areTicks, Cond.instanceMethod yX5_areTicks, Cond.selects RX5 yX5_areTicks yX5_areTicks, Cond.code yX5_areTicks cX5_areTicks 2 (some .boolean), Cond.methodLink RX5 205 yX5_grid, Cond.instanceMethod yX5_grid, Cond.selects RX5 yX5_grid yX5_grid, Cond.code yX5_grid cX5_grid 1 (some .int), Cond.fieldLink RX5 19 "TrialBookModel" "bound" "[I", Cond.methodLink RX5 209 yX5_settingsAt, Cond.instanceMethod yX5_settingsAt, Cond.selects RX5 yX5_settingsAt yX5_settingsAt, Cond.code yX5_settingsAt cX5_settingsAt 5 (some .int), Cond.methodLink RX5 155 yX5_savedBy]
def wsX5_holes_r2 : List Cond := [Cond.instanceMethod yX5_savedBy, Cond.selects RX5 yX5_savedBy yX5_savedBy, Cond.code yX5_savedBy cX5_savedBy 8 (some .int), Cond.fieldLink RX5 90 "TrialBookModel" "runs" "I", Cond.fieldLink RX5 50 "TrialBookModel" "parent" "[I", Cond.fieldLink RX5 46 "TrialBookModel" "isBroken" "[Z", Cond.fieldLink RX5 68 "TrialBookModel" "readClock" "[Z", Cond.fieldLink RX5 37 "TrialBookModel" "ticks" "[I", Cond.fieldLink RX5 65 "TrialBookModel" "readSeed" "[Z", Cond.fieldLink RX5 34 "TrialBookModel" "seed" "[I", Cond.fieldLink RX5 56 "TrialBookModel" "readSettings" "[I", Cond.fieldLink RX5 31 "TrialBookModel" "settings" "[I", Cond.methodLink RX5 145 yX5_isCodeOf, Cond.instanceMethod yX5_isCodeOf, Cond.selects RX5 yX5_isCodeOf yX5_isCodeOf, Cond.code yX5_isCodeOf cX5_isCodeOf 4 (some .boolean), Cond.fieldLink RX5 25 "TrialBookModel" "runLong" "[I", Cond.fieldLink RX5 7 "TrialBookModel" "codeLong" "[I", Cond.fieldLink RX5 28 "TrialBookModel" "runStep" "[I", Cond.fieldLink RX5 13 "TrialBookModel" "codeStep" "[I", Cond.methodLink RX5 86 yX5_setting, Cond.instanceMethod yX5_setting, Cond.selects RX5 yX5_setting yX5_setting, Cond.code yX5_setting cX5_setting 3 (some .int)]
def wsX5_holes_r3 : List Cond := [Cond.methodLink RX5 149 yX5_isOtherWord, Cond.instanceMethod yX5_isOtherWord, Cond.selects RX5 yX5_isOtherWord yX5_isOtherWord, Cond.code yX5_isOtherWord cX5_isOtherWord 3 (some .boolean), Cond.fieldLink RX5 59 "TrialBookModel" "readData" "[I", Cond.fieldLink RX5 62 "TrialBookModel" "dataWas" "[I", Cond.fieldLink RX5 16 "TrialBookModel" "data" "[I"]
def wsX5_holes : List Cond := .code yX5_holes cX5_holes 7 (some .int) :: ((wsX5_holes_r1 ++ (wsX5_holes_r2 ++ wsX5_holes_r3)) ++ wsX50)
def wsX5_hole_r1 : List Cond := [Cond.fieldLink RX5 77 "TrialBookModel" "told" "I", Cond.methodLink RX5 201 yX5_canHole, Cond.instanceMethod yX5_canHole, Cond.selects RX5 yX5_canHole yX5_canHole, Cond.initialized RX5, Cond.code yX5_canHole cX5_canHole 4 (some .boolean), Cond.methodLink RX5 81 yX5_isCode, Cond.instanceMethod yX5_isCode, Cond.selects RX5 yX5_isCode yX5_isCode, Cond.code yX5_isCode cX5_isCode 2 (some .boolean), Cond.methodLink RX5 131 yX5_areTicks, Cond.instanceMethod yX5_areTicks, Cond.selects RX5 yX5_areTicks yX5_areTicks, Cond.code yX5_areTicks cX5_areTicks 2 (some .boolean), Cond.methodLink RX5 205 yX5_grid, Cond.instanceMethod yX5_grid, Cond.selects RX5 yX5_grid yX5_grid, Cond.code yX5_grid cX5_grid 1 (some .int), Cond.fieldLink RX5 19 "TrialBookModel" "bound" "[I", Cond.methodLink RX5 209 yX5_settingsAt, Cond.instanceMethod yX5_settingsAt, Cond.selects RX5 yX5_settingsAt yX5_settingsAt, Cond.code yX5_settingsAt cX5_settingsAt 5 (some .int), Cond.methodLink RX5 155 yX5_savedBy]
def wsX5_hole_r2 : List Cond := [Cond.instanceMethod yX5_savedBy, Cond.selects RX5 yX5_savedBy yX5_savedBy, Cond.code yX5_savedBy cX5_savedBy 8 (some .int), Cond.fieldLink RX5 90 "TrialBookModel" "runs" "I", Cond.fieldLink RX5 50 "TrialBookModel" "parent" "[I", Cond.fieldLink RX5 46 "TrialBookModel" "isBroken" "[Z", Cond.fieldLink RX5 68 "TrialBookModel" "readClock" "[Z", Cond.fieldLink RX5 37 "TrialBookModel" "ticks" "[I", Cond.fieldLink RX5 65 "TrialBookModel" "readSeed" "[Z", Cond.fieldLink RX5 34 "TrialBookModel" "seed" "[I", Cond.fieldLink RX5 56 "TrialBookModel" "readSettings" "[I", Cond.fieldLink RX5 31 "TrialBookModel" "settings" "[I", Cond.methodLink RX5 145 yX5_isCodeOf, Cond.instanceMethod yX5_isCodeOf, Cond.selects RX5 yX5_isCodeOf yX5_isCodeOf, Cond.code yX5_isCodeOf cX5_isCodeOf 4 (some .boolean), Cond.fieldLink RX5 25 "TrialBookModel" "runLong" "[I", Cond.fieldLink RX5 7 "TrialBookModel" "codeLong" "[I", Cond.fieldLink RX5 28 "TrialBookModel" "runStep" "[I", Cond.fieldLink RX5 13 "TrialBookModel" "codeStep" "[I", Cond.methodLink RX5 86 yX5_setting, Cond.instanceMethod yX5_setting, Cond.selects RX5 yX5_setting yX5_setting, Cond.code yX5_setting cX5_setting 3 (some .int)]
def wsX5_hole_r3 : List Cond := [Cond.methodLink RX5 149 yX5_isOtherWord, Cond.instanceMethod yX5_isOtherWord, Cond.selects RX5 yX5_isOtherWord yX5_isOtherWord, Cond.code yX5_isOtherWord cX5_isOtherWord 3 (some .boolean), Cond.fieldLink RX5 59 "TrialBookModel" "readData" "[I", Cond.fieldLink RX5 62 "TrialBookModel" "dataWas" "[I", Cond.fieldLink RX5 16 "TrialBookModel" "data" "[I"]
def wsX5_hole : List Cond := .code yX5_hole cX5_hole 9 (some .int) :: ((wsX5_hole_r1 ++ (wsX5_hole_r2 ++ wsX5_hole_r3)) ++ wsX50)
def wsX5_idle : List Cond := .code yX5_idle cX5_idle 3 (some .int) :: ([.fieldLink RX5 77 "TrialBookModel" "told" "I", .fieldLink RX5 90 "TrialBookModel" "runs" "I", .fieldLink RX5 56 "TrialBookModel" "readSettings" "[I"] ++ wsX50)
def wsX5_claim : List Cond := .code yX5_claim cX5_claim 2 (some .int) :: ([.fieldLink RX5 77 "TrialBookModel" "told" "I", .fieldLink RX5 46 "TrialBookModel" "isBroken" "[Z", .fieldLink RX5 213 "TrialBookModel" "claims" "I", .fieldLink RX5 74 "TrialBookModel" "claimRun" "[I", .methodLink RX5 142 yX5_isRun, .instanceMethod yX5_isRun, .selects RX5 yX5_isRun yX5_isRun, .initialized RX5, .code yX5_isRun cX5_isRun 2 (some .boolean), .fieldLink RX5 90 "TrialBookModel" "runs" "I"] ++ wsX50)
def wsX5_claimed_r1 : List Cond := [Cond.fieldLink RX5 77 "TrialBookModel" "told" "I", Cond.fieldLink RX5 213 "TrialBookModel" "claims" "I", Cond.fieldLink RX5 74 "TrialBookModel" "claimRun" "[I", Cond.fieldLink RX5 43 "TrialBookModel" "row" "[I", Cond.fieldLink RX5 40 "TrialBookModel" "rows" "[I", Cond.methodLink RX5 152 yX5_isStale, Cond.instanceMethod yX5_isStale, Cond.selects RX5 yX5_isStale yX5_isStale, Cond.initialized RX5, Cond.code yX5_isStale cX5_isStale 3 (some .boolean), Cond.fieldLink RX5 22 "TrialBookModel" "code" "[I", Cond.methodLink RX5 145 yX5_isCodeOf, Cond.instanceMethod yX5_isCodeOf, Cond.selects RX5 yX5_isCodeOf yX5_isCodeOf, Cond.code yX5_isCodeOf cX5_isCodeOf 4 (some .boolean), Cond.fieldLink RX5 25 "TrialBookModel" "runLong" "[I", Cond.fieldLink RX5 7 "TrialBookModel" "codeLong" "[I", Cond.fieldLink RX5 28 "TrialBookModel" "runStep" "[I", Cond.fieldLink RX5 13 "TrialBookModel" "codeStep" "[I", Cond.methodLink RX5 149 yX5_isOtherWord, Cond.instanceMethod yX5_isOtherWord, Cond.selects RX5 yX5_isOtherWord yX5_isOtherWord, Cond.code yX5_isOtherWord cX5_isOtherWord 3 (some .boolean), Cond.fieldLink RX5 59 "TrialBookModel" "readData" "[I"]
def wsX5_claimed_r2 : List Cond := [Cond.fieldLink RX5 62 "TrialBookModel" "dataWas" "[I", Cond.fieldLink RX5 16 "TrialBookModel" "data" "[I"]
def wsX5_claimed : List Cond := .code yX5_claimed cX5_claimed 4 (some .int) :: ((wsX5_claimed_r1 ++ wsX5_claimed_r2) ++ wsX50)
def wsJ9_min_7cf53 : List Cond := .code yJ9_min_7cf53 cJ9_min_7cf53 2 (some .int) :: ([])
def wsL_law_r1 : List Cond := [Cond.classLink RL 7 RX4, Cond.instantiable RX4 10, Cond.initialized RX4, Cond.classLink RL 10 RX5, Cond.instantiable RX5 37, Cond.initialized RX5, Cond.methodLink RL 9 yX4_init, Cond.instanceMethod yX4_init, Cond.code yX4_init cX4_init 2 none, Cond.methodLink RX4 1 objectInit, Cond.instanceMethod objectInit, Cond.code objectInit ⟨#[0xb1]⟩ 1 none, Cond.classLink RX4 9 RX0, Cond.fieldLink RX4 11 "TrialBook" "codeRows" "[LTrialBook$Code;", Cond.arrayClass .int, Cond.fieldLink RX4 15 "TrialBook" "bounds" "[I", Cond.classLink RX4 19 RX3, Cond.instantiable RX3 2, Cond.initialized RX3, Cond.fieldLink RX4 22 "TrialBook" "world" "LTrialBook$World;", Cond.classLink RX4 26 RX2, Cond.fieldLink RX4 28 "TrialBook" "runRows" "[LTrialBook$Run;", Cond.fieldLink RX4 32 "TrialBook" "claimRuns" "[I", Cond.fieldLink RX4 35 "TrialBook" "claimRows" "[I"]
def wsL_law_r2 : List Cond := [Cond.fieldLink RX4 38 "TrialBook" "fillers" "[LTrialBook$Run;", Cond.instantiable RX0 2, Cond.initialized RX0, Cond.instanceMethod yX3_init, Cond.code yX3_init cX3_init 1 none, Cond.methodLink RX3 3 objectInit, Cond.fieldLink RX3 9 "TrialBook$World" "words" "[I", Cond.methodLink RX4 41 yX0_init, Cond.instanceMethod yX0_init, Cond.code yX0_init cX0_init 6 none, Cond.methodLink RX0 3 objectInit, Cond.constantLong RX0 9 (4294967295), Cond.fieldLink RX0 11 "TrialBook$Code" "count" "I", Cond.fieldLink RX0 17 "TrialBook$Code" "bytes" "J", Cond.methodLink RL 12 yX5_init, Cond.instanceMethod yX5_init, Cond.code yX5_init cX5_init 1 none, Cond.methodLink RX5 1 objectInit, Cond.fieldLink RX5 7 "TrialBookModel" "codeLong" "[I", Cond.fieldLink RX5 13 "TrialBookModel" "codeStep" "[I", Cond.fieldLink RX5 16 "TrialBookModel" "data" "[I", Cond.fieldLink RX5 19 "TrialBookModel" "bound" "[I", Cond.fieldLink RX5 22 "TrialBookModel" "code" "[I", Cond.fieldLink RX5 25 "TrialBookModel" "runLong" "[I"]
def wsL_law_r3 : List Cond := [Cond.fieldLink RX5 28 "TrialBookModel" "runStep" "[I", Cond.fieldLink RX5 31 "TrialBookModel" "settings" "[I", Cond.fieldLink RX5 34 "TrialBookModel" "seed" "[I", Cond.fieldLink RX5 37 "TrialBookModel" "ticks" "[I", Cond.fieldLink RX5 40 "TrialBookModel" "rows" "[I", Cond.fieldLink RX5 43 "TrialBookModel" "row" "[I", Cond.arrayClass .boolean, Cond.fieldLink RX5 46 "TrialBookModel" "isBroken" "[Z", Cond.fieldLink RX5 50 "TrialBookModel" "parent" "[I", Cond.fieldLink RX5 53 "TrialBookModel" "at" "[I", Cond.fieldLink RX5 56 "TrialBookModel" "readSettings" "[I", Cond.fieldLink RX5 59 "TrialBookModel" "readData" "[I", Cond.fieldLink RX5 62 "TrialBookModel" "dataWas" "[I", Cond.fieldLink RX5 65 "TrialBookModel" "readSeed" "[Z", Cond.fieldLink RX5 68 "TrialBookModel" "readClock" "[Z", Cond.fieldLink RX5 71 "TrialBookModel" "doneRow" "[I", Cond.fieldLink RX5 74 "TrialBookModel" "claimRun" "[I", Cond.methodLink RL 13 yX4_code, Cond.instanceMethod yX4_code, Cond.selects RX4 yX4_code yX4_code, Cond.code yX4_code cX4_code 5 (some .boolean), Cond.methodLink RL 17 yX5_code, Cond.instanceMethod yX5_code, Cond.selects RX5 yX5_code yX5_code]
def wsL_law_r4 : List Cond := [Cond.code yX5_code cX5_code 6 (some .boolean), Cond.fieldLink RX5 77 "TrialBookModel" "told" "I", Cond.methodLink RX5 81 yX5_isCode, Cond.instanceMethod yX5_isCode, Cond.selects RX5 yX5_isCode yX5_isCode, Cond.code yX5_isCode cX5_isCode 2 (some .boolean), Cond.methodLink RL 18 yX4_data, Cond.instanceMethod yX4_data, Cond.selects RX4 yX4_data yX4_data, Cond.code yX4_data cX4_data 3 (some .boolean), Cond.methodLink RX4 44 yX3_setWord, Cond.instanceMethod yX3_setWord, Cond.selects RX3 yX3_setWord yX3_setWord, Cond.code yX3_setWord cX3_setWord 3 (some .boolean), Cond.methodLink RL 22 yX5_data, Cond.instanceMethod yX5_data, Cond.selects RX5 yX5_data yX5_data, Cond.code yX5_data cX5_data 3 (some .boolean), Cond.methodLink RL 23 yX4_bound, Cond.instanceMethod yX4_bound, Cond.selects RX4 yX4_bound yX4_bound, Cond.code yX4_bound cX4_bound 3 (some .boolean), Cond.methodLink RL 26 yX5_bound, Cond.instanceMethod yX5_bound]
def wsL_law_r5 : List Cond := [Cond.selects RX5 yX5_bound yX5_bound, Cond.code yX5_bound cX5_bound 3 (some .boolean), Cond.methodLink RL 27 yX4_run, Cond.instanceMethod yX4_run, Cond.selects RX4 yX4_run yX4_run, Cond.code yX4_run cX4_run 6 (some .int), Cond.instantiable RX2 12, Cond.initialized RX2, Cond.methodLink RX4 48 yX4_codeAt, Cond.instanceMethod yX4_codeAt, Cond.selects RX4 yX4_codeAt yX4_codeAt, Cond.code yX4_codeAt cX4_codeAt 2 (some (.object "TrialBook$Code")), Cond.methodLink RX4 52 yX4_areSettings, Cond.static yX4_areSettings, Cond.code yX4_areSettings cX4_areSettings 2 (some .boolean), Cond.constant RX4 272 (65536), Cond.methodLink RX4 252 yX4_settingOf, Cond.static yX4_settingOf, Cond.code yX4_settingOf cX4_settingOf 2 (some .int), Cond.methodLink RX4 249 yX4_isValue, Cond.static yX4_isValue, Cond.code yX4_isValue cX4_isValue 1 (some .boolean), Cond.methodLink RX4 56 yX4_isSeed, Cond.static yX4_isSeed]
def wsL_law_r6 : List Cond := [Cond.code yX4_isSeed cX4_isSeed 1 (some .boolean), Cond.methodLink RX4 59 yX4_areTicks, Cond.static yX4_areTicks, Cond.code yX4_areTicks cX4_areTicks 1 (some .boolean), Cond.methodLink RX4 62 yX2_init, Cond.instanceMethod yX2_init, Cond.code yX2_init cX2_init 6 none, Cond.methodLink RX2 3 objectInit, Cond.classLink RX2 9 RX1, Cond.instantiable RX1 5, Cond.initialized RX1, Cond.fieldLink RX2 12 "TrialBook$Run" "read" "LTrialBook$Notes;", Cond.fieldLink RX2 18 "TrialBook$Run" "rows" "[I", Cond.fieldLink RX2 22 "TrialBook$Run" "origin" "I", Cond.fieldLink RX2 26 "TrialBook$Run" "originTick" "I", Cond.fieldLink RX2 29 "TrialBook$Run" "codeNumber" "I", Cond.fieldLink RX2 32 "TrialBook$Run" "code" "LTrialBook$Code;", Cond.fieldLink RX2 36 "TrialBook$Run" "settings" "I", Cond.fieldLink RX2 39 "TrialBook$Run" "seed" "I", Cond.fieldLink RX2 42 "TrialBook$Run" "ticks" "I", Cond.instanceMethod yX1_init, Cond.code yX1_init cX1_init 1 none, Cond.methodLink RX1 3 objectInit, Cond.fieldLink RX1 9 "TrialBook$Notes" "values" "[I"]
def wsL_law_r7 : List Cond := [Cond.methodLink RX4 65 yX4_enter, Cond.instanceMethod yX4_enter, Cond.selects RX4 yX4_enter yX4_enter, Cond.code yX4_enter cX4_enter 2 (some .int), Cond.fieldLink RX4 144 "TrialBook" "runCount" "I", Cond.fieldLink RX4 142 "TrialBook$World" "clock" "I", Cond.fieldLink RX4 240 "TrialBook$Run" "counts" "Z", Cond.methodLink RX4 151 yX2_doTicks, Cond.instanceMethod yX2_doTicks, Cond.selects RX2 yX2_doTicks yX2_doTicks, Cond.code yX2_doTicks cX2_doTicks 4 none, Cond.fieldLink RX2 49 "TrialBook$Run" "rowCount" "I", Cond.fieldLink RX2 60 "TrialBook$Run" "broken" "Z", Cond.methodLink RX2 52 yX2_lastRow, Cond.instanceMethod yX2_lastRow, Cond.selects RX2 yX2_lastRow yX2_lastRow, Cond.code yX2_lastRow cX2_lastRow 1 (some .int), Cond.methodLink RX2 45 yX2_rowAt, Cond.instanceMethod yX2_rowAt, Cond.selects RX2 yX2_rowAt yX2_rowAt, Cond.code yX2_rowAt cX2_rowAt 2 (some .int), Cond.methodLink RX2 56 yX2_afterTick, Cond.instanceMethod yX2_afterTick, Cond.selects RX2 yX2_afterTick yX2_afterTick]
def wsL_law_r8 : List Cond := [Cond.code yX2_afterTick cX2_afterTick 9 (some .int), Cond.fieldLink RX2 64 "TrialBook$Code" "count" "I", Cond.methodLink RX2 69 yX0_stepAt, Cond.instanceMethod yX0_stepAt, Cond.selects RX0 yX0_stepAt yX0_stepAt, Cond.code yX0_stepAt cX0_stepAt 2 (some .int), Cond.methodLink RX2 72 yX2_readSetting, Cond.instanceMethod yX2_readSetting, Cond.selects RX2 yX2_readSetting yX2_readSetting, Cond.code yX2_readSetting cX2_readSetting 3 (some .int), Cond.fieldLink RX2 94 "TrialBook$Notes" "settings" "I", Cond.static yX4_remainder, Cond.code yX4_remainder cX4_remainder 2 (some .int), Cond.methodLink RX2 79 yX2_afterStep, Cond.instanceMethod yX2_afterStep, Cond.selects RX2 yX2_afterStep yX2_afterStep, Cond.code yX2_afterStep cX2_afterStep 6 (some .int), Cond.methodLink RX2 83 yX2_readSeed, Cond.instanceMethod yX2_readSeed, Cond.selects RX2 yX2_readSeed yX2_readSeed, Cond.code yX2_readSeed cX2_readSeed 1 (some .int), Cond.fieldLink RX2 98 "TrialBook$Notes" "seed" "Z", Cond.methodLink RX2 86 yX2_readWord, Cond.instanceMethod yX2_readWord]
def wsL_law_r9 : List Cond := [Cond.selects RX2 yX2_readWord yX2_readWord, Cond.code yX2_readWord cX2_readWord 4 (some .int), Cond.methodLink RX2 100 yX3_wordAt, Cond.instanceMethod yX3_wordAt, Cond.selects RX3 yX3_wordAt yX3_wordAt, Cond.code yX3_wordAt cX3_wordAt 2 (some .int), Cond.methodLink RX2 105 yX1_addWord, Cond.instanceMethod yX1_addWord, Cond.selects RX1 yX1_addWord yX1_addWord, Cond.code yX1_addWord cX1_addWord 3 none, Cond.fieldLink RX1 15 "TrialBook$Notes" "words" "I", Cond.methodLink RX2 90 yX2_readClock, Cond.instanceMethod yX2_readClock, Cond.selects RX2 yX2_readClock yX2_readClock, Cond.code yX2_readClock cX2_readClock 2 (some .int), Cond.fieldLink RX2 109 "TrialBook$Notes" "clock" "Z", Cond.fieldLink RX2 112 "TrialBook$World" "clock" "I", Cond.methodLink RX4 234 yX2_isComparable, Cond.instanceMethod yX2_isComparable, Cond.selects RX2 yX2_isComparable yX2_isComparable, Cond.code yX2_isComparable cX2_isComparable 1 (some .boolean), Cond.methodLink RX2 119 yX2_isFork, Cond.instanceMethod yX2_isFork, Cond.selects RX2 yX2_isFork yX2_isFork]
def wsL_law_r10 : List Cond := [Cond.code yX2_isFork cX2_isFork 1 (some .boolean), Cond.methodLink RX4 237 yX4_isCountedAlready, Cond.instanceMethod yX4_isCountedAlready, Cond.selects RX4 yX4_isCountedAlready yX4_isCountedAlready, Cond.code yX4_isCountedAlready cX4_isCountedAlready 4 (some .boolean), Cond.methodLink RX4 69 yX4_runAt, Cond.instanceMethod yX4_runAt, Cond.selects RX4 yX4_runAt yX4_runAt, Cond.code yX4_runAt cX4_runAt 2 (some (.object "TrialBook$Run")), Cond.methodLink RX4 243 yX2_isLike, Cond.instanceMethod yX2_isLike, Cond.selects RX2 yX2_isLike yX2_isLike, Cond.code yX2_isLike cX2_isLike 2 (some .boolean), Cond.fieldLink RX2 127 "TrialBook$Notes" "words" "I", Cond.methodLink RX2 123 yX0_isLike, Cond.instanceMethod yX0_isLike, Cond.selects RX0 yX0_isLike yX0_isLike, Cond.code yX0_isLike cX0_isLike 2 (some .boolean), Cond.methodLink RX2 130 yX1_agreesOnSharedWords, Cond.instanceMethod yX1_agreesOnSharedWords, Cond.selects RX1 yX1_agreesOnSharedWords yX1_agreesOnSharedWords, Cond.code yX1_agreesOnSharedWords cX1_agreesOnSharedWords 4 (some .boolean), Cond.static yX4_isIn, Cond.code yX4_isIn cX4_isIn 2 (some .boolean)]
def wsL_law_r11 : List Cond := [Cond.methodLink RL 31 yX5_run, Cond.instanceMethod yX5_run, Cond.selects RX5 yX5_run yX5_run, Cond.code yX5_run cX5_run 7 (some .int), Cond.fieldLink RX5 90 "TrialBookModel" "runs" "I", Cond.fieldLink RX5 109 "TrialBookModel" "clock" "I", Cond.methodLink RX5 125 yX5_areSettings, Cond.instanceMethod yX5_areSettings, Cond.selects RX5 yX5_areSettings yX5_areSettings, Cond.code yX5_areSettings cX5_areSettings 3 (some .boolean), Cond.constant RX5 85 (65535), Cond.methodLink RX5 86 yX5_setting, Cond.instanceMethod yX5_setting, Cond.selects RX5 yX5_setting yX5_setting, Cond.code yX5_setting cX5_setting 3 (some .int), Cond.methodLink RX5 128 yX5_isSeed, Cond.instanceMethod yX5_isSeed, Cond.selects RX5 yX5_isSeed yX5_isSeed, Cond.code yX5_isSeed cX5_isSeed 2 (some .boolean), Cond.methodLink RX5 131 yX5_areTicks, Cond.instanceMethod yX5_areTicks, Cond.selects RX5 yX5_areTicks yX5_areTicks, Cond.code yX5_areTicks cX5_areTicks 2 (some .boolean), Cond.methodLink RX5 134 yX5_goes]
def wsL_law_r12 : List Cond := [Cond.instanceMethod yX5_goes, Cond.selects RX5 yX5_goes yX5_goes, Cond.code yX5_goes cX5_goes 10 none, Cond.fieldLink RX5 115 "TrialBookModel" "doneRows" "I", Cond.fieldLink RX5 118 "TrialBookModel" "doneBroken" "Z", Cond.fieldLink RX5 93 "TrialBookModel" "doneReadSettings" "I", Cond.fieldLink RX5 103 "TrialBookModel" "doneReadData" "I", Cond.fieldLink RX5 100 "TrialBookModel" "doneReadSeed" "Z", Cond.fieldLink RX5 106 "TrialBookModel" "doneReadClock" "Z", Cond.fieldLink RX5 112 "TrialBookModel" "stops" "Z", Cond.fieldLink RX5 96 "TrialBookModel" "skips" "Z", Cond.methodLink RX5 121 yX5_step, Cond.instanceMethod yX5_step, Cond.selects RX5 yX5_step yX5_step, Cond.code yX5_step cX5_step 8 (some .int), Cond.methodLink RX5 138 yX5_takes, Cond.instanceMethod yX5_takes, Cond.selects RX5 yX5_takes yX5_takes, Cond.code yX5_takes cX5_takes 4 none, Cond.methodLink RL 32 yX4_fork, Cond.instanceMethod yX4_fork, Cond.selects RX4 yX4_fork yX4_fork, Cond.code yX4_fork cX4_fork 7 (some .int), Cond.fieldLink RX4 73 "TrialBook$Run" "broken" "Z"]
def wsL_law_r13 : List Cond := [Cond.fieldLink RX4 77 "TrialBook$Run" "rowCount" "I", Cond.fieldLink RX4 81 "TrialBook$Run" "codeNumber" "I", Cond.fieldLink RX4 84 "TrialBook$Run" "code" "LTrialBook$Code;", Cond.fieldLink RX4 88 "TrialBook$Run" "ticks" "I", Cond.fieldLink RX4 99 "TrialBook$Run" "read" "LTrialBook$Notes;", Cond.methodLink RX4 91 yX2_comeOf, Cond.instanceMethod yX2_comeOf, Cond.selects RX2 yX2_comeOf yX2_comeOf, Cond.code yX2_comeOf cX2_comeOf 3 none, Cond.methodLink RX4 95 yX2_takeRows, Cond.instanceMethod yX2_takeRows, Cond.selects RX2 yX2_takeRows yX2_takeRows, Cond.code yX2_takeRows cX2_takeRows 4 none, Cond.methodLink RX4 103 yX1_addAll, Cond.instanceMethod yX1_addAll, Cond.selects RX1 yX1_addAll yX1_addAll, Cond.code yX1_addAll cX1_addAll 3 none, Cond.fieldLink RX1 19 "TrialBook$Notes" "settings" "I", Cond.fieldLink RX1 22 "TrialBook$Notes" "seed" "Z", Cond.fieldLink RX1 26 "TrialBook$Notes" "clock" "Z", Cond.methodLink RX1 33 yX1_addWord, Cond.methodLink RL 35 yX5_fork, Cond.instanceMethod yX5_fork, Cond.selects RX5 yX5_fork yX5_fork]
def wsL_law_r14 : List Cond := [Cond.code yX5_fork cX5_fork 7 (some .int), Cond.methodLink RX5 142 yX5_isRun, Cond.instanceMethod yX5_isRun, Cond.selects RX5 yX5_isRun yX5_isRun, Cond.code yX5_isRun cX5_isRun 2 (some .boolean), Cond.methodLink RL 36 yX4_of, Cond.instanceMethod yX4_of, Cond.selects RX4 yX4_of yX4_of, Cond.code yX4_of cX4_of 4 (some .int), Cond.fieldLink RX4 113 "TrialBook$Run" "settings" "I", Cond.fieldLink RX4 116 "TrialBook$Run" "seed" "I", Cond.fieldLink RX4 123 "TrialBook$Run" "origin" "I", Cond.fieldLink RX4 126 "TrialBook$Run" "originTick" "I", Cond.fieldLink RX4 129 "TrialBook$Notes" "settings" "I", Cond.fieldLink RX4 130 "TrialBook$Notes" "words" "I", Cond.fieldLink RX4 133 "TrialBook$Notes" "seed" "Z", Cond.fieldLink RX4 135 "TrialBook$Notes" "clock" "Z", Cond.methodLink RX4 109 yX2_rowAt, Cond.methodLink RX4 119 yX4_asNumber, Cond.static yX4_asNumber, Cond.code yX4_asNumber cX4_asNumber 1 (some .int), Cond.methodLink RX4 138 yX4_isStale, Cond.instanceMethod yX4_isStale, Cond.selects RX4 yX4_isStale yX4_isStale]
def wsL_law_r15 : List Cond := [Cond.code yX4_isStale cX4_isStale 2 (some .boolean), Cond.methodLink RX4 246 yX0_isLike, Cond.methodLink RX4 158 yX1_changedWords, Cond.instanceMethod yX1_changedWords, Cond.selects RX1 yX1_changedWords yX1_changedWords, Cond.code yX1_changedWords cX1_changedWords 4 (some .int), Cond.methodLink RX1 37 yX3_wordAt, Cond.methodLink RL 40 yX5_of, Cond.instanceMethod yX5_of, Cond.selects RX5 yX5_of yX5_of, Cond.code yX5_of cX5_of 3 (some .int), Cond.methodLink RX5 152 yX5_isStale, Cond.instanceMethod yX5_isStale, Cond.selects RX5 yX5_isStale yX5_isStale, Cond.code yX5_isStale cX5_isStale 3 (some .boolean), Cond.methodLink RX5 145 yX5_isCodeOf, Cond.instanceMethod yX5_isCodeOf, Cond.selects RX5 yX5_isCodeOf yX5_isCodeOf, Cond.code yX5_isCodeOf cX5_isCodeOf 4 (some .boolean), Cond.methodLink RX5 149 yX5_isOtherWord, Cond.instanceMethod yX5_isOtherWord, Cond.selects RX5 yX5_isOtherWord yX5_isOtherWord, Cond.code yX5_isOtherWord cX5_isOtherWord 3 (some .boolean), Cond.methodLink RL 41 yX4_clock]
def wsL_law_r16 : List Cond := [Cond.instanceMethod yX4_clock, Cond.selects RX4 yX4_clock yX4_clock, Cond.code yX4_clock cX4_clock 1 (some .int), Cond.methodLink RL 45 yX5_clock, Cond.instanceMethod yX5_clock, Cond.selects RX5 yX5_clock yX5_clock, Cond.code yX5_clock cX5_clock 1 (some .int), Cond.methodLink RL 46 yX4_runs, Cond.instanceMethod yX4_runs, Cond.selects RX4 yX4_runs yX4_runs, Cond.code yX4_runs cX4_runs 1 (some .int), Cond.methodLink RL 49 yX5_runs, Cond.instanceMethod yX5_runs, Cond.selects RX5 yX5_runs yX5_runs, Cond.code yX5_runs cX5_runs 1 (some .int), Cond.methodLink RL 50 yX4_again, Cond.instanceMethod yX4_again, Cond.selects RX4 yX4_again yX4_again, Cond.code yX4_again cX4_again 4 (some .int), Cond.methodLink RX4 147 yX2_isFork, Cond.methodLink RX4 155 yX2_firstOtherTick, Cond.instanceMethod yX2_firstOtherTick, Cond.selects RX2 yX2_firstOtherTick yX2_firstOtherTick, Cond.code yX2_firstOtherTick cX2_firstOtherTick 4 (some .int)]
def wsL_law_r17 : List Cond := [Cond.methodLink RX2 114 Lib.Math.min.name, Cond.static Lib.Math.min.name, Cond.initialized "java/lang/Math", Cond.code Lib.Math.min.name Lib.Math.min.code 2 (some .int), Cond.methodLink RL 54 yX5_again, Cond.instanceMethod yX5_again, Cond.selects RX5 yX5_again yX5_again, Cond.code yX5_again cX5_again 6 (some .int), Cond.methodLink RL 55 yX4_loose, Cond.instanceMethod yX4_loose, Cond.selects RX4 yX4_loose yX4_loose, Cond.code yX4_loose cX4_loose 3 (some .int), Cond.methodLink RL 58 yX5_loose, Cond.instanceMethod yX5_loose, Cond.selects RX5 yX5_loose yX5_loose, Cond.code yX5_loose cX5_loose 4 (some .int), Cond.methodLink RL 59 yX4_saved, Cond.instanceMethod yX4_saved, Cond.selects RX4 yX4_saved yX4_saved, Cond.code yX4_saved cX4_saved 8 (some .int), Cond.methodLink RX4 162 yX2_fitsSettings, Cond.instanceMethod yX2_fitsSettings, Cond.selects RX2 yX2_fitsSettings yX2_fitsSettings, Cond.code yX2_fitsSettings cX2_fitsSettings 3 (some .boolean)]
def wsL_law_r18 : List Cond := [Cond.methodLink RX4 165 yX2_fitsSeed, Cond.instanceMethod yX2_fitsSeed, Cond.selects RX2 yX2_fitsSeed yX2_fitsSeed, Cond.code yX2_fitsSeed cX2_fitsSeed 2 (some .boolean), Cond.methodLink RX4 168 yX2_isUsable, Cond.instanceMethod yX2_isUsable, Cond.selects RX2 yX2_isUsable yX2_isUsable, Cond.code yX2_isUsable cX2_isUsable 4 (some .boolean), Cond.methodLink RX2 134 yX2_isComparable, Cond.methodLink RX2 137 yX1_changedWords, Cond.methodLink RL 62 yX5_saved, Cond.instanceMethod yX5_saved, Cond.selects RX5 yX5_saved yX5_saved, Cond.code yX5_saved cX5_saved 5 (some .int), Cond.methodLink RX5 155 yX5_savedBy, Cond.instanceMethod yX5_savedBy, Cond.selects RX5 yX5_savedBy yX5_savedBy, Cond.code yX5_savedBy cX5_savedBy 8 (some .int), Cond.methodLink RL 63 yX4_pairs, Cond.instanceMethod yX4_pairs, Cond.selects RX4 yX4_pairs yX4_pairs, Cond.code yX4_pairs cX4_pairs 6 (some .int), Cond.methodLink RX4 172 yX4_canCompare, Cond.static yX4_canCompare]
def wsL_law_r19 : List Cond := [Cond.code yX4_canCompare cX4_canCompare 4 (some .boolean), Cond.methodLink RX4 195 yX4_isSetting, Cond.static yX4_isSetting, Cond.code yX4_isSetting cX4_isSetting 1 (some .boolean), Cond.methodLink RX4 176 yX4_countPairs, Cond.instanceMethod yX4_countPairs, Cond.selects RX4 yX4_countPairs yX4_countPairs, Cond.code yX4_countPairs cX4_countPairs 11 (some .int), Cond.methodLink RX4 180 yX4_standsFor, Cond.static yX4_standsFor, Cond.code yX4_standsFor cX4_standsFor 4 (some .boolean), Cond.methodLink RX4 184 yX2_pairsWith, Cond.instanceMethod yX2_pairsWith, Cond.selects RX2 yX2_pairsWith yX2_pairsWith, Cond.code yX2_pairsWith cX2_pairsWith 4 (some .boolean), Cond.methodLink RX4 230 yX2_lastRow, Cond.methodLink RX4 255 yX4_endsAsAsked, Cond.static yX4_endsAsAsked, Cond.code yX4_endsAsAsked cX4_endsAsAsked 3 (some .boolean), Cond.methodLink RL 67 yX5_pairs, Cond.instanceMethod yX5_pairs, Cond.selects RX5 yX5_pairs yX5_pairs, Cond.code yX5_pairs cX5_pairs 6 (some .int), Cond.fieldLink RX5 171 "TrialBookModel" "pairs" "I"]
def wsL_law_r20 : List Cond := [Cond.fieldLink RX5 174 "TrialBookModel" "wins" "I", Cond.fieldLink RX5 177 "TrialBookModel" "loses" "I", Cond.methodLink RX5 184 yX5_canPair, Cond.instanceMethod yX5_canPair, Cond.selects RX5 yX5_canPair yX5_canPair, Cond.code yX5_canPair cX5_canPair 5 (some .boolean), Cond.methodLink RX5 188 yX5_findPairs, Cond.instanceMethod yX5_findPairs, Cond.selects RX5 yX5_findPairs yX5_findPairs, Cond.code yX5_findPairs cX5_findPairs 9 none, Cond.methodLink RX5 180 yX5_isPair, Cond.instanceMethod yX5_isPair, Cond.selects RX5 yX5_isPair yX5_isPair, Cond.code yX5_isPair cX5_isPair 7 (some .boolean), Cond.methodLink RX5 162 yX5_mayBe, Cond.instanceMethod yX5_mayBe, Cond.selects RX5 yX5_mayBe yX5_mayBe, Cond.code yX5_mayBe cX5_mayBe 3 (some .boolean), Cond.methodLink RX5 165 yX5_isLike, Cond.instanceMethod yX5_isLike, Cond.selects RX5 yX5_isLike yX5_isLike, Cond.code yX5_isLike cX5_isLike 4 (some .boolean), Cond.methodLink RX5 159 yX5_isLikeCode, Cond.instanceMethod yX5_isLikeCode]
def wsL_law_r21 : List Cond := [Cond.selects RX5 yX5_isLikeCode yX5_isLikeCode, Cond.code yX5_isLikeCode cX5_isLikeCode 4 (some .boolean), Cond.methodLink RX5 168 yX5_isLeast, Cond.instanceMethod yX5_isLeast, Cond.selects RX5 yX5_isLeast yX5_isLeast, Cond.code yX5_isLeast cX5_isLeast 4 (some .boolean), Cond.methodLink RL 68 yX4_pair, Cond.instanceMethod yX4_pair, Cond.selects RX4 yX4_pair yX4_pair, Cond.code yX4_pair cX4_pair 12 (some .int), Cond.methodLink RL 72 yX5_pair, Cond.instanceMethod yX5_pair, Cond.selects RX5 yX5_pair yX5_pair, Cond.code yX5_pair cX5_pair 10 (some .int), Cond.methodLink RL 73 yX4_sure, Cond.instanceMethod yX4_sure, Cond.selects RX4 yX4_sure yX4_sure, Cond.code yX4_sure cX4_sure 7 (some .int), Cond.methodLink RX4 188 yX4_areOdds, Cond.static yX4_areOdds, Cond.code yX4_areOdds cX4_areOdds 1 (some .boolean), Cond.constant RX4 273 (1000000), Cond.methodLink RX4 191 yX4_judge, Cond.instanceMethod yX4_judge]
def wsL_law_r22 : List Cond := [Cond.selects RX4 yX4_judge yX4_judge, Cond.code yX4_judge cX4_judge 9 (some .int), Cond.methodLink RX4 259 yX4_waysToWin, Cond.static yX4_waysToWin, Cond.code yX4_waysToWin cX4_waysToWin 7 (some .long), Cond.methodLink RL 76 yX5_sure, Cond.instanceMethod yX5_sure, Cond.selects RX5 yX5_sure yX5_sure, Cond.code yX5_sure cX5_sure 7 (some .int), Cond.constant RX5 196 (1000000), Cond.methodLink RX5 197 yX5_sureOf, Cond.instanceMethod yX5_sureOf, Cond.selects RX5 yX5_sureOf yX5_sureOf, Cond.code yX5_sureOf cX5_sureOf 8 (some .int), Cond.methodLink RX5 192 yX5_overs, Cond.instanceMethod yX5_overs, Cond.selects RX5 yX5_overs yX5_overs, Cond.code yX5_overs cX5_overs 8 (some .long), Cond.methodLink RL 77 yX4_best, Cond.instanceMethod yX4_best, Cond.selects RX4 yX4_best yX4_best, Cond.code yX4_best cX4_best 8 (some .int), Cond.methodLink RX4 198 yX4_boundOf, Cond.instanceMethod yX4_boundOf]
def wsL_law_r23 : List Cond := [Cond.selects RX4 yX4_boundOf yX4_boundOf, Cond.code yX4_boundOf cX4_boundOf 2 (some .int), Cond.methodLink RX4 201 yX4_beatsOthers, Cond.instanceMethod yX4_beatsOthers, Cond.selects RX4 yX4_beatsOthers yX4_beatsOthers, Cond.code yX4_beatsOthers cX4_beatsOthers 8 (some .boolean), Cond.methodLink RL 81 yX5_best, Cond.instanceMethod yX5_best, Cond.selects RX5 yX5_best yX5_best, Cond.code yX5_best cX5_best 7 (some .int), Cond.methodLink RL 82 yX4_holes, Cond.instanceMethod yX4_holes, Cond.selects RX4 yX4_holes yX4_holes, Cond.code yX4_holes cX4_holes 8 (some .int), Cond.methodLink RX4 205 yX4_areGridSeeds, Cond.static yX4_areGridSeeds, Cond.code yX4_areGridSeeds cX4_areGridSeeds 1 (some .boolean), Cond.methodLink RX4 208 yX4_gatherFillers, Cond.instanceMethod yX4_gatherFillers, Cond.selects RX4 yX4_gatherFillers yX4_gatherFillers, Cond.code yX4_gatherFillers cX4_gatherFillers 5 none, Cond.fieldLink RX4 263 "TrialBook" "fillerCount" "I", Cond.methodLink RX4 212 yX4_openSeeds, Cond.instanceMethod yX4_openSeeds]
def wsL_law_r24 : List Cond := [Cond.selects RX4 yX4_openSeeds yX4_openSeeds, Cond.code yX4_openSeeds cX4_openSeeds 6 (some .int), Cond.methodLink RX4 266 yX2_gridSeeds, Cond.instanceMethod yX2_gridSeeds, Cond.selects RX2 yX2_gridSeeds yX2_gridSeeds, Cond.code yX2_gridSeeds cX2_gridSeeds 1 (some .int), Cond.methodLink RX4 216 yJ6_bitCount_0f7a4, Cond.static yJ6_bitCount_0f7a4, Cond.initialized RJ6, Cond.code yJ6_bitCount_0f7a4 cJ6_bitCount_0f7a4 1 (some .int), Cond.constant RJ6 265 (1431655765), Cond.constant RJ6 266 (858993459), Cond.constant RJ6 267 (252645135), Cond.methodLink RX4 221 yX4_nextSettings, Cond.instanceMethod yX4_nextSettings, Cond.selects RX4 yX4_nextSettings yX4_nextSettings, Cond.code yX4_nextSettings cX4_nextSettings 5 (some .int), Cond.methodLink RL 85 yX5_holes, Cond.instanceMethod yX5_holes, Cond.selects RX5 yX5_holes yX5_holes, Cond.code yX5_holes cX5_holes 7 (some .int), Cond.methodLink RX5 201 yX5_canHole, Cond.instanceMethod yX5_canHole, Cond.selects RX5 yX5_canHole yX5_canHole]
def wsL_law_r25 : List Cond := [Cond.code yX5_canHole cX5_canHole 4 (some .boolean), Cond.methodLink RX5 205 yX5_grid, Cond.instanceMethod yX5_grid, Cond.selects RX5 yX5_grid yX5_grid, Cond.code yX5_grid cX5_grid 1 (some .int), Cond.methodLink RX5 209 yX5_settingsAt, Cond.instanceMethod yX5_settingsAt, Cond.selects RX5 yX5_settingsAt yX5_settingsAt, Cond.code yX5_settingsAt cX5_settingsAt 5 (some .int), Cond.methodLink RL 86 yX4_hole, Cond.instanceMethod yX4_hole, Cond.selects RX4 yX4_hole yX4_hole, Cond.code yX4_hole cX4_hole 12 (some .int), Cond.methodLink RX4 224 yX4_memberAt, Cond.static yX4_memberAt, Cond.code yX4_memberAt cX4_memberAt 4 (some .int), Cond.methodLink RX4 269 yX4_isIn, Cond.methodLink RL 89 yX5_hole, Cond.instanceMethod yX5_hole, Cond.selects RX5 yX5_hole yX5_hole, Cond.code yX5_hole cX5_hole 9 (some .int), Cond.methodLink RL 90 yX4_idle, Cond.instanceMethod yX4_idle, Cond.selects RX4 yX4_idle yX4_idle]
def wsL_law_r26 : List Cond := [Cond.code yX4_idle cX4_idle 4 (some .int), Cond.methodLink RL 93 yX5_idle, Cond.instanceMethod yX5_idle, Cond.selects RX5 yX5_idle yX5_idle, Cond.code yX5_idle cX5_idle 3 (some .int), Cond.methodLink RL 94 yX4_claim, Cond.instanceMethod yX4_claim, Cond.selects RX4 yX4_claim yX4_claim, Cond.code yX4_claim cX4_claim 3 (some .int), Cond.fieldLink RX4 227 "TrialBook" "claimCount" "I", Cond.methodLink RL 97 yX5_claim, Cond.instanceMethod yX5_claim, Cond.selects RX5 yX5_claim yX5_claim, Cond.code yX5_claim cX5_claim 2 (some .int), Cond.fieldLink RX5 213 "TrialBookModel" "claims" "I", Cond.methodLink RL 98 yX4_claimed, Cond.instanceMethod yX4_claimed, Cond.selects RX4 yX4_claimed yX4_claimed, Cond.code yX4_claimed cX4_claimed 3 (some .int), Cond.methodLink RL 101 yX5_claimed, Cond.instanceMethod yX5_claimed, Cond.selects RX5 yX5_claimed yX5_claimed, Cond.code yX5_claimed cX5_claimed 4 (some .int)]
def wsL_law : List Cond := (wsL_law_r1 ++ (wsL_law_r2 ++ (wsL_law_r3 ++ (wsL_law_r4 ++ (wsL_law_r5 ++ (wsL_law_r6 ++ (wsL_law_r7 ++ (wsL_law_r8 ++ (wsL_law_r9 ++ (wsL_law_r10 ++ (wsL_law_r11 ++ (wsL_law_r12 ++ (wsL_law_r13 ++ (wsL_law_r14 ++ (wsL_law_r15 ++ (wsL_law_r16 ++ (wsL_law_r17 ++ (wsL_law_r18 ++ (wsL_law_r19 ++ (wsL_law_r20 ++ (wsL_law_r21 ++ (wsL_law_r22 ++ (wsL_law_r23 ++ (wsL_law_r24 ++ (wsL_law_r25 ++ wsL_law_r26))))))))))))))))))))))))) ++ wsX40 ++ wsX50 ++ wsX30 ++ wsX00 ++ wsX20 ++ wsX10 ++ ([] : List Cond)
theorem inlX0 : ∀ w ∈ wsX00, w ∈ wsL_law := fun _ h => List.mem_append_left _ (List.mem_append_left _ (List.mem_append_left _ (List.mem_append_right _ h)))
theorem inlX1 : ∀ w ∈ wsX10, w ∈ wsL_law := fun _ h => List.mem_append_left _ (List.mem_append_right _ h)
theorem inlX2 : ∀ w ∈ wsX20, w ∈ wsL_law := fun _ h => List.mem_append_left _ (List.mem_append_left _ (List.mem_append_right _ h))
theorem inlX3 : ∀ w ∈ wsX30, w ∈ wsL_law := fun _ h => List.mem_append_left _ (List.mem_append_left _ (List.mem_append_left _ (List.mem_append_left _ (List.mem_append_right _ h))))
theorem inlX4 : ∀ w ∈ wsX40, w ∈ wsL_law := fun _ h => List.mem_append_left _ (List.mem_append_left _ (List.mem_append_left _ (List.mem_append_left _ (List.mem_append_left _ (List.mem_append_left _ (List.mem_append_right _ h))))))
theorem inlX5 : ∀ w ∈ wsX50, w ∈ wsL_law := fun _ h => List.mem_append_left _ (List.mem_append_left _ (List.mem_append_left _ (List.mem_append_left _ (List.mem_append_left _ (List.mem_append_right _ h)))))
abbrev vwCl : List vw_C := [(RX0, TX0, 2), (RX1, TX1, 5), (RX2, TX2, 12), (RX3, TX3, 2), (RX4, TX4, 10), (RX5, TX5, 37)]
end
section
theorem dX0_init_0 : decode cX0_init 0 = .ok (.aload_n 0, 1) := by decide +kernel
theorem dX0_init_1 : decode cX0_init 1 = .ok (.invokespecial 3, 3) := by decide +kernel
theorem dX0_init_4 : decode cX0_init 4 = .ok (.iload_n 2, 1) := by decide +kernel
theorem dX0_init_5 : decode cX0_init 5 = .ok (.i2l, 1) := by decide +kernel
theorem dX0_init_6 : decode cX0_init 6 = .ok (.bipush 32, 2) := by decide +kernel
theorem dX0_init_8 : decode cX0_init 8 = .ok (.lshl, 1) := by decide +kernel
theorem dX0_init_9 : decode cX0_init 9 = .ok (.iload_n 3, 1) := by decide +kernel
theorem dX0_init_10 : decode cX0_init 10 = .ok (.i2l, 1) := by decide +kernel
theorem dX0_init_11 : decode cX0_init 11 = .ok (.ldc2_w 9, 3) := by decide +kernel
theorem dX0_init_14 : decode cX0_init 14 = .ok (.land, 1) := by decide +kernel
theorem dX0_init_15 : decode cX0_init 15 = .ok (.lor, 1) := by decide +kernel
theorem dX0_init_16 : decode cX0_init 16 = .ok (.lstore 4, 2) := by decide +kernel
theorem dX0_init_18 : decode cX0_init 18 = .ok (.aload_n 0, 1) := by decide +kernel
theorem dX0_init_19 : decode cX0_init 19 = .ok (.iload_n 1, 1) := by decide +kernel
theorem dX0_init_20 : decode cX0_init 20 = .ok (.putfield 11, 3) := by decide +kernel
theorem dX0_init_23 : decode cX0_init 23 = .ok (.aload_n 0, 1) := by decide +kernel
theorem dX0_init_24 : decode cX0_init 24 = .ok (.iload_n 1, 1) := by decide +kernel
theorem dX0_init_25 : decode cX0_init 25 = .ok (.ifCond .gt 7, 3) := by decide +kernel
theorem dX0_init_28 : decode cX0_init 28 = .ok (.lconst 0, 1) := by decide +kernel
theorem dX0_init_29 : decode cX0_init 29 = .ok (.goto 13, 3) := by decide +kernel
theorem dX0_init_32 : decode cX0_init 32 = .ok (.lload 4, 2) := by decide +kernel
theorem dX0_init_34 : decode cX0_init 34 = .ok (.bipush 8, 2) := by decide +kernel
theorem dX0_init_36 : decode cX0_init 36 = .ok (.bipush 8, 2) := by decide +kernel
theorem dX0_init_38 : decode cX0_init 38 = .ok (.iload_n 1, 1) := by decide +kernel
theorem dX0_init_39 : decode cX0_init 39 = .ok (.isub, 1) := by decide +kernel
theorem dX0_init_40 : decode cX0_init 40 = .ok (.imul, 1) := by decide +kernel
theorem dX0_init_41 : decode cX0_init 41 = .ok (.lushr, 1) := by decide +kernel
theorem dX0_init_42 : decode cX0_init 42 = .ok (.putfield 17, 3) := by decide +kernel
theorem dX0_init_45 : decode cX0_init 45 = .ok (.return_, 1) := by decide +kernel
theorem dX0_stepAt_0 : decode cX0_stepAt 0 = .ok (.aload_n 0, 1) := by decide +kernel
theorem dX0_stepAt_1 : decode cX0_stepAt 1 = .ok (.getfield 17, 3) := by decide +kernel
theorem dX0_stepAt_4 : decode cX0_stepAt 4 = .ok (.bipush 8, 2) := by decide +kernel
theorem dX0_stepAt_6 : decode cX0_stepAt 6 = .ok (.aload_n 0, 1) := by decide +kernel
theorem dX0_stepAt_7 : decode cX0_stepAt 7 = .ok (.getfield 11, 3) := by decide +kernel
theorem dX0_stepAt_10 : decode cX0_stepAt 10 = .ok (.iconst 1, 1) := by decide +kernel
theorem dX0_stepAt_11 : decode cX0_stepAt 11 = .ok (.isub, 1) := by decide +kernel
theorem dX0_stepAt_12 : decode cX0_stepAt 12 = .ok (.iload_n 1, 1) := by decide +kernel
theorem dX0_stepAt_13 : decode cX0_stepAt 13 = .ok (.isub, 1) := by decide +kernel
theorem dX0_stepAt_14 : decode cX0_stepAt 14 = .ok (.imul, 1) := by decide +kernel
theorem dX0_stepAt_15 : decode cX0_stepAt 15 = .ok (.lushr, 1) := by decide +kernel
theorem dX0_stepAt_16 : decode cX0_stepAt 16 = .ok (.l2i, 1) := by decide +kernel
theorem dX0_stepAt_17 : decode cX0_stepAt 17 = .ok (.sipush 255, 3) := by decide +kernel
theorem dX0_stepAt_20 : decode cX0_stepAt 20 = .ok (.iand, 1) := by decide +kernel
theorem dX0_stepAt_21 : decode cX0_stepAt 21 = .ok (.ireturn, 1) := by decide +kernel
theorem dX0_isLike_0 : decode cX0_isLike 0 = .ok (.aload_n 1, 1) := by decide +kernel
theorem dX0_isLike_1 : decode cX0_isLike 1 = .ok (.ifnull 30, 3) := by decide +kernel
theorem dX0_isLike_4 : decode cX0_isLike 4 = .ok (.aload_n 0, 1) := by decide +kernel
theorem dX0_isLike_5 : decode cX0_isLike 5 = .ok (.getfield 11, 3) := by decide +kernel
theorem dX0_isLike_8 : decode cX0_isLike 8 = .ok (.aload_n 1, 1) := by decide +kernel
theorem dX0_isLike_9 : decode cX0_isLike 9 = .ok (.getfield 11, 3) := by decide +kernel
theorem dX0_isLike_12 : decode cX0_isLike 12 = .ok (.if_icmp .ne 19, 3) := by decide +kernel
theorem dX0_isLike_15 : decode cX0_isLike 15 = .ok (.aload_n 0, 1) := by decide +kernel
theorem dX0_isLike_16 : decode cX0_isLike 16 = .ok (.getfield 17, 3) := by decide +kernel
theorem dX0_isLike_19 : decode cX0_isLike 19 = .ok (.aload_n 1, 1) := by decide +kernel
theorem dX0_isLike_20 : decode cX0_isLike 20 = .ok (.getfield 17, 3) := by decide +kernel
theorem dX0_isLike_23 : decode cX0_isLike 23 = .ok (.lcmp, 1) := by decide +kernel
theorem dX0_isLike_24 : decode cX0_isLike 24 = .ok (.ifCond .ne 7, 3) := by decide +kernel
theorem dX0_isLike_27 : decode cX0_isLike 27 = .ok (.iconst 1, 1) := by decide +kernel
theorem dX0_isLike_28 : decode cX0_isLike 28 = .ok (.goto 4, 3) := by decide +kernel
theorem dX0_isLike_31 : decode cX0_isLike 31 = .ok (.iconst 0, 1) := by decide +kernel
theorem dX0_isLike_32 : decode cX0_isLike 32 = .ok (.ireturn, 1) := by decide +kernel
theorem dX1_init_0 : decode cX1_init 0 = .ok (.aload_n 0, 1) := by decide +kernel
theorem dX1_init_1 : decode cX1_init 1 = .ok (.invokespecial 3, 3) := by decide +kernel
theorem dX1_init_4 : decode cX1_init 4 = .ok (.aload_n 0, 1) := by decide +kernel
theorem dX1_init_5 : decode cX1_init 5 = .ok (.bipush 8, 2) := by decide +kernel
theorem dX1_init_7 : decode cX1_init 7 = .ok (.newarray .int, 2) := by decide +kernel
theorem dX1_init_9 : decode cX1_init 9 = .ok (.putfield 9, 3) := by decide +kernel
theorem dX1_init_12 : decode cX1_init 12 = .ok (.return_, 1) := by decide +kernel
theorem dX1_addWord_0 : decode cX1_addWord 0 = .ok (.iload_n 1, 1) := by decide +kernel
theorem dX1_addWord_1 : decode cX1_addWord 1 = .ok (.ifCond .lt 31, 3) := by decide +kernel
theorem dX1_addWord_4 : decode cX1_addWord 4 = .ok (.iload_n 1, 1) := by decide +kernel
theorem dX1_addWord_5 : decode cX1_addWord 5 = .ok (.aload_n 0, 1) := by decide +kernel
theorem dX1_addWord_6 : decode cX1_addWord 6 = .ok (.getfield 9, 3) := by decide +kernel
theorem dX1_addWord_9 : decode cX1_addWord 9 = .ok (.arraylength, 1) := by decide +kernel
theorem dX1_addWord_10 : decode cX1_addWord 10 = .ok (.if_icmp .ge 22, 3) := by decide +kernel
theorem dX1_addWord_13 : decode cX1_addWord 13 = .ok (.aload_n 0, 1) := by decide +kernel
theorem dX1_addWord_14 : decode cX1_addWord 14 = .ok (.dup, 1) := by decide +kernel
theorem dX1_addWord_15 : decode cX1_addWord 15 = .ok (.getfield 15, 3) := by decide +kernel
theorem dX1_addWord_18 : decode cX1_addWord 18 = .ok (.iconst 1, 1) := by decide +kernel
theorem dX1_addWord_19 : decode cX1_addWord 19 = .ok (.iload_n 1, 1) := by decide +kernel
theorem dX1_addWord_20 : decode cX1_addWord 20 = .ok (.ishl, 1) := by decide +kernel
theorem dX1_addWord_21 : decode cX1_addWord 21 = .ok (.ior, 1) := by decide +kernel
theorem dX1_addWord_22 : decode cX1_addWord 22 = .ok (.putfield 15, 3) := by decide +kernel
theorem dX1_addWord_25 : decode cX1_addWord 25 = .ok (.aload_n 0, 1) := by decide +kernel
theorem dX1_addWord_26 : decode cX1_addWord 26 = .ok (.getfield 9, 3) := by decide +kernel
theorem dX1_addWord_29 : decode cX1_addWord 29 = .ok (.iload_n 1, 1) := by decide +kernel
theorem dX1_addWord_30 : decode cX1_addWord 30 = .ok (.iload_n 2, 1) := by decide +kernel
theorem dX1_addWord_31 : decode cX1_addWord 31 = .ok (.iastore, 1) := by decide +kernel
theorem dX1_addWord_32 : decode cX1_addWord 32 = .ok (.return_, 1) := by decide +kernel
theorem dX1_addAll_0 : decode cX1_addAll 0 = .ok (.aload_n 0, 1) := by decide +kernel
theorem dX1_addAll_1 : decode cX1_addAll 1 = .ok (.dup, 1) := by decide +kernel
theorem dX1_addAll_2 : decode cX1_addAll 2 = .ok (.getfield 19, 3) := by decide +kernel
theorem dX1_addAll_5 : decode cX1_addAll 5 = .ok (.aload_n 1, 1) := by decide +kernel
theorem dX1_addAll_6 : decode cX1_addAll 6 = .ok (.getfield 19, 3) := by decide +kernel
theorem dX1_addAll_9 : decode cX1_addAll 9 = .ok (.ior, 1) := by decide +kernel
theorem dX1_addAll_10 : decode cX1_addAll 10 = .ok (.putfield 19, 3) := by decide +kernel
theorem dX1_addAll_13 : decode cX1_addAll 13 = .ok (.aload_n 0, 1) := by decide +kernel
theorem dX1_addAll_14 : decode cX1_addAll 14 = .ok (.dup, 1) := by decide +kernel
theorem dX1_addAll_15 : decode cX1_addAll 15 = .ok (.getfield 22, 3) := by decide +kernel
theorem dX1_addAll_18 : decode cX1_addAll 18 = .ok (.aload_n 1, 1) := by decide +kernel
theorem dX1_addAll_19 : decode cX1_addAll 19 = .ok (.getfield 22, 3) := by decide +kernel
theorem dX1_addAll_22 : decode cX1_addAll 22 = .ok (.ior, 1) := by decide +kernel
theorem dX1_addAll_23 : decode cX1_addAll 23 = .ok (.putfield 22, 3) := by decide +kernel
theorem dX1_addAll_26 : decode cX1_addAll 26 = .ok (.aload_n 0, 1) := by decide +kernel
theorem dX1_addAll_27 : decode cX1_addAll 27 = .ok (.dup, 1) := by decide +kernel
theorem dX1_addAll_28 : decode cX1_addAll 28 = .ok (.getfield 26, 3) := by decide +kernel
theorem dX1_addAll_31 : decode cX1_addAll 31 = .ok (.aload_n 1, 1) := by decide +kernel
theorem dX1_addAll_32 : decode cX1_addAll 32 = .ok (.getfield 26, 3) := by decide +kernel
theorem dX1_addAll_35 : decode cX1_addAll 35 = .ok (.ior, 1) := by decide +kernel
theorem dX1_addAll_36 : decode cX1_addAll 36 = .ok (.putfield 26, 3) := by decide +kernel
theorem dX1_addAll_39 : decode cX1_addAll 39 = .ok (.iconst 0, 1) := by decide +kernel
theorem dX1_addAll_40 : decode cX1_addAll 40 = .ok (.istore_n 2, 1) := by decide +kernel
theorem dX1_addAll_41 : decode cX1_addAll 41 = .ok (.iload_n 2, 1) := by decide +kernel
theorem dX1_addAll_42 : decode cX1_addAll 42 = .ok (.aload_n 1, 1) := by decide +kernel
theorem dX1_addAll_43 : decode cX1_addAll 43 = .ok (.getfield 9, 3) := by decide +kernel
theorem dX1_addAll_46 : decode cX1_addAll 46 = .ok (.arraylength, 1) := by decide +kernel
theorem dX1_addAll_47 : decode cX1_addAll 47 = .ok (.if_icmp .ge 31, 3) := by decide +kernel
theorem dX1_addAll_50 : decode cX1_addAll 50 = .ok (.iload_n 2, 1) := by decide +kernel
theorem dX1_addAll_51 : decode cX1_addAll 51 = .ok (.aload_n 1, 1) := by decide +kernel
theorem dX1_addAll_52 : decode cX1_addAll 52 = .ok (.getfield 15, 3) := by decide +kernel
theorem dX1_addAll_55 : decode cX1_addAll 55 = .ok (.invokestatic 29, 3) := by decide +kernel
theorem dX1_addAll_58 : decode cX1_addAll 58 = .ok (.ifCond .eq 14, 3) := by decide +kernel
theorem dX1_addAll_61 : decode cX1_addAll 61 = .ok (.aload_n 0, 1) := by decide +kernel
theorem dX1_addAll_62 : decode cX1_addAll 62 = .ok (.iload_n 2, 1) := by decide +kernel
theorem dX1_addAll_63 : decode cX1_addAll 63 = .ok (.aload_n 1, 1) := by decide +kernel
theorem dX1_addAll_64 : decode cX1_addAll 64 = .ok (.getfield 9, 3) := by decide +kernel
theorem dX1_addAll_67 : decode cX1_addAll 67 = .ok (.iload_n 2, 1) := by decide +kernel
theorem dX1_addAll_68 : decode cX1_addAll 68 = .ok (.iaload, 1) := by decide +kernel
theorem dX1_addAll_69 : decode cX1_addAll 69 = .ok (.invokevirtual 33, 3) := by decide +kernel
theorem dX1_addAll_72 : decode cX1_addAll 72 = .ok (.iinc 2 1, 3) := by decide +kernel
theorem dX1_addAll_75 : decode cX1_addAll 75 = .ok (.goto (-34), 3) := by decide +kernel
theorem dX1_addAll_78 : decode cX1_addAll 78 = .ok (.return_, 1) := by decide +kernel
theorem dX1_changedWords_0 : decode cX1_changedWords 0 = .ok (.iconst 0, 1) := by decide +kernel
theorem dX1_changedWords_1 : decode cX1_changedWords 1 = .ok (.istore_n 2, 1) := by decide +kernel
theorem dX1_changedWords_2 : decode cX1_changedWords 2 = .ok (.iconst 0, 1) := by decide +kernel
theorem dX1_changedWords_3 : decode cX1_changedWords 3 = .ok (.istore_n 3, 1) := by decide +kernel
theorem dX1_changedWords_4 : decode cX1_changedWords 4 = .ok (.iload_n 3, 1) := by decide +kernel
theorem dX1_changedWords_5 : decode cX1_changedWords 5 = .ok (.aload_n 0, 1) := by decide +kernel
theorem dX1_changedWords_6 : decode cX1_changedWords 6 = .ok (.getfield 9, 3) := by decide +kernel
theorem dX1_changedWords_9 : decode cX1_changedWords 9 = .ok (.arraylength, 1) := by decide +kernel
theorem dX1_changedWords_10 : decode cX1_changedWords 10 = .ok (.if_icmp .ge 40, 3) := by decide +kernel
theorem dX1_changedWords_13 : decode cX1_changedWords 13 = .ok (.iload_n 3, 1) := by decide +kernel
theorem dX1_changedWords_14 : decode cX1_changedWords 14 = .ok (.aload_n 0, 1) := by decide +kernel
theorem dX1_changedWords_15 : decode cX1_changedWords 15 = .ok (.getfield 15, 3) := by decide +kernel
theorem dX1_changedWords_18 : decode cX1_changedWords 18 = .ok (.invokestatic 29, 3) := by decide +kernel
theorem dX1_changedWords_21 : decode cX1_changedWords 21 = .ok (.ifCond .eq 23, 3) := by decide +kernel
theorem dX1_changedWords_24 : decode cX1_changedWords 24 = .ok (.aload_n 0, 1) := by decide +kernel
theorem dX1_changedWords_25 : decode cX1_changedWords 25 = .ok (.getfield 9, 3) := by decide +kernel
theorem dX1_changedWords_28 : decode cX1_changedWords 28 = .ok (.iload_n 3, 1) := by decide +kernel
theorem dX1_changedWords_29 : decode cX1_changedWords 29 = .ok (.iaload, 1) := by decide +kernel
theorem dX1_changedWords_30 : decode cX1_changedWords 30 = .ok (.aload_n 1, 1) := by decide +kernel
theorem dX1_changedWords_31 : decode cX1_changedWords 31 = .ok (.iload_n 3, 1) := by decide +kernel
theorem dX1_changedWords_32 : decode cX1_changedWords 32 = .ok (.invokevirtual 37, 3) := by decide +kernel
theorem dX1_changedWords_35 : decode cX1_changedWords 35 = .ok (.if_icmp .eq 9, 3) := by decide +kernel
theorem dX1_changedWords_38 : decode cX1_changedWords 38 = .ok (.iload_n 2, 1) := by decide +kernel
theorem dX1_changedWords_39 : decode cX1_changedWords 39 = .ok (.iconst 1, 1) := by decide +kernel
theorem dX1_changedWords_40 : decode cX1_changedWords 40 = .ok (.iload_n 3, 1) := by decide +kernel
theorem dX1_changedWords_41 : decode cX1_changedWords 41 = .ok (.ishl, 1) := by decide +kernel
theorem dX1_changedWords_42 : decode cX1_changedWords 42 = .ok (.ior, 1) := by decide +kernel
theorem dX1_changedWords_43 : decode cX1_changedWords 43 = .ok (.istore_n 2, 1) := by decide +kernel
theorem dX1_changedWords_44 : decode cX1_changedWords 44 = .ok (.iinc 3 1, 3) := by decide +kernel
theorem dX1_changedWords_47 : decode cX1_changedWords 47 = .ok (.goto (-43), 3) := by decide +kernel
theorem dX1_changedWords_50 : decode cX1_changedWords 50 = .ok (.iload_n 2, 1) := by decide +kernel
theorem dX1_changedWords_51 : decode cX1_changedWords 51 = .ok (.ireturn, 1) := by decide +kernel
theorem dX1_agreesOnSharedWords_0 : decode cX1_agreesOnSharedWords 0 = .ok (.aload_n 0, 1) := by decide +kernel
theorem dX1_agreesOnSharedWords_1 : decode cX1_agreesOnSharedWords 1 = .ok (.getfield 15, 3) := by decide +kernel
theorem dX1_agreesOnSharedWords_4 : decode cX1_agreesOnSharedWords 4 = .ok (.aload_n 1, 1) := by decide +kernel
theorem dX1_agreesOnSharedWords_5 : decode cX1_agreesOnSharedWords 5 = .ok (.getfield 15, 3) := by decide +kernel
theorem dX1_agreesOnSharedWords_8 : decode cX1_agreesOnSharedWords 8 = .ok (.iand, 1) := by decide +kernel
theorem dX1_agreesOnSharedWords_9 : decode cX1_agreesOnSharedWords 9 = .ok (.istore_n 2, 1) := by decide +kernel
theorem dX1_agreesOnSharedWords_10 : decode cX1_agreesOnSharedWords 10 = .ok (.iconst 0, 1) := by decide +kernel
theorem dX1_agreesOnSharedWords_11 : decode cX1_agreesOnSharedWords 11 = .ok (.istore_n 3, 1) := by decide +kernel
theorem dX1_agreesOnSharedWords_12 : decode cX1_agreesOnSharedWords 12 = .ok (.iload_n 3, 1) := by decide +kernel
theorem dX1_agreesOnSharedWords_13 : decode cX1_agreesOnSharedWords 13 = .ok (.aload_n 0, 1) := by decide +kernel
theorem dX1_agreesOnSharedWords_14 : decode cX1_agreesOnSharedWords 14 = .ok (.getfield 9, 3) := by decide +kernel
theorem dX1_agreesOnSharedWords_17 : decode cX1_agreesOnSharedWords 17 = .ok (.arraylength, 1) := by decide +kernel
theorem dX1_agreesOnSharedWords_18 : decode cX1_agreesOnSharedWords 18 = .ok (.if_icmp .ge 43, 3) := by decide +kernel
theorem dX1_agreesOnSharedWords_21 : decode cX1_agreesOnSharedWords 21 = .ok (.iload_n 3, 1) := by decide +kernel
theorem dX1_agreesOnSharedWords_22 : decode cX1_agreesOnSharedWords 22 = .ok (.aload_n 1, 1) := by decide +kernel
theorem dX1_agreesOnSharedWords_23 : decode cX1_agreesOnSharedWords 23 = .ok (.getfield 9, 3) := by decide +kernel
theorem dX1_agreesOnSharedWords_26 : decode cX1_agreesOnSharedWords 26 = .ok (.arraylength, 1) := by decide +kernel
theorem dX1_agreesOnSharedWords_27 : decode cX1_agreesOnSharedWords 27 = .ok (.if_icmp .ge 34, 3) := by decide +kernel
theorem dX1_agreesOnSharedWords_30 : decode cX1_agreesOnSharedWords 30 = .ok (.iload_n 3, 1) := by decide +kernel
theorem dX1_agreesOnSharedWords_31 : decode cX1_agreesOnSharedWords 31 = .ok (.iload_n 2, 1) := by decide +kernel
theorem dX1_agreesOnSharedWords_32 : decode cX1_agreesOnSharedWords 32 = .ok (.invokestatic 29, 3) := by decide +kernel
theorem dX1_agreesOnSharedWords_35 : decode cX1_agreesOnSharedWords 35 = .ok (.ifCond .eq 20, 3) := by decide +kernel
theorem dX1_agreesOnSharedWords_38 : decode cX1_agreesOnSharedWords 38 = .ok (.aload_n 0, 1) := by decide +kernel
theorem dX1_agreesOnSharedWords_39 : decode cX1_agreesOnSharedWords 39 = .ok (.getfield 9, 3) := by decide +kernel
theorem dX1_agreesOnSharedWords_42 : decode cX1_agreesOnSharedWords 42 = .ok (.iload_n 3, 1) := by decide +kernel
theorem dX1_agreesOnSharedWords_43 : decode cX1_agreesOnSharedWords 43 = .ok (.iaload, 1) := by decide +kernel
theorem dX1_agreesOnSharedWords_44 : decode cX1_agreesOnSharedWords 44 = .ok (.aload_n 1, 1) := by decide +kernel
theorem dX1_agreesOnSharedWords_45 : decode cX1_agreesOnSharedWords 45 = .ok (.getfield 9, 3) := by decide +kernel
theorem dX1_agreesOnSharedWords_48 : decode cX1_agreesOnSharedWords 48 = .ok (.iload_n 3, 1) := by decide +kernel
theorem dX1_agreesOnSharedWords_49 : decode cX1_agreesOnSharedWords 49 = .ok (.iaload, 1) := by decide +kernel
theorem dX1_agreesOnSharedWords_50 : decode cX1_agreesOnSharedWords 50 = .ok (.if_icmp .eq 5, 3) := by decide +kernel
theorem dX1_agreesOnSharedWords_53 : decode cX1_agreesOnSharedWords 53 = .ok (.iconst 0, 1) := by decide +kernel
theorem dX1_agreesOnSharedWords_54 : decode cX1_agreesOnSharedWords 54 = .ok (.ireturn, 1) := by decide +kernel
theorem dX1_agreesOnSharedWords_55 : decode cX1_agreesOnSharedWords 55 = .ok (.iinc 3 1, 3) := by decide +kernel
theorem dX1_agreesOnSharedWords_58 : decode cX1_agreesOnSharedWords 58 = .ok (.goto (-46), 3) := by decide +kernel
theorem dX1_agreesOnSharedWords_61 : decode cX1_agreesOnSharedWords 61 = .ok (.iconst 1, 1) := by decide +kernel
theorem dX1_agreesOnSharedWords_62 : decode cX1_agreesOnSharedWords 62 = .ok (.ireturn, 1) := by decide +kernel
theorem dX2_init_0 : decode cX2_init 0 = .ok (.aload_n 0, 1) := by decide +kernel
theorem dX2_init_1 : decode cX2_init 1 = .ok (.invokespecial 3, 3) := by decide +kernel
theorem dX2_init_4 : decode cX2_init 4 = .ok (.aload_n 0, 1) := by decide +kernel
theorem dX2_init_5 : decode cX2_init 5 = .ok (.new 9, 3) := by decide +kernel
theorem dX2_init_8 : decode cX2_init 8 = .ok (.dup, 1) := by decide +kernel
theorem dX2_init_9 : decode cX2_init 9 = .ok (.invokespecial 11, 3) := by decide +kernel
theorem dX2_init_12 : decode cX2_init 12 = .ok (.putfield 12, 3) := by decide +kernel
theorem dX2_init_15 : decode cX2_init 15 = .ok (.aload_n 0, 1) := by decide +kernel
theorem dX2_init_16 : decode cX2_init 16 = .ok (.bipush 16, 2) := by decide +kernel
theorem dX2_init_18 : decode cX2_init 18 = .ok (.newarray .int, 2) := by decide +kernel
theorem dX2_init_20 : decode cX2_init 20 = .ok (.putfield 18, 3) := by decide +kernel
theorem dX2_init_23 : decode cX2_init 23 = .ok (.aload_n 0, 1) := by decide +kernel
theorem dX2_init_24 : decode cX2_init 24 = .ok (.iconst (-1), 1) := by decide +kernel
theorem dX2_init_25 : decode cX2_init 25 = .ok (.putfield 22, 3) := by decide +kernel
theorem dX2_init_28 : decode cX2_init 28 = .ok (.aload_n 0, 1) := by decide +kernel
theorem dX2_init_29 : decode cX2_init 29 = .ok (.iconst (-1), 1) := by decide +kernel
theorem dX2_init_30 : decode cX2_init 30 = .ok (.putfield 26, 3) := by decide +kernel
theorem dX2_init_33 : decode cX2_init 33 = .ok (.aload_n 0, 1) := by decide +kernel
theorem dX2_init_34 : decode cX2_init 34 = .ok (.iload_n 1, 1) := by decide +kernel
theorem dX2_init_35 : decode cX2_init 35 = .ok (.putfield 29, 3) := by decide +kernel
theorem dX2_init_38 : decode cX2_init 38 = .ok (.aload_n 0, 1) := by decide +kernel
theorem dX2_init_39 : decode cX2_init 39 = .ok (.aload_n 2, 1) := by decide +kernel
theorem dX2_init_40 : decode cX2_init 40 = .ok (.putfield 32, 3) := by decide +kernel
theorem dX2_init_43 : decode cX2_init 43 = .ok (.aload_n 0, 1) := by decide +kernel
theorem dX2_init_44 : decode cX2_init 44 = .ok (.iload_n 3, 1) := by decide +kernel
theorem dX2_init_45 : decode cX2_init 45 = .ok (.putfield 36, 3) := by decide +kernel
theorem dX2_init_48 : decode cX2_init 48 = .ok (.aload_n 0, 1) := by decide +kernel
theorem dX2_init_49 : decode cX2_init 49 = .ok (.iload 4, 2) := by decide +kernel
theorem dX2_init_51 : decode cX2_init 51 = .ok (.putfield 39, 3) := by decide +kernel
theorem dX2_init_54 : decode cX2_init 54 = .ok (.aload_n 0, 1) := by decide +kernel
theorem dX2_init_55 : decode cX2_init 55 = .ok (.iload 5, 2) := by decide +kernel
theorem dX2_init_57 : decode cX2_init 57 = .ok (.putfield 42, 3) := by decide +kernel
theorem dX2_init_60 : decode cX2_init 60 = .ok (.return_, 1) := by decide +kernel
theorem dX2_comeOf_0 : decode cX2_comeOf 0 = .ok (.aload_n 0, 1) := by decide +kernel
theorem dX2_comeOf_1 : decode cX2_comeOf 1 = .ok (.iload_n 1, 1) := by decide +kernel
theorem dX2_comeOf_2 : decode cX2_comeOf 2 = .ok (.putfield 22, 3) := by decide +kernel
theorem dX2_comeOf_5 : decode cX2_comeOf 5 = .ok (.aload_n 0, 1) := by decide +kernel
theorem dX2_comeOf_6 : decode cX2_comeOf 6 = .ok (.iload_n 2, 1) := by decide +kernel
theorem dX2_comeOf_7 : decode cX2_comeOf 7 = .ok (.putfield 26, 3) := by decide +kernel
theorem dX2_comeOf_10 : decode cX2_comeOf 10 = .ok (.return_, 1) := by decide +kernel
theorem dX2_takeRows_0 : decode cX2_takeRows 0 = .ok (.iconst 0, 1) := by decide +kernel
theorem dX2_takeRows_1 : decode cX2_takeRows 1 = .ok (.istore_n 3, 1) := by decide +kernel
theorem dX2_takeRows_2 : decode cX2_takeRows 2 = .ok (.iload_n 3, 1) := by decide +kernel
theorem dX2_takeRows_3 : decode cX2_takeRows 3 = .ok (.iload_n 2, 1) := by decide +kernel
theorem dX2_takeRows_4 : decode cX2_takeRows 4 = .ok (.if_icmp .ge 36, 3) := by decide +kernel
theorem dX2_takeRows_7 : decode cX2_takeRows 7 = .ok (.iload_n 3, 1) := by decide +kernel
theorem dX2_takeRows_8 : decode cX2_takeRows 8 = .ok (.aload_n 0, 1) := by decide +kernel
theorem dX2_takeRows_9 : decode cX2_takeRows 9 = .ok (.getfield 18, 3) := by decide +kernel
theorem dX2_takeRows_12 : decode cX2_takeRows 12 = .ok (.arraylength, 1) := by decide +kernel
theorem dX2_takeRows_13 : decode cX2_takeRows 13 = .ok (.if_icmp .ge 27, 3) := by decide +kernel
theorem dX2_takeRows_16 : decode cX2_takeRows 16 = .ok (.aload_n 0, 1) := by decide +kernel
theorem dX2_takeRows_17 : decode cX2_takeRows 17 = .ok (.getfield 18, 3) := by decide +kernel
theorem dX2_takeRows_20 : decode cX2_takeRows 20 = .ok (.iload_n 3, 1) := by decide +kernel
theorem dX2_takeRows_21 : decode cX2_takeRows 21 = .ok (.aload_n 1, 1) := by decide +kernel
theorem dX2_takeRows_22 : decode cX2_takeRows 22 = .ok (.iload_n 3, 1) := by decide +kernel
theorem dX2_takeRows_23 : decode cX2_takeRows 23 = .ok (.invokevirtual 45, 3) := by decide +kernel
theorem dX2_takeRows_26 : decode cX2_takeRows 26 = .ok (.iastore, 1) := by decide +kernel
theorem dX2_takeRows_27 : decode cX2_takeRows 27 = .ok (.aload_n 0, 1) := by decide +kernel
theorem dX2_takeRows_28 : decode cX2_takeRows 28 = .ok (.iload_n 3, 1) := by decide +kernel
theorem dX2_takeRows_29 : decode cX2_takeRows 29 = .ok (.iconst 1, 1) := by decide +kernel
theorem dX2_takeRows_30 : decode cX2_takeRows 30 = .ok (.iadd, 1) := by decide +kernel
theorem dX2_takeRows_31 : decode cX2_takeRows 31 = .ok (.putfield 49, 3) := by decide +kernel
theorem dX2_takeRows_34 : decode cX2_takeRows 34 = .ok (.iinc 3 1, 3) := by decide +kernel
theorem dX2_takeRows_37 : decode cX2_takeRows 37 = .ok (.goto (-35), 3) := by decide +kernel
theorem dX2_takeRows_40 : decode cX2_takeRows 40 = .ok (.return_, 1) := by decide +kernel
theorem dX2_isFork_0 : decode cX2_isFork 0 = .ok (.aload_n 0, 1) := by decide +kernel
theorem dX2_isFork_1 : decode cX2_isFork 1 = .ok (.getfield 22, 3) := by decide +kernel
theorem dX2_isFork_4 : decode cX2_isFork 4 = .ok (.iconst (-1), 1) := by decide +kernel
theorem dX2_isFork_5 : decode cX2_isFork 5 = .ok (.if_icmp .eq 7, 3) := by decide +kernel
theorem dX2_isFork_8 : decode cX2_isFork 8 = .ok (.iconst 1, 1) := by decide +kernel
theorem dX2_isFork_9 : decode cX2_isFork 9 = .ok (.goto 4, 3) := by decide +kernel
theorem dX2_isFork_12 : decode cX2_isFork 12 = .ok (.iconst 0, 1) := by decide +kernel
theorem dX2_isFork_13 : decode cX2_isFork 13 = .ok (.ireturn, 1) := by decide +kernel
theorem dX2_rowAt_0 : decode cX2_rowAt 0 = .ok (.iload_n 1, 1) := by decide +kernel
theorem dX2_rowAt_1 : decode cX2_rowAt 1 = .ok (.ifCond .lt 29, 3) := by decide +kernel
theorem dX2_rowAt_4 : decode cX2_rowAt 4 = .ok (.iload_n 1, 1) := by decide +kernel
theorem dX2_rowAt_5 : decode cX2_rowAt 5 = .ok (.aload_n 0, 1) := by decide +kernel
theorem dX2_rowAt_6 : decode cX2_rowAt 6 = .ok (.getfield 49, 3) := by decide +kernel
theorem dX2_rowAt_9 : decode cX2_rowAt 9 = .ok (.if_icmp .ge 21, 3) := by decide +kernel
theorem dX2_rowAt_12 : decode cX2_rowAt 12 = .ok (.iload_n 1, 1) := by decide +kernel
theorem dX2_rowAt_13 : decode cX2_rowAt 13 = .ok (.aload_n 0, 1) := by decide +kernel
theorem dX2_rowAt_14 : decode cX2_rowAt 14 = .ok (.getfield 18, 3) := by decide +kernel
theorem dX2_rowAt_17 : decode cX2_rowAt 17 = .ok (.arraylength, 1) := by decide +kernel
theorem dX2_rowAt_18 : decode cX2_rowAt 18 = .ok (.if_icmp .ge 12, 3) := by decide +kernel
theorem dX2_rowAt_21 : decode cX2_rowAt 21 = .ok (.aload_n 0, 1) := by decide +kernel
theorem dX2_rowAt_22 : decode cX2_rowAt 22 = .ok (.getfield 18, 3) := by decide +kernel
theorem dX2_rowAt_25 : decode cX2_rowAt 25 = .ok (.iload_n 1, 1) := by decide +kernel
theorem dX2_rowAt_26 : decode cX2_rowAt 26 = .ok (.iaload, 1) := by decide +kernel
theorem dX2_rowAt_27 : decode cX2_rowAt 27 = .ok (.goto 4, 3) := by decide +kernel
theorem dX2_rowAt_30 : decode cX2_rowAt 30 = .ok (.iconst (-1), 1) := by decide +kernel
theorem dX2_rowAt_31 : decode cX2_rowAt 31 = .ok (.ireturn, 1) := by decide +kernel
theorem dX2_lastRow_0 : decode cX2_lastRow 0 = .ok (.aload_n 0, 1) := by decide +kernel
theorem dX2_lastRow_1 : decode cX2_lastRow 1 = .ok (.getfield 49, 3) := by decide +kernel
theorem dX2_lastRow_4 : decode cX2_lastRow 4 = .ok (.ifCond .ne 7, 3) := by decide +kernel
theorem dX2_lastRow_7 : decode cX2_lastRow 7 = .ok (.iconst 0, 1) := by decide +kernel
theorem dX2_lastRow_8 : decode cX2_lastRow 8 = .ok (.goto 13, 3) := by decide +kernel
theorem dX2_lastRow_11 : decode cX2_lastRow 11 = .ok (.aload_n 0, 1) := by decide +kernel
theorem dX2_lastRow_12 : decode cX2_lastRow 12 = .ok (.aload_n 0, 1) := by decide +kernel
theorem dX2_lastRow_13 : decode cX2_lastRow 13 = .ok (.getfield 49, 3) := by decide +kernel
theorem dX2_lastRow_16 : decode cX2_lastRow 16 = .ok (.iconst 1, 1) := by decide +kernel
theorem dX2_lastRow_17 : decode cX2_lastRow 17 = .ok (.isub, 1) := by decide +kernel
theorem dX2_lastRow_18 : decode cX2_lastRow 18 = .ok (.invokevirtual 45, 3) := by decide +kernel
theorem dX2_lastRow_21 : decode cX2_lastRow 21 = .ok (.ireturn, 1) := by decide +kernel
theorem dX2_doTicks_0 : decode cX2_doTicks 0 = .ok (.aload_n 0, 1) := by decide +kernel
theorem dX2_doTicks_1 : decode cX2_doTicks 1 = .ok (.invokevirtual 52, 3) := by decide +kernel
theorem dX2_doTicks_4 : decode cX2_doTicks 4 = .ok (.istore_n 2, 1) := by decide +kernel
theorem dX2_doTicks_5 : decode cX2_doTicks 5 = .ok (.aload_n 0, 1) := by decide +kernel
theorem dX2_doTicks_6 : decode cX2_doTicks 6 = .ok (.getfield 49, 3) := by decide +kernel
theorem dX2_doTicks_9 : decode cX2_doTicks 9 = .ok (.istore_n 3, 1) := by decide +kernel
theorem dX2_doTicks_10 : decode cX2_doTicks 10 = .ok (.iload_n 3, 1) := by decide +kernel
theorem dX2_doTicks_11 : decode cX2_doTicks 11 = .ok (.aload_n 0, 1) := by decide +kernel
theorem dX2_doTicks_12 : decode cX2_doTicks 12 = .ok (.getfield 42, 3) := by decide +kernel
theorem dX2_doTicks_15 : decode cX2_doTicks 15 = .ok (.if_icmp .ge 48, 3) := by decide +kernel
theorem dX2_doTicks_18 : decode cX2_doTicks 18 = .ok (.iload_n 3, 1) := by decide +kernel
theorem dX2_doTicks_19 : decode cX2_doTicks 19 = .ok (.aload_n 0, 1) := by decide +kernel
theorem dX2_doTicks_20 : decode cX2_doTicks 20 = .ok (.getfield 18, 3) := by decide +kernel
theorem dX2_doTicks_23 : decode cX2_doTicks 23 = .ok (.arraylength, 1) := by decide +kernel
theorem dX2_doTicks_24 : decode cX2_doTicks 24 = .ok (.if_icmp .ge 39, 3) := by decide +kernel
theorem dX2_doTicks_27 : decode cX2_doTicks 27 = .ok (.aload_n 0, 1) := by decide +kernel
theorem dX2_doTicks_28 : decode cX2_doTicks 28 = .ok (.iload_n 2, 1) := by decide +kernel
theorem dX2_doTicks_29 : decode cX2_doTicks 29 = .ok (.iload_n 3, 1) := by decide +kernel
theorem dX2_doTicks_30 : decode cX2_doTicks 30 = .ok (.aload_n 1, 1) := by decide +kernel
theorem dX2_doTicks_31 : decode cX2_doTicks 31 = .ok (.invokevirtual 56, 3) := by decide +kernel
theorem dX2_doTicks_34 : decode cX2_doTicks 34 = .ok (.istore_n 2, 1) := by decide +kernel
theorem dX2_doTicks_35 : decode cX2_doTicks 35 = .ok (.aload_n 0, 1) := by decide +kernel
theorem dX2_doTicks_36 : decode cX2_doTicks 36 = .ok (.getfield 60, 3) := by decide +kernel
theorem dX2_doTicks_39 : decode cX2_doTicks 39 = .ok (.ifCond .eq 4, 3) := by decide +kernel
theorem dX2_doTicks_42 : decode cX2_doTicks 42 = .ok (.return_, 1) := by decide +kernel
theorem dX2_doTicks_43 : decode cX2_doTicks 43 = .ok (.aload_n 0, 1) := by decide +kernel
theorem dX2_doTicks_44 : decode cX2_doTicks 44 = .ok (.getfield 18, 3) := by decide +kernel
theorem dX2_doTicks_47 : decode cX2_doTicks 47 = .ok (.iload_n 3, 1) := by decide +kernel
theorem dX2_doTicks_48 : decode cX2_doTicks 48 = .ok (.iload_n 2, 1) := by decide +kernel
theorem dX2_doTicks_49 : decode cX2_doTicks 49 = .ok (.iastore, 1) := by decide +kernel
theorem dX2_doTicks_50 : decode cX2_doTicks 50 = .ok (.aload_n 0, 1) := by decide +kernel
theorem dX2_doTicks_51 : decode cX2_doTicks 51 = .ok (.iload_n 3, 1) := by decide +kernel
theorem dX2_doTicks_52 : decode cX2_doTicks 52 = .ok (.iconst 1, 1) := by decide +kernel
theorem dX2_doTicks_53 : decode cX2_doTicks 53 = .ok (.iadd, 1) := by decide +kernel
theorem dX2_doTicks_54 : decode cX2_doTicks 54 = .ok (.putfield 49, 3) := by decide +kernel
theorem dX2_doTicks_57 : decode cX2_doTicks 57 = .ok (.iinc 3 1, 3) := by decide +kernel
theorem dX2_doTicks_60 : decode cX2_doTicks 60 = .ok (.goto (-50), 3) := by decide +kernel
theorem dX2_doTicks_63 : decode cX2_doTicks 63 = .ok (.return_, 1) := by decide +kernel
theorem dX2_afterTick_0 : decode cX2_afterTick 0 = .ok (.iload_n 1, 1) := by decide +kernel
theorem dX2_afterTick_1 : decode cX2_afterTick 1 = .ok (.istore 4, 2) := by decide +kernel
theorem dX2_afterTick_3 : decode cX2_afterTick 3 = .ok (.iconst 0, 1) := by decide +kernel
theorem dX2_afterTick_4 : decode cX2_afterTick 4 = .ok (.istore 5, 2) := by decide +kernel
theorem dX2_afterTick_6 : decode cX2_afterTick 6 = .ok (.iload 5, 2) := by decide +kernel
theorem dX2_afterTick_8 : decode cX2_afterTick 8 = .ok (.aload_n 0, 1) := by decide +kernel
theorem dX2_afterTick_9 : decode cX2_afterTick 9 = .ok (.getfield 32, 3) := by decide +kernel
theorem dX2_afterTick_12 : decode cX2_afterTick 12 = .ok (.getfield 64, 3) := by decide +kernel
theorem dX2_afterTick_15 : decode cX2_afterTick 15 = .ok (.if_icmp .ge 110, 3) := by decide +kernel
theorem dX2_afterTick_18 : decode cX2_afterTick 18 = .ok (.aload_n 0, 1) := by decide +kernel
theorem dX2_afterTick_19 : decode cX2_afterTick 19 = .ok (.getfield 60, 3) := by decide +kernel
theorem dX2_afterTick_22 : decode cX2_afterTick 22 = .ok (.ifCond .ne 103, 3) := by decide +kernel
theorem dX2_afterTick_25 : decode cX2_afterTick 25 = .ok (.aload_n 0, 1) := by decide +kernel
theorem dX2_afterTick_26 : decode cX2_afterTick 26 = .ok (.getfield 32, 3) := by decide +kernel
theorem dX2_afterTick_29 : decode cX2_afterTick 29 = .ok (.iload 5, 2) := by decide +kernel
theorem dX2_afterTick_31 : decode cX2_afterTick 31 = .ok (.invokevirtual 69, 3) := by decide +kernel
theorem dX2_afterTick_34 : decode cX2_afterTick 34 = .ok (.istore 6, 2) := by decide +kernel
theorem dX2_afterTick_36 : decode cX2_afterTick 36 = .ok (.iload 6, 2) := by decide +kernel
theorem dX2_afterTick_38 : decode cX2_afterTick 38 = .ok (.iconst 4, 1) := by decide +kernel
theorem dX2_afterTick_39 : decode cX2_afterTick 39 = .ok (.ishr, 1) := by decide +kernel
theorem dX2_afterTick_40 : decode cX2_afterTick 40 = .ok (.istore 7, 2) := by decide +kernel
theorem dX2_afterTick_42 : decode cX2_afterTick 42 = .ok (.iload 6, 2) := by decide +kernel
theorem dX2_afterTick_44 : decode cX2_afterTick 44 = .ok (.bipush 15, 2) := by decide +kernel
theorem dX2_afterTick_46 : decode cX2_afterTick 46 = .ok (.iand, 1) := by decide +kernel
theorem dX2_afterTick_47 : decode cX2_afterTick 47 = .ok (.istore 8, 2) := by decide +kernel
theorem dX2_afterTick_49 : decode cX2_afterTick 49 = .ok (.iload 7, 2) := by decide +kernel
theorem dX2_afterTick_51 : decode cX2_afterTick 51 = .ok (.iconst 3, 1) := by decide +kernel
theorem dX2_afterTick_52 : decode cX2_afterTick 52 = .ok (.if_icmp .ne 22, 3) := by decide +kernel
theorem dX2_afterTick_55 : decode cX2_afterTick 55 = .ok (.aload_n 0, 1) := by decide +kernel
theorem dX2_afterTick_56 : decode cX2_afterTick 56 = .ok (.iload 8, 2) := by decide +kernel
theorem dX2_afterTick_58 : decode cX2_afterTick 58 = .ok (.invokevirtual 72, 3) := by decide +kernel
theorem dX2_afterTick_61 : decode cX2_afterTick 61 = .ok (.iload 8, 2) := by decide +kernel
theorem dX2_afterTick_63 : decode cX2_afterTick 63 = .ok (.iconst 4, 1) := by decide +kernel
theorem dX2_afterTick_64 : decode cX2_afterTick 64 = .ok (.idiv, 1) := by decide +kernel
theorem dX2_afterTick_65 : decode cX2_afterTick 65 = .ok (.if_icmp .le 54, 3) := by decide +kernel
theorem dX2_afterTick_68 : decode cX2_afterTick 68 = .ok (.iinc 5 1, 3) := by decide +kernel
theorem dX2_afterTick_71 : decode cX2_afterTick 71 = .ok (.goto 48, 3) := by decide +kernel
theorem dX2_afterTick_74 : decode cX2_afterTick 74 = .ok (.iload 7, 2) := by decide +kernel
theorem dX2_afterTick_76 : decode cX2_afterTick 76 = .ok (.bipush 9, 2) := by decide +kernel
theorem dX2_afterTick_78 : decode cX2_afterTick 78 = .ok (.if_icmp .ne 27, 3) := by decide +kernel
theorem dX2_afterTick_81 : decode cX2_afterTick 81 = .ok (.aload_n 0, 1) := by decide +kernel
theorem dX2_afterTick_82 : decode cX2_afterTick 82 = .ok (.iload 4, 2) := by decide +kernel
theorem dX2_afterTick_84 : decode cX2_afterTick 84 = .ok (.iload 8, 2) := by decide +kernel
theorem dX2_afterTick_86 : decode cX2_afterTick 86 = .ok (.iconst 1, 1) := by decide +kernel
theorem dX2_afterTick_87 : decode cX2_afterTick 87 = .ok (.iadd, 1) := by decide +kernel
theorem dX2_afterTick_88 : decode cX2_afterTick 88 = .ok (.invokestatic 75, 3) := by decide +kernel
theorem dX2_afterTick_91 : decode cX2_afterTick 91 = .ok (.ifCond .ne 7, 3) := by decide +kernel
theorem dX2_afterTick_94 : decode cX2_afterTick 94 = .ok (.iconst 1, 1) := by decide +kernel
theorem dX2_afterTick_95 : decode cX2_afterTick 95 = .ok (.goto 4, 3) := by decide +kernel
theorem dX2_afterTick_98 : decode cX2_afterTick 98 = .ok (.iconst 0, 1) := by decide +kernel
theorem dX2_afterTick_99 : decode cX2_afterTick 99 = .ok (.putfield 60, 3) := by decide +kernel
theorem dX2_afterTick_102 : decode cX2_afterTick 102 = .ok (.goto 17, 3) := by decide +kernel
theorem dX2_afterTick_105 : decode cX2_afterTick 105 = .ok (.aload_n 0, 1) := by decide +kernel
theorem dX2_afterTick_106 : decode cX2_afterTick 106 = .ok (.iload 4, 2) := by decide +kernel
theorem dX2_afterTick_108 : decode cX2_afterTick 108 = .ok (.iload 7, 2) := by decide +kernel
theorem dX2_afterTick_110 : decode cX2_afterTick 110 = .ok (.iload 8, 2) := by decide +kernel
theorem dX2_afterTick_112 : decode cX2_afterTick 112 = .ok (.iload_n 2, 1) := by decide +kernel
theorem dX2_afterTick_113 : decode cX2_afterTick 113 = .ok (.aload_n 3, 1) := by decide +kernel
theorem dX2_afterTick_114 : decode cX2_afterTick 114 = .ok (.invokevirtual 79, 3) := by decide +kernel
theorem dX2_afterTick_117 : decode cX2_afterTick 117 = .ok (.istore 4, 2) := by decide +kernel
theorem dX2_afterTick_119 : decode cX2_afterTick 119 = .ok (.iinc 5 1, 3) := by decide +kernel
theorem dX2_afterTick_122 : decode cX2_afterTick 122 = .ok (.goto (-116), 3) := by decide +kernel
theorem dX2_afterTick_125 : decode cX2_afterTick 125 = .ok (.iload 4, 2) := by decide +kernel
theorem dX2_afterTick_127 : decode cX2_afterTick 127 = .ok (.ireturn, 1) := by decide +kernel
theorem dX2_afterStep_0 : decode cX2_afterStep 0 = .ok (.iload_n 2, 1) := by decide +kernel
theorem dX2_afterStep_1 : decode cX2_afterStep 1 = .ok (.tableswitch 122 0 8 #[51, 55, 59, 122, 67, 78, 94, 103, 114], 51) := by decide +kernel
theorem dX2_afterStep_52 : decode cX2_afterStep 52 = .ok (.iload_n 1, 1) := by decide +kernel
theorem dX2_afterStep_53 : decode cX2_afterStep 53 = .ok (.iload_n 3, 1) := by decide +kernel
theorem dX2_afterStep_54 : decode cX2_afterStep 54 = .ok (.iadd, 1) := by decide +kernel
theorem dX2_afterStep_55 : decode cX2_afterStep 55 = .ok (.ireturn, 1) := by decide +kernel
theorem dX2_afterStep_56 : decode cX2_afterStep 56 = .ok (.iload_n 1, 1) := by decide +kernel
theorem dX2_afterStep_57 : decode cX2_afterStep 57 = .ok (.iload_n 3, 1) := by decide +kernel
theorem dX2_afterStep_58 : decode cX2_afterStep 58 = .ok (.imul, 1) := by decide +kernel
theorem dX2_afterStep_59 : decode cX2_afterStep 59 = .ok (.ireturn, 1) := by decide +kernel
theorem dX2_afterStep_60 : decode cX2_afterStep 60 = .ok (.iload_n 1, 1) := by decide +kernel
theorem dX2_afterStep_61 : decode cX2_afterStep 61 = .ok (.aload_n 0, 1) := by decide +kernel
theorem dX2_afterStep_62 : decode cX2_afterStep 62 = .ok (.iload_n 3, 1) := by decide +kernel
theorem dX2_afterStep_63 : decode cX2_afterStep 63 = .ok (.invokevirtual 72, 3) := by decide +kernel
theorem dX2_afterStep_66 : decode cX2_afterStep 66 = .ok (.iadd, 1) := by decide +kernel
theorem dX2_afterStep_67 : decode cX2_afterStep 67 = .ok (.ireturn, 1) := by decide +kernel
theorem dX2_afterStep_68 : decode cX2_afterStep 68 = .ok (.iload_n 1, 1) := by decide +kernel
theorem dX2_afterStep_69 : decode cX2_afterStep 69 = .ok (.aload_n 0, 1) := by decide +kernel
theorem dX2_afterStep_70 : decode cX2_afterStep 70 = .ok (.invokevirtual 83, 3) := by decide +kernel
theorem dX2_afterStep_73 : decode cX2_afterStep 73 = .ok (.iload_n 3, 1) := by decide +kernel
theorem dX2_afterStep_74 : decode cX2_afterStep 74 = .ok (.iconst 1, 1) := by decide +kernel
theorem dX2_afterStep_75 : decode cX2_afterStep 75 = .ok (.iadd, 1) := by decide +kernel
theorem dX2_afterStep_76 : decode cX2_afterStep 76 = .ok (.imul, 1) := by decide +kernel
theorem dX2_afterStep_77 : decode cX2_afterStep 77 = .ok (.ixor, 1) := by decide +kernel
theorem dX2_afterStep_78 : decode cX2_afterStep 78 = .ok (.ireturn, 1) := by decide +kernel
theorem dX2_afterStep_79 : decode cX2_afterStep 79 = .ok (.iload_n 1, 1) := by decide +kernel
theorem dX2_afterStep_80 : decode cX2_afterStep 80 = .ok (.aload_n 0, 1) := by decide +kernel
theorem dX2_afterStep_81 : decode cX2_afterStep 81 = .ok (.iload 4, 2) := by decide +kernel
theorem dX2_afterStep_83 : decode cX2_afterStep 83 = .ok (.iload_n 3, 1) := by decide +kernel
theorem dX2_afterStep_84 : decode cX2_afterStep 84 = .ok (.iadd, 1) := by decide +kernel
theorem dX2_afterStep_85 : decode cX2_afterStep 85 = .ok (.bipush 8, 2) := by decide +kernel
theorem dX2_afterStep_87 : decode cX2_afterStep 87 = .ok (.irem, 1) := by decide +kernel
theorem dX2_afterStep_88 : decode cX2_afterStep 88 = .ok (.aload 5, 2) := by decide +kernel
theorem dX2_afterStep_90 : decode cX2_afterStep 90 = .ok (.invokevirtual 86, 3) := by decide +kernel
theorem dX2_afterStep_93 : decode cX2_afterStep 93 = .ok (.iadd, 1) := by decide +kernel
theorem dX2_afterStep_94 : decode cX2_afterStep 94 = .ok (.ireturn, 1) := by decide +kernel
theorem dX2_afterStep_95 : decode cX2_afterStep 95 = .ok (.iload_n 1, 1) := by decide +kernel
theorem dX2_afterStep_96 : decode cX2_afterStep 96 = .ok (.aload_n 0, 1) := by decide +kernel
theorem dX2_afterStep_97 : decode cX2_afterStep 97 = .ok (.aload 5, 2) := by decide +kernel
theorem dX2_afterStep_99 : decode cX2_afterStep 99 = .ok (.invokevirtual 90, 3) := by decide +kernel
theorem dX2_afterStep_102 : decode cX2_afterStep 102 = .ok (.iadd, 1) := by decide +kernel
theorem dX2_afterStep_103 : decode cX2_afterStep 103 = .ok (.ireturn, 1) := by decide +kernel
theorem dX2_afterStep_104 : decode cX2_afterStep 104 = .ok (.iload_n 1, 1) := by decide +kernel
theorem dX2_afterStep_105 : decode cX2_afterStep 105 = .ok (.iload_n 3, 1) := by decide +kernel
theorem dX2_afterStep_106 : decode cX2_afterStep 106 = .ok (.ishl, 1) := by decide +kernel
theorem dX2_afterStep_107 : decode cX2_afterStep 107 = .ok (.iload_n 1, 1) := by decide +kernel
theorem dX2_afterStep_108 : decode cX2_afterStep 108 = .ok (.bipush 32, 2) := by decide +kernel
theorem dX2_afterStep_110 : decode cX2_afterStep 110 = .ok (.iload_n 3, 1) := by decide +kernel
theorem dX2_afterStep_111 : decode cX2_afterStep 111 = .ok (.isub, 1) := by decide +kernel
theorem dX2_afterStep_112 : decode cX2_afterStep 112 = .ok (.iushr, 1) := by decide +kernel
theorem dX2_afterStep_113 : decode cX2_afterStep 113 = .ok (.ior, 1) := by decide +kernel
theorem dX2_afterStep_114 : decode cX2_afterStep 114 = .ok (.ireturn, 1) := by decide +kernel
theorem dX2_afterStep_115 : decode cX2_afterStep 115 = .ok (.iload_n 1, 1) := by decide +kernel
theorem dX2_afterStep_116 : decode cX2_afterStep 116 = .ok (.iload_n 3, 1) := by decide +kernel
theorem dX2_afterStep_117 : decode cX2_afterStep 117 = .ok (.iconst 2, 1) := by decide +kernel
theorem dX2_afterStep_118 : decode cX2_afterStep 118 = .ok (.iadd, 1) := by decide +kernel
theorem dX2_afterStep_119 : decode cX2_afterStep 119 = .ok (.invokestatic 75, 3) := by decide +kernel
theorem dX2_afterStep_122 : decode cX2_afterStep 122 = .ok (.ireturn, 1) := by decide +kernel
theorem dX2_afterStep_123 : decode cX2_afterStep 123 = .ok (.iload_n 1, 1) := by decide +kernel
theorem dX2_afterStep_124 : decode cX2_afterStep 124 = .ok (.ireturn, 1) := by decide +kernel
theorem dX2_readSetting_0 : decode cX2_readSetting 0 = .ok (.iload_n 1, 1) := by decide +kernel
theorem dX2_readSetting_1 : decode cX2_readSetting 1 = .ok (.iconst 4, 1) := by decide +kernel
theorem dX2_readSetting_2 : decode cX2_readSetting 2 = .ok (.irem, 1) := by decide +kernel
theorem dX2_readSetting_3 : decode cX2_readSetting 3 = .ok (.istore_n 2, 1) := by decide +kernel
theorem dX2_readSetting_4 : decode cX2_readSetting 4 = .ok (.aload_n 0, 1) := by decide +kernel
theorem dX2_readSetting_5 : decode cX2_readSetting 5 = .ok (.getfield 12, 3) := by decide +kernel
theorem dX2_readSetting_8 : decode cX2_readSetting 8 = .ok (.dup, 1) := by decide +kernel
theorem dX2_readSetting_9 : decode cX2_readSetting 9 = .ok (.getfield 94, 3) := by decide +kernel
theorem dX2_readSetting_12 : decode cX2_readSetting 12 = .ok (.iconst 1, 1) := by decide +kernel
theorem dX2_readSetting_13 : decode cX2_readSetting 13 = .ok (.iload_n 2, 1) := by decide +kernel
theorem dX2_readSetting_14 : decode cX2_readSetting 14 = .ok (.ishl, 1) := by decide +kernel
theorem dX2_readSetting_15 : decode cX2_readSetting 15 = .ok (.ior, 1) := by decide +kernel
theorem dX2_readSetting_16 : decode cX2_readSetting 16 = .ok (.putfield 94, 3) := by decide +kernel
theorem dX2_readSetting_19 : decode cX2_readSetting 19 = .ok (.aload_n 0, 1) := by decide +kernel
theorem dX2_readSetting_20 : decode cX2_readSetting 20 = .ok (.getfield 36, 3) := by decide +kernel
theorem dX2_readSetting_23 : decode cX2_readSetting 23 = .ok (.iload_n 2, 1) := by decide +kernel
theorem dX2_readSetting_24 : decode cX2_readSetting 24 = .ok (.invokestatic 95, 3) := by decide +kernel
theorem dX2_readSetting_27 : decode cX2_readSetting 27 = .ok (.ireturn, 1) := by decide +kernel
theorem dX2_readSeed_0 : decode cX2_readSeed 0 = .ok (.aload_n 0, 1) := by decide +kernel
theorem dX2_readSeed_1 : decode cX2_readSeed 1 = .ok (.getfield 12, 3) := by decide +kernel
theorem dX2_readSeed_4 : decode cX2_readSeed 4 = .ok (.iconst 1, 1) := by decide +kernel
theorem dX2_readSeed_5 : decode cX2_readSeed 5 = .ok (.putfield 98, 3) := by decide +kernel
theorem dX2_readSeed_8 : decode cX2_readSeed 8 = .ok (.aload_n 0, 1) := by decide +kernel
theorem dX2_readSeed_9 : decode cX2_readSeed 9 = .ok (.getfield 39, 3) := by decide +kernel
theorem dX2_readSeed_12 : decode cX2_readSeed 12 = .ok (.ireturn, 1) := by decide +kernel
theorem dX2_readWord_0 : decode cX2_readWord 0 = .ok (.aload_n 2, 1) := by decide +kernel
theorem dX2_readWord_1 : decode cX2_readWord 1 = .ok (.iload_n 1, 1) := by decide +kernel
theorem dX2_readWord_2 : decode cX2_readWord 2 = .ok (.invokevirtual 100, 3) := by decide +kernel
theorem dX2_readWord_5 : decode cX2_readWord 5 = .ok (.istore_n 3, 1) := by decide +kernel
theorem dX2_readWord_6 : decode cX2_readWord 6 = .ok (.aload_n 0, 1) := by decide +kernel
theorem dX2_readWord_7 : decode cX2_readWord 7 = .ok (.getfield 12, 3) := by decide +kernel
theorem dX2_readWord_10 : decode cX2_readWord 10 = .ok (.iload_n 1, 1) := by decide +kernel
theorem dX2_readWord_11 : decode cX2_readWord 11 = .ok (.iload_n 3, 1) := by decide +kernel
theorem dX2_readWord_12 : decode cX2_readWord 12 = .ok (.invokevirtual 105, 3) := by decide +kernel
theorem dX2_readWord_15 : decode cX2_readWord 15 = .ok (.iload_n 3, 1) := by decide +kernel
theorem dX2_readWord_16 : decode cX2_readWord 16 = .ok (.ireturn, 1) := by decide +kernel
theorem dX2_readClock_0 : decode cX2_readClock 0 = .ok (.aload_n 0, 1) := by decide +kernel
theorem dX2_readClock_1 : decode cX2_readClock 1 = .ok (.getfield 12, 3) := by decide +kernel
theorem dX2_readClock_4 : decode cX2_readClock 4 = .ok (.iconst 1, 1) := by decide +kernel
theorem dX2_readClock_5 : decode cX2_readClock 5 = .ok (.putfield 109, 3) := by decide +kernel
theorem dX2_readClock_8 : decode cX2_readClock 8 = .ok (.aload_n 1, 1) := by decide +kernel
theorem dX2_readClock_9 : decode cX2_readClock 9 = .ok (.getfield 112, 3) := by decide +kernel
theorem dX2_readClock_12 : decode cX2_readClock 12 = .ok (.ireturn, 1) := by decide +kernel
theorem dX2_firstOtherTick_0 : decode cX2_firstOtherTick 0 = .ok (.aload_n 0, 1) := by decide +kernel
theorem dX2_firstOtherTick_1 : decode cX2_firstOtherTick 1 = .ok (.getfield 49, 3) := by decide +kernel
theorem dX2_firstOtherTick_4 : decode cX2_firstOtherTick 4 = .ok (.aload_n 1, 1) := by decide +kernel
theorem dX2_firstOtherTick_5 : decode cX2_firstOtherTick 5 = .ok (.getfield 49, 3) := by decide +kernel
theorem dX2_firstOtherTick_8 : decode cX2_firstOtherTick 8 = .ok (.invokestatic 114, 3) := by decide +kernel
theorem dX2_firstOtherTick_11 : decode cX2_firstOtherTick 11 = .ok (.istore_n 2, 1) := by decide +kernel
theorem dX2_firstOtherTick_12 : decode cX2_firstOtherTick 12 = .ok (.iconst 0, 1) := by decide +kernel
theorem dX2_firstOtherTick_13 : decode cX2_firstOtherTick 13 = .ok (.istore_n 3, 1) := by decide +kernel
theorem dX2_firstOtherTick_14 : decode cX2_firstOtherTick 14 = .ok (.iload_n 3, 1) := by decide +kernel
theorem dX2_firstOtherTick_15 : decode cX2_firstOtherTick 15 = .ok (.iload_n 2, 1) := by decide +kernel
theorem dX2_firstOtherTick_16 : decode cX2_firstOtherTick 16 = .ok (.if_icmp .ge 24, 3) := by decide +kernel
theorem dX2_firstOtherTick_19 : decode cX2_firstOtherTick 19 = .ok (.aload_n 0, 1) := by decide +kernel
theorem dX2_firstOtherTick_20 : decode cX2_firstOtherTick 20 = .ok (.iload_n 3, 1) := by decide +kernel
theorem dX2_firstOtherTick_21 : decode cX2_firstOtherTick 21 = .ok (.invokevirtual 45, 3) := by decide +kernel
theorem dX2_firstOtherTick_24 : decode cX2_firstOtherTick 24 = .ok (.aload_n 1, 1) := by decide +kernel
theorem dX2_firstOtherTick_25 : decode cX2_firstOtherTick 25 = .ok (.iload_n 3, 1) := by decide +kernel
theorem dX2_firstOtherTick_26 : decode cX2_firstOtherTick 26 = .ok (.invokevirtual 45, 3) := by decide +kernel
theorem dX2_firstOtherTick_29 : decode cX2_firstOtherTick 29 = .ok (.if_icmp .eq 5, 3) := by decide +kernel
theorem dX2_firstOtherTick_32 : decode cX2_firstOtherTick 32 = .ok (.iload_n 3, 1) := by decide +kernel
theorem dX2_firstOtherTick_33 : decode cX2_firstOtherTick 33 = .ok (.ireturn, 1) := by decide +kernel
theorem dX2_firstOtherTick_34 : decode cX2_firstOtherTick 34 = .ok (.iinc 3 1, 3) := by decide +kernel
theorem dX2_firstOtherTick_37 : decode cX2_firstOtherTick 37 = .ok (.goto (-23), 3) := by decide +kernel
theorem dX2_firstOtherTick_40 : decode cX2_firstOtherTick 40 = .ok (.aload_n 0, 1) := by decide +kernel
theorem dX2_firstOtherTick_41 : decode cX2_firstOtherTick 41 = .ok (.getfield 49, 3) := by decide +kernel
theorem dX2_firstOtherTick_44 : decode cX2_firstOtherTick 44 = .ok (.aload_n 1, 1) := by decide +kernel
theorem dX2_firstOtherTick_45 : decode cX2_firstOtherTick 45 = .ok (.getfield 49, 3) := by decide +kernel
theorem dX2_firstOtherTick_48 : decode cX2_firstOtherTick 48 = .ok (.if_icmp .ne 10, 3) := by decide +kernel
theorem dX2_firstOtherTick_51 : decode cX2_firstOtherTick 51 = .ok (.aload_n 0, 1) := by decide +kernel
theorem dX2_firstOtherTick_52 : decode cX2_firstOtherTick 52 = .ok (.getfield 42, 3) := by decide +kernel
theorem dX2_firstOtherTick_55 : decode cX2_firstOtherTick 55 = .ok (.goto 4, 3) := by decide +kernel
theorem dX2_firstOtherTick_58 : decode cX2_firstOtherTick 58 = .ok (.iload_n 2, 1) := by decide +kernel
theorem dX2_firstOtherTick_59 : decode cX2_firstOtherTick 59 = .ok (.ireturn, 1) := by decide +kernel
theorem dX2_isComparable_0 : decode cX2_isComparable 0 = .ok (.aload_n 0, 1) := by decide +kernel
theorem dX2_isComparable_1 : decode cX2_isComparable 1 = .ok (.invokevirtual 119, 3) := by decide +kernel
theorem dX2_isComparable_4 : decode cX2_isComparable 4 = .ok (.ifCond .ne 24, 3) := by decide +kernel
theorem dX2_isComparable_7 : decode cX2_isComparable 7 = .ok (.aload_n 0, 1) := by decide +kernel
theorem dX2_isComparable_8 : decode cX2_isComparable 8 = .ok (.getfield 60, 3) := by decide +kernel
theorem dX2_isComparable_11 : decode cX2_isComparable 11 = .ok (.ifCond .ne 17, 3) := by decide +kernel
theorem dX2_isComparable_14 : decode cX2_isComparable 14 = .ok (.aload_n 0, 1) := by decide +kernel
theorem dX2_isComparable_15 : decode cX2_isComparable 15 = .ok (.getfield 12, 3) := by decide +kernel
theorem dX2_isComparable_18 : decode cX2_isComparable 18 = .ok (.getfield 109, 3) := by decide +kernel
theorem dX2_isComparable_21 : decode cX2_isComparable 21 = .ok (.ifCond .ne 7, 3) := by decide +kernel
theorem dX2_isComparable_24 : decode cX2_isComparable 24 = .ok (.iconst 1, 1) := by decide +kernel
theorem dX2_isComparable_25 : decode cX2_isComparable 25 = .ok (.goto 4, 3) := by decide +kernel
theorem dX2_isComparable_28 : decode cX2_isComparable 28 = .ok (.iconst 0, 1) := by decide +kernel
theorem dX2_isComparable_29 : decode cX2_isComparable 29 = .ok (.ireturn, 1) := by decide +kernel
theorem dX2_isLike_0 : decode cX2_isLike 0 = .ok (.aload_n 0, 1) := by decide +kernel
theorem dX2_isLike_1 : decode cX2_isLike 1 = .ok (.getfield 32, 3) := by decide +kernel
theorem dX2_isLike_4 : decode cX2_isLike 4 = .ok (.aload_n 1, 1) := by decide +kernel
theorem dX2_isLike_5 : decode cX2_isLike 5 = .ok (.getfield 32, 3) := by decide +kernel
theorem dX2_isLike_8 : decode cX2_isLike 8 = .ok (.invokevirtual 123, 3) := by decide +kernel
theorem dX2_isLike_11 : decode cX2_isLike 11 = .ok (.ifCond .eq 71, 3) := by decide +kernel
theorem dX2_isLike_14 : decode cX2_isLike 14 = .ok (.aload_n 0, 1) := by decide +kernel
theorem dX2_isLike_15 : decode cX2_isLike 15 = .ok (.getfield 36, 3) := by decide +kernel
theorem dX2_isLike_18 : decode cX2_isLike 18 = .ok (.aload_n 1, 1) := by decide +kernel
theorem dX2_isLike_19 : decode cX2_isLike 19 = .ok (.getfield 36, 3) := by decide +kernel
theorem dX2_isLike_22 : decode cX2_isLike 22 = .ok (.if_icmp .ne 60, 3) := by decide +kernel
theorem dX2_isLike_25 : decode cX2_isLike 25 = .ok (.aload_n 0, 1) := by decide +kernel
theorem dX2_isLike_26 : decode cX2_isLike 26 = .ok (.getfield 39, 3) := by decide +kernel
theorem dX2_isLike_29 : decode cX2_isLike 29 = .ok (.aload_n 1, 1) := by decide +kernel
theorem dX2_isLike_30 : decode cX2_isLike 30 = .ok (.getfield 39, 3) := by decide +kernel
theorem dX2_isLike_33 : decode cX2_isLike 33 = .ok (.if_icmp .ne 49, 3) := by decide +kernel
theorem dX2_isLike_36 : decode cX2_isLike 36 = .ok (.aload_n 0, 1) := by decide +kernel
theorem dX2_isLike_37 : decode cX2_isLike 37 = .ok (.getfield 42, 3) := by decide +kernel
theorem dX2_isLike_40 : decode cX2_isLike 40 = .ok (.aload_n 1, 1) := by decide +kernel
theorem dX2_isLike_41 : decode cX2_isLike 41 = .ok (.getfield 42, 3) := by decide +kernel
theorem dX2_isLike_44 : decode cX2_isLike 44 = .ok (.if_icmp .ne 38, 3) := by decide +kernel
theorem dX2_isLike_47 : decode cX2_isLike 47 = .ok (.aload_n 0, 1) := by decide +kernel
theorem dX2_isLike_48 : decode cX2_isLike 48 = .ok (.getfield 12, 3) := by decide +kernel
theorem dX2_isLike_51 : decode cX2_isLike 51 = .ok (.getfield 127, 3) := by decide +kernel
theorem dX2_isLike_54 : decode cX2_isLike 54 = .ok (.aload_n 1, 1) := by decide +kernel
theorem dX2_isLike_55 : decode cX2_isLike 55 = .ok (.getfield 12, 3) := by decide +kernel
theorem dX2_isLike_58 : decode cX2_isLike 58 = .ok (.getfield 127, 3) := by decide +kernel
theorem dX2_isLike_61 : decode cX2_isLike 61 = .ok (.if_icmp .ne 21, 3) := by decide +kernel
theorem dX2_isLike_64 : decode cX2_isLike 64 = .ok (.aload_n 0, 1) := by decide +kernel
theorem dX2_isLike_65 : decode cX2_isLike 65 = .ok (.getfield 12, 3) := by decide +kernel
theorem dX2_isLike_68 : decode cX2_isLike 68 = .ok (.aload_n 1, 1) := by decide +kernel
theorem dX2_isLike_69 : decode cX2_isLike 69 = .ok (.getfield 12, 3) := by decide +kernel
theorem dX2_isLike_72 : decode cX2_isLike 72 = .ok (.invokevirtual 130, 3) := by decide +kernel
theorem dX2_isLike_75 : decode cX2_isLike 75 = .ok (.ifCond .eq 7, 3) := by decide +kernel
theorem dX2_isLike_78 : decode cX2_isLike 78 = .ok (.iconst 1, 1) := by decide +kernel
theorem dX2_isLike_79 : decode cX2_isLike 79 = .ok (.goto 4, 3) := by decide +kernel
theorem dX2_isLike_82 : decode cX2_isLike 82 = .ok (.iconst 0, 1) := by decide +kernel
theorem dX2_isLike_83 : decode cX2_isLike 83 = .ok (.ireturn, 1) := by decide +kernel
theorem dX2_pairsWith_0 : decode cX2_pairsWith 0 = .ok (.bipush 15, 2) := by decide +kernel
theorem dX2_pairsWith_2 : decode cX2_pairsWith 2 = .ok (.iconst 4, 1) := by decide +kernel
theorem dX2_pairsWith_3 : decode cX2_pairsWith 3 = .ok (.iload_n 2, 1) := by decide +kernel
theorem dX2_pairsWith_4 : decode cX2_pairsWith 4 = .ok (.imul, 1) := by decide +kernel
theorem dX2_pairsWith_5 : decode cX2_pairsWith 5 = .ok (.ishl, 1) := by decide +kernel
theorem dX2_pairsWith_6 : decode cX2_pairsWith 6 = .ok (.iconst (-1), 1) := by decide +kernel
theorem dX2_pairsWith_7 : decode cX2_pairsWith 7 = .ok (.ixor, 1) := by decide +kernel
theorem dX2_pairsWith_8 : decode cX2_pairsWith 8 = .ok (.istore_n 3, 1) := by decide +kernel
theorem dX2_pairsWith_9 : decode cX2_pairsWith 9 = .ok (.aload_n 0, 1) := by decide +kernel
theorem dX2_pairsWith_10 : decode cX2_pairsWith 10 = .ok (.getfield 32, 3) := by decide +kernel
theorem dX2_pairsWith_13 : decode cX2_pairsWith 13 = .ok (.aload_n 1, 1) := by decide +kernel
theorem dX2_pairsWith_14 : decode cX2_pairsWith 14 = .ok (.getfield 32, 3) := by decide +kernel
theorem dX2_pairsWith_17 : decode cX2_pairsWith 17 = .ok (.invokevirtual 123, 3) := by decide +kernel
theorem dX2_pairsWith_20 : decode cX2_pairsWith 20 = .ok (.ifCond .eq 47, 3) := by decide +kernel
theorem dX2_pairsWith_23 : decode cX2_pairsWith 23 = .ok (.aload_n 0, 1) := by decide +kernel
theorem dX2_pairsWith_24 : decode cX2_pairsWith 24 = .ok (.getfield 39, 3) := by decide +kernel
theorem dX2_pairsWith_27 : decode cX2_pairsWith 27 = .ok (.aload_n 1, 1) := by decide +kernel
theorem dX2_pairsWith_28 : decode cX2_pairsWith 28 = .ok (.getfield 39, 3) := by decide +kernel
theorem dX2_pairsWith_31 : decode cX2_pairsWith 31 = .ok (.if_icmp .ne 36, 3) := by decide +kernel
theorem dX2_pairsWith_34 : decode cX2_pairsWith 34 = .ok (.aload_n 0, 1) := by decide +kernel
theorem dX2_pairsWith_35 : decode cX2_pairsWith 35 = .ok (.getfield 36, 3) := by decide +kernel
theorem dX2_pairsWith_38 : decode cX2_pairsWith 38 = .ok (.iload_n 3, 1) := by decide +kernel
theorem dX2_pairsWith_39 : decode cX2_pairsWith 39 = .ok (.iand, 1) := by decide +kernel
theorem dX2_pairsWith_40 : decode cX2_pairsWith 40 = .ok (.aload_n 1, 1) := by decide +kernel
theorem dX2_pairsWith_41 : decode cX2_pairsWith 41 = .ok (.getfield 36, 3) := by decide +kernel
theorem dX2_pairsWith_44 : decode cX2_pairsWith 44 = .ok (.iload_n 3, 1) := by decide +kernel
theorem dX2_pairsWith_45 : decode cX2_pairsWith 45 = .ok (.iand, 1) := by decide +kernel
theorem dX2_pairsWith_46 : decode cX2_pairsWith 46 = .ok (.if_icmp .ne 21, 3) := by decide +kernel
theorem dX2_pairsWith_49 : decode cX2_pairsWith 49 = .ok (.aload_n 0, 1) := by decide +kernel
theorem dX2_pairsWith_50 : decode cX2_pairsWith 50 = .ok (.getfield 12, 3) := by decide +kernel
theorem dX2_pairsWith_53 : decode cX2_pairsWith 53 = .ok (.aload_n 1, 1) := by decide +kernel
theorem dX2_pairsWith_54 : decode cX2_pairsWith 54 = .ok (.getfield 12, 3) := by decide +kernel
theorem dX2_pairsWith_57 : decode cX2_pairsWith 57 = .ok (.invokevirtual 130, 3) := by decide +kernel
theorem dX2_pairsWith_60 : decode cX2_pairsWith 60 = .ok (.ifCond .eq 7, 3) := by decide +kernel
theorem dX2_pairsWith_63 : decode cX2_pairsWith 63 = .ok (.iconst 1, 1) := by decide +kernel
theorem dX2_pairsWith_64 : decode cX2_pairsWith 64 = .ok (.goto 4, 3) := by decide +kernel
theorem dX2_pairsWith_67 : decode cX2_pairsWith 67 = .ok (.iconst 0, 1) := by decide +kernel
theorem dX2_pairsWith_68 : decode cX2_pairsWith 68 = .ok (.ireturn, 1) := by decide +kernel
theorem dX2_isUsable_0 : decode cX2_isUsable 0 = .ok (.aload_n 0, 1) := by decide +kernel
theorem dX2_isUsable_1 : decode cX2_isUsable 1 = .ok (.invokevirtual 134, 3) := by decide +kernel
theorem dX2_isUsable_4 : decode cX2_isUsable 4 = .ok (.ifCond .eq 37, 3) := by decide +kernel
theorem dX2_isUsable_7 : decode cX2_isUsable 7 = .ok (.aload_n 0, 1) := by decide +kernel
theorem dX2_isUsable_8 : decode cX2_isUsable 8 = .ok (.getfield 42, 3) := by decide +kernel
theorem dX2_isUsable_11 : decode cX2_isUsable 11 = .ok (.iload_n 2, 1) := by decide +kernel
theorem dX2_isUsable_12 : decode cX2_isUsable 12 = .ok (.if_icmp .lt 29, 3) := by decide +kernel
theorem dX2_isUsable_15 : decode cX2_isUsable 15 = .ok (.aload_n 0, 1) := by decide +kernel
theorem dX2_isUsable_16 : decode cX2_isUsable 16 = .ok (.getfield 32, 3) := by decide +kernel
theorem dX2_isUsable_19 : decode cX2_isUsable 19 = .ok (.aload_n 1, 1) := by decide +kernel
theorem dX2_isUsable_20 : decode cX2_isUsable 20 = .ok (.invokevirtual 123, 3) := by decide +kernel
theorem dX2_isUsable_23 : decode cX2_isUsable 23 = .ok (.ifCond .eq 18, 3) := by decide +kernel
theorem dX2_isUsable_26 : decode cX2_isUsable 26 = .ok (.aload_n 0, 1) := by decide +kernel
theorem dX2_isUsable_27 : decode cX2_isUsable 27 = .ok (.getfield 12, 3) := by decide +kernel
theorem dX2_isUsable_30 : decode cX2_isUsable 30 = .ok (.aload_n 3, 1) := by decide +kernel
theorem dX2_isUsable_31 : decode cX2_isUsable 31 = .ok (.invokevirtual 137, 3) := by decide +kernel
theorem dX2_isUsable_34 : decode cX2_isUsable 34 = .ok (.ifCond .ne 7, 3) := by decide +kernel
theorem dX2_isUsable_37 : decode cX2_isUsable 37 = .ok (.iconst 1, 1) := by decide +kernel
theorem dX2_isUsable_38 : decode cX2_isUsable 38 = .ok (.goto 4, 3) := by decide +kernel
theorem dX2_isUsable_41 : decode cX2_isUsable 41 = .ok (.iconst 0, 1) := by decide +kernel
theorem dX2_isUsable_42 : decode cX2_isUsable 42 = .ok (.ireturn, 1) := by decide +kernel
theorem dX2_fitsSettings_0 : decode cX2_fitsSettings 0 = .ok (.iconst 0, 1) := by decide +kernel
theorem dX2_fitsSettings_1 : decode cX2_fitsSettings 1 = .ok (.istore_n 2, 1) := by decide +kernel
theorem dX2_fitsSettings_2 : decode cX2_fitsSettings 2 = .ok (.iload_n 2, 1) := by decide +kernel
theorem dX2_fitsSettings_3 : decode cX2_fitsSettings 3 = .ok (.iconst 4, 1) := by decide +kernel
theorem dX2_fitsSettings_4 : decode cX2_fitsSettings 4 = .ok (.if_icmp .ge 41, 3) := by decide +kernel
theorem dX2_fitsSettings_7 : decode cX2_fitsSettings 7 = .ok (.iload_n 2, 1) := by decide +kernel
theorem dX2_fitsSettings_8 : decode cX2_fitsSettings 8 = .ok (.aload_n 0, 1) := by decide +kernel
theorem dX2_fitsSettings_9 : decode cX2_fitsSettings 9 = .ok (.getfield 12, 3) := by decide +kernel
theorem dX2_fitsSettings_12 : decode cX2_fitsSettings 12 = .ok (.getfield 94, 3) := by decide +kernel
theorem dX2_fitsSettings_15 : decode cX2_fitsSettings 15 = .ok (.invokestatic 140, 3) := by decide +kernel
theorem dX2_fitsSettings_18 : decode cX2_fitsSettings 18 = .ok (.ifCond .eq 21, 3) := by decide +kernel
theorem dX2_fitsSettings_21 : decode cX2_fitsSettings 21 = .ok (.aload_n 0, 1) := by decide +kernel
theorem dX2_fitsSettings_22 : decode cX2_fitsSettings 22 = .ok (.getfield 36, 3) := by decide +kernel
theorem dX2_fitsSettings_25 : decode cX2_fitsSettings 25 = .ok (.iload_n 2, 1) := by decide +kernel
theorem dX2_fitsSettings_26 : decode cX2_fitsSettings 26 = .ok (.invokestatic 95, 3) := by decide +kernel
theorem dX2_fitsSettings_29 : decode cX2_fitsSettings 29 = .ok (.iload_n 1, 1) := by decide +kernel
theorem dX2_fitsSettings_30 : decode cX2_fitsSettings 30 = .ok (.iload_n 2, 1) := by decide +kernel
theorem dX2_fitsSettings_31 : decode cX2_fitsSettings 31 = .ok (.invokestatic 95, 3) := by decide +kernel
theorem dX2_fitsSettings_34 : decode cX2_fitsSettings 34 = .ok (.if_icmp .eq 5, 3) := by decide +kernel
theorem dX2_fitsSettings_37 : decode cX2_fitsSettings 37 = .ok (.iconst 0, 1) := by decide +kernel
theorem dX2_fitsSettings_38 : decode cX2_fitsSettings 38 = .ok (.ireturn, 1) := by decide +kernel
theorem dX2_fitsSettings_39 : decode cX2_fitsSettings 39 = .ok (.iinc 2 1, 3) := by decide +kernel
theorem dX2_fitsSettings_42 : decode cX2_fitsSettings 42 = .ok (.goto (-40), 3) := by decide +kernel
theorem dX2_fitsSettings_45 : decode cX2_fitsSettings 45 = .ok (.iconst 1, 1) := by decide +kernel
theorem dX2_fitsSettings_46 : decode cX2_fitsSettings 46 = .ok (.ireturn, 1) := by decide +kernel
theorem dX2_fitsSeed_0 : decode cX2_fitsSeed 0 = .ok (.aload_n 0, 1) := by decide +kernel
theorem dX2_fitsSeed_1 : decode cX2_fitsSeed 1 = .ok (.getfield 12, 3) := by decide +kernel
theorem dX2_fitsSeed_4 : decode cX2_fitsSeed 4 = .ok (.getfield 98, 3) := by decide +kernel
theorem dX2_fitsSeed_7 : decode cX2_fitsSeed 7 = .ok (.ifCond .eq 11, 3) := by decide +kernel
theorem dX2_fitsSeed_10 : decode cX2_fitsSeed 10 = .ok (.aload_n 0, 1) := by decide +kernel
theorem dX2_fitsSeed_11 : decode cX2_fitsSeed 11 = .ok (.getfield 39, 3) := by decide +kernel
theorem dX2_fitsSeed_14 : decode cX2_fitsSeed 14 = .ok (.iload_n 1, 1) := by decide +kernel
theorem dX2_fitsSeed_15 : decode cX2_fitsSeed 15 = .ok (.if_icmp .ne 7, 3) := by decide +kernel
theorem dX2_fitsSeed_18 : decode cX2_fitsSeed 18 = .ok (.iconst 1, 1) := by decide +kernel
theorem dX2_fitsSeed_19 : decode cX2_fitsSeed 19 = .ok (.goto 4, 3) := by decide +kernel
theorem dX2_fitsSeed_22 : decode cX2_fitsSeed 22 = .ok (.iconst 0, 1) := by decide +kernel
theorem dX2_fitsSeed_23 : decode cX2_fitsSeed 23 = .ok (.ireturn, 1) := by decide +kernel
theorem dX2_gridSeeds_0 : decode cX2_gridSeeds 0 = .ok (.aload_n 0, 1) := by decide +kernel
theorem dX2_gridSeeds_1 : decode cX2_gridSeeds 1 = .ok (.getfield 12, 3) := by decide +kernel
theorem dX2_gridSeeds_4 : decode cX2_gridSeeds 4 = .ok (.getfield 98, 3) := by decide +kernel
theorem dX2_gridSeeds_7 : decode cX2_gridSeeds 7 = .ok (.ifCond .ne 7, 3) := by decide +kernel
theorem dX2_gridSeeds_10 : decode cX2_gridSeeds 10 = .ok (.sipush 255, 3) := by decide +kernel
theorem dX2_gridSeeds_13 : decode cX2_gridSeeds 13 = .ok (.ireturn, 1) := by decide +kernel
theorem dX2_gridSeeds_14 : decode cX2_gridSeeds 14 = .ok (.aload_n 0, 1) := by decide +kernel
theorem dX2_gridSeeds_15 : decode cX2_gridSeeds 15 = .ok (.getfield 39, 3) := by decide +kernel
theorem dX2_gridSeeds_18 : decode cX2_gridSeeds 18 = .ok (.bipush 8, 2) := by decide +kernel
theorem dX2_gridSeeds_20 : decode cX2_gridSeeds 20 = .ok (.if_icmp .ge 12, 3) := by decide +kernel
theorem dX2_gridSeeds_23 : decode cX2_gridSeeds 23 = .ok (.iconst 1, 1) := by decide +kernel
theorem dX2_gridSeeds_24 : decode cX2_gridSeeds 24 = .ok (.aload_n 0, 1) := by decide +kernel
theorem dX2_gridSeeds_25 : decode cX2_gridSeeds 25 = .ok (.getfield 39, 3) := by decide +kernel
theorem dX2_gridSeeds_28 : decode cX2_gridSeeds 28 = .ok (.ishl, 1) := by decide +kernel
theorem dX2_gridSeeds_29 : decode cX2_gridSeeds 29 = .ok (.goto 4, 3) := by decide +kernel
theorem dX2_gridSeeds_32 : decode cX2_gridSeeds 32 = .ok (.iconst 0, 1) := by decide +kernel
theorem dX2_gridSeeds_33 : decode cX2_gridSeeds 33 = .ok (.ireturn, 1) := by decide +kernel
theorem dX3_init_0 : decode cX3_init 0 = .ok (.aload_n 0, 1) := by decide +kernel
theorem dX3_init_1 : decode cX3_init 1 = .ok (.invokespecial 3, 3) := by decide +kernel
theorem dX3_init_4 : decode cX3_init 4 = .ok (.aload_n 0, 1) := by decide +kernel
theorem dX3_init_5 : decode cX3_init 5 = .ok (.bipush 8, 2) := by decide +kernel
theorem dX3_init_7 : decode cX3_init 7 = .ok (.newarray .int, 2) := by decide +kernel
theorem dX3_init_9 : decode cX3_init 9 = .ok (.putfield 9, 3) := by decide +kernel
theorem dX3_init_12 : decode cX3_init 12 = .ok (.return_, 1) := by decide +kernel
theorem dX3_setWord_0 : decode cX3_setWord 0 = .ok (.iload_n 1, 1) := by decide +kernel
theorem dX3_setWord_1 : decode cX3_setWord 1 = .ok (.ifCond .lt 12, 3) := by decide +kernel
theorem dX3_setWord_4 : decode cX3_setWord 4 = .ok (.iload_n 1, 1) := by decide +kernel
theorem dX3_setWord_5 : decode cX3_setWord 5 = .ok (.aload_n 0, 1) := by decide +kernel
theorem dX3_setWord_6 : decode cX3_setWord 6 = .ok (.getfield 9, 3) := by decide +kernel
theorem dX3_setWord_9 : decode cX3_setWord 9 = .ok (.arraylength, 1) := by decide +kernel
theorem dX3_setWord_10 : decode cX3_setWord 10 = .ok (.if_icmp .lt 5, 3) := by decide +kernel
theorem dX3_setWord_13 : decode cX3_setWord 13 = .ok (.iconst 0, 1) := by decide +kernel
theorem dX3_setWord_14 : decode cX3_setWord 14 = .ok (.ireturn, 1) := by decide +kernel
theorem dX3_setWord_15 : decode cX3_setWord 15 = .ok (.aload_n 0, 1) := by decide +kernel
theorem dX3_setWord_16 : decode cX3_setWord 16 = .ok (.getfield 9, 3) := by decide +kernel
theorem dX3_setWord_19 : decode cX3_setWord 19 = .ok (.iload_n 1, 1) := by decide +kernel
theorem dX3_setWord_20 : decode cX3_setWord 20 = .ok (.iload_n 2, 1) := by decide +kernel
theorem dX3_setWord_21 : decode cX3_setWord 21 = .ok (.iastore, 1) := by decide +kernel
theorem dX3_setWord_22 : decode cX3_setWord 22 = .ok (.iconst 1, 1) := by decide +kernel
theorem dX3_setWord_23 : decode cX3_setWord 23 = .ok (.ireturn, 1) := by decide +kernel
theorem dX3_wordAt_0 : decode cX3_wordAt 0 = .ok (.iload_n 1, 1) := by decide +kernel
theorem dX3_wordAt_1 : decode cX3_wordAt 1 = .ok (.ifCond .lt 21, 3) := by decide +kernel
theorem dX3_wordAt_4 : decode cX3_wordAt 4 = .ok (.iload_n 1, 1) := by decide +kernel
theorem dX3_wordAt_5 : decode cX3_wordAt 5 = .ok (.aload_n 0, 1) := by decide +kernel
theorem dX3_wordAt_6 : decode cX3_wordAt 6 = .ok (.getfield 9, 3) := by decide +kernel
theorem dX3_wordAt_9 : decode cX3_wordAt 9 = .ok (.arraylength, 1) := by decide +kernel
theorem dX3_wordAt_10 : decode cX3_wordAt 10 = .ok (.if_icmp .ge 12, 3) := by decide +kernel
theorem dX3_wordAt_13 : decode cX3_wordAt 13 = .ok (.aload_n 0, 1) := by decide +kernel
theorem dX3_wordAt_14 : decode cX3_wordAt 14 = .ok (.getfield 9, 3) := by decide +kernel
theorem dX3_wordAt_17 : decode cX3_wordAt 17 = .ok (.iload_n 1, 1) := by decide +kernel
theorem dX3_wordAt_18 : decode cX3_wordAt 18 = .ok (.iaload, 1) := by decide +kernel
theorem dX3_wordAt_19 : decode cX3_wordAt 19 = .ok (.goto 4, 3) := by decide +kernel
theorem dX3_wordAt_22 : decode cX3_wordAt 22 = .ok (.iconst 0, 1) := by decide +kernel
theorem dX3_wordAt_23 : decode cX3_wordAt 23 = .ok (.ireturn, 1) := by decide +kernel
end
section
theorem dX4_init_0 : decode cX4_init 0 = .ok (.aload_n 0, 1) := by decide +kernel
theorem dX4_init_1 : decode cX4_init 1 = .ok (.invokespecial 1, 3) := by decide +kernel
theorem dX4_init_4 : decode cX4_init 4 = .ok (.aload_n 0, 1) := by decide +kernel
theorem dX4_init_5 : decode cX4_init 5 = .ok (.iconst 4, 1) := by decide +kernel
theorem dX4_init_6 : decode cX4_init 6 = .ok (.anewarray 9, 3) := by decide +kernel
theorem dX4_init_9 : decode cX4_init 9 = .ok (.putfield 11, 3) := by decide +kernel
theorem dX4_init_12 : decode cX4_init 12 = .ok (.aload_n 0, 1) := by decide +kernel
theorem dX4_init_13 : decode cX4_init 13 = .ok (.iconst 4, 1) := by decide +kernel
theorem dX4_init_14 : decode cX4_init 14 = .ok (.newarray .int, 2) := by decide +kernel
theorem dX4_init_16 : decode cX4_init 16 = .ok (.putfield 15, 3) := by decide +kernel
theorem dX4_init_19 : decode cX4_init 19 = .ok (.aload_n 0, 1) := by decide +kernel
theorem dX4_init_20 : decode cX4_init 20 = .ok (.new 19, 3) := by decide +kernel
theorem dX4_init_23 : decode cX4_init 23 = .ok (.dup, 1) := by decide +kernel
theorem dX4_init_24 : decode cX4_init 24 = .ok (.invokespecial 21, 3) := by decide +kernel
theorem dX4_init_27 : decode cX4_init 27 = .ok (.putfield 22, 3) := by decide +kernel
theorem dX4_init_30 : decode cX4_init 30 = .ok (.aload_n 0, 1) := by decide +kernel
theorem dX4_init_31 : decode cX4_init 31 = .ok (.bipush 40, 2) := by decide +kernel
theorem dX4_init_33 : decode cX4_init 33 = .ok (.anewarray 26, 3) := by decide +kernel
theorem dX4_init_36 : decode cX4_init 36 = .ok (.putfield 28, 3) := by decide +kernel
theorem dX4_init_39 : decode cX4_init 39 = .ok (.aload_n 0, 1) := by decide +kernel
theorem dX4_init_40 : decode cX4_init 40 = .ok (.bipush 20, 2) := by decide +kernel
theorem dX4_init_42 : decode cX4_init 42 = .ok (.newarray .int, 2) := by decide +kernel
theorem dX4_init_44 : decode cX4_init 44 = .ok (.putfield 32, 3) := by decide +kernel
theorem dX4_init_47 : decode cX4_init 47 = .ok (.aload_n 0, 1) := by decide +kernel
theorem dX4_init_48 : decode cX4_init 48 = .ok (.bipush 20, 2) := by decide +kernel
theorem dX4_init_50 : decode cX4_init 50 = .ok (.newarray .int, 2) := by decide +kernel
theorem dX4_init_52 : decode cX4_init 52 = .ok (.putfield 35, 3) := by decide +kernel
theorem dX4_init_55 : decode cX4_init 55 = .ok (.aload_n 0, 1) := by decide +kernel
theorem dX4_init_56 : decode cX4_init 56 = .ok (.bipush 40, 2) := by decide +kernel
theorem dX4_init_58 : decode cX4_init 58 = .ok (.anewarray 26, 3) := by decide +kernel
theorem dX4_init_61 : decode cX4_init 61 = .ok (.putfield 38, 3) := by decide +kernel
theorem dX4_init_64 : decode cX4_init 64 = .ok (.iconst 0, 1) := by decide +kernel
theorem dX4_init_65 : decode cX4_init 65 = .ok (.istore_n 1, 1) := by decide +kernel
theorem dX4_init_66 : decode cX4_init 66 = .ok (.iload_n 1, 1) := by decide +kernel
theorem dX4_init_67 : decode cX4_init 67 = .ok (.aload_n 0, 1) := by decide +kernel
theorem dX4_init_68 : decode cX4_init 68 = .ok (.getfield 11, 3) := by decide +kernel
theorem dX4_init_71 : decode cX4_init 71 = .ok (.arraylength, 1) := by decide +kernel
theorem dX4_init_72 : decode cX4_init 72 = .ok (.if_icmp .ge 25, 3) := by decide +kernel
theorem dX4_init_75 : decode cX4_init 75 = .ok (.aload_n 0, 1) := by decide +kernel
theorem dX4_init_76 : decode cX4_init 76 = .ok (.getfield 11, 3) := by decide +kernel
theorem dX4_init_79 : decode cX4_init 79 = .ok (.iload_n 1, 1) := by decide +kernel
theorem dX4_init_80 : decode cX4_init 80 = .ok (.new 9, 3) := by decide +kernel
theorem dX4_init_83 : decode cX4_init 83 = .ok (.dup, 1) := by decide +kernel
theorem dX4_init_84 : decode cX4_init 84 = .ok (.iconst 0, 1) := by decide +kernel
theorem dX4_init_85 : decode cX4_init 85 = .ok (.iconst 0, 1) := by decide +kernel
theorem dX4_init_86 : decode cX4_init 86 = .ok (.iconst 0, 1) := by decide +kernel
theorem dX4_init_87 : decode cX4_init 87 = .ok (.invokespecial 41, 3) := by decide +kernel
theorem dX4_init_90 : decode cX4_init 90 = .ok (.aastore, 1) := by decide +kernel
theorem dX4_init_91 : decode cX4_init 91 = .ok (.iinc 1 1, 3) := by decide +kernel
theorem dX4_init_94 : decode cX4_init 94 = .ok (.goto (-28), 3) := by decide +kernel
theorem dX4_init_97 : decode cX4_init 97 = .ok (.iconst 0, 1) := by decide +kernel
theorem dX4_init_98 : decode cX4_init 98 = .ok (.istore_n 1, 1) := by decide +kernel
theorem dX4_init_99 : decode cX4_init 99 = .ok (.iload_n 1, 1) := by decide +kernel
theorem dX4_init_100 : decode cX4_init 100 = .ok (.aload_n 0, 1) := by decide +kernel
theorem dX4_init_101 : decode cX4_init 101 = .ok (.getfield 15, 3) := by decide +kernel
theorem dX4_init_104 : decode cX4_init 104 = .ok (.arraylength, 1) := by decide +kernel
theorem dX4_init_105 : decode cX4_init 105 = .ok (.if_icmp .ge 16, 3) := by decide +kernel
theorem dX4_init_108 : decode cX4_init 108 = .ok (.aload_n 0, 1) := by decide +kernel
theorem dX4_init_109 : decode cX4_init 109 = .ok (.getfield 15, 3) := by decide +kernel
theorem dX4_init_112 : decode cX4_init 112 = .ok (.iload_n 1, 1) := by decide +kernel
theorem dX4_init_113 : decode cX4_init 113 = .ok (.iconst 2, 1) := by decide +kernel
theorem dX4_init_114 : decode cX4_init 114 = .ok (.iastore, 1) := by decide +kernel
theorem dX4_init_115 : decode cX4_init 115 = .ok (.iinc 1 1, 3) := by decide +kernel
theorem dX4_init_118 : decode cX4_init 118 = .ok (.goto (-19), 3) := by decide +kernel
theorem dX4_init_121 : decode cX4_init 121 = .ok (.return_, 1) := by decide +kernel
theorem dX4_code_0 : decode cX4_code 0 = .ok (.iload_n 1, 1) := by decide +kernel
theorem dX4_code_1 : decode cX4_code 1 = .ok (.ifCond .lt 22, 3) := by decide +kernel
theorem dX4_code_4 : decode cX4_code 4 = .ok (.iload_n 1, 1) := by decide +kernel
theorem dX4_code_5 : decode cX4_code 5 = .ok (.aload_n 0, 1) := by decide +kernel
theorem dX4_code_6 : decode cX4_code 6 = .ok (.getfield 11, 3) := by decide +kernel
theorem dX4_code_9 : decode cX4_code 9 = .ok (.arraylength, 1) := by decide +kernel
theorem dX4_code_10 : decode cX4_code 10 = .ok (.if_icmp .ge 13, 3) := by decide +kernel
theorem dX4_code_13 : decode cX4_code 13 = .ok (.iload_n 2, 1) := by decide +kernel
theorem dX4_code_14 : decode cX4_code 14 = .ok (.ifCond .lt 9, 3) := by decide +kernel
theorem dX4_code_17 : decode cX4_code 17 = .ok (.iload_n 2, 1) := by decide +kernel
theorem dX4_code_18 : decode cX4_code 18 = .ok (.bipush 8, 2) := by decide +kernel
theorem dX4_code_20 : decode cX4_code 20 = .ok (.if_icmp .le 5, 3) := by decide +kernel
theorem dX4_code_23 : decode cX4_code 23 = .ok (.iconst 0, 1) := by decide +kernel
theorem dX4_code_24 : decode cX4_code 24 = .ok (.ireturn, 1) := by decide +kernel
theorem dX4_code_25 : decode cX4_code 25 = .ok (.aload_n 0, 1) := by decide +kernel
theorem dX4_code_26 : decode cX4_code 26 = .ok (.getfield 11, 3) := by decide +kernel
theorem dX4_code_29 : decode cX4_code 29 = .ok (.iload_n 1, 1) := by decide +kernel
theorem dX4_code_30 : decode cX4_code 30 = .ok (.new 9, 3) := by decide +kernel
theorem dX4_code_33 : decode cX4_code 33 = .ok (.dup, 1) := by decide +kernel
theorem dX4_code_34 : decode cX4_code 34 = .ok (.iload_n 2, 1) := by decide +kernel
theorem dX4_code_35 : decode cX4_code 35 = .ok (.iload_n 3, 1) := by decide +kernel
theorem dX4_code_36 : decode cX4_code 36 = .ok (.iload 4, 2) := by decide +kernel
theorem dX4_code_38 : decode cX4_code 38 = .ok (.invokespecial 41, 3) := by decide +kernel
theorem dX4_code_41 : decode cX4_code 41 = .ok (.aastore, 1) := by decide +kernel
theorem dX4_code_42 : decode cX4_code 42 = .ok (.iconst 1, 1) := by decide +kernel
theorem dX4_code_43 : decode cX4_code 43 = .ok (.ireturn, 1) := by decide +kernel
theorem dX4_data_0 : decode cX4_data 0 = .ok (.aload_n 0, 1) := by decide +kernel
theorem dX4_data_1 : decode cX4_data 1 = .ok (.getfield 22, 3) := by decide +kernel
theorem dX4_data_4 : decode cX4_data 4 = .ok (.iload_n 1, 1) := by decide +kernel
theorem dX4_data_5 : decode cX4_data 5 = .ok (.iload_n 2, 1) := by decide +kernel
theorem dX4_data_6 : decode cX4_data 6 = .ok (.invokevirtual 44, 3) := by decide +kernel
theorem dX4_data_9 : decode cX4_data 9 = .ok (.ireturn, 1) := by decide +kernel
theorem dX4_bound_0 : decode cX4_bound 0 = .ok (.iload_n 1, 1) := by decide +kernel
theorem dX4_bound_1 : decode cX4_bound 1 = .ok (.ifCond .lt 23, 3) := by decide +kernel
theorem dX4_bound_4 : decode cX4_bound 4 = .ok (.iload_n 1, 1) := by decide +kernel
theorem dX4_bound_5 : decode cX4_bound 5 = .ok (.aload_n 0, 1) := by decide +kernel
theorem dX4_bound_6 : decode cX4_bound 6 = .ok (.getfield 15, 3) := by decide +kernel
theorem dX4_bound_9 : decode cX4_bound 9 = .ok (.arraylength, 1) := by decide +kernel
theorem dX4_bound_10 : decode cX4_bound 10 = .ok (.if_icmp .ge 14, 3) := by decide +kernel
theorem dX4_bound_13 : decode cX4_bound 13 = .ok (.iload_n 2, 1) := by decide +kernel
theorem dX4_bound_14 : decode cX4_bound 14 = .ok (.iconst 1, 1) := by decide +kernel
theorem dX4_bound_15 : decode cX4_bound 15 = .ok (.if_icmp .lt 9, 3) := by decide +kernel
theorem dX4_bound_18 : decode cX4_bound 18 = .ok (.iload_n 2, 1) := by decide +kernel
theorem dX4_bound_19 : decode cX4_bound 19 = .ok (.bipush 6, 2) := by decide +kernel
theorem dX4_bound_21 : decode cX4_bound 21 = .ok (.if_icmp .le 5, 3) := by decide +kernel
theorem dX4_bound_24 : decode cX4_bound 24 = .ok (.iconst 0, 1) := by decide +kernel
theorem dX4_bound_25 : decode cX4_bound 25 = .ok (.ireturn, 1) := by decide +kernel
theorem dX4_bound_26 : decode cX4_bound 26 = .ok (.aload_n 0, 1) := by decide +kernel
theorem dX4_bound_27 : decode cX4_bound 27 = .ok (.getfield 15, 3) := by decide +kernel
theorem dX4_bound_30 : decode cX4_bound 30 = .ok (.iload_n 1, 1) := by decide +kernel
theorem dX4_bound_31 : decode cX4_bound 31 = .ok (.iload_n 2, 1) := by decide +kernel
theorem dX4_bound_32 : decode cX4_bound 32 = .ok (.iastore, 1) := by decide +kernel
theorem dX4_bound_33 : decode cX4_bound 33 = .ok (.iconst 1, 1) := by decide +kernel
theorem dX4_bound_34 : decode cX4_bound 34 = .ok (.ireturn, 1) := by decide +kernel
theorem dX4_run_0 : decode cX4_run 0 = .ok (.aload_n 0, 1) := by decide +kernel
theorem dX4_run_1 : decode cX4_run 1 = .ok (.iload_n 1, 1) := by decide +kernel
theorem dX4_run_2 : decode cX4_run 2 = .ok (.invokevirtual 48, 3) := by decide +kernel
theorem dX4_run_5 : decode cX4_run 5 = .ok (.astore 5, 2) := by decide +kernel
theorem dX4_run_7 : decode cX4_run 7 = .ok (.aload 5, 2) := by decide +kernel
theorem dX4_run_9 : decode cX4_run 9 = .ok (.ifnull 25, 3) := by decide +kernel
theorem dX4_run_12 : decode cX4_run 12 = .ok (.iload_n 2, 1) := by decide +kernel
theorem dX4_run_13 : decode cX4_run 13 = .ok (.invokestatic 52, 3) := by decide +kernel
theorem dX4_run_16 : decode cX4_run 16 = .ok (.ifCond .eq 18, 3) := by decide +kernel
theorem dX4_run_19 : decode cX4_run 19 = .ok (.iload_n 3, 1) := by decide +kernel
theorem dX4_run_20 : decode cX4_run 20 = .ok (.invokestatic 56, 3) := by decide +kernel
theorem dX4_run_23 : decode cX4_run 23 = .ok (.ifCond .eq 11, 3) := by decide +kernel
theorem dX4_run_26 : decode cX4_run 26 = .ok (.iload 4, 2) := by decide +kernel
theorem dX4_run_28 : decode cX4_run 28 = .ok (.invokestatic 59, 3) := by decide +kernel
theorem dX4_run_31 : decode cX4_run 31 = .ok (.ifCond .ne 5, 3) := by decide +kernel
theorem dX4_run_34 : decode cX4_run 34 = .ok (.iconst (-1), 1) := by decide +kernel
theorem dX4_run_35 : decode cX4_run 35 = .ok (.ireturn, 1) := by decide +kernel
theorem dX4_run_36 : decode cX4_run 36 = .ok (.aload_n 0, 1) := by decide +kernel
theorem dX4_run_37 : decode cX4_run 37 = .ok (.new 26, 3) := by decide +kernel
theorem dX4_run_40 : decode cX4_run 40 = .ok (.dup, 1) := by decide +kernel
theorem dX4_run_41 : decode cX4_run 41 = .ok (.iload_n 1, 1) := by decide +kernel
theorem dX4_run_42 : decode cX4_run 42 = .ok (.aload 5, 2) := by decide +kernel
theorem dX4_run_44 : decode cX4_run 44 = .ok (.iload_n 2, 1) := by decide +kernel
theorem dX4_run_45 : decode cX4_run 45 = .ok (.iload_n 3, 1) := by decide +kernel
theorem dX4_run_46 : decode cX4_run 46 = .ok (.iload 4, 2) := by decide +kernel
theorem dX4_run_48 : decode cX4_run 48 = .ok (.invokespecial 62, 3) := by decide +kernel
theorem dX4_run_51 : decode cX4_run 51 = .ok (.invokevirtual 65, 3) := by decide +kernel
theorem dX4_run_54 : decode cX4_run 54 = .ok (.ireturn, 1) := by decide +kernel
theorem dX4_fork_0 : decode cX4_fork 0 = .ok (.aload_n 0, 1) := by decide +kernel
theorem dX4_fork_1 : decode cX4_fork 1 = .ok (.iload_n 1, 1) := by decide +kernel
theorem dX4_fork_2 : decode cX4_fork 2 = .ok (.invokevirtual 69, 3) := by decide +kernel
theorem dX4_fork_5 : decode cX4_fork 5 = .ok (.astore 5, 2) := by decide +kernel
theorem dX4_fork_7 : decode cX4_fork 7 = .ok (.aload 5, 2) := by decide +kernel
theorem dX4_fork_9 : decode cX4_fork 9 = .ok (.ifnull 24, 3) := by decide +kernel
theorem dX4_fork_12 : decode cX4_fork 12 = .ok (.aload 5, 2) := by decide +kernel
theorem dX4_fork_14 : decode cX4_fork 14 = .ok (.getfield 73, 3) := by decide +kernel
theorem dX4_fork_17 : decode cX4_fork 17 = .ok (.ifCond .ne 16, 3) := by decide +kernel
theorem dX4_fork_20 : decode cX4_fork 20 = .ok (.iload_n 2, 1) := by decide +kernel
theorem dX4_fork_21 : decode cX4_fork 21 = .ok (.ifCond .lt 12, 3) := by decide +kernel
theorem dX4_fork_24 : decode cX4_fork 24 = .ok (.iload_n 2, 1) := by decide +kernel
theorem dX4_fork_25 : decode cX4_fork 25 = .ok (.aload 5, 2) := by decide +kernel
theorem dX4_fork_27 : decode cX4_fork 27 = .ok (.getfield 77, 3) := by decide +kernel
theorem dX4_fork_30 : decode cX4_fork 30 = .ok (.if_icmp .le 5, 3) := by decide +kernel
theorem dX4_fork_33 : decode cX4_fork 33 = .ok (.iconst (-1), 1) := by decide +kernel
theorem dX4_fork_34 : decode cX4_fork 34 = .ok (.ireturn, 1) := by decide +kernel
theorem dX4_fork_35 : decode cX4_fork 35 = .ok (.iload_n 3, 1) := by decide +kernel
theorem dX4_fork_36 : decode cX4_fork 36 = .ok (.invokestatic 52, 3) := by decide +kernel
theorem dX4_fork_39 : decode cX4_fork 39 = .ok (.ifCond .eq 11, 3) := by decide +kernel
theorem dX4_fork_42 : decode cX4_fork 42 = .ok (.iload 4, 2) := by decide +kernel
theorem dX4_fork_44 : decode cX4_fork 44 = .ok (.invokestatic 56, 3) := by decide +kernel
theorem dX4_fork_47 : decode cX4_fork 47 = .ok (.ifCond .ne 5, 3) := by decide +kernel
theorem dX4_fork_50 : decode cX4_fork 50 = .ok (.iconst (-1), 1) := by decide +kernel
theorem dX4_fork_51 : decode cX4_fork 51 = .ok (.ireturn, 1) := by decide +kernel
theorem dX4_fork_52 : decode cX4_fork 52 = .ok (.new 26, 3) := by decide +kernel
theorem dX4_fork_55 : decode cX4_fork 55 = .ok (.dup, 1) := by decide +kernel
theorem dX4_fork_56 : decode cX4_fork 56 = .ok (.aload 5, 2) := by decide +kernel
theorem dX4_fork_58 : decode cX4_fork 58 = .ok (.getfield 81, 3) := by decide +kernel
theorem dX4_fork_61 : decode cX4_fork 61 = .ok (.aload 5, 2) := by decide +kernel
theorem dX4_fork_63 : decode cX4_fork 63 = .ok (.getfield 84, 3) := by decide +kernel
theorem dX4_fork_66 : decode cX4_fork 66 = .ok (.iload_n 3, 1) := by decide +kernel
theorem dX4_fork_67 : decode cX4_fork 67 = .ok (.iload 4, 2) := by decide +kernel
theorem dX4_fork_69 : decode cX4_fork 69 = .ok (.aload 5, 2) := by decide +kernel
theorem dX4_fork_71 : decode cX4_fork 71 = .ok (.getfield 88, 3) := by decide +kernel
theorem dX4_fork_74 : decode cX4_fork 74 = .ok (.invokespecial 62, 3) := by decide +kernel
theorem dX4_fork_77 : decode cX4_fork 77 = .ok (.astore 6, 2) := by decide +kernel
theorem dX4_fork_79 : decode cX4_fork 79 = .ok (.aload 6, 2) := by decide +kernel
theorem dX4_fork_81 : decode cX4_fork 81 = .ok (.iload_n 1, 1) := by decide +kernel
theorem dX4_fork_82 : decode cX4_fork 82 = .ok (.iload_n 2, 1) := by decide +kernel
theorem dX4_fork_83 : decode cX4_fork 83 = .ok (.invokevirtual 91, 3) := by decide +kernel
theorem dX4_fork_86 : decode cX4_fork 86 = .ok (.aload 6, 2) := by decide +kernel
theorem dX4_fork_88 : decode cX4_fork 88 = .ok (.aload 5, 2) := by decide +kernel
theorem dX4_fork_90 : decode cX4_fork 90 = .ok (.iload_n 2, 1) := by decide +kernel
theorem dX4_fork_91 : decode cX4_fork 91 = .ok (.invokevirtual 95, 3) := by decide +kernel
theorem dX4_fork_94 : decode cX4_fork 94 = .ok (.aload 6, 2) := by decide +kernel
theorem dX4_fork_96 : decode cX4_fork 96 = .ok (.getfield 99, 3) := by decide +kernel
theorem dX4_fork_99 : decode cX4_fork 99 = .ok (.aload 5, 2) := by decide +kernel
theorem dX4_fork_101 : decode cX4_fork 101 = .ok (.getfield 99, 3) := by decide +kernel
theorem dX4_fork_104 : decode cX4_fork 104 = .ok (.invokevirtual 103, 3) := by decide +kernel
theorem dX4_fork_107 : decode cX4_fork 107 = .ok (.aload_n 0, 1) := by decide +kernel
theorem dX4_fork_108 : decode cX4_fork 108 = .ok (.aload 6, 2) := by decide +kernel
theorem dX4_fork_110 : decode cX4_fork 110 = .ok (.invokevirtual 65, 3) := by decide +kernel
theorem dX4_fork_113 : decode cX4_fork 113 = .ok (.ireturn, 1) := by decide +kernel
theorem dX4_of_0 : decode cX4_of 0 = .ok (.aload_n 0, 1) := by decide +kernel
theorem dX4_of_1 : decode cX4_of 1 = .ok (.iload_n 1, 1) := by decide +kernel
theorem dX4_of_2 : decode cX4_of 2 = .ok (.invokevirtual 69, 3) := by decide +kernel
theorem dX4_of_5 : decode cX4_of 5 = .ok (.astore_n 3, 1) := by decide +kernel
theorem dX4_of_6 : decode cX4_of 6 = .ok (.aload_n 3, 1) := by decide +kernel
theorem dX4_of_7 : decode cX4_of 7 = .ok (.ifnonnull 5, 3) := by decide +kernel
theorem dX4_of_10 : decode cX4_of 10 = .ok (.iconst (-1), 1) := by decide +kernel
theorem dX4_of_11 : decode cX4_of 11 = .ok (.ireturn, 1) := by decide +kernel
theorem dX4_of_12 : decode cX4_of 12 = .ok (.iload_n 2, 1) := by decide +kernel
theorem dX4_of_13 : decode cX4_of 13 = .ok (.bipush 100, 2) := by decide +kernel
theorem dX4_of_15 : decode cX4_of 15 = .ok (.if_icmp .lt 12, 3) := by decide +kernel
theorem dX4_of_18 : decode cX4_of 18 = .ok (.aload_n 3, 1) := by decide +kernel
theorem dX4_of_19 : decode cX4_of 19 = .ok (.iload_n 2, 1) := by decide +kernel
theorem dX4_of_20 : decode cX4_of 20 = .ok (.bipush 100, 2) := by decide +kernel
theorem dX4_of_22 : decode cX4_of 22 = .ok (.isub, 1) := by decide +kernel
theorem dX4_of_23 : decode cX4_of 23 = .ok (.invokevirtual 109, 3) := by decide +kernel
theorem dX4_of_26 : decode cX4_of 26 = .ok (.ireturn, 1) := by decide +kernel
theorem dX4_of_27 : decode cX4_of 27 = .ok (.iload_n 2, 1) := by decide +kernel
theorem dX4_of_28 : decode cX4_of 28 = .ok (.tableswitch 158 0 12 #[68, 73, 78, 83, 88, 93, 101, 106, 111, 119, 127, 138, 149], 68) := by decide +kernel
theorem dX4_of_96 : decode cX4_of 96 = .ok (.aload_n 3, 1) := by decide +kernel
theorem dX4_of_97 : decode cX4_of 97 = .ok (.getfield 81, 3) := by decide +kernel
theorem dX4_of_100 : decode cX4_of 100 = .ok (.ireturn, 1) := by decide +kernel
theorem dX4_of_101 : decode cX4_of 101 = .ok (.aload_n 3, 1) := by decide +kernel
theorem dX4_of_102 : decode cX4_of 102 = .ok (.getfield 113, 3) := by decide +kernel
theorem dX4_of_105 : decode cX4_of 105 = .ok (.ireturn, 1) := by decide +kernel
theorem dX4_of_106 : decode cX4_of 106 = .ok (.aload_n 3, 1) := by decide +kernel
theorem dX4_of_107 : decode cX4_of 107 = .ok (.getfield 116, 3) := by decide +kernel
theorem dX4_of_110 : decode cX4_of 110 = .ok (.ireturn, 1) := by decide +kernel
theorem dX4_of_111 : decode cX4_of 111 = .ok (.aload_n 3, 1) := by decide +kernel
theorem dX4_of_112 : decode cX4_of 112 = .ok (.getfield 88, 3) := by decide +kernel
theorem dX4_of_115 : decode cX4_of 115 = .ok (.ireturn, 1) := by decide +kernel
theorem dX4_of_116 : decode cX4_of 116 = .ok (.aload_n 3, 1) := by decide +kernel
theorem dX4_of_117 : decode cX4_of 117 = .ok (.getfield 77, 3) := by decide +kernel
theorem dX4_of_120 : decode cX4_of 120 = .ok (.ireturn, 1) := by decide +kernel
theorem dX4_of_121 : decode cX4_of 121 = .ok (.aload_n 3, 1) := by decide +kernel
theorem dX4_of_122 : decode cX4_of 122 = .ok (.getfield 73, 3) := by decide +kernel
theorem dX4_of_125 : decode cX4_of 125 = .ok (.invokestatic 119, 3) := by decide +kernel
theorem dX4_of_128 : decode cX4_of 128 = .ok (.ireturn, 1) := by decide +kernel
theorem dX4_of_129 : decode cX4_of 129 = .ok (.aload_n 3, 1) := by decide +kernel
theorem dX4_of_130 : decode cX4_of 130 = .ok (.getfield 123, 3) := by decide +kernel
theorem dX4_of_133 : decode cX4_of 133 = .ok (.ireturn, 1) := by decide +kernel
theorem dX4_of_134 : decode cX4_of 134 = .ok (.aload_n 3, 1) := by decide +kernel
theorem dX4_of_135 : decode cX4_of 135 = .ok (.getfield 126, 3) := by decide +kernel
theorem dX4_of_138 : decode cX4_of 138 = .ok (.ireturn, 1) := by decide +kernel
theorem dX4_of_139 : decode cX4_of 139 = .ok (.aload_n 3, 1) := by decide +kernel
theorem dX4_of_140 : decode cX4_of 140 = .ok (.getfield 99, 3) := by decide +kernel
theorem dX4_of_143 : decode cX4_of 143 = .ok (.getfield 129, 3) := by decide +kernel
theorem dX4_of_146 : decode cX4_of 146 = .ok (.ireturn, 1) := by decide +kernel
theorem dX4_of_147 : decode cX4_of 147 = .ok (.aload_n 3, 1) := by decide +kernel
theorem dX4_of_148 : decode cX4_of 148 = .ok (.getfield 99, 3) := by decide +kernel
theorem dX4_of_151 : decode cX4_of 151 = .ok (.getfield 130, 3) := by decide +kernel
theorem dX4_of_154 : decode cX4_of 154 = .ok (.ireturn, 1) := by decide +kernel
theorem dX4_of_155 : decode cX4_of 155 = .ok (.aload_n 3, 1) := by decide +kernel
theorem dX4_of_156 : decode cX4_of 156 = .ok (.getfield 99, 3) := by decide +kernel
theorem dX4_of_159 : decode cX4_of 159 = .ok (.getfield 133, 3) := by decide +kernel
theorem dX4_of_162 : decode cX4_of 162 = .ok (.invokestatic 119, 3) := by decide +kernel
theorem dX4_of_165 : decode cX4_of 165 = .ok (.ireturn, 1) := by decide +kernel
theorem dX4_of_166 : decode cX4_of 166 = .ok (.aload_n 3, 1) := by decide +kernel
theorem dX4_of_167 : decode cX4_of 167 = .ok (.getfield 99, 3) := by decide +kernel
theorem dX4_of_170 : decode cX4_of 170 = .ok (.getfield 135, 3) := by decide +kernel
theorem dX4_of_173 : decode cX4_of 173 = .ok (.invokestatic 119, 3) := by decide +kernel
theorem dX4_of_176 : decode cX4_of 176 = .ok (.ireturn, 1) := by decide +kernel
theorem dX4_of_177 : decode cX4_of 177 = .ok (.aload_n 0, 1) := by decide +kernel
theorem dX4_of_178 : decode cX4_of 178 = .ok (.aload_n 3, 1) := by decide +kernel
theorem dX4_of_179 : decode cX4_of 179 = .ok (.invokevirtual 138, 3) := by decide +kernel
theorem dX4_of_182 : decode cX4_of 182 = .ok (.invokestatic 119, 3) := by decide +kernel
theorem dX4_of_185 : decode cX4_of 185 = .ok (.ireturn, 1) := by decide +kernel
theorem dX4_of_186 : decode cX4_of 186 = .ok (.iconst (-1), 1) := by decide +kernel
theorem dX4_of_187 : decode cX4_of 187 = .ok (.ireturn, 1) := by decide +kernel
theorem dX4_clock_0 : decode cX4_clock 0 = .ok (.aload_n 0, 1) := by decide +kernel
theorem dX4_clock_1 : decode cX4_clock 1 = .ok (.getfield 22, 3) := by decide +kernel
theorem dX4_clock_4 : decode cX4_clock 4 = .ok (.getfield 142, 3) := by decide +kernel
theorem dX4_clock_7 : decode cX4_clock 7 = .ok (.ireturn, 1) := by decide +kernel
theorem dX4_runs_0 : decode cX4_runs 0 = .ok (.aload_n 0, 1) := by decide +kernel
theorem dX4_runs_1 : decode cX4_runs 1 = .ok (.getfield 144, 3) := by decide +kernel
theorem dX4_runs_4 : decode cX4_runs 4 = .ok (.ireturn, 1) := by decide +kernel
theorem dX4_again_0 : decode cX4_again 0 = .ok (.aload_n 0, 1) := by decide +kernel
theorem dX4_again_1 : decode cX4_again 1 = .ok (.iload_n 1, 1) := by decide +kernel
theorem dX4_again_2 : decode cX4_again 2 = .ok (.invokevirtual 69, 3) := by decide +kernel
theorem dX4_again_5 : decode cX4_again 5 = .ok (.astore_n 2, 1) := by decide +kernel
theorem dX4_again_6 : decode cX4_again 6 = .ok (.aload_n 2, 1) := by decide +kernel
theorem dX4_again_7 : decode cX4_again 7 = .ok (.ifnonnull 5, 3) := by decide +kernel
theorem dX4_again_10 : decode cX4_again 10 = .ok (.iconst (-1), 1) := by decide +kernel
theorem dX4_again_11 : decode cX4_again 11 = .ok (.ireturn, 1) := by decide +kernel
theorem dX4_again_12 : decode cX4_again 12 = .ok (.new 26, 3) := by decide +kernel
theorem dX4_again_15 : decode cX4_again 15 = .ok (.dup, 1) := by decide +kernel
theorem dX4_again_16 : decode cX4_again 16 = .ok (.aload_n 2, 1) := by decide +kernel
theorem dX4_again_17 : decode cX4_again 17 = .ok (.getfield 81, 3) := by decide +kernel
theorem dX4_again_20 : decode cX4_again 20 = .ok (.aload_n 2, 1) := by decide +kernel
theorem dX4_again_21 : decode cX4_again 21 = .ok (.getfield 84, 3) := by decide +kernel
theorem dX4_again_24 : decode cX4_again 24 = .ok (.aload_n 2, 1) := by decide +kernel
theorem dX4_again_25 : decode cX4_again 25 = .ok (.getfield 113, 3) := by decide +kernel
theorem dX4_again_28 : decode cX4_again 28 = .ok (.aload_n 2, 1) := by decide +kernel
theorem dX4_again_29 : decode cX4_again 29 = .ok (.getfield 116, 3) := by decide +kernel
theorem dX4_again_32 : decode cX4_again 32 = .ok (.aload_n 2, 1) := by decide +kernel
theorem dX4_again_33 : decode cX4_again 33 = .ok (.getfield 88, 3) := by decide +kernel
theorem dX4_again_36 : decode cX4_again 36 = .ok (.invokespecial 62, 3) := by decide +kernel
theorem dX4_again_39 : decode cX4_again 39 = .ok (.astore_n 3, 1) := by decide +kernel
theorem dX4_again_40 : decode cX4_again 40 = .ok (.aload_n 2, 1) := by decide +kernel
theorem dX4_again_41 : decode cX4_again 41 = .ok (.invokevirtual 147, 3) := by decide +kernel
theorem dX4_again_44 : decode cX4_again 44 = .ok (.ifCond .eq 12, 3) := by decide +kernel
theorem dX4_again_47 : decode cX4_again 47 = .ok (.aload_n 3, 1) := by decide +kernel
theorem dX4_again_48 : decode cX4_again 48 = .ok (.aload_n 2, 1) := by decide +kernel
theorem dX4_again_49 : decode cX4_again 49 = .ok (.aload_n 2, 1) := by decide +kernel
theorem dX4_again_50 : decode cX4_again 50 = .ok (.getfield 126, 3) := by decide +kernel
theorem dX4_again_53 : decode cX4_again 53 = .ok (.invokevirtual 95, 3) := by decide +kernel
theorem dX4_again_56 : decode cX4_again 56 = .ok (.aload_n 0, 1) := by decide +kernel
theorem dX4_again_57 : decode cX4_again 57 = .ok (.getfield 22, 3) := by decide +kernel
theorem dX4_again_60 : decode cX4_again 60 = .ok (.dup, 1) := by decide +kernel
theorem dX4_again_61 : decode cX4_again 61 = .ok (.getfield 142, 3) := by decide +kernel
theorem dX4_again_64 : decode cX4_again 64 = .ok (.iconst 1, 1) := by decide +kernel
theorem dX4_again_65 : decode cX4_again 65 = .ok (.iadd, 1) := by decide +kernel
theorem dX4_again_66 : decode cX4_again 66 = .ok (.putfield 142, 3) := by decide +kernel
theorem dX4_again_69 : decode cX4_again 69 = .ok (.aload_n 3, 1) := by decide +kernel
theorem dX4_again_70 : decode cX4_again 70 = .ok (.aload_n 0, 1) := by decide +kernel
theorem dX4_again_71 : decode cX4_again 71 = .ok (.getfield 22, 3) := by decide +kernel
theorem dX4_again_74 : decode cX4_again 74 = .ok (.invokevirtual 151, 3) := by decide +kernel
theorem dX4_again_77 : decode cX4_again 77 = .ok (.aload_n 2, 1) := by decide +kernel
theorem dX4_again_78 : decode cX4_again 78 = .ok (.aload_n 3, 1) := by decide +kernel
theorem dX4_again_79 : decode cX4_again 79 = .ok (.invokevirtual 155, 3) := by decide +kernel
theorem dX4_again_82 : decode cX4_again 82 = .ok (.ireturn, 1) := by decide +kernel
theorem dX4_loose_0 : decode cX4_loose 0 = .ok (.aload_n 0, 1) := by decide +kernel
theorem dX4_loose_1 : decode cX4_loose 1 = .ok (.iload_n 1, 1) := by decide +kernel
theorem dX4_loose_2 : decode cX4_loose 2 = .ok (.invokevirtual 69, 3) := by decide +kernel
theorem dX4_loose_5 : decode cX4_loose 5 = .ok (.astore_n 2, 1) := by decide +kernel
theorem dX4_loose_6 : decode cX4_loose 6 = .ok (.aload_n 2, 1) := by decide +kernel
theorem dX4_loose_7 : decode cX4_loose 7 = .ok (.ifnonnull 5, 3) := by decide +kernel
theorem dX4_loose_10 : decode cX4_loose 10 = .ok (.iconst (-1), 1) := by decide +kernel
theorem dX4_loose_11 : decode cX4_loose 11 = .ok (.ireturn, 1) := by decide +kernel
theorem dX4_loose_12 : decode cX4_loose 12 = .ok (.aload_n 2, 1) := by decide +kernel
theorem dX4_loose_13 : decode cX4_loose 13 = .ok (.getfield 99, 3) := by decide +kernel
theorem dX4_loose_16 : decode cX4_loose 16 = .ok (.aload_n 0, 1) := by decide +kernel
theorem dX4_loose_17 : decode cX4_loose 17 = .ok (.getfield 22, 3) := by decide +kernel
theorem dX4_loose_20 : decode cX4_loose 20 = .ok (.invokevirtual 158, 3) := by decide +kernel
theorem dX4_loose_23 : decode cX4_loose 23 = .ok (.aload_n 2, 1) := by decide +kernel
theorem dX4_loose_24 : decode cX4_loose 24 = .ok (.getfield 99, 3) := by decide +kernel
theorem dX4_loose_27 : decode cX4_loose 27 = .ok (.getfield 135, 3) := by decide +kernel
theorem dX4_loose_30 : decode cX4_loose 30 = .ok (.ifCond .eq 9, 3) := by decide +kernel
theorem dX4_loose_33 : decode cX4_loose 33 = .ok (.sipush 256, 3) := by decide +kernel
theorem dX4_loose_36 : decode cX4_loose 36 = .ok (.goto 4, 3) := by decide +kernel
theorem dX4_loose_39 : decode cX4_loose 39 = .ok (.iconst 0, 1) := by decide +kernel
theorem dX4_loose_40 : decode cX4_loose 40 = .ok (.iadd, 1) := by decide +kernel
theorem dX4_loose_41 : decode cX4_loose 41 = .ok (.ireturn, 1) := by decide +kernel
theorem dX4_saved_0 : decode cX4_saved 0 = .ok (.aload_n 0, 1) := by decide +kernel
theorem dX4_saved_1 : decode cX4_saved 1 = .ok (.iload_n 1, 1) := by decide +kernel
theorem dX4_saved_2 : decode cX4_saved 2 = .ok (.invokevirtual 48, 3) := by decide +kernel
theorem dX4_saved_5 : decode cX4_saved 5 = .ok (.astore 5, 2) := by decide +kernel
theorem dX4_saved_7 : decode cX4_saved 7 = .ok (.aload 5, 2) := by decide +kernel
theorem dX4_saved_9 : decode cX4_saved 9 = .ok (.ifnull 25, 3) := by decide +kernel
theorem dX4_saved_12 : decode cX4_saved 12 = .ok (.iload_n 2, 1) := by decide +kernel
theorem dX4_saved_13 : decode cX4_saved 13 = .ok (.invokestatic 52, 3) := by decide +kernel
theorem dX4_saved_16 : decode cX4_saved 16 = .ok (.ifCond .eq 18, 3) := by decide +kernel
theorem dX4_saved_19 : decode cX4_saved 19 = .ok (.iload_n 3, 1) := by decide +kernel
theorem dX4_saved_20 : decode cX4_saved 20 = .ok (.invokestatic 56, 3) := by decide +kernel
theorem dX4_saved_23 : decode cX4_saved 23 = .ok (.ifCond .eq 11, 3) := by decide +kernel
theorem dX4_saved_26 : decode cX4_saved 26 = .ok (.iload 4, 2) := by decide +kernel
theorem dX4_saved_28 : decode cX4_saved 28 = .ok (.invokestatic 59, 3) := by decide +kernel
theorem dX4_saved_31 : decode cX4_saved 31 = .ok (.ifCond .ne 5, 3) := by decide +kernel
theorem dX4_saved_34 : decode cX4_saved 34 = .ok (.iconst (-1), 1) := by decide +kernel
theorem dX4_saved_35 : decode cX4_saved 35 = .ok (.ireturn, 1) := by decide +kernel
theorem dX4_saved_36 : decode cX4_saved 36 = .ok (.iconst 0, 1) := by decide +kernel
theorem dX4_saved_37 : decode cX4_saved 37 = .ok (.istore 6, 2) := by decide +kernel
theorem dX4_saved_39 : decode cX4_saved 39 = .ok (.iload 6, 2) := by decide +kernel
theorem dX4_saved_41 : decode cX4_saved 41 = .ok (.aload_n 0, 1) := by decide +kernel
theorem dX4_saved_42 : decode cX4_saved 42 = .ok (.getfield 144, 3) := by decide +kernel
theorem dX4_saved_45 : decode cX4_saved 45 = .ok (.if_icmp .ge 59, 3) := by decide +kernel
theorem dX4_saved_48 : decode cX4_saved 48 = .ok (.aload_n 0, 1) := by decide +kernel
theorem dX4_saved_49 : decode cX4_saved 49 = .ok (.iload 6, 2) := by decide +kernel
theorem dX4_saved_51 : decode cX4_saved 51 = .ok (.invokevirtual 69, 3) := by decide +kernel
theorem dX4_saved_54 : decode cX4_saved 54 = .ok (.astore 7, 2) := by decide +kernel
theorem dX4_saved_56 : decode cX4_saved 56 = .ok (.aload 7, 2) := by decide +kernel
theorem dX4_saved_58 : decode cX4_saved 58 = .ok (.ifnull 40, 3) := by decide +kernel
theorem dX4_saved_61 : decode cX4_saved 61 = .ok (.aload 7, 2) := by decide +kernel
theorem dX4_saved_63 : decode cX4_saved 63 = .ok (.iload_n 2, 1) := by decide +kernel
theorem dX4_saved_64 : decode cX4_saved 64 = .ok (.invokevirtual 162, 3) := by decide +kernel
theorem dX4_saved_67 : decode cX4_saved 67 = .ok (.ifCond .eq 31, 3) := by decide +kernel
theorem dX4_saved_70 : decode cX4_saved 70 = .ok (.aload 7, 2) := by decide +kernel
theorem dX4_saved_72 : decode cX4_saved 72 = .ok (.iload_n 3, 1) := by decide +kernel
theorem dX4_saved_73 : decode cX4_saved 73 = .ok (.invokevirtual 165, 3) := by decide +kernel
theorem dX4_saved_76 : decode cX4_saved 76 = .ok (.ifCond .eq 22, 3) := by decide +kernel
theorem dX4_saved_79 : decode cX4_saved 79 = .ok (.aload 7, 2) := by decide +kernel
theorem dX4_saved_81 : decode cX4_saved 81 = .ok (.aload 5, 2) := by decide +kernel
theorem dX4_saved_83 : decode cX4_saved 83 = .ok (.iload 4, 2) := by decide +kernel
theorem dX4_saved_85 : decode cX4_saved 85 = .ok (.aload_n 0, 1) := by decide +kernel
theorem dX4_saved_86 : decode cX4_saved 86 = .ok (.getfield 22, 3) := by decide +kernel
theorem dX4_saved_89 : decode cX4_saved 89 = .ok (.invokevirtual 168, 3) := by decide +kernel
theorem dX4_saved_92 : decode cX4_saved 92 = .ok (.ifCond .eq 6, 3) := by decide +kernel
theorem dX4_saved_95 : decode cX4_saved 95 = .ok (.iload 6, 2) := by decide +kernel
theorem dX4_saved_97 : decode cX4_saved 97 = .ok (.ireturn, 1) := by decide +kernel
theorem dX4_saved_98 : decode cX4_saved 98 = .ok (.iinc 6 1, 3) := by decide +kernel
theorem dX4_saved_101 : decode cX4_saved 101 = .ok (.goto (-62), 3) := by decide +kernel
theorem dX4_saved_104 : decode cX4_saved 104 = .ok (.iconst (-1), 1) := by decide +kernel
theorem dX4_saved_105 : decode cX4_saved 105 = .ok (.ireturn, 1) := by decide +kernel
theorem dX4_pairs_0 : decode cX4_pairs 0 = .ok (.iload_n 1, 1) := by decide +kernel
theorem dX4_pairs_1 : decode cX4_pairs 1 = .ok (.iload_n 2, 1) := by decide +kernel
theorem dX4_pairs_2 : decode cX4_pairs 2 = .ok (.iload_n 3, 1) := by decide +kernel
theorem dX4_pairs_3 : decode cX4_pairs 3 = .ok (.iload 4, 2) := by decide +kernel
theorem dX4_pairs_5 : decode cX4_pairs 5 = .ok (.invokestatic 172, 3) := by decide +kernel
theorem dX4_pairs_8 : decode cX4_pairs 8 = .ok (.ifCond .eq 14, 3) := by decide +kernel
theorem dX4_pairs_11 : decode cX4_pairs 11 = .ok (.iload 5, 2) := by decide +kernel
theorem dX4_pairs_13 : decode cX4_pairs 13 = .ok (.ifCond .lt 9, 3) := by decide +kernel
theorem dX4_pairs_16 : decode cX4_pairs 16 = .ok (.iload 5, 2) := by decide +kernel
theorem dX4_pairs_18 : decode cX4_pairs 18 = .ok (.iconst 2, 1) := by decide +kernel
theorem dX4_pairs_19 : decode cX4_pairs 19 = .ok (.if_icmp .le 5, 3) := by decide +kernel
theorem dX4_pairs_22 : decode cX4_pairs 22 = .ok (.iconst (-1), 1) := by decide +kernel
theorem dX4_pairs_23 : decode cX4_pairs 23 = .ok (.ireturn, 1) := by decide +kernel
theorem dX4_pairs_24 : decode cX4_pairs 24 = .ok (.aload_n 0, 1) := by decide +kernel
theorem dX4_pairs_25 : decode cX4_pairs 25 = .ok (.iload_n 1, 1) := by decide +kernel
theorem dX4_pairs_26 : decode cX4_pairs 26 = .ok (.iload_n 2, 1) := by decide +kernel
theorem dX4_pairs_27 : decode cX4_pairs 27 = .ok (.iload_n 3, 1) := by decide +kernel
theorem dX4_pairs_28 : decode cX4_pairs 28 = .ok (.iload 4, 2) := by decide +kernel
theorem dX4_pairs_30 : decode cX4_pairs 30 = .ok (.iload 5, 2) := by decide +kernel
theorem dX4_pairs_32 : decode cX4_pairs 32 = .ok (.invokevirtual 176, 3) := by decide +kernel
theorem dX4_pairs_35 : decode cX4_pairs 35 = .ok (.ireturn, 1) := by decide +kernel
theorem dX4_pair_0 : decode cX4_pair 0 = .ok (.iload_n 1, 1) := by decide +kernel
theorem dX4_pair_1 : decode cX4_pair 1 = .ok (.iload_n 2, 1) := by decide +kernel
theorem dX4_pair_2 : decode cX4_pair 2 = .ok (.iload_n 3, 1) := by decide +kernel
theorem dX4_pair_3 : decode cX4_pair 3 = .ok (.iload 4, 2) := by decide +kernel
theorem dX4_pair_5 : decode cX4_pair 5 = .ok (.invokestatic 172, 3) := by decide +kernel
theorem dX4_pair_8 : decode cX4_pair 8 = .ok (.ifCond .eq 19, 3) := by decide +kernel
theorem dX4_pair_11 : decode cX4_pair 11 = .ok (.iload 5, 2) := by decide +kernel
theorem dX4_pair_13 : decode cX4_pair 13 = .ok (.ifCond .lt 14, 3) := by decide +kernel
theorem dX4_pair_16 : decode cX4_pair 16 = .ok (.iload 6, 2) := by decide +kernel
theorem dX4_pair_18 : decode cX4_pair 18 = .ok (.ifCond .lt 9, 3) := by decide +kernel
theorem dX4_pair_21 : decode cX4_pair 21 = .ok (.iload 6, 2) := by decide +kernel
theorem dX4_pair_23 : decode cX4_pair 23 = .ok (.iconst 1, 1) := by decide +kernel
theorem dX4_pair_24 : decode cX4_pair 24 = .ok (.if_icmp .le 5, 3) := by decide +kernel
theorem dX4_pair_27 : decode cX4_pair 27 = .ok (.iconst (-1), 1) := by decide +kernel
theorem dX4_pair_28 : decode cX4_pair 28 = .ok (.ireturn, 1) := by decide +kernel
theorem dX4_pair_29 : decode cX4_pair 29 = .ok (.iload 5, 2) := by decide +kernel
theorem dX4_pair_31 : decode cX4_pair 31 = .ok (.istore 7, 2) := by decide +kernel
theorem dX4_pair_33 : decode cX4_pair 33 = .ok (.iconst 0, 1) := by decide +kernel
theorem dX4_pair_34 : decode cX4_pair 34 = .ok (.istore 8, 2) := by decide +kernel
theorem dX4_pair_36 : decode cX4_pair 36 = .ok (.iload 8, 2) := by decide +kernel
theorem dX4_pair_38 : decode cX4_pair 38 = .ok (.aload_n 0, 1) := by decide +kernel
theorem dX4_pair_39 : decode cX4_pair 39 = .ok (.getfield 144, 3) := by decide +kernel
theorem dX4_pair_42 : decode cX4_pair 42 = .ok (.if_icmp .ge 105, 3) := by decide +kernel
theorem dX4_pair_45 : decode cX4_pair 45 = .ok (.aload_n 0, 1) := by decide +kernel
theorem dX4_pair_46 : decode cX4_pair 46 = .ok (.iload 8, 2) := by decide +kernel
theorem dX4_pair_48 : decode cX4_pair 48 = .ok (.invokevirtual 69, 3) := by decide +kernel
theorem dX4_pair_51 : decode cX4_pair 51 = .ok (.astore 9, 2) := by decide +kernel
theorem dX4_pair_53 : decode cX4_pair 53 = .ok (.aload 9, 2) := by decide +kernel
theorem dX4_pair_55 : decode cX4_pair 55 = .ok (.iload_n 1, 1) := by decide +kernel
theorem dX4_pair_56 : decode cX4_pair 56 = .ok (.iload_n 2, 1) := by decide +kernel
theorem dX4_pair_57 : decode cX4_pair 57 = .ok (.iload 4, 2) := by decide +kernel
theorem dX4_pair_59 : decode cX4_pair 59 = .ok (.invokestatic 180, 3) := by decide +kernel
theorem dX4_pair_62 : decode cX4_pair 62 = .ok (.ifCond .ne 6, 3) := by decide +kernel
theorem dX4_pair_65 : decode cX4_pair 65 = .ok (.goto 76, 3) := by decide +kernel
theorem dX4_pair_68 : decode cX4_pair 68 = .ok (.iconst 0, 1) := by decide +kernel
theorem dX4_pair_69 : decode cX4_pair 69 = .ok (.istore 10, 2) := by decide +kernel
theorem dX4_pair_71 : decode cX4_pair 71 = .ok (.iload 10, 2) := by decide +kernel
theorem dX4_pair_73 : decode cX4_pair 73 = .ok (.aload_n 0, 1) := by decide +kernel
theorem dX4_pair_74 : decode cX4_pair 74 = .ok (.getfield 144, 3) := by decide +kernel
theorem dX4_pair_77 : decode cX4_pair 77 = .ok (.if_icmp .ge 64, 3) := by decide +kernel
theorem dX4_pair_80 : decode cX4_pair 80 = .ok (.aload_n 0, 1) := by decide +kernel
theorem dX4_pair_81 : decode cX4_pair 81 = .ok (.iload 10, 2) := by decide +kernel
theorem dX4_pair_83 : decode cX4_pair 83 = .ok (.invokevirtual 69, 3) := by decide +kernel
theorem dX4_pair_86 : decode cX4_pair 86 = .ok (.astore 11, 2) := by decide +kernel
theorem dX4_pair_88 : decode cX4_pair 88 = .ok (.aload 11, 2) := by decide +kernel
theorem dX4_pair_90 : decode cX4_pair 90 = .ok (.iload_n 1, 1) := by decide +kernel
theorem dX4_pair_91 : decode cX4_pair 91 = .ok (.iload_n 3, 1) := by decide +kernel
theorem dX4_pair_92 : decode cX4_pair 92 = .ok (.iload 4, 2) := by decide +kernel
theorem dX4_pair_94 : decode cX4_pair 94 = .ok (.invokestatic 180, 3) := by decide +kernel
theorem dX4_pair_97 : decode cX4_pair 97 = .ok (.ifCond .eq 38, 3) := by decide +kernel
theorem dX4_pair_100 : decode cX4_pair 100 = .ok (.aload 9, 2) := by decide +kernel
theorem dX4_pair_102 : decode cX4_pair 102 = .ok (.aload 11, 2) := by decide +kernel
theorem dX4_pair_104 : decode cX4_pair 104 = .ok (.iload_n 1, 1) := by decide +kernel
theorem dX4_pair_105 : decode cX4_pair 105 = .ok (.invokevirtual 184, 3) := by decide +kernel
theorem dX4_pair_108 : decode cX4_pair 108 = .ok (.ifCond .ne 6, 3) := by decide +kernel
theorem dX4_pair_111 : decode cX4_pair 111 = .ok (.goto 24, 3) := by decide +kernel
theorem dX4_pair_114 : decode cX4_pair 114 = .ok (.iload 7, 2) := by decide +kernel
theorem dX4_pair_116 : decode cX4_pair 116 = .ok (.ifCond .ne 16, 3) := by decide +kernel
theorem dX4_pair_119 : decode cX4_pair 119 = .ok (.iload 6, 2) := by decide +kernel
theorem dX4_pair_121 : decode cX4_pair 121 = .ok (.ifCond .ne 8, 3) := by decide +kernel
theorem dX4_pair_124 : decode cX4_pair 124 = .ok (.iload 8, 2) := by decide +kernel
theorem dX4_pair_126 : decode cX4_pair 126 = .ok (.goto 5, 3) := by decide +kernel
theorem dX4_pair_129 : decode cX4_pair 129 = .ok (.iload 10, 2) := by decide +kernel
theorem dX4_pair_131 : decode cX4_pair 131 = .ok (.ireturn, 1) := by decide +kernel
theorem dX4_pair_132 : decode cX4_pair 132 = .ok (.iinc 7 (-1), 3) := by decide +kernel
theorem dX4_pair_135 : decode cX4_pair 135 = .ok (.iinc 10 1, 3) := by decide +kernel
theorem dX4_pair_138 : decode cX4_pair 138 = .ok (.goto (-67), 3) := by decide +kernel
theorem dX4_pair_141 : decode cX4_pair 141 = .ok (.iinc 8 1, 3) := by decide +kernel
theorem dX4_pair_144 : decode cX4_pair 144 = .ok (.goto (-108), 3) := by decide +kernel
theorem dX4_pair_147 : decode cX4_pair 147 = .ok (.iconst (-1), 1) := by decide +kernel
theorem dX4_pair_148 : decode cX4_pair 148 = .ok (.ireturn, 1) := by decide +kernel
theorem dX4_sure_0 : decode cX4_sure 0 = .ok (.iload_n 1, 1) := by decide +kernel
theorem dX4_sure_1 : decode cX4_sure 1 = .ok (.iload_n 2, 1) := by decide +kernel
theorem dX4_sure_2 : decode cX4_sure 2 = .ok (.iload_n 3, 1) := by decide +kernel
theorem dX4_sure_3 : decode cX4_sure 3 = .ok (.iload 4, 2) := by decide +kernel
theorem dX4_sure_5 : decode cX4_sure 5 = .ok (.invokestatic 172, 3) := by decide +kernel
theorem dX4_sure_8 : decode cX4_sure 8 = .ok (.ifCond .eq 25, 3) := by decide +kernel
theorem dX4_sure_11 : decode cX4_sure 11 = .ok (.iload 5, 2) := by decide +kernel
theorem dX4_sure_13 : decode cX4_sure 13 = .ok (.iconst 1, 1) := by decide +kernel
theorem dX4_sure_14 : decode cX4_sure 14 = .ok (.if_icmp .lt 19, 3) := by decide +kernel
theorem dX4_sure_17 : decode cX4_sure 17 = .ok (.iload 5, 2) := by decide +kernel
theorem dX4_sure_19 : decode cX4_sure 19 = .ok (.sipush 1000, 3) := by decide +kernel
theorem dX4_sure_22 : decode cX4_sure 22 = .ok (.if_icmp .gt 11, 3) := by decide +kernel
theorem dX4_sure_25 : decode cX4_sure 25 = .ok (.iload 6, 2) := by decide +kernel
theorem dX4_sure_27 : decode cX4_sure 27 = .ok (.invokestatic 188, 3) := by decide +kernel
theorem dX4_sure_30 : decode cX4_sure 30 = .ok (.ifCond .ne 5, 3) := by decide +kernel
theorem dX4_sure_33 : decode cX4_sure 33 = .ok (.iconst (-1), 1) := by decide +kernel
theorem dX4_sure_34 : decode cX4_sure 34 = .ok (.ireturn, 1) := by decide +kernel
theorem dX4_sure_35 : decode cX4_sure 35 = .ok (.aload_n 0, 1) := by decide +kernel
theorem dX4_sure_36 : decode cX4_sure 36 = .ok (.iload_n 1, 1) := by decide +kernel
theorem dX4_sure_37 : decode cX4_sure 37 = .ok (.iload_n 2, 1) := by decide +kernel
theorem dX4_sure_38 : decode cX4_sure 38 = .ok (.iload_n 3, 1) := by decide +kernel
theorem dX4_sure_39 : decode cX4_sure 39 = .ok (.iload 4, 2) := by decide +kernel
theorem dX4_sure_41 : decode cX4_sure 41 = .ok (.iload 5, 2) := by decide +kernel
theorem dX4_sure_43 : decode cX4_sure 43 = .ok (.i2l, 1) := by decide +kernel
theorem dX4_sure_44 : decode cX4_sure 44 = .ok (.iload 6, 2) := by decide +kernel
theorem dX4_sure_46 : decode cX4_sure 46 = .ok (.i2l, 1) := by decide +kernel
theorem dX4_sure_47 : decode cX4_sure 47 = .ok (.lmul, 1) := by decide +kernel
theorem dX4_sure_48 : decode cX4_sure 48 = .ok (.invokevirtual 191, 3) := by decide +kernel
theorem dX4_sure_51 : decode cX4_sure 51 = .ok (.ireturn, 1) := by decide +kernel
theorem dX4_best_0 : decode cX4_best 0 = .ok (.iload_n 1, 1) := by decide +kernel
theorem dX4_best_1 : decode cX4_best 1 = .ok (.invokestatic 195, 3) := by decide +kernel
theorem dX4_best_4 : decode cX4_best 4 = .ok (.ifCond .eq 17, 3) := by decide +kernel
theorem dX4_best_7 : decode cX4_best 7 = .ok (.iload_n 2, 1) := by decide +kernel
theorem dX4_best_8 : decode cX4_best 8 = .ok (.invokestatic 59, 3) := by decide +kernel
theorem dX4_best_11 : decode cX4_best 11 = .ok (.ifCond .eq 10, 3) := by decide +kernel
theorem dX4_best_14 : decode cX4_best 14 = .ok (.iload_n 3, 1) := by decide +kernel
theorem dX4_best_15 : decode cX4_best 15 = .ok (.invokestatic 188, 3) := by decide +kernel
theorem dX4_best_18 : decode cX4_best 18 = .ok (.ifCond .ne 5, 3) := by decide +kernel
theorem dX4_best_21 : decode cX4_best 21 = .ok (.iconst (-1), 1) := by decide +kernel
theorem dX4_best_22 : decode cX4_best 22 = .ok (.ireturn, 1) := by decide +kernel
theorem dX4_best_23 : decode cX4_best 23 = .ok (.aload_n 0, 1) := by decide +kernel
theorem dX4_best_24 : decode cX4_best 24 = .ok (.iload_n 1, 1) := by decide +kernel
theorem dX4_best_25 : decode cX4_best 25 = .ok (.invokevirtual 198, 3) := by decide +kernel
theorem dX4_best_28 : decode cX4_best 28 = .ok (.istore 4, 2) := by decide +kernel
theorem dX4_best_30 : decode cX4_best 30 = .ok (.iload 4, 2) := by decide +kernel
theorem dX4_best_32 : decode cX4_best 32 = .ok (.iconst 2, 1) := by decide +kernel
theorem dX4_best_33 : decode cX4_best 33 = .ok (.if_icmp .ge 5, 3) := by decide +kernel
theorem dX4_best_36 : decode cX4_best 36 = .ok (.iconst (-1), 1) := by decide +kernel
theorem dX4_best_37 : decode cX4_best 37 = .ok (.ireturn, 1) := by decide +kernel
theorem dX4_best_38 : decode cX4_best 38 = .ok (.iload 4, 2) := by decide +kernel
theorem dX4_best_40 : decode cX4_best 40 = .ok (.i2l, 1) := by decide +kernel
theorem dX4_best_41 : decode cX4_best 41 = .ok (.iload 4, 2) := by decide +kernel
theorem dX4_best_43 : decode cX4_best 43 = .ok (.iconst 1, 1) := by decide +kernel
theorem dX4_best_44 : decode cX4_best 44 = .ok (.isub, 1) := by decide +kernel
theorem dX4_best_45 : decode cX4_best 45 = .ok (.i2l, 1) := by decide +kernel
theorem dX4_best_46 : decode cX4_best 46 = .ok (.lmul, 1) := by decide +kernel
theorem dX4_best_47 : decode cX4_best 47 = .ok (.iload_n 3, 1) := by decide +kernel
theorem dX4_best_48 : decode cX4_best 48 = .ok (.i2l, 1) := by decide +kernel
theorem dX4_best_49 : decode cX4_best 49 = .ok (.lmul, 1) := by decide +kernel
theorem dX4_best_50 : decode cX4_best 50 = .ok (.lstore 5, 2) := by decide +kernel
theorem dX4_best_52 : decode cX4_best 52 = .ok (.iconst 0, 1) := by decide +kernel
theorem dX4_best_53 : decode cX4_best 53 = .ok (.istore 7, 2) := by decide +kernel
theorem dX4_best_55 : decode cX4_best 55 = .ok (.iload 7, 2) := by decide +kernel
theorem dX4_best_57 : decode cX4_best 57 = .ok (.iload 4, 2) := by decide +kernel
theorem dX4_best_59 : decode cX4_best 59 = .ok (.if_icmp .ge 25, 3) := by decide +kernel
theorem dX4_best_62 : decode cX4_best 62 = .ok (.aload_n 0, 1) := by decide +kernel
theorem dX4_best_63 : decode cX4_best 63 = .ok (.iload_n 1, 1) := by decide +kernel
theorem dX4_best_64 : decode cX4_best 64 = .ok (.iload 7, 2) := by decide +kernel
theorem dX4_best_66 : decode cX4_best 66 = .ok (.iload_n 2, 1) := by decide +kernel
theorem dX4_best_67 : decode cX4_best 67 = .ok (.lload 5, 2) := by decide +kernel
theorem dX4_best_69 : decode cX4_best 69 = .ok (.invokevirtual 201, 3) := by decide +kernel
theorem dX4_best_72 : decode cX4_best 72 = .ok (.ifCond .eq 6, 3) := by decide +kernel
theorem dX4_best_75 : decode cX4_best 75 = .ok (.iload 7, 2) := by decide +kernel
theorem dX4_best_77 : decode cX4_best 77 = .ok (.ireturn, 1) := by decide +kernel
theorem dX4_best_78 : decode cX4_best 78 = .ok (.iinc 7 1, 3) := by decide +kernel
theorem dX4_best_81 : decode cX4_best 81 = .ok (.goto (-26), 3) := by decide +kernel
theorem dX4_best_84 : decode cX4_best 84 = .ok (.iconst (-1), 1) := by decide +kernel
theorem dX4_best_85 : decode cX4_best 85 = .ok (.ireturn, 1) := by decide +kernel
theorem dX4_holes_0 : decode cX4_holes 0 = .ok (.aload_n 0, 1) := by decide +kernel
theorem dX4_holes_1 : decode cX4_holes 1 = .ok (.iload_n 1, 1) := by decide +kernel
theorem dX4_holes_2 : decode cX4_holes 2 = .ok (.invokevirtual 48, 3) := by decide +kernel
theorem dX4_holes_5 : decode cX4_holes 5 = .ok (.astore 4, 2) := by decide +kernel
theorem dX4_holes_7 : decode cX4_holes 7 = .ok (.aload 4, 2) := by decide +kernel
theorem dX4_holes_9 : decode cX4_holes 9 = .ok (.ifnull 17, 3) := by decide +kernel
theorem dX4_holes_12 : decode cX4_holes 12 = .ok (.iload_n 2, 1) := by decide +kernel
theorem dX4_holes_13 : decode cX4_holes 13 = .ok (.invokestatic 59, 3) := by decide +kernel
theorem dX4_holes_16 : decode cX4_holes 16 = .ok (.ifCond .eq 10, 3) := by decide +kernel
theorem dX4_holes_19 : decode cX4_holes 19 = .ok (.iload_n 3, 1) := by decide +kernel
theorem dX4_holes_20 : decode cX4_holes 20 = .ok (.invokestatic 205, 3) := by decide +kernel
theorem dX4_holes_23 : decode cX4_holes 23 = .ok (.ifCond .ne 5, 3) := by decide +kernel
theorem dX4_holes_26 : decode cX4_holes 26 = .ok (.iconst (-1), 1) := by decide +kernel
theorem dX4_holes_27 : decode cX4_holes 27 = .ok (.ireturn, 1) := by decide +kernel
theorem dX4_holes_28 : decode cX4_holes 28 = .ok (.aload_n 0, 1) := by decide +kernel
theorem dX4_holes_29 : decode cX4_holes 29 = .ok (.aload 4, 2) := by decide +kernel
theorem dX4_holes_31 : decode cX4_holes 31 = .ok (.iload_n 2, 1) := by decide +kernel
theorem dX4_holes_32 : decode cX4_holes 32 = .ok (.invokevirtual 208, 3) := by decide +kernel
theorem dX4_holes_35 : decode cX4_holes 35 = .ok (.iconst 0, 1) := by decide +kernel
theorem dX4_holes_36 : decode cX4_holes 36 = .ok (.istore 5, 2) := by decide +kernel
theorem dX4_holes_38 : decode cX4_holes 38 = .ok (.iconst 0, 1) := by decide +kernel
theorem dX4_holes_39 : decode cX4_holes 39 = .ok (.istore 6, 2) := by decide +kernel
theorem dX4_holes_41 : decode cX4_holes 41 = .ok (.iconst 0, 1) := by decide +kernel
theorem dX4_holes_42 : decode cX4_holes 42 = .ok (.istore 7, 2) := by decide +kernel
theorem dX4_holes_44 : decode cX4_holes 44 = .ok (.iload 7, 2) := by decide +kernel
theorem dX4_holes_46 : decode cX4_holes 46 = .ok (.sipush 1296, 3) := by decide +kernel
theorem dX4_holes_49 : decode cX4_holes 49 = .ok (.if_icmp .ge 38, 3) := by decide +kernel
theorem dX4_holes_52 : decode cX4_holes 52 = .ok (.iload 6, 2) := by decide +kernel
theorem dX4_holes_54 : decode cX4_holes 54 = .ok (.iconst (-1), 1) := by decide +kernel
theorem dX4_holes_55 : decode cX4_holes 55 = .ok (.if_icmp .eq 32, 3) := by decide +kernel
theorem dX4_holes_58 : decode cX4_holes 58 = .ok (.iload 5, 2) := by decide +kernel
theorem dX4_holes_60 : decode cX4_holes 60 = .ok (.aload_n 0, 1) := by decide +kernel
theorem dX4_holes_61 : decode cX4_holes 61 = .ok (.iload 6, 2) := by decide +kernel
theorem dX4_holes_63 : decode cX4_holes 63 = .ok (.iload_n 3, 1) := by decide +kernel
theorem dX4_holes_64 : decode cX4_holes 64 = .ok (.invokevirtual 212, 3) := by decide +kernel
theorem dX4_holes_67 : decode cX4_holes 67 = .ok (.invokestatic 216, 3) := by decide +kernel
theorem dX4_holes_70 : decode cX4_holes 70 = .ok (.iadd, 1) := by decide +kernel
theorem dX4_holes_71 : decode cX4_holes 71 = .ok (.istore 5, 2) := by decide +kernel
theorem dX4_holes_73 : decode cX4_holes 73 = .ok (.aload_n 0, 1) := by decide +kernel
theorem dX4_holes_74 : decode cX4_holes 74 = .ok (.iload 6, 2) := by decide +kernel
theorem dX4_holes_76 : decode cX4_holes 76 = .ok (.invokevirtual 221, 3) := by decide +kernel
theorem dX4_holes_79 : decode cX4_holes 79 = .ok (.istore 6, 2) := by decide +kernel
theorem dX4_holes_81 : decode cX4_holes 81 = .ok (.iinc 7 1, 3) := by decide +kernel
theorem dX4_holes_84 : decode cX4_holes 84 = .ok (.goto (-40), 3) := by decide +kernel
theorem dX4_holes_87 : decode cX4_holes 87 = .ok (.iload 5, 2) := by decide +kernel
theorem dX4_holes_89 : decode cX4_holes 89 = .ok (.ireturn, 1) := by decide +kernel
theorem dX4_hole_0 : decode cX4_hole 0 = .ok (.aload_n 0, 1) := by decide +kernel
theorem dX4_hole_1 : decode cX4_hole 1 = .ok (.iload_n 1, 1) := by decide +kernel
theorem dX4_hole_2 : decode cX4_hole 2 = .ok (.invokevirtual 48, 3) := by decide +kernel
theorem dX4_hole_5 : decode cX4_hole 5 = .ok (.astore 6, 2) := by decide +kernel
theorem dX4_hole_7 : decode cX4_hole 7 = .ok (.aload 6, 2) := by decide +kernel
theorem dX4_hole_9 : decode cX4_hole 9 = .ok (.ifnull 33, 3) := by decide +kernel
theorem dX4_hole_12 : decode cX4_hole 12 = .ok (.iload_n 2, 1) := by decide +kernel
theorem dX4_hole_13 : decode cX4_hole 13 = .ok (.invokestatic 59, 3) := by decide +kernel
theorem dX4_hole_16 : decode cX4_hole 16 = .ok (.ifCond .eq 26, 3) := by decide +kernel
theorem dX4_hole_19 : decode cX4_hole 19 = .ok (.iload_n 3, 1) := by decide +kernel
theorem dX4_hole_20 : decode cX4_hole 20 = .ok (.invokestatic 205, 3) := by decide +kernel
theorem dX4_hole_23 : decode cX4_hole 23 = .ok (.ifCond .eq 19, 3) := by decide +kernel
theorem dX4_hole_26 : decode cX4_hole 26 = .ok (.iload 4, 2) := by decide +kernel
theorem dX4_hole_28 : decode cX4_hole 28 = .ok (.ifCond .lt 14, 3) := by decide +kernel
theorem dX4_hole_31 : decode cX4_hole 31 = .ok (.iload 5, 2) := by decide +kernel
theorem dX4_hole_33 : decode cX4_hole 33 = .ok (.ifCond .lt 9, 3) := by decide +kernel
theorem dX4_hole_36 : decode cX4_hole 36 = .ok (.iload 5, 2) := by decide +kernel
theorem dX4_hole_38 : decode cX4_hole 38 = .ok (.iconst 1, 1) := by decide +kernel
theorem dX4_hole_39 : decode cX4_hole 39 = .ok (.if_icmp .le 5, 3) := by decide +kernel
theorem dX4_hole_42 : decode cX4_hole 42 = .ok (.iconst (-1), 1) := by decide +kernel
theorem dX4_hole_43 : decode cX4_hole 43 = .ok (.ireturn, 1) := by decide +kernel
theorem dX4_hole_44 : decode cX4_hole 44 = .ok (.aload_n 0, 1) := by decide +kernel
theorem dX4_hole_45 : decode cX4_hole 45 = .ok (.aload 6, 2) := by decide +kernel
theorem dX4_hole_47 : decode cX4_hole 47 = .ok (.iload_n 2, 1) := by decide +kernel
theorem dX4_hole_48 : decode cX4_hole 48 = .ok (.invokevirtual 208, 3) := by decide +kernel
theorem dX4_hole_51 : decode cX4_hole 51 = .ok (.iload 4, 2) := by decide +kernel
theorem dX4_hole_53 : decode cX4_hole 53 = .ok (.istore 7, 2) := by decide +kernel
theorem dX4_hole_55 : decode cX4_hole 55 = .ok (.iconst 0, 1) := by decide +kernel
theorem dX4_hole_56 : decode cX4_hole 56 = .ok (.istore 8, 2) := by decide +kernel
theorem dX4_hole_58 : decode cX4_hole 58 = .ok (.iconst 0, 1) := by decide +kernel
theorem dX4_hole_59 : decode cX4_hole 59 = .ok (.istore 9, 2) := by decide +kernel
theorem dX4_hole_61 : decode cX4_hole 61 = .ok (.iload 9, 2) := by decide +kernel
theorem dX4_hole_63 : decode cX4_hole 63 = .ok (.sipush 1296, 3) := by decide +kernel
theorem dX4_hole_66 : decode cX4_hole 66 = .ok (.if_icmp .ge 71, 3) := by decide +kernel
theorem dX4_hole_69 : decode cX4_hole 69 = .ok (.iload 8, 2) := by decide +kernel
theorem dX4_hole_71 : decode cX4_hole 71 = .ok (.iconst (-1), 1) := by decide +kernel
theorem dX4_hole_72 : decode cX4_hole 72 = .ok (.if_icmp .eq 65, 3) := by decide +kernel
theorem dX4_hole_75 : decode cX4_hole 75 = .ok (.aload_n 0, 1) := by decide +kernel
theorem dX4_hole_76 : decode cX4_hole 76 = .ok (.iload 8, 2) := by decide +kernel
theorem dX4_hole_78 : decode cX4_hole 78 = .ok (.iload_n 3, 1) := by decide +kernel
theorem dX4_hole_79 : decode cX4_hole 79 = .ok (.invokevirtual 212, 3) := by decide +kernel
theorem dX4_hole_82 : decode cX4_hole 82 = .ok (.istore 10, 2) := by decide +kernel
theorem dX4_hole_84 : decode cX4_hole 84 = .ok (.iload 10, 2) := by decide +kernel
theorem dX4_hole_86 : decode cX4_hole 86 = .ok (.invokestatic 216, 3) := by decide +kernel
theorem dX4_hole_89 : decode cX4_hole 89 = .ok (.istore 11, 2) := by decide +kernel
theorem dX4_hole_91 : decode cX4_hole 91 = .ok (.iload 7, 2) := by decide +kernel
theorem dX4_hole_93 : decode cX4_hole 93 = .ok (.iload 11, 2) := by decide +kernel
theorem dX4_hole_95 : decode cX4_hole 95 = .ok (.if_icmp .ge 21, 3) := by decide +kernel
theorem dX4_hole_98 : decode cX4_hole 98 = .ok (.iload 5, 2) := by decide +kernel
theorem dX4_hole_100 : decode cX4_hole 100 = .ok (.ifCond .ne 8, 3) := by decide +kernel
theorem dX4_hole_103 : decode cX4_hole 103 = .ok (.iload 8, 2) := by decide +kernel
theorem dX4_hole_105 : decode cX4_hole 105 = .ok (.goto 10, 3) := by decide +kernel
theorem dX4_hole_108 : decode cX4_hole 108 = .ok (.iload 10, 2) := by decide +kernel
theorem dX4_hole_110 : decode cX4_hole 110 = .ok (.iload 7, 2) := by decide +kernel
theorem dX4_hole_112 : decode cX4_hole 112 = .ok (.invokestatic 224, 3) := by decide +kernel
theorem dX4_hole_115 : decode cX4_hole 115 = .ok (.ireturn, 1) := by decide +kernel
theorem dX4_hole_116 : decode cX4_hole 116 = .ok (.iload 7, 2) := by decide +kernel
theorem dX4_hole_118 : decode cX4_hole 118 = .ok (.iload 11, 2) := by decide +kernel
theorem dX4_hole_120 : decode cX4_hole 120 = .ok (.isub, 1) := by decide +kernel
theorem dX4_hole_121 : decode cX4_hole 121 = .ok (.istore 7, 2) := by decide +kernel
theorem dX4_hole_123 : decode cX4_hole 123 = .ok (.aload_n 0, 1) := by decide +kernel
theorem dX4_hole_124 : decode cX4_hole 124 = .ok (.iload 8, 2) := by decide +kernel
theorem dX4_hole_126 : decode cX4_hole 126 = .ok (.invokevirtual 221, 3) := by decide +kernel
theorem dX4_hole_129 : decode cX4_hole 129 = .ok (.istore 8, 2) := by decide +kernel
theorem dX4_hole_131 : decode cX4_hole 131 = .ok (.iinc 9 1, 3) := by decide +kernel
theorem dX4_hole_134 : decode cX4_hole 134 = .ok (.goto (-73), 3) := by decide +kernel
theorem dX4_hole_137 : decode cX4_hole 137 = .ok (.iconst (-1), 1) := by decide +kernel
theorem dX4_hole_138 : decode cX4_hole 138 = .ok (.ireturn, 1) := by decide +kernel
theorem dX4_idle_0 : decode cX4_idle 0 = .ok (.iconst 0, 1) := by decide +kernel
theorem dX4_idle_1 : decode cX4_idle 1 = .ok (.istore_n 1, 1) := by decide +kernel
theorem dX4_idle_2 : decode cX4_idle 2 = .ok (.iconst 0, 1) := by decide +kernel
theorem dX4_idle_3 : decode cX4_idle 3 = .ok (.istore_n 2, 1) := by decide +kernel
theorem dX4_idle_4 : decode cX4_idle 4 = .ok (.iload_n 2, 1) := by decide +kernel
theorem dX4_idle_5 : decode cX4_idle 5 = .ok (.aload_n 0, 1) := by decide +kernel
theorem dX4_idle_6 : decode cX4_idle 6 = .ok (.getfield 144, 3) := by decide +kernel
theorem dX4_idle_9 : decode cX4_idle 9 = .ok (.if_icmp .ge 29, 3) := by decide +kernel
theorem dX4_idle_12 : decode cX4_idle 12 = .ok (.aload_n 0, 1) := by decide +kernel
theorem dX4_idle_13 : decode cX4_idle 13 = .ok (.iload_n 2, 1) := by decide +kernel
theorem dX4_idle_14 : decode cX4_idle 14 = .ok (.invokevirtual 69, 3) := by decide +kernel
theorem dX4_idle_17 : decode cX4_idle 17 = .ok (.astore_n 3, 1) := by decide +kernel
theorem dX4_idle_18 : decode cX4_idle 18 = .ok (.aload_n 3, 1) := by decide +kernel
theorem dX4_idle_19 : decode cX4_idle 19 = .ok (.ifnull 13, 3) := by decide +kernel
theorem dX4_idle_22 : decode cX4_idle 22 = .ok (.iload_n 1, 1) := by decide +kernel
theorem dX4_idle_23 : decode cX4_idle 23 = .ok (.aload_n 3, 1) := by decide +kernel
theorem dX4_idle_24 : decode cX4_idle 24 = .ok (.getfield 99, 3) := by decide +kernel
theorem dX4_idle_27 : decode cX4_idle 27 = .ok (.getfield 129, 3) := by decide +kernel
theorem dX4_idle_30 : decode cX4_idle 30 = .ok (.ior, 1) := by decide +kernel
theorem dX4_idle_31 : decode cX4_idle 31 = .ok (.istore_n 1, 1) := by decide +kernel
theorem dX4_idle_32 : decode cX4_idle 32 = .ok (.iinc 2 1, 3) := by decide +kernel
theorem dX4_idle_35 : decode cX4_idle 35 = .ok (.goto (-31), 3) := by decide +kernel
theorem dX4_idle_38 : decode cX4_idle 38 = .ok (.bipush 15, 2) := by decide +kernel
theorem dX4_idle_40 : decode cX4_idle 40 = .ok (.iload_n 1, 1) := by decide +kernel
theorem dX4_idle_41 : decode cX4_idle 41 = .ok (.iconst (-1), 1) := by decide +kernel
theorem dX4_idle_42 : decode cX4_idle 42 = .ok (.ixor, 1) := by decide +kernel
theorem dX4_idle_43 : decode cX4_idle 43 = .ok (.iand, 1) := by decide +kernel
theorem dX4_idle_44 : decode cX4_idle 44 = .ok (.ireturn, 1) := by decide +kernel
theorem dX4_claim_0 : decode cX4_claim 0 = .ok (.aload_n 0, 1) := by decide +kernel
theorem dX4_claim_1 : decode cX4_claim 1 = .ok (.iload_n 1, 1) := by decide +kernel
theorem dX4_claim_2 : decode cX4_claim 2 = .ok (.invokevirtual 69, 3) := by decide +kernel
theorem dX4_claim_5 : decode cX4_claim 5 = .ok (.astore_n 2, 1) := by decide +kernel
theorem dX4_claim_6 : decode cX4_claim 6 = .ok (.aload_n 2, 1) := by decide +kernel
theorem dX4_claim_7 : decode cX4_claim 7 = .ok (.ifnull 26, 3) := by decide +kernel
theorem dX4_claim_10 : decode cX4_claim 10 = .ok (.aload_n 2, 1) := by decide +kernel
theorem dX4_claim_11 : decode cX4_claim 11 = .ok (.getfield 73, 3) := by decide +kernel
theorem dX4_claim_14 : decode cX4_claim 14 = .ok (.ifCond .ne 19, 3) := by decide +kernel
theorem dX4_claim_17 : decode cX4_claim 17 = .ok (.aload_n 0, 1) := by decide +kernel
theorem dX4_claim_18 : decode cX4_claim 18 = .ok (.getfield 227, 3) := by decide +kernel
theorem dX4_claim_21 : decode cX4_claim 21 = .ok (.ifCond .lt 12, 3) := by decide +kernel
theorem dX4_claim_24 : decode cX4_claim 24 = .ok (.aload_n 0, 1) := by decide +kernel
theorem dX4_claim_25 : decode cX4_claim 25 = .ok (.getfield 227, 3) := by decide +kernel
theorem dX4_claim_28 : decode cX4_claim 28 = .ok (.bipush 20, 2) := by decide +kernel
theorem dX4_claim_30 : decode cX4_claim 30 = .ok (.if_icmp .lt 5, 3) := by decide +kernel
theorem dX4_claim_33 : decode cX4_claim 33 = .ok (.iconst (-1), 1) := by decide +kernel
theorem dX4_claim_34 : decode cX4_claim 34 = .ok (.ireturn, 1) := by decide +kernel
theorem dX4_claim_35 : decode cX4_claim 35 = .ok (.aload_n 0, 1) := by decide +kernel
theorem dX4_claim_36 : decode cX4_claim 36 = .ok (.getfield 32, 3) := by decide +kernel
theorem dX4_claim_39 : decode cX4_claim 39 = .ok (.aload_n 0, 1) := by decide +kernel
theorem dX4_claim_40 : decode cX4_claim 40 = .ok (.getfield 227, 3) := by decide +kernel
theorem dX4_claim_43 : decode cX4_claim 43 = .ok (.iload_n 1, 1) := by decide +kernel
theorem dX4_claim_44 : decode cX4_claim 44 = .ok (.iastore, 1) := by decide +kernel
theorem dX4_claim_45 : decode cX4_claim 45 = .ok (.aload_n 0, 1) := by decide +kernel
theorem dX4_claim_46 : decode cX4_claim 46 = .ok (.getfield 35, 3) := by decide +kernel
theorem dX4_claim_49 : decode cX4_claim 49 = .ok (.aload_n 0, 1) := by decide +kernel
theorem dX4_claim_50 : decode cX4_claim 50 = .ok (.getfield 227, 3) := by decide +kernel
theorem dX4_claim_53 : decode cX4_claim 53 = .ok (.aload_n 2, 1) := by decide +kernel
theorem dX4_claim_54 : decode cX4_claim 54 = .ok (.invokevirtual 230, 3) := by decide +kernel
theorem dX4_claim_57 : decode cX4_claim 57 = .ok (.iastore, 1) := by decide +kernel
theorem dX4_claim_58 : decode cX4_claim 58 = .ok (.aload_n 0, 1) := by decide +kernel
theorem dX4_claim_59 : decode cX4_claim 59 = .ok (.dup, 1) := by decide +kernel
theorem dX4_claim_60 : decode cX4_claim 60 = .ok (.getfield 227, 3) := by decide +kernel
theorem dX4_claim_63 : decode cX4_claim 63 = .ok (.iconst 1, 1) := by decide +kernel
theorem dX4_claim_64 : decode cX4_claim 64 = .ok (.iadd, 1) := by decide +kernel
theorem dX4_claim_65 : decode cX4_claim 65 = .ok (.putfield 227, 3) := by decide +kernel
theorem dX4_claim_68 : decode cX4_claim 68 = .ok (.aload_n 0, 1) := by decide +kernel
theorem dX4_claim_69 : decode cX4_claim 69 = .ok (.getfield 227, 3) := by decide +kernel
theorem dX4_claim_72 : decode cX4_claim 72 = .ok (.iconst 1, 1) := by decide +kernel
theorem dX4_claim_73 : decode cX4_claim 73 = .ok (.isub, 1) := by decide +kernel
theorem dX4_claim_74 : decode cX4_claim 74 = .ok (.ireturn, 1) := by decide +kernel
theorem dX4_claimed_0 : decode cX4_claimed 0 = .ok (.iload_n 1, 1) := by decide +kernel
theorem dX4_claimed_1 : decode cX4_claimed 1 = .ok (.ifCond .lt 17, 3) := by decide +kernel
theorem dX4_claimed_4 : decode cX4_claimed 4 = .ok (.iload_n 1, 1) := by decide +kernel
theorem dX4_claimed_5 : decode cX4_claimed 5 = .ok (.aload_n 0, 1) := by decide +kernel
theorem dX4_claimed_6 : decode cX4_claimed 6 = .ok (.getfield 227, 3) := by decide +kernel
theorem dX4_claimed_9 : decode cX4_claimed 9 = .ok (.if_icmp .ge 9, 3) := by decide +kernel
theorem dX4_claimed_12 : decode cX4_claimed 12 = .ok (.iload_n 1, 1) := by decide +kernel
theorem dX4_claimed_13 : decode cX4_claimed 13 = .ok (.bipush 20, 2) := by decide +kernel
theorem dX4_claimed_15 : decode cX4_claimed 15 = .ok (.if_icmp .lt 5, 3) := by decide +kernel
theorem dX4_claimed_18 : decode cX4_claimed 18 = .ok (.iconst (-1), 1) := by decide +kernel
theorem dX4_claimed_19 : decode cX4_claimed 19 = .ok (.ireturn, 1) := by decide +kernel
theorem dX4_claimed_20 : decode cX4_claimed 20 = .ok (.iload_n 2, 1) := by decide +kernel
theorem dX4_claimed_21 : decode cX4_claimed 21 = .ok (.tableswitch 59 0 2 #[27, 34, 41], 27) := by decide +kernel
theorem dX4_claimed_48 : decode cX4_claimed 48 = .ok (.aload_n 0, 1) := by decide +kernel
theorem dX4_claimed_49 : decode cX4_claimed 49 = .ok (.getfield 32, 3) := by decide +kernel
theorem dX4_claimed_52 : decode cX4_claimed 52 = .ok (.iload_n 1, 1) := by decide +kernel
theorem dX4_claimed_53 : decode cX4_claimed 53 = .ok (.iaload, 1) := by decide +kernel
theorem dX4_claimed_54 : decode cX4_claimed 54 = .ok (.ireturn, 1) := by decide +kernel
theorem dX4_claimed_55 : decode cX4_claimed 55 = .ok (.aload_n 0, 1) := by decide +kernel
theorem dX4_claimed_56 : decode cX4_claimed 56 = .ok (.getfield 35, 3) := by decide +kernel
theorem dX4_claimed_59 : decode cX4_claimed 59 = .ok (.iload_n 1, 1) := by decide +kernel
theorem dX4_claimed_60 : decode cX4_claimed 60 = .ok (.iaload, 1) := by decide +kernel
theorem dX4_claimed_61 : decode cX4_claimed 61 = .ok (.ireturn, 1) := by decide +kernel
theorem dX4_claimed_62 : decode cX4_claimed 62 = .ok (.aload_n 0, 1) := by decide +kernel
theorem dX4_claimed_63 : decode cX4_claimed 63 = .ok (.aload_n 0, 1) := by decide +kernel
theorem dX4_claimed_64 : decode cX4_claimed 64 = .ok (.aload_n 0, 1) := by decide +kernel
theorem dX4_claimed_65 : decode cX4_claimed 65 = .ok (.getfield 32, 3) := by decide +kernel
theorem dX4_claimed_68 : decode cX4_claimed 68 = .ok (.iload_n 1, 1) := by decide +kernel
theorem dX4_claimed_69 : decode cX4_claimed 69 = .ok (.iaload, 1) := by decide +kernel
theorem dX4_claimed_70 : decode cX4_claimed 70 = .ok (.invokevirtual 69, 3) := by decide +kernel
theorem dX4_claimed_73 : decode cX4_claimed 73 = .ok (.invokevirtual 138, 3) := by decide +kernel
theorem dX4_claimed_76 : decode cX4_claimed 76 = .ok (.invokestatic 119, 3) := by decide +kernel
theorem dX4_claimed_79 : decode cX4_claimed 79 = .ok (.ireturn, 1) := by decide +kernel
theorem dX4_claimed_80 : decode cX4_claimed 80 = .ok (.iconst (-1), 1) := by decide +kernel
theorem dX4_claimed_81 : decode cX4_claimed 81 = .ok (.ireturn, 1) := by decide +kernel
theorem dX4_codeAt_0 : decode cX4_codeAt 0 = .ok (.iload_n 1, 1) := by decide +kernel
theorem dX4_codeAt_1 : decode cX4_codeAt 1 = .ok (.ifCond .lt 21, 3) := by decide +kernel
theorem dX4_codeAt_4 : decode cX4_codeAt 4 = .ok (.iload_n 1, 1) := by decide +kernel
theorem dX4_codeAt_5 : decode cX4_codeAt 5 = .ok (.aload_n 0, 1) := by decide +kernel
theorem dX4_codeAt_6 : decode cX4_codeAt 6 = .ok (.getfield 11, 3) := by decide +kernel
theorem dX4_codeAt_9 : decode cX4_codeAt 9 = .ok (.arraylength, 1) := by decide +kernel
theorem dX4_codeAt_10 : decode cX4_codeAt 10 = .ok (.if_icmp .ge 12, 3) := by decide +kernel
theorem dX4_codeAt_13 : decode cX4_codeAt 13 = .ok (.aload_n 0, 1) := by decide +kernel
theorem dX4_codeAt_14 : decode cX4_codeAt 14 = .ok (.getfield 11, 3) := by decide +kernel
theorem dX4_codeAt_17 : decode cX4_codeAt 17 = .ok (.iload_n 1, 1) := by decide +kernel
theorem dX4_codeAt_18 : decode cX4_codeAt 18 = .ok (.aaload, 1) := by decide +kernel
theorem dX4_codeAt_19 : decode cX4_codeAt 19 = .ok (.goto 4, 3) := by decide +kernel
theorem dX4_codeAt_22 : decode cX4_codeAt 22 = .ok (.aconst_null, 1) := by decide +kernel
theorem dX4_codeAt_23 : decode cX4_codeAt 23 = .ok (.areturn, 1) := by decide +kernel
theorem dX4_runAt_0 : decode cX4_runAt 0 = .ok (.iload_n 1, 1) := by decide +kernel
theorem dX4_runAt_1 : decode cX4_runAt 1 = .ok (.ifCond .lt 29, 3) := by decide +kernel
theorem dX4_runAt_4 : decode cX4_runAt 4 = .ok (.iload_n 1, 1) := by decide +kernel
theorem dX4_runAt_5 : decode cX4_runAt 5 = .ok (.aload_n 0, 1) := by decide +kernel
theorem dX4_runAt_6 : decode cX4_runAt 6 = .ok (.getfield 144, 3) := by decide +kernel
theorem dX4_runAt_9 : decode cX4_runAt 9 = .ok (.if_icmp .ge 21, 3) := by decide +kernel
theorem dX4_runAt_12 : decode cX4_runAt 12 = .ok (.iload_n 1, 1) := by decide +kernel
theorem dX4_runAt_13 : decode cX4_runAt 13 = .ok (.aload_n 0, 1) := by decide +kernel
theorem dX4_runAt_14 : decode cX4_runAt 14 = .ok (.getfield 28, 3) := by decide +kernel
theorem dX4_runAt_17 : decode cX4_runAt 17 = .ok (.arraylength, 1) := by decide +kernel
theorem dX4_runAt_18 : decode cX4_runAt 18 = .ok (.if_icmp .ge 12, 3) := by decide +kernel
theorem dX4_runAt_21 : decode cX4_runAt 21 = .ok (.aload_n 0, 1) := by decide +kernel
theorem dX4_runAt_22 : decode cX4_runAt 22 = .ok (.getfield 28, 3) := by decide +kernel
theorem dX4_runAt_25 : decode cX4_runAt 25 = .ok (.iload_n 1, 1) := by decide +kernel
theorem dX4_runAt_26 : decode cX4_runAt 26 = .ok (.aaload, 1) := by decide +kernel
theorem dX4_runAt_27 : decode cX4_runAt 27 = .ok (.goto 4, 3) := by decide +kernel
theorem dX4_runAt_30 : decode cX4_runAt 30 = .ok (.aconst_null, 1) := by decide +kernel
theorem dX4_runAt_31 : decode cX4_runAt 31 = .ok (.areturn, 1) := by decide +kernel
theorem dX4_boundOf_0 : decode cX4_boundOf 0 = .ok (.iload_n 1, 1) := by decide +kernel
theorem dX4_boundOf_1 : decode cX4_boundOf 1 = .ok (.ifCond .lt 21, 3) := by decide +kernel
theorem dX4_boundOf_4 : decode cX4_boundOf 4 = .ok (.iload_n 1, 1) := by decide +kernel
theorem dX4_boundOf_5 : decode cX4_boundOf 5 = .ok (.aload_n 0, 1) := by decide +kernel
theorem dX4_boundOf_6 : decode cX4_boundOf 6 = .ok (.getfield 15, 3) := by decide +kernel
theorem dX4_boundOf_9 : decode cX4_boundOf 9 = .ok (.arraylength, 1) := by decide +kernel
theorem dX4_boundOf_10 : decode cX4_boundOf 10 = .ok (.if_icmp .ge 12, 3) := by decide +kernel
theorem dX4_boundOf_13 : decode cX4_boundOf 13 = .ok (.aload_n 0, 1) := by decide +kernel
theorem dX4_boundOf_14 : decode cX4_boundOf 14 = .ok (.getfield 15, 3) := by decide +kernel
theorem dX4_boundOf_17 : decode cX4_boundOf 17 = .ok (.iload_n 1, 1) := by decide +kernel
theorem dX4_boundOf_18 : decode cX4_boundOf 18 = .ok (.iaload, 1) := by decide +kernel
theorem dX4_boundOf_19 : decode cX4_boundOf 19 = .ok (.goto 4, 3) := by decide +kernel
theorem dX4_boundOf_22 : decode cX4_boundOf 22 = .ok (.iconst 1, 1) := by decide +kernel
theorem dX4_boundOf_23 : decode cX4_boundOf 23 = .ok (.ireturn, 1) := by decide +kernel
theorem dX4_enter_0 : decode cX4_enter 0 = .ok (.aload_n 0, 1) := by decide +kernel
theorem dX4_enter_1 : decode cX4_enter 1 = .ok (.getfield 144, 3) := by decide +kernel
theorem dX4_enter_4 : decode cX4_enter 4 = .ok (.ifCond .lt 15, 3) := by decide +kernel
theorem dX4_enter_7 : decode cX4_enter 7 = .ok (.aload_n 0, 1) := by decide +kernel
theorem dX4_enter_8 : decode cX4_enter 8 = .ok (.getfield 144, 3) := by decide +kernel
theorem dX4_enter_11 : decode cX4_enter 11 = .ok (.aload_n 0, 1) := by decide +kernel
theorem dX4_enter_12 : decode cX4_enter 12 = .ok (.getfield 28, 3) := by decide +kernel
theorem dX4_enter_15 : decode cX4_enter 15 = .ok (.arraylength, 1) := by decide +kernel
theorem dX4_enter_16 : decode cX4_enter 16 = .ok (.if_icmp .lt 5, 3) := by decide +kernel
theorem dX4_enter_19 : decode cX4_enter 19 = .ok (.iconst (-1), 1) := by decide +kernel
theorem dX4_enter_20 : decode cX4_enter 20 = .ok (.ireturn, 1) := by decide +kernel
theorem dX4_enter_21 : decode cX4_enter 21 = .ok (.aload_n 0, 1) := by decide +kernel
theorem dX4_enter_22 : decode cX4_enter 22 = .ok (.getfield 22, 3) := by decide +kernel
theorem dX4_enter_25 : decode cX4_enter 25 = .ok (.dup, 1) := by decide +kernel
theorem dX4_enter_26 : decode cX4_enter 26 = .ok (.getfield 142, 3) := by decide +kernel
theorem dX4_enter_29 : decode cX4_enter 29 = .ok (.iconst 1, 1) := by decide +kernel
theorem dX4_enter_30 : decode cX4_enter 30 = .ok (.iadd, 1) := by decide +kernel
theorem dX4_enter_31 : decode cX4_enter 31 = .ok (.putfield 142, 3) := by decide +kernel
theorem dX4_enter_34 : decode cX4_enter 34 = .ok (.aload_n 1, 1) := by decide +kernel
theorem dX4_enter_35 : decode cX4_enter 35 = .ok (.aload_n 0, 1) := by decide +kernel
theorem dX4_enter_36 : decode cX4_enter 36 = .ok (.getfield 22, 3) := by decide +kernel
theorem dX4_enter_39 : decode cX4_enter 39 = .ok (.invokevirtual 151, 3) := by decide +kernel
theorem dX4_enter_42 : decode cX4_enter 42 = .ok (.aload_n 1, 1) := by decide +kernel
theorem dX4_enter_43 : decode cX4_enter 43 = .ok (.aload_n 1, 1) := by decide +kernel
theorem dX4_enter_44 : decode cX4_enter 44 = .ok (.invokevirtual 234, 3) := by decide +kernel
theorem dX4_enter_47 : decode cX4_enter 47 = .ok (.ifCond .eq 15, 3) := by decide +kernel
theorem dX4_enter_50 : decode cX4_enter 50 = .ok (.aload_n 0, 1) := by decide +kernel
theorem dX4_enter_51 : decode cX4_enter 51 = .ok (.aload_n 1, 1) := by decide +kernel
theorem dX4_enter_52 : decode cX4_enter 52 = .ok (.invokevirtual 237, 3) := by decide +kernel
theorem dX4_enter_55 : decode cX4_enter 55 = .ok (.ifCond .ne 7, 3) := by decide +kernel
theorem dX4_enter_58 : decode cX4_enter 58 = .ok (.iconst 1, 1) := by decide +kernel
theorem dX4_enter_59 : decode cX4_enter 59 = .ok (.goto 4, 3) := by decide +kernel
theorem dX4_enter_62 : decode cX4_enter 62 = .ok (.iconst 0, 1) := by decide +kernel
theorem dX4_enter_63 : decode cX4_enter 63 = .ok (.putfield 240, 3) := by decide +kernel
theorem dX4_enter_66 : decode cX4_enter 66 = .ok (.aload_n 0, 1) := by decide +kernel
theorem dX4_enter_67 : decode cX4_enter 67 = .ok (.getfield 28, 3) := by decide +kernel
theorem dX4_enter_70 : decode cX4_enter 70 = .ok (.aload_n 0, 1) := by decide +kernel
theorem dX4_enter_71 : decode cX4_enter 71 = .ok (.getfield 144, 3) := by decide +kernel
theorem dX4_enter_74 : decode cX4_enter 74 = .ok (.aload_n 1, 1) := by decide +kernel
theorem dX4_enter_75 : decode cX4_enter 75 = .ok (.aastore, 1) := by decide +kernel
theorem dX4_enter_76 : decode cX4_enter 76 = .ok (.aload_n 0, 1) := by decide +kernel
theorem dX4_enter_77 : decode cX4_enter 77 = .ok (.dup, 1) := by decide +kernel
theorem dX4_enter_78 : decode cX4_enter 78 = .ok (.getfield 144, 3) := by decide +kernel
theorem dX4_enter_81 : decode cX4_enter 81 = .ok (.iconst 1, 1) := by decide +kernel
theorem dX4_enter_82 : decode cX4_enter 82 = .ok (.iadd, 1) := by decide +kernel
theorem dX4_enter_83 : decode cX4_enter 83 = .ok (.putfield 144, 3) := by decide +kernel
theorem dX4_enter_86 : decode cX4_enter 86 = .ok (.aload_n 0, 1) := by decide +kernel
theorem dX4_enter_87 : decode cX4_enter 87 = .ok (.getfield 144, 3) := by decide +kernel
theorem dX4_enter_90 : decode cX4_enter 90 = .ok (.iconst 1, 1) := by decide +kernel
theorem dX4_enter_91 : decode cX4_enter 91 = .ok (.isub, 1) := by decide +kernel
theorem dX4_enter_92 : decode cX4_enter 92 = .ok (.ireturn, 1) := by decide +kernel
theorem dX4_isCountedAlready_0 : decode cX4_isCountedAlready 0 = .ok (.iconst 0, 1) := by decide +kernel
theorem dX4_isCountedAlready_1 : decode cX4_isCountedAlready 1 = .ok (.istore_n 2, 1) := by decide +kernel
theorem dX4_isCountedAlready_2 : decode cX4_isCountedAlready 2 = .ok (.iload_n 2, 1) := by decide +kernel
theorem dX4_isCountedAlready_3 : decode cX4_isCountedAlready 3 = .ok (.aload_n 0, 1) := by decide +kernel
theorem dX4_isCountedAlready_4 : decode cX4_isCountedAlready 4 = .ok (.getfield 144, 3) := by decide +kernel
theorem dX4_isCountedAlready_7 : decode cX4_isCountedAlready 7 = .ok (.if_icmp .ge 36, 3) := by decide +kernel
theorem dX4_isCountedAlready_10 : decode cX4_isCountedAlready 10 = .ok (.aload_n 0, 1) := by decide +kernel
theorem dX4_isCountedAlready_11 : decode cX4_isCountedAlready 11 = .ok (.iload_n 2, 1) := by decide +kernel
theorem dX4_isCountedAlready_12 : decode cX4_isCountedAlready 12 = .ok (.invokevirtual 69, 3) := by decide +kernel
theorem dX4_isCountedAlready_15 : decode cX4_isCountedAlready 15 = .ok (.astore_n 3, 1) := by decide +kernel
theorem dX4_isCountedAlready_16 : decode cX4_isCountedAlready 16 = .ok (.aload_n 3, 1) := by decide +kernel
theorem dX4_isCountedAlready_17 : decode cX4_isCountedAlready 17 = .ok (.ifnull 20, 3) := by decide +kernel
theorem dX4_isCountedAlready_20 : decode cX4_isCountedAlready 20 = .ok (.aload_n 3, 1) := by decide +kernel
theorem dX4_isCountedAlready_21 : decode cX4_isCountedAlready 21 = .ok (.getfield 240, 3) := by decide +kernel
theorem dX4_isCountedAlready_24 : decode cX4_isCountedAlready 24 = .ok (.ifCond .eq 13, 3) := by decide +kernel
theorem dX4_isCountedAlready_27 : decode cX4_isCountedAlready 27 = .ok (.aload_n 3, 1) := by decide +kernel
theorem dX4_isCountedAlready_28 : decode cX4_isCountedAlready 28 = .ok (.aload_n 1, 1) := by decide +kernel
theorem dX4_isCountedAlready_29 : decode cX4_isCountedAlready 29 = .ok (.invokevirtual 243, 3) := by decide +kernel
theorem dX4_isCountedAlready_32 : decode cX4_isCountedAlready 32 = .ok (.ifCond .eq 5, 3) := by decide +kernel
theorem dX4_isCountedAlready_35 : decode cX4_isCountedAlready 35 = .ok (.iconst 1, 1) := by decide +kernel
theorem dX4_isCountedAlready_36 : decode cX4_isCountedAlready 36 = .ok (.ireturn, 1) := by decide +kernel
theorem dX4_isCountedAlready_37 : decode cX4_isCountedAlready 37 = .ok (.iinc 2 1, 3) := by decide +kernel
theorem dX4_isCountedAlready_40 : decode cX4_isCountedAlready 40 = .ok (.goto (-38), 3) := by decide +kernel
theorem dX4_isCountedAlready_43 : decode cX4_isCountedAlready 43 = .ok (.iconst 0, 1) := by decide +kernel
theorem dX4_isCountedAlready_44 : decode cX4_isCountedAlready 44 = .ok (.ireturn, 1) := by decide +kernel
theorem dX4_isStale_0 : decode cX4_isStale 0 = .ok (.aload_n 1, 1) := by decide +kernel
theorem dX4_isStale_1 : decode cX4_isStale 1 = .ok (.ifnonnull 5, 3) := by decide +kernel
theorem dX4_isStale_4 : decode cX4_isStale 4 = .ok (.iconst 0, 1) := by decide +kernel
theorem dX4_isStale_5 : decode cX4_isStale 5 = .ok (.ireturn, 1) := by decide +kernel
theorem dX4_isStale_6 : decode cX4_isStale 6 = .ok (.aload_n 1, 1) := by decide +kernel
theorem dX4_isStale_7 : decode cX4_isStale 7 = .ok (.getfield 84, 3) := by decide +kernel
theorem dX4_isStale_10 : decode cX4_isStale 10 = .ok (.aload_n 0, 1) := by decide +kernel
theorem dX4_isStale_11 : decode cX4_isStale 11 = .ok (.aload_n 1, 1) := by decide +kernel
theorem dX4_isStale_12 : decode cX4_isStale 12 = .ok (.getfield 81, 3) := by decide +kernel
theorem dX4_isStale_15 : decode cX4_isStale 15 = .ok (.invokevirtual 48, 3) := by decide +kernel
theorem dX4_isStale_18 : decode cX4_isStale 18 = .ok (.invokevirtual 246, 3) := by decide +kernel
theorem dX4_isStale_21 : decode cX4_isStale 21 = .ok (.ifCond .eq 17, 3) := by decide +kernel
theorem dX4_isStale_24 : decode cX4_isStale 24 = .ok (.aload_n 1, 1) := by decide +kernel
theorem dX4_isStale_25 : decode cX4_isStale 25 = .ok (.getfield 99, 3) := by decide +kernel
theorem dX4_isStale_28 : decode cX4_isStale 28 = .ok (.aload_n 0, 1) := by decide +kernel
theorem dX4_isStale_29 : decode cX4_isStale 29 = .ok (.getfield 22, 3) := by decide +kernel
theorem dX4_isStale_32 : decode cX4_isStale 32 = .ok (.invokevirtual 158, 3) := by decide +kernel
theorem dX4_isStale_35 : decode cX4_isStale 35 = .ok (.ifCond .eq 7, 3) := by decide +kernel
theorem dX4_isStale_38 : decode cX4_isStale 38 = .ok (.iconst 1, 1) := by decide +kernel
theorem dX4_isStale_39 : decode cX4_isStale 39 = .ok (.goto 4, 3) := by decide +kernel
theorem dX4_isStale_42 : decode cX4_isStale 42 = .ok (.iconst 0, 1) := by decide +kernel
theorem dX4_isStale_43 : decode cX4_isStale 43 = .ok (.ireturn, 1) := by decide +kernel
theorem dX4_canCompare_0 : decode cX4_canCompare 0 = .ok (.iload_n 0, 1) := by decide +kernel
theorem dX4_canCompare_1 : decode cX4_canCompare 1 = .ok (.invokestatic 195, 3) := by decide +kernel
theorem dX4_canCompare_4 : decode cX4_canCompare 4 = .ok (.ifCond .eq 33, 3) := by decide +kernel
theorem dX4_canCompare_7 : decode cX4_canCompare 7 = .ok (.iload_n 1, 1) := by decide +kernel
theorem dX4_canCompare_8 : decode cX4_canCompare 8 = .ok (.invokestatic 249, 3) := by decide +kernel
theorem dX4_canCompare_11 : decode cX4_canCompare 11 = .ok (.ifCond .eq 26, 3) := by decide +kernel
theorem dX4_canCompare_14 : decode cX4_canCompare 14 = .ok (.iload_n 2, 1) := by decide +kernel
theorem dX4_canCompare_15 : decode cX4_canCompare 15 = .ok (.invokestatic 249, 3) := by decide +kernel
theorem dX4_canCompare_18 : decode cX4_canCompare 18 = .ok (.ifCond .eq 19, 3) := by decide +kernel
theorem dX4_canCompare_21 : decode cX4_canCompare 21 = .ok (.iload_n 1, 1) := by decide +kernel
theorem dX4_canCompare_22 : decode cX4_canCompare 22 = .ok (.iload_n 2, 1) := by decide +kernel
theorem dX4_canCompare_23 : decode cX4_canCompare 23 = .ok (.if_icmp .eq 14, 3) := by decide +kernel
theorem dX4_canCompare_26 : decode cX4_canCompare 26 = .ok (.iload_n 3, 1) := by decide +kernel
theorem dX4_canCompare_27 : decode cX4_canCompare 27 = .ok (.invokestatic 59, 3) := by decide +kernel
theorem dX4_canCompare_30 : decode cX4_canCompare 30 = .ok (.ifCond .eq 7, 3) := by decide +kernel
theorem dX4_canCompare_33 : decode cX4_canCompare 33 = .ok (.iconst 1, 1) := by decide +kernel
theorem dX4_canCompare_34 : decode cX4_canCompare 34 = .ok (.goto 4, 3) := by decide +kernel
theorem dX4_canCompare_37 : decode cX4_canCompare 37 = .ok (.iconst 0, 1) := by decide +kernel
theorem dX4_canCompare_38 : decode cX4_canCompare 38 = .ok (.ireturn, 1) := by decide +kernel
theorem dX4_standsFor_0 : decode cX4_standsFor 0 = .ok (.aload_n 0, 1) := by decide +kernel
theorem dX4_standsFor_1 : decode cX4_standsFor 1 = .ok (.ifnull 34, 3) := by decide +kernel
theorem dX4_standsFor_4 : decode cX4_standsFor 4 = .ok (.aload_n 0, 1) := by decide +kernel
theorem dX4_standsFor_5 : decode cX4_standsFor 5 = .ok (.getfield 240, 3) := by decide +kernel
theorem dX4_standsFor_8 : decode cX4_standsFor 8 = .ok (.ifCond .eq 27, 3) := by decide +kernel
theorem dX4_standsFor_11 : decode cX4_standsFor 11 = .ok (.aload_n 0, 1) := by decide +kernel
theorem dX4_standsFor_12 : decode cX4_standsFor 12 = .ok (.getfield 88, 3) := by decide +kernel
theorem dX4_standsFor_15 : decode cX4_standsFor 15 = .ok (.iload_n 3, 1) := by decide +kernel
theorem dX4_standsFor_16 : decode cX4_standsFor 16 = .ok (.if_icmp .ne 19, 3) := by decide +kernel
theorem dX4_standsFor_19 : decode cX4_standsFor 19 = .ok (.aload_n 0, 1) := by decide +kernel
theorem dX4_standsFor_20 : decode cX4_standsFor 20 = .ok (.getfield 113, 3) := by decide +kernel
theorem dX4_standsFor_23 : decode cX4_standsFor 23 = .ok (.iload_n 1, 1) := by decide +kernel
theorem dX4_standsFor_24 : decode cX4_standsFor 24 = .ok (.invokestatic 252, 3) := by decide +kernel
theorem dX4_standsFor_27 : decode cX4_standsFor 27 = .ok (.iload_n 2, 1) := by decide +kernel
theorem dX4_standsFor_28 : decode cX4_standsFor 28 = .ok (.if_icmp .ne 7, 3) := by decide +kernel
theorem dX4_standsFor_31 : decode cX4_standsFor 31 = .ok (.iconst 1, 1) := by decide +kernel
theorem dX4_standsFor_32 : decode cX4_standsFor 32 = .ok (.goto 4, 3) := by decide +kernel
theorem dX4_standsFor_35 : decode cX4_standsFor 35 = .ok (.iconst 0, 1) := by decide +kernel
theorem dX4_standsFor_36 : decode cX4_standsFor 36 = .ok (.ireturn, 1) := by decide +kernel
theorem dX4_countPairs_0 : decode cX4_countPairs 0 = .ok (.iconst 0, 1) := by decide +kernel
theorem dX4_countPairs_1 : decode cX4_countPairs 1 = .ok (.istore 6, 2) := by decide +kernel
theorem dX4_countPairs_3 : decode cX4_countPairs 3 = .ok (.iconst 0, 1) := by decide +kernel
theorem dX4_countPairs_4 : decode cX4_countPairs 4 = .ok (.istore 7, 2) := by decide +kernel
theorem dX4_countPairs_6 : decode cX4_countPairs 6 = .ok (.iload 7, 2) := by decide +kernel
theorem dX4_countPairs_8 : decode cX4_countPairs 8 = .ok (.aload_n 0, 1) := by decide +kernel
theorem dX4_countPairs_9 : decode cX4_countPairs 9 = .ok (.getfield 144, 3) := by decide +kernel
theorem dX4_countPairs_12 : decode cX4_countPairs 12 = .ok (.if_icmp .ge 102, 3) := by decide +kernel
theorem dX4_countPairs_15 : decode cX4_countPairs 15 = .ok (.aload_n 0, 1) := by decide +kernel
theorem dX4_countPairs_16 : decode cX4_countPairs 16 = .ok (.iload 7, 2) := by decide +kernel
theorem dX4_countPairs_18 : decode cX4_countPairs 18 = .ok (.invokevirtual 69, 3) := by decide +kernel
theorem dX4_countPairs_21 : decode cX4_countPairs 21 = .ok (.astore 8, 2) := by decide +kernel
theorem dX4_countPairs_23 : decode cX4_countPairs 23 = .ok (.aload 8, 2) := by decide +kernel
theorem dX4_countPairs_25 : decode cX4_countPairs 25 = .ok (.iload_n 1, 1) := by decide +kernel
theorem dX4_countPairs_26 : decode cX4_countPairs 26 = .ok (.iload_n 2, 1) := by decide +kernel
theorem dX4_countPairs_27 : decode cX4_countPairs 27 = .ok (.iload 4, 2) := by decide +kernel
theorem dX4_countPairs_29 : decode cX4_countPairs 29 = .ok (.invokestatic 180, 3) := by decide +kernel
theorem dX4_countPairs_32 : decode cX4_countPairs 32 = .ok (.ifCond .ne 6, 3) := by decide +kernel
theorem dX4_countPairs_35 : decode cX4_countPairs 35 = .ok (.goto 73, 3) := by decide +kernel
theorem dX4_countPairs_38 : decode cX4_countPairs 38 = .ok (.iconst 0, 1) := by decide +kernel
theorem dX4_countPairs_39 : decode cX4_countPairs 39 = .ok (.istore 9, 2) := by decide +kernel
theorem dX4_countPairs_41 : decode cX4_countPairs 41 = .ok (.iload 9, 2) := by decide +kernel
theorem dX4_countPairs_43 : decode cX4_countPairs 43 = .ok (.aload_n 0, 1) := by decide +kernel
theorem dX4_countPairs_44 : decode cX4_countPairs 44 = .ok (.getfield 144, 3) := by decide +kernel
theorem dX4_countPairs_47 : decode cX4_countPairs 47 = .ok (.if_icmp .ge 61, 3) := by decide +kernel
theorem dX4_countPairs_50 : decode cX4_countPairs 50 = .ok (.aload_n 0, 1) := by decide +kernel
theorem dX4_countPairs_51 : decode cX4_countPairs 51 = .ok (.iload 9, 2) := by decide +kernel
theorem dX4_countPairs_53 : decode cX4_countPairs 53 = .ok (.invokevirtual 69, 3) := by decide +kernel
theorem dX4_countPairs_56 : decode cX4_countPairs 56 = .ok (.astore 10, 2) := by decide +kernel
theorem dX4_countPairs_58 : decode cX4_countPairs 58 = .ok (.aload 10, 2) := by decide +kernel
theorem dX4_countPairs_60 : decode cX4_countPairs 60 = .ok (.iload_n 1, 1) := by decide +kernel
theorem dX4_countPairs_61 : decode cX4_countPairs 61 = .ok (.iload_n 3, 1) := by decide +kernel
theorem dX4_countPairs_62 : decode cX4_countPairs 62 = .ok (.iload 4, 2) := by decide +kernel
theorem dX4_countPairs_64 : decode cX4_countPairs 64 = .ok (.invokestatic 180, 3) := by decide +kernel
theorem dX4_countPairs_67 : decode cX4_countPairs 67 = .ok (.ifCond .eq 35, 3) := by decide +kernel
theorem dX4_countPairs_70 : decode cX4_countPairs 70 = .ok (.aload 8, 2) := by decide +kernel
theorem dX4_countPairs_72 : decode cX4_countPairs 72 = .ok (.aload 10, 2) := by decide +kernel
theorem dX4_countPairs_74 : decode cX4_countPairs 74 = .ok (.iload_n 1, 1) := by decide +kernel
theorem dX4_countPairs_75 : decode cX4_countPairs 75 = .ok (.invokevirtual 184, 3) := by decide +kernel
theorem dX4_countPairs_78 : decode cX4_countPairs 78 = .ok (.ifCond .eq 24, 3) := by decide +kernel
theorem dX4_countPairs_81 : decode cX4_countPairs 81 = .ok (.aload 8, 2) := by decide +kernel
theorem dX4_countPairs_83 : decode cX4_countPairs 83 = .ok (.invokevirtual 230, 3) := by decide +kernel
theorem dX4_countPairs_86 : decode cX4_countPairs 86 = .ok (.aload 10, 2) := by decide +kernel
theorem dX4_countPairs_88 : decode cX4_countPairs 88 = .ok (.invokevirtual 230, 3) := by decide +kernel
theorem dX4_countPairs_91 : decode cX4_countPairs 91 = .ok (.iload 5, 2) := by decide +kernel
theorem dX4_countPairs_93 : decode cX4_countPairs 93 = .ok (.invokestatic 255, 3) := by decide +kernel
theorem dX4_countPairs_96 : decode cX4_countPairs 96 = .ok (.ifCond .eq 6, 3) := by decide +kernel
theorem dX4_countPairs_99 : decode cX4_countPairs 99 = .ok (.iinc 6 1, 3) := by decide +kernel
theorem dX4_countPairs_102 : decode cX4_countPairs 102 = .ok (.iinc 9 1, 3) := by decide +kernel
theorem dX4_countPairs_105 : decode cX4_countPairs 105 = .ok (.goto (-64), 3) := by decide +kernel
theorem dX4_countPairs_108 : decode cX4_countPairs 108 = .ok (.iinc 7 1, 3) := by decide +kernel
theorem dX4_countPairs_111 : decode cX4_countPairs 111 = .ok (.goto (-105), 3) := by decide +kernel
theorem dX4_countPairs_114 : decode cX4_countPairs 114 = .ok (.iload 6, 2) := by decide +kernel
theorem dX4_countPairs_116 : decode cX4_countPairs 116 = .ok (.ireturn, 1) := by decide +kernel
theorem dX4_endsAsAsked_0 : decode cX4_endsAsAsked 0 = .ok (.iload_n 2, 1) := by decide +kernel
theorem dX4_endsAsAsked_1 : decode cX4_endsAsAsked 1 = .ok (.iconst 1, 1) := by decide +kernel
theorem dX4_endsAsAsked_2 : decode cX4_endsAsAsked 2 = .ok (.if_icmp .ne 14, 3) := by decide +kernel
theorem dX4_endsAsAsked_5 : decode cX4_endsAsAsked 5 = .ok (.iload_n 1, 1) := by decide +kernel
theorem dX4_endsAsAsked_6 : decode cX4_endsAsAsked 6 = .ok (.iload_n 0, 1) := by decide +kernel
theorem dX4_endsAsAsked_7 : decode cX4_endsAsAsked 7 = .ok (.if_icmp .le 7, 3) := by decide +kernel
theorem dX4_endsAsAsked_10 : decode cX4_endsAsAsked 10 = .ok (.iconst 1, 1) := by decide +kernel
theorem dX4_endsAsAsked_11 : decode cX4_endsAsAsked 11 = .ok (.goto 4, 3) := by decide +kernel
theorem dX4_endsAsAsked_14 : decode cX4_endsAsAsked 14 = .ok (.iconst 0, 1) := by decide +kernel
theorem dX4_endsAsAsked_15 : decode cX4_endsAsAsked 15 = .ok (.ireturn, 1) := by decide +kernel
theorem dX4_endsAsAsked_16 : decode cX4_endsAsAsked 16 = .ok (.iload_n 2, 1) := by decide +kernel
theorem dX4_endsAsAsked_17 : decode cX4_endsAsAsked 17 = .ok (.iconst 2, 1) := by decide +kernel
theorem dX4_endsAsAsked_18 : decode cX4_endsAsAsked 18 = .ok (.if_icmp .ne 14, 3) := by decide +kernel
theorem dX4_endsAsAsked_21 : decode cX4_endsAsAsked 21 = .ok (.iload_n 1, 1) := by decide +kernel
theorem dX4_endsAsAsked_22 : decode cX4_endsAsAsked 22 = .ok (.iload_n 0, 1) := by decide +kernel
theorem dX4_endsAsAsked_23 : decode cX4_endsAsAsked 23 = .ok (.if_icmp .ge 7, 3) := by decide +kernel
theorem dX4_endsAsAsked_26 : decode cX4_endsAsAsked 26 = .ok (.iconst 1, 1) := by decide +kernel
theorem dX4_endsAsAsked_27 : decode cX4_endsAsAsked 27 = .ok (.goto 4, 3) := by decide +kernel
theorem dX4_endsAsAsked_30 : decode cX4_endsAsAsked 30 = .ok (.iconst 0, 1) := by decide +kernel
theorem dX4_endsAsAsked_31 : decode cX4_endsAsAsked 31 = .ok (.ireturn, 1) := by decide +kernel
theorem dX4_endsAsAsked_32 : decode cX4_endsAsAsked 32 = .ok (.iconst 1, 1) := by decide +kernel
theorem dX4_endsAsAsked_33 : decode cX4_endsAsAsked 33 = .ok (.ireturn, 1) := by decide +kernel
theorem dX4_judge_0 : decode cX4_judge 0 = .ok (.aload_n 0, 1) := by decide +kernel
theorem dX4_judge_1 : decode cX4_judge 1 = .ok (.iload_n 1, 1) := by decide +kernel
theorem dX4_judge_2 : decode cX4_judge 2 = .ok (.iload_n 2, 1) := by decide +kernel
theorem dX4_judge_3 : decode cX4_judge 3 = .ok (.iload_n 3, 1) := by decide +kernel
theorem dX4_judge_4 : decode cX4_judge 4 = .ok (.iload 4, 2) := by decide +kernel
theorem dX4_judge_6 : decode cX4_judge 6 = .ok (.iconst 1, 1) := by decide +kernel
theorem dX4_judge_7 : decode cX4_judge 7 = .ok (.invokevirtual 176, 3) := by decide +kernel
theorem dX4_judge_10 : decode cX4_judge 10 = .ok (.istore 7, 2) := by decide +kernel
theorem dX4_judge_12 : decode cX4_judge 12 = .ok (.iload 7, 2) := by decide +kernel
theorem dX4_judge_14 : decode cX4_judge 14 = .ok (.aload_n 0, 1) := by decide +kernel
theorem dX4_judge_15 : decode cX4_judge 15 = .ok (.iload_n 1, 1) := by decide +kernel
theorem dX4_judge_16 : decode cX4_judge 16 = .ok (.iload_n 2, 1) := by decide +kernel
theorem dX4_judge_17 : decode cX4_judge 17 = .ok (.iload_n 3, 1) := by decide +kernel
theorem dX4_judge_18 : decode cX4_judge 18 = .ok (.iload 4, 2) := by decide +kernel
theorem dX4_judge_20 : decode cX4_judge 20 = .ok (.iconst 2, 1) := by decide +kernel
theorem dX4_judge_21 : decode cX4_judge 21 = .ok (.invokevirtual 176, 3) := by decide +kernel
theorem dX4_judge_24 : decode cX4_judge 24 = .ok (.iadd, 1) := by decide +kernel
theorem dX4_judge_25 : decode cX4_judge 25 = .ok (.istore 8, 2) := by decide +kernel
theorem dX4_judge_27 : decode cX4_judge 27 = .ok (.iload 8, 2) := by decide +kernel
theorem dX4_judge_29 : decode cX4_judge 29 = .ok (.bipush 30, 2) := by decide +kernel
theorem dX4_judge_31 : decode cX4_judge 31 = .ok (.if_icmp .le 5, 3) := by decide +kernel
theorem dX4_judge_34 : decode cX4_judge 34 = .ok (.iconst (-1), 1) := by decide +kernel
theorem dX4_judge_35 : decode cX4_judge 35 = .ok (.ireturn, 1) := by decide +kernel
theorem dX4_judge_36 : decode cX4_judge 36 = .ok (.lload 5, 2) := by decide +kernel
theorem dX4_judge_38 : decode cX4_judge 38 = .ok (.iload 8, 2) := by decide +kernel
theorem dX4_judge_40 : decode cX4_judge 40 = .ok (.iload 7, 2) := by decide +kernel
theorem dX4_judge_42 : decode cX4_judge 42 = .ok (.invokestatic 259, 3) := by decide +kernel
theorem dX4_judge_45 : decode cX4_judge 45 = .ok (.lmul, 1) := by decide +kernel
theorem dX4_judge_46 : decode cX4_judge 46 = .ok (.lconst 1, 1) := by decide +kernel
theorem dX4_judge_47 : decode cX4_judge 47 = .ok (.iload 8, 2) := by decide +kernel
theorem dX4_judge_49 : decode cX4_judge 49 = .ok (.lshl, 1) := by decide +kernel
theorem dX4_judge_50 : decode cX4_judge 50 = .ok (.lcmp, 1) := by decide +kernel
theorem dX4_judge_51 : decode cX4_judge 51 = .ok (.ifCond .gt 7, 3) := by decide +kernel
theorem dX4_judge_54 : decode cX4_judge 54 = .ok (.iconst 1, 1) := by decide +kernel
theorem dX4_judge_55 : decode cX4_judge 55 = .ok (.goto 4, 3) := by decide +kernel
theorem dX4_judge_58 : decode cX4_judge 58 = .ok (.iconst 0, 1) := by decide +kernel
theorem dX4_judge_59 : decode cX4_judge 59 = .ok (.invokestatic 119, 3) := by decide +kernel
theorem dX4_judge_62 : decode cX4_judge 62 = .ok (.ireturn, 1) := by decide +kernel
theorem dX4_waysToWin_0 : decode cX4_waysToWin 0 = .ok (.lconst 0, 1) := by decide +kernel
theorem dX4_waysToWin_1 : decode cX4_waysToWin 1 = .ok (.lstore_n 2, 1) := by decide +kernel
theorem dX4_waysToWin_2 : decode cX4_waysToWin 2 = .ok (.lconst 1, 1) := by decide +kernel
theorem dX4_waysToWin_3 : decode cX4_waysToWin 3 = .ok (.lstore 4, 2) := by decide +kernel
theorem dX4_waysToWin_5 : decode cX4_waysToWin 5 = .ok (.iconst 0, 1) := by decide +kernel
theorem dX4_waysToWin_6 : decode cX4_waysToWin 6 = .ok (.istore 6, 2) := by decide +kernel
theorem dX4_waysToWin_8 : decode cX4_waysToWin 8 = .ok (.iload 6, 2) := by decide +kernel
theorem dX4_waysToWin_10 : decode cX4_waysToWin 10 = .ok (.iload_n 0, 1) := by decide +kernel
theorem dX4_waysToWin_11 : decode cX4_waysToWin 11 = .ok (.iload_n 1, 1) := by decide +kernel
theorem dX4_waysToWin_12 : decode cX4_waysToWin 12 = .ok (.isub, 1) := by decide +kernel
theorem dX4_waysToWin_13 : decode cX4_waysToWin 13 = .ok (.if_icmp .gt 30, 3) := by decide +kernel
theorem dX4_waysToWin_16 : decode cX4_waysToWin 16 = .ok (.lload_n 2, 1) := by decide +kernel
theorem dX4_waysToWin_17 : decode cX4_waysToWin 17 = .ok (.lload 4, 2) := by decide +kernel
theorem dX4_waysToWin_19 : decode cX4_waysToWin 19 = .ok (.ladd, 1) := by decide +kernel
theorem dX4_waysToWin_20 : decode cX4_waysToWin 20 = .ok (.lstore_n 2, 1) := by decide +kernel
theorem dX4_waysToWin_21 : decode cX4_waysToWin 21 = .ok (.lload 4, 2) := by decide +kernel
theorem dX4_waysToWin_23 : decode cX4_waysToWin 23 = .ok (.iload_n 0, 1) := by decide +kernel
theorem dX4_waysToWin_24 : decode cX4_waysToWin 24 = .ok (.iload 6, 2) := by decide +kernel
theorem dX4_waysToWin_26 : decode cX4_waysToWin 26 = .ok (.isub, 1) := by decide +kernel
theorem dX4_waysToWin_27 : decode cX4_waysToWin 27 = .ok (.i2l, 1) := by decide +kernel
theorem dX4_waysToWin_28 : decode cX4_waysToWin 28 = .ok (.lmul, 1) := by decide +kernel
theorem dX4_waysToWin_29 : decode cX4_waysToWin 29 = .ok (.iload 6, 2) := by decide +kernel
theorem dX4_waysToWin_31 : decode cX4_waysToWin 31 = .ok (.iconst 1, 1) := by decide +kernel
theorem dX4_waysToWin_32 : decode cX4_waysToWin 32 = .ok (.iadd, 1) := by decide +kernel
theorem dX4_waysToWin_33 : decode cX4_waysToWin 33 = .ok (.i2l, 1) := by decide +kernel
theorem dX4_waysToWin_34 : decode cX4_waysToWin 34 = .ok (.ldiv, 1) := by decide +kernel
theorem dX4_waysToWin_35 : decode cX4_waysToWin 35 = .ok (.lstore 4, 2) := by decide +kernel
theorem dX4_waysToWin_37 : decode cX4_waysToWin 37 = .ok (.iinc 6 1, 3) := by decide +kernel
theorem dX4_waysToWin_40 : decode cX4_waysToWin 40 = .ok (.goto (-32), 3) := by decide +kernel
theorem dX4_waysToWin_43 : decode cX4_waysToWin 43 = .ok (.lload_n 2, 1) := by decide +kernel
theorem dX4_waysToWin_44 : decode cX4_waysToWin 44 = .ok (.lreturn, 1) := by decide +kernel
theorem dX4_beatsOthers_0 : decode cX4_beatsOthers 0 = .ok (.aload_n 0, 1) := by decide +kernel
theorem dX4_beatsOthers_1 : decode cX4_beatsOthers 1 = .ok (.iload_n 1, 1) := by decide +kernel
theorem dX4_beatsOthers_2 : decode cX4_beatsOthers 2 = .ok (.invokevirtual 198, 3) := by decide +kernel
theorem dX4_beatsOthers_5 : decode cX4_beatsOthers 5 = .ok (.istore 6, 2) := by decide +kernel
theorem dX4_beatsOthers_7 : decode cX4_beatsOthers 7 = .ok (.iconst 0, 1) := by decide +kernel
theorem dX4_beatsOthers_8 : decode cX4_beatsOthers 8 = .ok (.istore 7, 2) := by decide +kernel
theorem dX4_beatsOthers_10 : decode cX4_beatsOthers 10 = .ok (.iload 7, 2) := by decide +kernel
theorem dX4_beatsOthers_12 : decode cX4_beatsOthers 12 = .ok (.iload 6, 2) := by decide +kernel
theorem dX4_beatsOthers_14 : decode cX4_beatsOthers 14 = .ok (.if_icmp .ge 32, 3) := by decide +kernel
theorem dX4_beatsOthers_17 : decode cX4_beatsOthers 17 = .ok (.iload 7, 2) := by decide +kernel
theorem dX4_beatsOthers_19 : decode cX4_beatsOthers 19 = .ok (.iload_n 2, 1) := by decide +kernel
theorem dX4_beatsOthers_20 : decode cX4_beatsOthers 20 = .ok (.if_icmp .eq 20, 3) := by decide +kernel
theorem dX4_beatsOthers_23 : decode cX4_beatsOthers 23 = .ok (.aload_n 0, 1) := by decide +kernel
theorem dX4_beatsOthers_24 : decode cX4_beatsOthers 24 = .ok (.iload_n 1, 1) := by decide +kernel
theorem dX4_beatsOthers_25 : decode cX4_beatsOthers 25 = .ok (.iload 7, 2) := by decide +kernel
theorem dX4_beatsOthers_27 : decode cX4_beatsOthers 27 = .ok (.iload_n 2, 1) := by decide +kernel
theorem dX4_beatsOthers_28 : decode cX4_beatsOthers 28 = .ok (.iload_n 3, 1) := by decide +kernel
theorem dX4_beatsOthers_29 : decode cX4_beatsOthers 29 = .ok (.lload 4, 2) := by decide +kernel
theorem dX4_beatsOthers_31 : decode cX4_beatsOthers 31 = .ok (.invokevirtual 191, 3) := by decide +kernel
theorem dX4_beatsOthers_34 : decode cX4_beatsOthers 34 = .ok (.iconst 1, 1) := by decide +kernel
theorem dX4_beatsOthers_35 : decode cX4_beatsOthers 35 = .ok (.if_icmp .eq 5, 3) := by decide +kernel
theorem dX4_beatsOthers_38 : decode cX4_beatsOthers 38 = .ok (.iconst 0, 1) := by decide +kernel
theorem dX4_beatsOthers_39 : decode cX4_beatsOthers 39 = .ok (.ireturn, 1) := by decide +kernel
theorem dX4_beatsOthers_40 : decode cX4_beatsOthers 40 = .ok (.iinc 7 1, 3) := by decide +kernel
theorem dX4_beatsOthers_43 : decode cX4_beatsOthers 43 = .ok (.goto (-33), 3) := by decide +kernel
theorem dX4_beatsOthers_46 : decode cX4_beatsOthers 46 = .ok (.iconst 1, 1) := by decide +kernel
theorem dX4_beatsOthers_47 : decode cX4_beatsOthers 47 = .ok (.ireturn, 1) := by decide +kernel
theorem dX4_gatherFillers_0 : decode cX4_gatherFillers 0 = .ok (.aload_n 0, 1) := by decide +kernel
theorem dX4_gatherFillers_1 : decode cX4_gatherFillers 1 = .ok (.iconst 0, 1) := by decide +kernel
theorem dX4_gatherFillers_2 : decode cX4_gatherFillers 2 = .ok (.putfield 263, 3) := by decide +kernel
theorem dX4_gatherFillers_5 : decode cX4_gatherFillers 5 = .ok (.iconst 0, 1) := by decide +kernel
theorem dX4_gatherFillers_6 : decode cX4_gatherFillers 6 = .ok (.istore_n 3, 1) := by decide +kernel
theorem dX4_gatherFillers_7 : decode cX4_gatherFillers 7 = .ok (.iload_n 3, 1) := by decide +kernel
theorem dX4_gatherFillers_8 : decode cX4_gatherFillers 8 = .ok (.aload_n 0, 1) := by decide +kernel
theorem dX4_gatherFillers_9 : decode cX4_gatherFillers 9 = .ok (.getfield 144, 3) := by decide +kernel
theorem dX4_gatherFillers_12 : decode cX4_gatherFillers 12 = .ok (.if_icmp .ge 68, 3) := by decide +kernel
theorem dX4_gatherFillers_15 : decode cX4_gatherFillers 15 = .ok (.aload_n 0, 1) := by decide +kernel
theorem dX4_gatherFillers_16 : decode cX4_gatherFillers 16 = .ok (.iload_n 3, 1) := by decide +kernel
theorem dX4_gatherFillers_17 : decode cX4_gatherFillers 17 = .ok (.invokevirtual 69, 3) := by decide +kernel
theorem dX4_gatherFillers_20 : decode cX4_gatherFillers 20 = .ok (.astore 4, 2) := by decide +kernel
theorem dX4_gatherFillers_22 : decode cX4_gatherFillers 22 = .ok (.aload 4, 2) := by decide +kernel
theorem dX4_gatherFillers_24 : decode cX4_gatherFillers 24 = .ok (.ifnull 50, 3) := by decide +kernel
theorem dX4_gatherFillers_27 : decode cX4_gatherFillers 27 = .ok (.aload 4, 2) := by decide +kernel
theorem dX4_gatherFillers_29 : decode cX4_gatherFillers 29 = .ok (.aload_n 1, 1) := by decide +kernel
theorem dX4_gatherFillers_30 : decode cX4_gatherFillers 30 = .ok (.iload_n 2, 1) := by decide +kernel
theorem dX4_gatherFillers_31 : decode cX4_gatherFillers 31 = .ok (.aload_n 0, 1) := by decide +kernel
theorem dX4_gatherFillers_32 : decode cX4_gatherFillers 32 = .ok (.getfield 22, 3) := by decide +kernel
theorem dX4_gatherFillers_35 : decode cX4_gatherFillers 35 = .ok (.invokevirtual 168, 3) := by decide +kernel
theorem dX4_gatherFillers_38 : decode cX4_gatherFillers 38 = .ok (.ifCond .eq 36, 3) := by decide +kernel
theorem dX4_gatherFillers_41 : decode cX4_gatherFillers 41 = .ok (.aload_n 0, 1) := by decide +kernel
theorem dX4_gatherFillers_42 : decode cX4_gatherFillers 42 = .ok (.getfield 263, 3) := by decide +kernel
theorem dX4_gatherFillers_45 : decode cX4_gatherFillers 45 = .ok (.aload_n 0, 1) := by decide +kernel
theorem dX4_gatherFillers_46 : decode cX4_gatherFillers 46 = .ok (.getfield 38, 3) := by decide +kernel
theorem dX4_gatherFillers_49 : decode cX4_gatherFillers 49 = .ok (.arraylength, 1) := by decide +kernel
theorem dX4_gatherFillers_50 : decode cX4_gatherFillers 50 = .ok (.if_icmp .ge 24, 3) := by decide +kernel
theorem dX4_gatherFillers_53 : decode cX4_gatherFillers 53 = .ok (.aload_n 0, 1) := by decide +kernel
theorem dX4_gatherFillers_54 : decode cX4_gatherFillers 54 = .ok (.getfield 38, 3) := by decide +kernel
theorem dX4_gatherFillers_57 : decode cX4_gatherFillers 57 = .ok (.aload_n 0, 1) := by decide +kernel
theorem dX4_gatherFillers_58 : decode cX4_gatherFillers 58 = .ok (.getfield 263, 3) := by decide +kernel
theorem dX4_gatherFillers_61 : decode cX4_gatherFillers 61 = .ok (.aload 4, 2) := by decide +kernel
theorem dX4_gatherFillers_63 : decode cX4_gatherFillers 63 = .ok (.aastore, 1) := by decide +kernel
theorem dX4_gatherFillers_64 : decode cX4_gatherFillers 64 = .ok (.aload_n 0, 1) := by decide +kernel
theorem dX4_gatherFillers_65 : decode cX4_gatherFillers 65 = .ok (.dup, 1) := by decide +kernel
theorem dX4_gatherFillers_66 : decode cX4_gatherFillers 66 = .ok (.getfield 263, 3) := by decide +kernel
theorem dX4_gatherFillers_69 : decode cX4_gatherFillers 69 = .ok (.iconst 1, 1) := by decide +kernel
theorem dX4_gatherFillers_70 : decode cX4_gatherFillers 70 = .ok (.iadd, 1) := by decide +kernel
theorem dX4_gatherFillers_71 : decode cX4_gatherFillers 71 = .ok (.putfield 263, 3) := by decide +kernel
theorem dX4_gatherFillers_74 : decode cX4_gatherFillers 74 = .ok (.iinc 3 1, 3) := by decide +kernel
theorem dX4_gatherFillers_77 : decode cX4_gatherFillers 77 = .ok (.goto (-70), 3) := by decide +kernel
theorem dX4_gatherFillers_80 : decode cX4_gatherFillers 80 = .ok (.return_, 1) := by decide +kernel
theorem dX4_openSeeds_0 : decode cX4_openSeeds 0 = .ok (.iconst 0, 1) := by decide +kernel
theorem dX4_openSeeds_1 : decode cX4_openSeeds 1 = .ok (.istore_n 3, 1) := by decide +kernel
theorem dX4_openSeeds_2 : decode cX4_openSeeds 2 = .ok (.iconst 0, 1) := by decide +kernel
theorem dX4_openSeeds_3 : decode cX4_openSeeds 3 = .ok (.istore 4, 2) := by decide +kernel
theorem dX4_openSeeds_5 : decode cX4_openSeeds 5 = .ok (.iload 4, 2) := by decide +kernel
theorem dX4_openSeeds_7 : decode cX4_openSeeds 7 = .ok (.aload_n 0, 1) := by decide +kernel
theorem dX4_openSeeds_8 : decode cX4_openSeeds 8 = .ok (.getfield 263, 3) := by decide +kernel
theorem dX4_openSeeds_11 : decode cX4_openSeeds 11 = .ok (.if_icmp .ge 50, 3) := by decide +kernel
theorem dX4_openSeeds_14 : decode cX4_openSeeds 14 = .ok (.iload 4, 2) := by decide +kernel
theorem dX4_openSeeds_16 : decode cX4_openSeeds 16 = .ok (.aload_n 0, 1) := by decide +kernel
theorem dX4_openSeeds_17 : decode cX4_openSeeds 17 = .ok (.getfield 38, 3) := by decide +kernel
theorem dX4_openSeeds_20 : decode cX4_openSeeds 20 = .ok (.arraylength, 1) := by decide +kernel
theorem dX4_openSeeds_21 : decode cX4_openSeeds 21 = .ok (.if_icmp .ge 40, 3) := by decide +kernel
theorem dX4_openSeeds_24 : decode cX4_openSeeds 24 = .ok (.aload_n 0, 1) := by decide +kernel
theorem dX4_openSeeds_25 : decode cX4_openSeeds 25 = .ok (.getfield 38, 3) := by decide +kernel
theorem dX4_openSeeds_28 : decode cX4_openSeeds 28 = .ok (.iload 4, 2) := by decide +kernel
theorem dX4_openSeeds_30 : decode cX4_openSeeds 30 = .ok (.aaload, 1) := by decide +kernel
theorem dX4_openSeeds_31 : decode cX4_openSeeds 31 = .ok (.astore 5, 2) := by decide +kernel
theorem dX4_openSeeds_33 : decode cX4_openSeeds 33 = .ok (.aload 5, 2) := by decide +kernel
theorem dX4_openSeeds_35 : decode cX4_openSeeds 35 = .ok (.ifnull 20, 3) := by decide +kernel
theorem dX4_openSeeds_38 : decode cX4_openSeeds 38 = .ok (.aload 5, 2) := by decide +kernel
theorem dX4_openSeeds_40 : decode cX4_openSeeds 40 = .ok (.iload_n 1, 1) := by decide +kernel
theorem dX4_openSeeds_41 : decode cX4_openSeeds 41 = .ok (.invokevirtual 162, 3) := by decide +kernel
theorem dX4_openSeeds_44 : decode cX4_openSeeds 44 = .ok (.ifCond .eq 11, 3) := by decide +kernel
theorem dX4_openSeeds_47 : decode cX4_openSeeds 47 = .ok (.iload_n 3, 1) := by decide +kernel
theorem dX4_openSeeds_48 : decode cX4_openSeeds 48 = .ok (.aload 5, 2) := by decide +kernel
theorem dX4_openSeeds_50 : decode cX4_openSeeds 50 = .ok (.invokevirtual 266, 3) := by decide +kernel
theorem dX4_openSeeds_53 : decode cX4_openSeeds 53 = .ok (.ior, 1) := by decide +kernel
theorem dX4_openSeeds_54 : decode cX4_openSeeds 54 = .ok (.istore_n 3, 1) := by decide +kernel
theorem dX4_openSeeds_55 : decode cX4_openSeeds 55 = .ok (.iinc 4 1, 3) := by decide +kernel
theorem dX4_openSeeds_58 : decode cX4_openSeeds 58 = .ok (.goto (-53), 3) := by decide +kernel
theorem dX4_openSeeds_61 : decode cX4_openSeeds 61 = .ok (.iload_n 3, 1) := by decide +kernel
theorem dX4_openSeeds_62 : decode cX4_openSeeds 62 = .ok (.iconst (-1), 1) := by decide +kernel
theorem dX4_openSeeds_63 : decode cX4_openSeeds 63 = .ok (.ixor, 1) := by decide +kernel
theorem dX4_openSeeds_64 : decode cX4_openSeeds 64 = .ok (.iconst 1, 1) := by decide +kernel
theorem dX4_openSeeds_65 : decode cX4_openSeeds 65 = .ok (.iload_n 2, 1) := by decide +kernel
theorem dX4_openSeeds_66 : decode cX4_openSeeds 66 = .ok (.ishl, 1) := by decide +kernel
theorem dX4_openSeeds_67 : decode cX4_openSeeds 67 = .ok (.iconst 1, 1) := by decide +kernel
theorem dX4_openSeeds_68 : decode cX4_openSeeds 68 = .ok (.isub, 1) := by decide +kernel
theorem dX4_openSeeds_69 : decode cX4_openSeeds 69 = .ok (.iand, 1) := by decide +kernel
theorem dX4_openSeeds_70 : decode cX4_openSeeds 70 = .ok (.ireturn, 1) := by decide +kernel
theorem dX4_nextSettings_0 : decode cX4_nextSettings 0 = .ok (.iload_n 1, 1) := by decide +kernel
theorem dX4_nextSettings_1 : decode cX4_nextSettings 1 = .ok (.istore_n 2, 1) := by decide +kernel
theorem dX4_nextSettings_2 : decode cX4_nextSettings 2 = .ok (.iconst 3, 1) := by decide +kernel
theorem dX4_nextSettings_3 : decode cX4_nextSettings 3 = .ok (.istore_n 3, 1) := by decide +kernel
theorem dX4_nextSettings_4 : decode cX4_nextSettings 4 = .ok (.iload_n 3, 1) := by decide +kernel
theorem dX4_nextSettings_5 : decode cX4_nextSettings 5 = .ok (.ifCond .lt 45, 3) := by decide +kernel
theorem dX4_nextSettings_8 : decode cX4_nextSettings 8 = .ok (.iload_n 2, 1) := by decide +kernel
theorem dX4_nextSettings_9 : decode cX4_nextSettings 9 = .ok (.iload_n 3, 1) := by decide +kernel
theorem dX4_nextSettings_10 : decode cX4_nextSettings 10 = .ok (.invokestatic 252, 3) := by decide +kernel
theorem dX4_nextSettings_13 : decode cX4_nextSettings 13 = .ok (.istore 4, 2) := by decide +kernel
theorem dX4_nextSettings_15 : decode cX4_nextSettings 15 = .ok (.iload 4, 2) := by decide +kernel
theorem dX4_nextSettings_17 : decode cX4_nextSettings 17 = .ok (.iconst 1, 1) := by decide +kernel
theorem dX4_nextSettings_18 : decode cX4_nextSettings 18 = .ok (.iadd, 1) := by decide +kernel
theorem dX4_nextSettings_19 : decode cX4_nextSettings 19 = .ok (.aload_n 0, 1) := by decide +kernel
theorem dX4_nextSettings_20 : decode cX4_nextSettings 20 = .ok (.iload_n 3, 1) := by decide +kernel
theorem dX4_nextSettings_21 : decode cX4_nextSettings 21 = .ok (.invokevirtual 198, 3) := by decide +kernel
theorem dX4_nextSettings_24 : decode cX4_nextSettings 24 = .ok (.if_icmp .ge 11, 3) := by decide +kernel
theorem dX4_nextSettings_27 : decode cX4_nextSettings 27 = .ok (.iload_n 2, 1) := by decide +kernel
theorem dX4_nextSettings_28 : decode cX4_nextSettings 28 = .ok (.iconst 1, 1) := by decide +kernel
theorem dX4_nextSettings_29 : decode cX4_nextSettings 29 = .ok (.iconst 4, 1) := by decide +kernel
theorem dX4_nextSettings_30 : decode cX4_nextSettings 30 = .ok (.iload_n 3, 1) := by decide +kernel
theorem dX4_nextSettings_31 : decode cX4_nextSettings 31 = .ok (.imul, 1) := by decide +kernel
theorem dX4_nextSettings_32 : decode cX4_nextSettings 32 = .ok (.ishl, 1) := by decide +kernel
theorem dX4_nextSettings_33 : decode cX4_nextSettings 33 = .ok (.iadd, 1) := by decide +kernel
theorem dX4_nextSettings_34 : decode cX4_nextSettings 34 = .ok (.ireturn, 1) := by decide +kernel
theorem dX4_nextSettings_35 : decode cX4_nextSettings 35 = .ok (.iload_n 2, 1) := by decide +kernel
theorem dX4_nextSettings_36 : decode cX4_nextSettings 36 = .ok (.iload 4, 2) := by decide +kernel
theorem dX4_nextSettings_38 : decode cX4_nextSettings 38 = .ok (.iconst 4, 1) := by decide +kernel
theorem dX4_nextSettings_39 : decode cX4_nextSettings 39 = .ok (.iload_n 3, 1) := by decide +kernel
theorem dX4_nextSettings_40 : decode cX4_nextSettings 40 = .ok (.imul, 1) := by decide +kernel
theorem dX4_nextSettings_41 : decode cX4_nextSettings 41 = .ok (.ishl, 1) := by decide +kernel
theorem dX4_nextSettings_42 : decode cX4_nextSettings 42 = .ok (.isub, 1) := by decide +kernel
theorem dX4_nextSettings_43 : decode cX4_nextSettings 43 = .ok (.istore_n 2, 1) := by decide +kernel
theorem dX4_nextSettings_44 : decode cX4_nextSettings 44 = .ok (.iinc 3 (-1), 3) := by decide +kernel
theorem dX4_nextSettings_47 : decode cX4_nextSettings 47 = .ok (.goto (-43), 3) := by decide +kernel
theorem dX4_nextSettings_50 : decode cX4_nextSettings 50 = .ok (.iconst (-1), 1) := by decide +kernel
theorem dX4_nextSettings_51 : decode cX4_nextSettings 51 = .ok (.ireturn, 1) := by decide +kernel
theorem dX4_memberAt_0 : decode cX4_memberAt 0 = .ok (.iload_n 1, 1) := by decide +kernel
theorem dX4_memberAt_1 : decode cX4_memberAt 1 = .ok (.istore_n 2, 1) := by decide +kernel
theorem dX4_memberAt_2 : decode cX4_memberAt 2 = .ok (.iconst 0, 1) := by decide +kernel
theorem dX4_memberAt_3 : decode cX4_memberAt 3 = .ok (.istore_n 3, 1) := by decide +kernel
theorem dX4_memberAt_4 : decode cX4_memberAt 4 = .ok (.iload_n 3, 1) := by decide +kernel
theorem dX4_memberAt_5 : decode cX4_memberAt 5 = .ok (.bipush 8, 2) := by decide +kernel
theorem dX4_memberAt_7 : decode cX4_memberAt 7 = .ok (.if_icmp .ge 29, 3) := by decide +kernel
theorem dX4_memberAt_10 : decode cX4_memberAt 10 = .ok (.iload_n 3, 1) := by decide +kernel
theorem dX4_memberAt_11 : decode cX4_memberAt 11 = .ok (.iload_n 0, 1) := by decide +kernel
theorem dX4_memberAt_12 : decode cX4_memberAt 12 = .ok (.invokestatic 269, 3) := by decide +kernel
theorem dX4_memberAt_15 : decode cX4_memberAt 15 = .ok (.ifCond .ne 6, 3) := by decide +kernel
theorem dX4_memberAt_18 : decode cX4_memberAt 18 = .ok (.goto 12, 3) := by decide +kernel
theorem dX4_memberAt_21 : decode cX4_memberAt 21 = .ok (.iload_n 2, 1) := by decide +kernel
theorem dX4_memberAt_22 : decode cX4_memberAt 22 = .ok (.ifCond .ne 5, 3) := by decide +kernel
theorem dX4_memberAt_25 : decode cX4_memberAt 25 = .ok (.iload_n 3, 1) := by decide +kernel
theorem dX4_memberAt_26 : decode cX4_memberAt 26 = .ok (.ireturn, 1) := by decide +kernel
theorem dX4_memberAt_27 : decode cX4_memberAt 27 = .ok (.iinc 2 (-1), 3) := by decide +kernel
theorem dX4_memberAt_30 : decode cX4_memberAt 30 = .ok (.iinc 3 1, 3) := by decide +kernel
theorem dX4_memberAt_33 : decode cX4_memberAt 33 = .ok (.goto (-29), 3) := by decide +kernel
theorem dX4_memberAt_36 : decode cX4_memberAt 36 = .ok (.iconst (-1), 1) := by decide +kernel
theorem dX4_memberAt_37 : decode cX4_memberAt 37 = .ok (.ireturn, 1) := by decide +kernel
theorem dX4_isIn_0 : decode cX4_isIn 0 = .ok (.iload_n 1, 1) := by decide +kernel
theorem dX4_isIn_1 : decode cX4_isIn 1 = .ok (.iload_n 0, 1) := by decide +kernel
theorem dX4_isIn_2 : decode cX4_isIn 2 = .ok (.ishr, 1) := by decide +kernel
theorem dX4_isIn_3 : decode cX4_isIn 3 = .ok (.iconst 1, 1) := by decide +kernel
theorem dX4_isIn_4 : decode cX4_isIn 4 = .ok (.iand, 1) := by decide +kernel
theorem dX4_isIn_5 : decode cX4_isIn 5 = .ok (.iconst 1, 1) := by decide +kernel
theorem dX4_isIn_6 : decode cX4_isIn 6 = .ok (.if_icmp .ne 7, 3) := by decide +kernel
theorem dX4_isIn_9 : decode cX4_isIn 9 = .ok (.iconst 1, 1) := by decide +kernel
theorem dX4_isIn_10 : decode cX4_isIn 10 = .ok (.goto 4, 3) := by decide +kernel
theorem dX4_isIn_13 : decode cX4_isIn 13 = .ok (.iconst 0, 1) := by decide +kernel
theorem dX4_isIn_14 : decode cX4_isIn 14 = .ok (.ireturn, 1) := by decide +kernel
theorem dX4_settingOf_0 : decode cX4_settingOf 0 = .ok (.iload_n 0, 1) := by decide +kernel
theorem dX4_settingOf_1 : decode cX4_settingOf 1 = .ok (.iconst 4, 1) := by decide +kernel
theorem dX4_settingOf_2 : decode cX4_settingOf 2 = .ok (.iload_n 1, 1) := by decide +kernel
theorem dX4_settingOf_3 : decode cX4_settingOf 3 = .ok (.imul, 1) := by decide +kernel
theorem dX4_settingOf_4 : decode cX4_settingOf 4 = .ok (.ishr, 1) := by decide +kernel
theorem dX4_settingOf_5 : decode cX4_settingOf 5 = .ok (.bipush 15, 2) := by decide +kernel
theorem dX4_settingOf_7 : decode cX4_settingOf 7 = .ok (.iand, 1) := by decide +kernel
theorem dX4_settingOf_8 : decode cX4_settingOf 8 = .ok (.ireturn, 1) := by decide +kernel
theorem dX4_areSettings_0 : decode cX4_areSettings 0 = .ok (.iload_n 0, 1) := by decide +kernel
theorem dX4_areSettings_1 : decode cX4_areSettings 1 = .ok (.ifCond .lt 10, 3) := by decide +kernel
theorem dX4_areSettings_4 : decode cX4_areSettings 4 = .ok (.iload_n 0, 1) := by decide +kernel
theorem dX4_areSettings_5 : decode cX4_areSettings 5 = .ok (.ldc_w 272, 3) := by decide +kernel
theorem dX4_areSettings_8 : decode cX4_areSettings 8 = .ok (.if_icmp .lt 5, 3) := by decide +kernel
theorem dX4_areSettings_11 : decode cX4_areSettings 11 = .ok (.iconst 0, 1) := by decide +kernel
theorem dX4_areSettings_12 : decode cX4_areSettings 12 = .ok (.ireturn, 1) := by decide +kernel
theorem dX4_areSettings_13 : decode cX4_areSettings 13 = .ok (.iconst 0, 1) := by decide +kernel
theorem dX4_areSettings_14 : decode cX4_areSettings 14 = .ok (.istore_n 1, 1) := by decide +kernel
theorem dX4_areSettings_15 : decode cX4_areSettings 15 = .ok (.iload_n 1, 1) := by decide +kernel
theorem dX4_areSettings_16 : decode cX4_areSettings 16 = .ok (.iconst 4, 1) := by decide +kernel
theorem dX4_areSettings_17 : decode cX4_areSettings 17 = .ok (.if_icmp .ge 22, 3) := by decide +kernel
theorem dX4_areSettings_20 : decode cX4_areSettings 20 = .ok (.iload_n 0, 1) := by decide +kernel
theorem dX4_areSettings_21 : decode cX4_areSettings 21 = .ok (.iload_n 1, 1) := by decide +kernel
theorem dX4_areSettings_22 : decode cX4_areSettings 22 = .ok (.invokestatic 252, 3) := by decide +kernel
theorem dX4_areSettings_25 : decode cX4_areSettings 25 = .ok (.invokestatic 249, 3) := by decide +kernel
theorem dX4_areSettings_28 : decode cX4_areSettings 28 = .ok (.ifCond .ne 5, 3) := by decide +kernel
theorem dX4_areSettings_31 : decode cX4_areSettings 31 = .ok (.iconst 0, 1) := by decide +kernel
theorem dX4_areSettings_32 : decode cX4_areSettings 32 = .ok (.ireturn, 1) := by decide +kernel
theorem dX4_areSettings_33 : decode cX4_areSettings 33 = .ok (.iinc 1 1, 3) := by decide +kernel
theorem dX4_areSettings_36 : decode cX4_areSettings 36 = .ok (.goto (-21), 3) := by decide +kernel
theorem dX4_areSettings_39 : decode cX4_areSettings 39 = .ok (.iconst 1, 1) := by decide +kernel
theorem dX4_areSettings_40 : decode cX4_areSettings 40 = .ok (.ireturn, 1) := by decide +kernel
theorem dX4_isSetting_0 : decode cX4_isSetting 0 = .ok (.iload_n 0, 1) := by decide +kernel
theorem dX4_isSetting_1 : decode cX4_isSetting 1 = .ok (.ifCond .lt 12, 3) := by decide +kernel
theorem dX4_isSetting_4 : decode cX4_isSetting 4 = .ok (.iload_n 0, 1) := by decide +kernel
theorem dX4_isSetting_5 : decode cX4_isSetting 5 = .ok (.iconst 4, 1) := by decide +kernel
theorem dX4_isSetting_6 : decode cX4_isSetting 6 = .ok (.if_icmp .ge 7, 3) := by decide +kernel
theorem dX4_isSetting_9 : decode cX4_isSetting 9 = .ok (.iconst 1, 1) := by decide +kernel
theorem dX4_isSetting_10 : decode cX4_isSetting 10 = .ok (.goto 4, 3) := by decide +kernel
theorem dX4_isSetting_13 : decode cX4_isSetting 13 = .ok (.iconst 0, 1) := by decide +kernel
theorem dX4_isSetting_14 : decode cX4_isSetting 14 = .ok (.ireturn, 1) := by decide +kernel
theorem dX4_isValue_0 : decode cX4_isValue 0 = .ok (.iload_n 0, 1) := by decide +kernel
theorem dX4_isValue_1 : decode cX4_isValue 1 = .ok (.ifCond .lt 13, 3) := by decide +kernel
theorem dX4_isValue_4 : decode cX4_isValue 4 = .ok (.iload_n 0, 1) := by decide +kernel
theorem dX4_isValue_5 : decode cX4_isValue 5 = .ok (.bipush 6, 2) := by decide +kernel
theorem dX4_isValue_7 : decode cX4_isValue 7 = .ok (.if_icmp .ge 7, 3) := by decide +kernel
theorem dX4_isValue_10 : decode cX4_isValue 10 = .ok (.iconst 1, 1) := by decide +kernel
theorem dX4_isValue_11 : decode cX4_isValue 11 = .ok (.goto 4, 3) := by decide +kernel
theorem dX4_isValue_14 : decode cX4_isValue 14 = .ok (.iconst 0, 1) := by decide +kernel
theorem dX4_isValue_15 : decode cX4_isValue 15 = .ok (.ireturn, 1) := by decide +kernel
theorem dX4_isSeed_0 : decode cX4_isSeed 0 = .ok (.iload_n 0, 1) := by decide +kernel
theorem dX4_isSeed_1 : decode cX4_isSeed 1 = .ok (.ifCond .lt 13, 3) := by decide +kernel
theorem dX4_isSeed_4 : decode cX4_isSeed 4 = .ok (.iload_n 0, 1) := by decide +kernel
theorem dX4_isSeed_5 : decode cX4_isSeed 5 = .ok (.bipush 100, 2) := by decide +kernel
theorem dX4_isSeed_7 : decode cX4_isSeed 7 = .ok (.if_icmp .ge 7, 3) := by decide +kernel
theorem dX4_isSeed_10 : decode cX4_isSeed 10 = .ok (.iconst 1, 1) := by decide +kernel
theorem dX4_isSeed_11 : decode cX4_isSeed 11 = .ok (.goto 4, 3) := by decide +kernel
theorem dX4_isSeed_14 : decode cX4_isSeed 14 = .ok (.iconst 0, 1) := by decide +kernel
theorem dX4_isSeed_15 : decode cX4_isSeed 15 = .ok (.ireturn, 1) := by decide +kernel
theorem dX4_areTicks_0 : decode cX4_areTicks 0 = .ok (.iload_n 0, 1) := by decide +kernel
theorem dX4_areTicks_1 : decode cX4_areTicks 1 = .ok (.iconst 1, 1) := by decide +kernel
theorem dX4_areTicks_2 : decode cX4_areTicks 2 = .ok (.if_icmp .lt 13, 3) := by decide +kernel
theorem dX4_areTicks_5 : decode cX4_areTicks 5 = .ok (.iload_n 0, 1) := by decide +kernel
theorem dX4_areTicks_6 : decode cX4_areTicks 6 = .ok (.bipush 16, 2) := by decide +kernel
theorem dX4_areTicks_8 : decode cX4_areTicks 8 = .ok (.if_icmp .gt 7, 3) := by decide +kernel
theorem dX4_areTicks_11 : decode cX4_areTicks 11 = .ok (.iconst 1, 1) := by decide +kernel
theorem dX4_areTicks_12 : decode cX4_areTicks 12 = .ok (.goto 4, 3) := by decide +kernel
theorem dX4_areTicks_15 : decode cX4_areTicks 15 = .ok (.iconst 0, 1) := by decide +kernel
theorem dX4_areTicks_16 : decode cX4_areTicks 16 = .ok (.ireturn, 1) := by decide +kernel
theorem dX4_areGridSeeds_0 : decode cX4_areGridSeeds 0 = .ok (.iload_n 0, 1) := by decide +kernel
theorem dX4_areGridSeeds_1 : decode cX4_areGridSeeds 1 = .ok (.iconst 1, 1) := by decide +kernel
theorem dX4_areGridSeeds_2 : decode cX4_areGridSeeds 2 = .ok (.if_icmp .lt 13, 3) := by decide +kernel
theorem dX4_areGridSeeds_5 : decode cX4_areGridSeeds 5 = .ok (.iload_n 0, 1) := by decide +kernel
theorem dX4_areGridSeeds_6 : decode cX4_areGridSeeds 6 = .ok (.bipush 8, 2) := by decide +kernel
theorem dX4_areGridSeeds_8 : decode cX4_areGridSeeds 8 = .ok (.if_icmp .gt 7, 3) := by decide +kernel
theorem dX4_areGridSeeds_11 : decode cX4_areGridSeeds 11 = .ok (.iconst 1, 1) := by decide +kernel
theorem dX4_areGridSeeds_12 : decode cX4_areGridSeeds 12 = .ok (.goto 4, 3) := by decide +kernel
theorem dX4_areGridSeeds_15 : decode cX4_areGridSeeds 15 = .ok (.iconst 0, 1) := by decide +kernel
theorem dX4_areGridSeeds_16 : decode cX4_areGridSeeds 16 = .ok (.ireturn, 1) := by decide +kernel
theorem dX4_areOdds_0 : decode cX4_areOdds 0 = .ok (.iload_n 0, 1) := by decide +kernel
theorem dX4_areOdds_1 : decode cX4_areOdds 1 = .ok (.iconst 1, 1) := by decide +kernel
theorem dX4_areOdds_2 : decode cX4_areOdds 2 = .ok (.if_icmp .lt 14, 3) := by decide +kernel
theorem dX4_areOdds_5 : decode cX4_areOdds 5 = .ok (.iload_n 0, 1) := by decide +kernel
theorem dX4_areOdds_6 : decode cX4_areOdds 6 = .ok (.ldc_w 273, 3) := by decide +kernel
theorem dX4_areOdds_9 : decode cX4_areOdds 9 = .ok (.if_icmp .gt 7, 3) := by decide +kernel
theorem dX4_areOdds_12 : decode cX4_areOdds 12 = .ok (.iconst 1, 1) := by decide +kernel
theorem dX4_areOdds_13 : decode cX4_areOdds 13 = .ok (.goto 4, 3) := by decide +kernel
theorem dX4_areOdds_16 : decode cX4_areOdds 16 = .ok (.iconst 0, 1) := by decide +kernel
theorem dX4_areOdds_17 : decode cX4_areOdds 17 = .ok (.ireturn, 1) := by decide +kernel
theorem dX4_asNumber_0 : decode cX4_asNumber 0 = .ok (.iload_n 0, 1) := by decide +kernel
theorem dX4_asNumber_1 : decode cX4_asNumber 1 = .ok (.ifCond .eq 7, 3) := by decide +kernel
theorem dX4_asNumber_4 : decode cX4_asNumber 4 = .ok (.iconst 1, 1) := by decide +kernel
theorem dX4_asNumber_5 : decode cX4_asNumber 5 = .ok (.goto 4, 3) := by decide +kernel
theorem dX4_asNumber_8 : decode cX4_asNumber 8 = .ok (.iconst 0, 1) := by decide +kernel
theorem dX4_asNumber_9 : decode cX4_asNumber 9 = .ok (.ireturn, 1) := by decide +kernel
theorem dX4_remainder_0 : decode cX4_remainder 0 = .ok (.iload_n 1, 1) := by decide +kernel
theorem dX4_remainder_1 : decode cX4_remainder 1 = .ok (.ifCond .ne 7, 3) := by decide +kernel
theorem dX4_remainder_4 : decode cX4_remainder 4 = .ok (.iconst 0, 1) := by decide +kernel
theorem dX4_remainder_5 : decode cX4_remainder 5 = .ok (.goto 6, 3) := by decide +kernel
theorem dX4_remainder_8 : decode cX4_remainder 8 = .ok (.iload_n 0, 1) := by decide +kernel
theorem dX4_remainder_9 : decode cX4_remainder 9 = .ok (.iload_n 1, 1) := by decide +kernel
theorem dX4_remainder_10 : decode cX4_remainder 10 = .ok (.irem, 1) := by decide +kernel
theorem dX4_remainder_11 : decode cX4_remainder 11 = .ok (.ireturn, 1) := by decide +kernel
end
section
theorem dX5_init_0 : decode cX5_init 0 = .ok (.aload_n 0, 1) := by decide +kernel
theorem dX5_init_1 : decode cX5_init 1 = .ok (.invokespecial 1, 3) := by decide +kernel
theorem dX5_init_4 : decode cX5_init 4 = .ok (.aload_n 0, 1) := by decide +kernel
theorem dX5_init_5 : decode cX5_init 5 = .ok (.iconst 4, 1) := by decide +kernel
theorem dX5_init_6 : decode cX5_init 6 = .ok (.newarray .int, 2) := by decide +kernel
theorem dX5_init_8 : decode cX5_init 8 = .ok (.putfield 7, 3) := by decide +kernel
theorem dX5_init_11 : decode cX5_init 11 = .ok (.aload_n 0, 1) := by decide +kernel
theorem dX5_init_12 : decode cX5_init 12 = .ok (.bipush 32, 2) := by decide +kernel
theorem dX5_init_14 : decode cX5_init 14 = .ok (.newarray .int, 2) := by decide +kernel
theorem dX5_init_16 : decode cX5_init 16 = .ok (.putfield 13, 3) := by decide +kernel
theorem dX5_init_19 : decode cX5_init 19 = .ok (.aload_n 0, 1) := by decide +kernel
theorem dX5_init_20 : decode cX5_init 20 = .ok (.bipush 8, 2) := by decide +kernel
theorem dX5_init_22 : decode cX5_init 22 = .ok (.newarray .int, 2) := by decide +kernel
theorem dX5_init_24 : decode cX5_init 24 = .ok (.putfield 16, 3) := by decide +kernel
theorem dX5_init_27 : decode cX5_init 27 = .ok (.aload_n 0, 1) := by decide +kernel
theorem dX5_init_28 : decode cX5_init 28 = .ok (.iconst 4, 1) := by decide +kernel
theorem dX5_init_29 : decode cX5_init 29 = .ok (.newarray .int, 2) := by decide +kernel
theorem dX5_init_31 : decode cX5_init 31 = .ok (.dup, 1) := by decide +kernel
theorem dX5_init_32 : decode cX5_init 32 = .ok (.iconst 0, 1) := by decide +kernel
theorem dX5_init_33 : decode cX5_init 33 = .ok (.iconst 2, 1) := by decide +kernel
theorem dX5_init_34 : decode cX5_init 34 = .ok (.iastore, 1) := by decide +kernel
theorem dX5_init_35 : decode cX5_init 35 = .ok (.dup, 1) := by decide +kernel
theorem dX5_init_36 : decode cX5_init 36 = .ok (.iconst 1, 1) := by decide +kernel
theorem dX5_init_37 : decode cX5_init 37 = .ok (.iconst 2, 1) := by decide +kernel
theorem dX5_init_38 : decode cX5_init 38 = .ok (.iastore, 1) := by decide +kernel
theorem dX5_init_39 : decode cX5_init 39 = .ok (.dup, 1) := by decide +kernel
theorem dX5_init_40 : decode cX5_init 40 = .ok (.iconst 2, 1) := by decide +kernel
theorem dX5_init_41 : decode cX5_init 41 = .ok (.iconst 2, 1) := by decide +kernel
theorem dX5_init_42 : decode cX5_init 42 = .ok (.iastore, 1) := by decide +kernel
theorem dX5_init_43 : decode cX5_init 43 = .ok (.dup, 1) := by decide +kernel
theorem dX5_init_44 : decode cX5_init 44 = .ok (.iconst 3, 1) := by decide +kernel
theorem dX5_init_45 : decode cX5_init 45 = .ok (.iconst 2, 1) := by decide +kernel
theorem dX5_init_46 : decode cX5_init 46 = .ok (.iastore, 1) := by decide +kernel
theorem dX5_init_47 : decode cX5_init 47 = .ok (.putfield 19, 3) := by decide +kernel
theorem dX5_init_50 : decode cX5_init 50 = .ok (.aload_n 0, 1) := by decide +kernel
theorem dX5_init_51 : decode cX5_init 51 = .ok (.bipush 40, 2) := by decide +kernel
theorem dX5_init_53 : decode cX5_init 53 = .ok (.newarray .int, 2) := by decide +kernel
theorem dX5_init_55 : decode cX5_init 55 = .ok (.putfield 22, 3) := by decide +kernel
theorem dX5_init_58 : decode cX5_init 58 = .ok (.aload_n 0, 1) := by decide +kernel
theorem dX5_init_59 : decode cX5_init 59 = .ok (.bipush 40, 2) := by decide +kernel
theorem dX5_init_61 : decode cX5_init 61 = .ok (.newarray .int, 2) := by decide +kernel
theorem dX5_init_63 : decode cX5_init 63 = .ok (.putfield 25, 3) := by decide +kernel
theorem dX5_init_66 : decode cX5_init 66 = .ok (.aload_n 0, 1) := by decide +kernel
theorem dX5_init_67 : decode cX5_init 67 = .ok (.sipush 320, 3) := by decide +kernel
theorem dX5_init_70 : decode cX5_init 70 = .ok (.newarray .int, 2) := by decide +kernel
theorem dX5_init_72 : decode cX5_init 72 = .ok (.putfield 28, 3) := by decide +kernel
theorem dX5_init_75 : decode cX5_init 75 = .ok (.aload_n 0, 1) := by decide +kernel
theorem dX5_init_76 : decode cX5_init 76 = .ok (.bipush 40, 2) := by decide +kernel
theorem dX5_init_78 : decode cX5_init 78 = .ok (.newarray .int, 2) := by decide +kernel
theorem dX5_init_80 : decode cX5_init 80 = .ok (.putfield 31, 3) := by decide +kernel
theorem dX5_init_83 : decode cX5_init 83 = .ok (.aload_n 0, 1) := by decide +kernel
theorem dX5_init_84 : decode cX5_init 84 = .ok (.bipush 40, 2) := by decide +kernel
theorem dX5_init_86 : decode cX5_init 86 = .ok (.newarray .int, 2) := by decide +kernel
theorem dX5_init_88 : decode cX5_init 88 = .ok (.putfield 34, 3) := by decide +kernel
theorem dX5_init_91 : decode cX5_init 91 = .ok (.aload_n 0, 1) := by decide +kernel
theorem dX5_init_92 : decode cX5_init 92 = .ok (.bipush 40, 2) := by decide +kernel
theorem dX5_init_94 : decode cX5_init 94 = .ok (.newarray .int, 2) := by decide +kernel
theorem dX5_init_96 : decode cX5_init 96 = .ok (.putfield 37, 3) := by decide +kernel
theorem dX5_init_99 : decode cX5_init 99 = .ok (.aload_n 0, 1) := by decide +kernel
theorem dX5_init_100 : decode cX5_init 100 = .ok (.bipush 40, 2) := by decide +kernel
theorem dX5_init_102 : decode cX5_init 102 = .ok (.newarray .int, 2) := by decide +kernel
theorem dX5_init_104 : decode cX5_init 104 = .ok (.putfield 40, 3) := by decide +kernel
theorem dX5_init_107 : decode cX5_init 107 = .ok (.aload_n 0, 1) := by decide +kernel
theorem dX5_init_108 : decode cX5_init 108 = .ok (.sipush 640, 3) := by decide +kernel
theorem dX5_init_111 : decode cX5_init 111 = .ok (.newarray .int, 2) := by decide +kernel
theorem dX5_init_113 : decode cX5_init 113 = .ok (.putfield 43, 3) := by decide +kernel
theorem dX5_init_116 : decode cX5_init 116 = .ok (.aload_n 0, 1) := by decide +kernel
theorem dX5_init_117 : decode cX5_init 117 = .ok (.bipush 40, 2) := by decide +kernel
theorem dX5_init_119 : decode cX5_init 119 = .ok (.newarray .boolean, 2) := by decide +kernel
theorem dX5_init_121 : decode cX5_init 121 = .ok (.putfield 46, 3) := by decide +kernel
theorem dX5_init_124 : decode cX5_init 124 = .ok (.aload_n 0, 1) := by decide +kernel
theorem dX5_init_125 : decode cX5_init 125 = .ok (.bipush 40, 2) := by decide +kernel
theorem dX5_init_127 : decode cX5_init 127 = .ok (.newarray .int, 2) := by decide +kernel
theorem dX5_init_129 : decode cX5_init 129 = .ok (.putfield 50, 3) := by decide +kernel
theorem dX5_init_132 : decode cX5_init 132 = .ok (.aload_n 0, 1) := by decide +kernel
theorem dX5_init_133 : decode cX5_init 133 = .ok (.bipush 40, 2) := by decide +kernel
theorem dX5_init_135 : decode cX5_init 135 = .ok (.newarray .int, 2) := by decide +kernel
theorem dX5_init_137 : decode cX5_init 137 = .ok (.putfield 53, 3) := by decide +kernel
theorem dX5_init_140 : decode cX5_init 140 = .ok (.aload_n 0, 1) := by decide +kernel
theorem dX5_init_141 : decode cX5_init 141 = .ok (.bipush 40, 2) := by decide +kernel
theorem dX5_init_143 : decode cX5_init 143 = .ok (.newarray .int, 2) := by decide +kernel
theorem dX5_init_145 : decode cX5_init 145 = .ok (.putfield 56, 3) := by decide +kernel
theorem dX5_init_148 : decode cX5_init 148 = .ok (.aload_n 0, 1) := by decide +kernel
theorem dX5_init_149 : decode cX5_init 149 = .ok (.bipush 40, 2) := by decide +kernel
theorem dX5_init_151 : decode cX5_init 151 = .ok (.newarray .int, 2) := by decide +kernel
theorem dX5_init_153 : decode cX5_init 153 = .ok (.putfield 59, 3) := by decide +kernel
theorem dX5_init_156 : decode cX5_init 156 = .ok (.aload_n 0, 1) := by decide +kernel
theorem dX5_init_157 : decode cX5_init 157 = .ok (.sipush 320, 3) := by decide +kernel
theorem dX5_init_160 : decode cX5_init 160 = .ok (.newarray .int, 2) := by decide +kernel
theorem dX5_init_162 : decode cX5_init 162 = .ok (.putfield 62, 3) := by decide +kernel
theorem dX5_init_165 : decode cX5_init 165 = .ok (.aload_n 0, 1) := by decide +kernel
theorem dX5_init_166 : decode cX5_init 166 = .ok (.bipush 40, 2) := by decide +kernel
theorem dX5_init_168 : decode cX5_init 168 = .ok (.newarray .boolean, 2) := by decide +kernel
theorem dX5_init_170 : decode cX5_init 170 = .ok (.putfield 65, 3) := by decide +kernel
theorem dX5_init_173 : decode cX5_init 173 = .ok (.aload_n 0, 1) := by decide +kernel
theorem dX5_init_174 : decode cX5_init 174 = .ok (.bipush 40, 2) := by decide +kernel
theorem dX5_init_176 : decode cX5_init 176 = .ok (.newarray .boolean, 2) := by decide +kernel
theorem dX5_init_178 : decode cX5_init 178 = .ok (.putfield 68, 3) := by decide +kernel
theorem dX5_init_181 : decode cX5_init 181 = .ok (.aload_n 0, 1) := by decide +kernel
theorem dX5_init_182 : decode cX5_init 182 = .ok (.bipush 16, 2) := by decide +kernel
theorem dX5_init_184 : decode cX5_init 184 = .ok (.newarray .int, 2) := by decide +kernel
theorem dX5_init_186 : decode cX5_init 186 = .ok (.putfield 71, 3) := by decide +kernel
theorem dX5_init_189 : decode cX5_init 189 = .ok (.aload_n 0, 1) := by decide +kernel
theorem dX5_init_190 : decode cX5_init 190 = .ok (.bipush 20, 2) := by decide +kernel
theorem dX5_init_192 : decode cX5_init 192 = .ok (.newarray .int, 2) := by decide +kernel
theorem dX5_init_194 : decode cX5_init 194 = .ok (.putfield 74, 3) := by decide +kernel
theorem dX5_init_197 : decode cX5_init 197 = .ok (.return_, 1) := by decide +kernel
theorem dX5_isCode_0 : decode cX5_isCode 0 = .ok (.iload_n 1, 1) := by decide +kernel
theorem dX5_isCode_1 : decode cX5_isCode 1 = .ok (.ifCond .lt 12, 3) := by decide +kernel
theorem dX5_isCode_4 : decode cX5_isCode 4 = .ok (.iload_n 1, 1) := by decide +kernel
theorem dX5_isCode_5 : decode cX5_isCode 5 = .ok (.iconst 4, 1) := by decide +kernel
theorem dX5_isCode_6 : decode cX5_isCode 6 = .ok (.if_icmp .ge 7, 3) := by decide +kernel
theorem dX5_isCode_9 : decode cX5_isCode 9 = .ok (.iconst 1, 1) := by decide +kernel
theorem dX5_isCode_10 : decode cX5_isCode 10 = .ok (.goto 4, 3) := by decide +kernel
theorem dX5_isCode_13 : decode cX5_isCode 13 = .ok (.iconst 0, 1) := by decide +kernel
theorem dX5_isCode_14 : decode cX5_isCode 14 = .ok (.ireturn, 1) := by decide +kernel
theorem dX5_code_0 : decode cX5_code 0 = .ok (.aload_n 0, 1) := by decide +kernel
theorem dX5_code_1 : decode cX5_code 1 = .ok (.iconst 0, 1) := by decide +kernel
theorem dX5_code_2 : decode cX5_code 2 = .ok (.putfield 77, 3) := by decide +kernel
theorem dX5_code_5 : decode cX5_code 5 = .ok (.aload_n 0, 1) := by decide +kernel
theorem dX5_code_6 : decode cX5_code 6 = .ok (.iload_n 1, 1) := by decide +kernel
theorem dX5_code_7 : decode cX5_code 7 = .ok (.invokevirtual 81, 3) := by decide +kernel
theorem dX5_code_10 : decode cX5_code 10 = .ok (.ifCond .eq 13, 3) := by decide +kernel
theorem dX5_code_13 : decode cX5_code 13 = .ok (.iload_n 2, 1) := by decide +kernel
theorem dX5_code_14 : decode cX5_code 14 = .ok (.ifCond .lt 9, 3) := by decide +kernel
theorem dX5_code_17 : decode cX5_code 17 = .ok (.iload_n 2, 1) := by decide +kernel
theorem dX5_code_18 : decode cX5_code 18 = .ok (.bipush 8, 2) := by decide +kernel
theorem dX5_code_20 : decode cX5_code 20 = .ok (.if_icmp .le 5, 3) := by decide +kernel
theorem dX5_code_23 : decode cX5_code 23 = .ok (.iconst 0, 1) := by decide +kernel
theorem dX5_code_24 : decode cX5_code 24 = .ok (.ireturn, 1) := by decide +kernel
theorem dX5_code_25 : decode cX5_code 25 = .ok (.aload_n 0, 1) := by decide +kernel
theorem dX5_code_26 : decode cX5_code 26 = .ok (.getfield 7, 3) := by decide +kernel
theorem dX5_code_29 : decode cX5_code 29 = .ok (.iload_n 1, 1) := by decide +kernel
theorem dX5_code_30 : decode cX5_code 30 = .ok (.iload_n 2, 1) := by decide +kernel
theorem dX5_code_31 : decode cX5_code 31 = .ok (.iastore, 1) := by decide +kernel
theorem dX5_code_32 : decode cX5_code 32 = .ok (.iconst 0, 1) := by decide +kernel
theorem dX5_code_33 : decode cX5_code 33 = .ok (.istore 5, 2) := by decide +kernel
theorem dX5_code_35 : decode cX5_code 35 = .ok (.iload 5, 2) := by decide +kernel
theorem dX5_code_37 : decode cX5_code 37 = .ok (.bipush 8, 2) := by decide +kernel
theorem dX5_code_39 : decode cX5_code 39 = .ok (.if_icmp .ge 65, 3) := by decide +kernel
theorem dX5_code_42 : decode cX5_code 42 = .ok (.aload_n 0, 1) := by decide +kernel
theorem dX5_code_43 : decode cX5_code 43 = .ok (.getfield 13, 3) := by decide +kernel
theorem dX5_code_46 : decode cX5_code 46 = .ok (.bipush 8, 2) := by decide +kernel
theorem dX5_code_48 : decode cX5_code 48 = .ok (.iload_n 1, 1) := by decide +kernel
theorem dX5_code_49 : decode cX5_code 49 = .ok (.imul, 1) := by decide +kernel
theorem dX5_code_50 : decode cX5_code 50 = .ok (.iload 5, 2) := by decide +kernel
theorem dX5_code_52 : decode cX5_code 52 = .ok (.iadd, 1) := by decide +kernel
theorem dX5_code_53 : decode cX5_code 53 = .ok (.iload 5, 2) := by decide +kernel
theorem dX5_code_55 : decode cX5_code 55 = .ok (.iload_n 2, 1) := by decide +kernel
theorem dX5_code_56 : decode cX5_code 56 = .ok (.if_icmp .ge 40, 3) := by decide +kernel
theorem dX5_code_59 : decode cX5_code 59 = .ok (.iload 5, 2) := by decide +kernel
theorem dX5_code_61 : decode cX5_code 61 = .ok (.iconst 4, 1) := by decide +kernel
theorem dX5_code_62 : decode cX5_code 62 = .ok (.if_icmp .ge 16, 3) := by decide +kernel
theorem dX5_code_65 : decode cX5_code 65 = .ok (.iload_n 3, 1) := by decide +kernel
theorem dX5_code_66 : decode cX5_code 66 = .ok (.bipush 24, 2) := by decide +kernel
theorem dX5_code_68 : decode cX5_code 68 = .ok (.bipush 8, 2) := by decide +kernel
theorem dX5_code_70 : decode cX5_code 70 = .ok (.iload 5, 2) := by decide +kernel
theorem dX5_code_72 : decode cX5_code 72 = .ok (.imul, 1) := by decide +kernel
theorem dX5_code_73 : decode cX5_code 73 = .ok (.isub, 1) := by decide +kernel
theorem dX5_code_74 : decode cX5_code 74 = .ok (.ishr, 1) := by decide +kernel
theorem dX5_code_75 : decode cX5_code 75 = .ok (.goto 14, 3) := by decide +kernel
theorem dX5_code_78 : decode cX5_code 78 = .ok (.iload 4, 2) := by decide +kernel
theorem dX5_code_80 : decode cX5_code 80 = .ok (.bipush 56, 2) := by decide +kernel
theorem dX5_code_82 : decode cX5_code 82 = .ok (.bipush 8, 2) := by decide +kernel
theorem dX5_code_84 : decode cX5_code 84 = .ok (.iload 5, 2) := by decide +kernel
theorem dX5_code_86 : decode cX5_code 86 = .ok (.imul, 1) := by decide +kernel
theorem dX5_code_87 : decode cX5_code 87 = .ok (.isub, 1) := by decide +kernel
theorem dX5_code_88 : decode cX5_code 88 = .ok (.ishr, 1) := by decide +kernel
theorem dX5_code_89 : decode cX5_code 89 = .ok (.sipush 255, 3) := by decide +kernel
theorem dX5_code_92 : decode cX5_code 92 = .ok (.iand, 1) := by decide +kernel
theorem dX5_code_93 : decode cX5_code 93 = .ok (.goto 4, 3) := by decide +kernel
theorem dX5_code_96 : decode cX5_code 96 = .ok (.iconst 0, 1) := by decide +kernel
theorem dX5_code_97 : decode cX5_code 97 = .ok (.iastore, 1) := by decide +kernel
theorem dX5_code_98 : decode cX5_code 98 = .ok (.iinc 5 1, 3) := by decide +kernel
theorem dX5_code_101 : decode cX5_code 101 = .ok (.goto (-66), 3) := by decide +kernel
theorem dX5_code_104 : decode cX5_code 104 = .ok (.iconst 1, 1) := by decide +kernel
theorem dX5_code_105 : decode cX5_code 105 = .ok (.ireturn, 1) := by decide +kernel
theorem dX5_data_0 : decode cX5_data 0 = .ok (.aload_n 0, 1) := by decide +kernel
theorem dX5_data_1 : decode cX5_data 1 = .ok (.iconst 0, 1) := by decide +kernel
theorem dX5_data_2 : decode cX5_data 2 = .ok (.putfield 77, 3) := by decide +kernel
theorem dX5_data_5 : decode cX5_data 5 = .ok (.iload_n 1, 1) := by decide +kernel
theorem dX5_data_6 : decode cX5_data 6 = .ok (.ifCond .lt 9, 3) := by decide +kernel
theorem dX5_data_9 : decode cX5_data 9 = .ok (.iload_n 1, 1) := by decide +kernel
theorem dX5_data_10 : decode cX5_data 10 = .ok (.bipush 7, 2) := by decide +kernel
theorem dX5_data_12 : decode cX5_data 12 = .ok (.if_icmp .le 5, 3) := by decide +kernel
theorem dX5_data_15 : decode cX5_data 15 = .ok (.iconst 0, 1) := by decide +kernel
theorem dX5_data_16 : decode cX5_data 16 = .ok (.ireturn, 1) := by decide +kernel
theorem dX5_data_17 : decode cX5_data 17 = .ok (.aload_n 0, 1) := by decide +kernel
theorem dX5_data_18 : decode cX5_data 18 = .ok (.getfield 16, 3) := by decide +kernel
theorem dX5_data_21 : decode cX5_data 21 = .ok (.iload_n 1, 1) := by decide +kernel
theorem dX5_data_22 : decode cX5_data 22 = .ok (.iload_n 2, 1) := by decide +kernel
theorem dX5_data_23 : decode cX5_data 23 = .ok (.iastore, 1) := by decide +kernel
theorem dX5_data_24 : decode cX5_data 24 = .ok (.iconst 1, 1) := by decide +kernel
theorem dX5_data_25 : decode cX5_data 25 = .ok (.ireturn, 1) := by decide +kernel
theorem dX5_bound_0 : decode cX5_bound 0 = .ok (.aload_n 0, 1) := by decide +kernel
theorem dX5_bound_1 : decode cX5_bound 1 = .ok (.iconst 0, 1) := by decide +kernel
theorem dX5_bound_2 : decode cX5_bound 2 = .ok (.putfield 77, 3) := by decide +kernel
theorem dX5_bound_5 : decode cX5_bound 5 = .ok (.iload_n 1, 1) := by decide +kernel
theorem dX5_bound_6 : decode cX5_bound 6 = .ok (.ifCond .lt 19, 3) := by decide +kernel
theorem dX5_bound_9 : decode cX5_bound 9 = .ok (.iload_n 1, 1) := by decide +kernel
theorem dX5_bound_10 : decode cX5_bound 10 = .ok (.iconst 3, 1) := by decide +kernel
theorem dX5_bound_11 : decode cX5_bound 11 = .ok (.if_icmp .gt 14, 3) := by decide +kernel
theorem dX5_bound_14 : decode cX5_bound 14 = .ok (.iload_n 2, 1) := by decide +kernel
theorem dX5_bound_15 : decode cX5_bound 15 = .ok (.iconst 1, 1) := by decide +kernel
theorem dX5_bound_16 : decode cX5_bound 16 = .ok (.if_icmp .lt 9, 3) := by decide +kernel
theorem dX5_bound_19 : decode cX5_bound 19 = .ok (.iload_n 2, 1) := by decide +kernel
theorem dX5_bound_20 : decode cX5_bound 20 = .ok (.bipush 6, 2) := by decide +kernel
theorem dX5_bound_22 : decode cX5_bound 22 = .ok (.if_icmp .le 5, 3) := by decide +kernel
theorem dX5_bound_25 : decode cX5_bound 25 = .ok (.iconst 0, 1) := by decide +kernel
theorem dX5_bound_26 : decode cX5_bound 26 = .ok (.ireturn, 1) := by decide +kernel
theorem dX5_bound_27 : decode cX5_bound 27 = .ok (.aload_n 0, 1) := by decide +kernel
theorem dX5_bound_28 : decode cX5_bound 28 = .ok (.getfield 19, 3) := by decide +kernel
theorem dX5_bound_31 : decode cX5_bound 31 = .ok (.iload_n 1, 1) := by decide +kernel
theorem dX5_bound_32 : decode cX5_bound 32 = .ok (.iload_n 2, 1) := by decide +kernel
theorem dX5_bound_33 : decode cX5_bound 33 = .ok (.iastore, 1) := by decide +kernel
theorem dX5_bound_34 : decode cX5_bound 34 = .ok (.iconst 1, 1) := by decide +kernel
theorem dX5_bound_35 : decode cX5_bound 35 = .ok (.ireturn, 1) := by decide +kernel
theorem dX5_setting_0 : decode cX5_setting 0 = .ok (.iload_n 1, 1) := by decide +kernel
theorem dX5_setting_1 : decode cX5_setting 1 = .ok (.iconst 4, 1) := by decide +kernel
theorem dX5_setting_2 : decode cX5_setting 2 = .ok (.iload_n 2, 1) := by decide +kernel
theorem dX5_setting_3 : decode cX5_setting 3 = .ok (.imul, 1) := by decide +kernel
theorem dX5_setting_4 : decode cX5_setting 4 = .ok (.ishr, 1) := by decide +kernel
theorem dX5_setting_5 : decode cX5_setting 5 = .ok (.bipush 15, 2) := by decide +kernel
theorem dX5_setting_7 : decode cX5_setting 7 = .ok (.iand, 1) := by decide +kernel
theorem dX5_setting_8 : decode cX5_setting 8 = .ok (.ireturn, 1) := by decide +kernel
theorem dX5_areSettings_0 : decode cX5_areSettings 0 = .ok (.iload_n 1, 1) := by decide +kernel
theorem dX5_areSettings_1 : decode cX5_areSettings 1 = .ok (.ifCond .lt 9, 3) := by decide +kernel
theorem dX5_areSettings_4 : decode cX5_areSettings 4 = .ok (.iload_n 1, 1) := by decide +kernel
theorem dX5_areSettings_5 : decode cX5_areSettings 5 = .ok (.ldc 85, 2) := by decide +kernel
theorem dX5_areSettings_7 : decode cX5_areSettings 7 = .ok (.if_icmp .le 5, 3) := by decide +kernel
theorem dX5_areSettings_10 : decode cX5_areSettings 10 = .ok (.iconst 0, 1) := by decide +kernel
theorem dX5_areSettings_11 : decode cX5_areSettings 11 = .ok (.ireturn, 1) := by decide +kernel
theorem dX5_areSettings_12 : decode cX5_areSettings 12 = .ok (.iconst 0, 1) := by decide +kernel
theorem dX5_areSettings_13 : decode cX5_areSettings 13 = .ok (.istore_n 2, 1) := by decide +kernel
theorem dX5_areSettings_14 : decode cX5_areSettings 14 = .ok (.iload_n 2, 1) := by decide +kernel
theorem dX5_areSettings_15 : decode cX5_areSettings 15 = .ok (.iconst 4, 1) := by decide +kernel
theorem dX5_areSettings_16 : decode cX5_areSettings 16 = .ok (.if_icmp .ge 21, 3) := by decide +kernel
theorem dX5_areSettings_19 : decode cX5_areSettings 19 = .ok (.aload_n 0, 1) := by decide +kernel
theorem dX5_areSettings_20 : decode cX5_areSettings 20 = .ok (.iload_n 1, 1) := by decide +kernel
theorem dX5_areSettings_21 : decode cX5_areSettings 21 = .ok (.iload_n 2, 1) := by decide +kernel
theorem dX5_areSettings_22 : decode cX5_areSettings 22 = .ok (.invokevirtual 86, 3) := by decide +kernel
theorem dX5_areSettings_25 : decode cX5_areSettings 25 = .ok (.iconst 5, 1) := by decide +kernel
theorem dX5_areSettings_26 : decode cX5_areSettings 26 = .ok (.if_icmp .le 5, 3) := by decide +kernel
theorem dX5_areSettings_29 : decode cX5_areSettings 29 = .ok (.iconst 0, 1) := by decide +kernel
theorem dX5_areSettings_30 : decode cX5_areSettings 30 = .ok (.ireturn, 1) := by decide +kernel
theorem dX5_areSettings_31 : decode cX5_areSettings 31 = .ok (.iinc 2 1, 3) := by decide +kernel
theorem dX5_areSettings_34 : decode cX5_areSettings 34 = .ok (.goto (-20), 3) := by decide +kernel
theorem dX5_areSettings_37 : decode cX5_areSettings 37 = .ok (.iconst 1, 1) := by decide +kernel
theorem dX5_areSettings_38 : decode cX5_areSettings 38 = .ok (.ireturn, 1) := by decide +kernel
theorem dX5_isSeed_0 : decode cX5_isSeed 0 = .ok (.iload_n 1, 1) := by decide +kernel
theorem dX5_isSeed_1 : decode cX5_isSeed 1 = .ok (.ifCond .lt 13, 3) := by decide +kernel
theorem dX5_isSeed_4 : decode cX5_isSeed 4 = .ok (.iload_n 1, 1) := by decide +kernel
theorem dX5_isSeed_5 : decode cX5_isSeed 5 = .ok (.bipush 100, 2) := by decide +kernel
theorem dX5_isSeed_7 : decode cX5_isSeed 7 = .ok (.if_icmp .ge 7, 3) := by decide +kernel
theorem dX5_isSeed_10 : decode cX5_isSeed 10 = .ok (.iconst 1, 1) := by decide +kernel
theorem dX5_isSeed_11 : decode cX5_isSeed 11 = .ok (.goto 4, 3) := by decide +kernel
theorem dX5_isSeed_14 : decode cX5_isSeed 14 = .ok (.iconst 0, 1) := by decide +kernel
theorem dX5_isSeed_15 : decode cX5_isSeed 15 = .ok (.ireturn, 1) := by decide +kernel
theorem dX5_areTicks_0 : decode cX5_areTicks 0 = .ok (.iload_n 1, 1) := by decide +kernel
theorem dX5_areTicks_1 : decode cX5_areTicks 1 = .ok (.iconst 1, 1) := by decide +kernel
theorem dX5_areTicks_2 : decode cX5_areTicks 2 = .ok (.if_icmp .lt 13, 3) := by decide +kernel
theorem dX5_areTicks_5 : decode cX5_areTicks 5 = .ok (.iload_n 1, 1) := by decide +kernel
theorem dX5_areTicks_6 : decode cX5_areTicks 6 = .ok (.bipush 16, 2) := by decide +kernel
theorem dX5_areTicks_8 : decode cX5_areTicks 8 = .ok (.if_icmp .gt 7, 3) := by decide +kernel
theorem dX5_areTicks_11 : decode cX5_areTicks 11 = .ok (.iconst 1, 1) := by decide +kernel
theorem dX5_areTicks_12 : decode cX5_areTicks 12 = .ok (.goto 4, 3) := by decide +kernel
theorem dX5_areTicks_15 : decode cX5_areTicks 15 = .ok (.iconst 0, 1) := by decide +kernel
theorem dX5_areTicks_16 : decode cX5_areTicks 16 = .ok (.ireturn, 1) := by decide +kernel
theorem dX5_isRun_0 : decode cX5_isRun 0 = .ok (.iload_n 1, 1) := by decide +kernel
theorem dX5_isRun_1 : decode cX5_isRun 1 = .ok (.ifCond .lt 15, 3) := by decide +kernel
theorem dX5_isRun_4 : decode cX5_isRun 4 = .ok (.iload_n 1, 1) := by decide +kernel
theorem dX5_isRun_5 : decode cX5_isRun 5 = .ok (.aload_n 0, 1) := by decide +kernel
theorem dX5_isRun_6 : decode cX5_isRun 6 = .ok (.getfield 90, 3) := by decide +kernel
theorem dX5_isRun_9 : decode cX5_isRun 9 = .ok (.if_icmp .ge 7, 3) := by decide +kernel
theorem dX5_isRun_12 : decode cX5_isRun 12 = .ok (.iconst 1, 1) := by decide +kernel
theorem dX5_isRun_13 : decode cX5_isRun 13 = .ok (.goto 4, 3) := by decide +kernel
theorem dX5_isRun_16 : decode cX5_isRun 16 = .ok (.iconst 0, 1) := by decide +kernel
theorem dX5_isRun_17 : decode cX5_isRun 17 = .ok (.ireturn, 1) := by decide +kernel
theorem dX5_step_0 : decode cX5_step 0 = .ok (.iload_n 2, 1) := by decide +kernel
theorem dX5_step_1 : decode cX5_step 1 = .ok (.bipush 15, 2) := by decide +kernel
theorem dX5_step_3 : decode cX5_step 3 = .ok (.iand, 1) := by decide +kernel
theorem dX5_step_4 : decode cX5_step 4 = .ok (.istore 6, 2) := by decide +kernel
theorem dX5_step_6 : decode cX5_step 6 = .ok (.iload_n 2, 1) := by decide +kernel
theorem dX5_step_7 : decode cX5_step 7 = .ok (.iconst 4, 1) := by decide +kernel
theorem dX5_step_8 : decode cX5_step 8 = .ok (.ishr, 1) := by decide +kernel
theorem dX5_step_9 : decode cX5_step 9 = .ok (.istore 7, 2) := by decide +kernel
theorem dX5_step_11 : decode cX5_step 11 = .ok (.iload 7, 2) := by decide +kernel
theorem dX5_step_13 : decode cX5_step 13 = .ok (.ifCond .ne 8, 3) := by decide +kernel
theorem dX5_step_16 : decode cX5_step 16 = .ok (.iload_n 1, 1) := by decide +kernel
theorem dX5_step_17 : decode cX5_step 17 = .ok (.iload 6, 2) := by decide +kernel
theorem dX5_step_19 : decode cX5_step 19 = .ok (.iadd, 1) := by decide +kernel
theorem dX5_step_20 : decode cX5_step 20 = .ok (.ireturn, 1) := by decide +kernel
theorem dX5_step_21 : decode cX5_step 21 = .ok (.iload 7, 2) := by decide +kernel
theorem dX5_step_23 : decode cX5_step 23 = .ok (.iconst 1, 1) := by decide +kernel
theorem dX5_step_24 : decode cX5_step 24 = .ok (.if_icmp .ne 8, 3) := by decide +kernel
theorem dX5_step_27 : decode cX5_step 27 = .ok (.iload_n 1, 1) := by decide +kernel
theorem dX5_step_28 : decode cX5_step 28 = .ok (.iload 6, 2) := by decide +kernel
theorem dX5_step_30 : decode cX5_step 30 = .ok (.imul, 1) := by decide +kernel
theorem dX5_step_31 : decode cX5_step 31 = .ok (.ireturn, 1) := by decide +kernel
theorem dX5_step_32 : decode cX5_step 32 = .ok (.iload 7, 2) := by decide +kernel
theorem dX5_step_34 : decode cX5_step 34 = .ok (.iconst 2, 1) := by decide +kernel
theorem dX5_step_35 : decode cX5_step 35 = .ok (.if_icmp .eq 9, 3) := by decide +kernel
theorem dX5_step_38 : decode cX5_step 38 = .ok (.iload 7, 2) := by decide +kernel
theorem dX5_step_40 : decode cX5_step 40 = .ok (.iconst 3, 1) := by decide +kernel
theorem dX5_step_41 : decode cX5_step 41 = .ok (.if_icmp .ne 63, 3) := by decide +kernel
theorem dX5_step_44 : decode cX5_step 44 = .ok (.aload_n 0, 1) := by decide +kernel
theorem dX5_step_45 : decode cX5_step 45 = .ok (.aload_n 0, 1) := by decide +kernel
theorem dX5_step_46 : decode cX5_step 46 = .ok (.getfield 93, 3) := by decide +kernel
theorem dX5_step_49 : decode cX5_step 49 = .ok (.iconst 1, 1) := by decide +kernel
theorem dX5_step_50 : decode cX5_step 50 = .ok (.iload 6, 2) := by decide +kernel
theorem dX5_step_52 : decode cX5_step 52 = .ok (.iconst 4, 1) := by decide +kernel
theorem dX5_step_53 : decode cX5_step 53 = .ok (.irem, 1) := by decide +kernel
theorem dX5_step_54 : decode cX5_step 54 = .ok (.ishl, 1) := by decide +kernel
theorem dX5_step_55 : decode cX5_step 55 = .ok (.ior, 1) := by decide +kernel
theorem dX5_step_56 : decode cX5_step 56 = .ok (.putfield 93, 3) := by decide +kernel
theorem dX5_step_59 : decode cX5_step 59 = .ok (.iload 7, 2) := by decide +kernel
theorem dX5_step_61 : decode cX5_step 61 = .ok (.iconst 2, 1) := by decide +kernel
theorem dX5_step_62 : decode cX5_step 62 = .ok (.if_icmp .ne 15, 3) := by decide +kernel
theorem dX5_step_65 : decode cX5_step 65 = .ok (.iload_n 1, 1) := by decide +kernel
theorem dX5_step_66 : decode cX5_step 66 = .ok (.aload_n 0, 1) := by decide +kernel
theorem dX5_step_67 : decode cX5_step 67 = .ok (.iload_n 3, 1) := by decide +kernel
theorem dX5_step_68 : decode cX5_step 68 = .ok (.iload 6, 2) := by decide +kernel
theorem dX5_step_70 : decode cX5_step 70 = .ok (.iconst 4, 1) := by decide +kernel
theorem dX5_step_71 : decode cX5_step 71 = .ok (.irem, 1) := by decide +kernel
theorem dX5_step_72 : decode cX5_step 72 = .ok (.invokevirtual 86, 3) := by decide +kernel
theorem dX5_step_75 : decode cX5_step 75 = .ok (.iadd, 1) := by decide +kernel
theorem dX5_step_76 : decode cX5_step 76 = .ok (.ireturn, 1) := by decide +kernel
theorem dX5_step_77 : decode cX5_step 77 = .ok (.aload_n 0, 1) := by decide +kernel
theorem dX5_step_78 : decode cX5_step 78 = .ok (.aload_n 0, 1) := by decide +kernel
theorem dX5_step_79 : decode cX5_step 79 = .ok (.iload_n 3, 1) := by decide +kernel
theorem dX5_step_80 : decode cX5_step 80 = .ok (.iload 6, 2) := by decide +kernel
theorem dX5_step_82 : decode cX5_step 82 = .ok (.iconst 4, 1) := by decide +kernel
theorem dX5_step_83 : decode cX5_step 83 = .ok (.irem, 1) := by decide +kernel
theorem dX5_step_84 : decode cX5_step 84 = .ok (.invokevirtual 86, 3) := by decide +kernel
theorem dX5_step_87 : decode cX5_step 87 = .ok (.iload 6, 2) := by decide +kernel
theorem dX5_step_89 : decode cX5_step 89 = .ok (.iconst 4, 1) := by decide +kernel
theorem dX5_step_90 : decode cX5_step 90 = .ok (.idiv, 1) := by decide +kernel
theorem dX5_step_91 : decode cX5_step 91 = .ok (.if_icmp .le 7, 3) := by decide +kernel
theorem dX5_step_94 : decode cX5_step 94 = .ok (.iconst 1, 1) := by decide +kernel
theorem dX5_step_95 : decode cX5_step 95 = .ok (.goto 4, 3) := by decide +kernel
theorem dX5_step_98 : decode cX5_step 98 = .ok (.iconst 0, 1) := by decide +kernel
theorem dX5_step_99 : decode cX5_step 99 = .ok (.putfield 96, 3) := by decide +kernel
theorem dX5_step_102 : decode cX5_step 102 = .ok (.iload_n 1, 1) := by decide +kernel
theorem dX5_step_103 : decode cX5_step 103 = .ok (.ireturn, 1) := by decide +kernel
theorem dX5_step_104 : decode cX5_step 104 = .ok (.iload 7, 2) := by decide +kernel
theorem dX5_step_106 : decode cX5_step 106 = .ok (.iconst 4, 1) := by decide +kernel
theorem dX5_step_107 : decode cX5_step 107 = .ok (.if_icmp .ne 18, 3) := by decide +kernel
theorem dX5_step_110 : decode cX5_step 110 = .ok (.aload_n 0, 1) := by decide +kernel
theorem dX5_step_111 : decode cX5_step 111 = .ok (.iconst 1, 1) := by decide +kernel
theorem dX5_step_112 : decode cX5_step 112 = .ok (.putfield 100, 3) := by decide +kernel
theorem dX5_step_115 : decode cX5_step 115 = .ok (.iload_n 1, 1) := by decide +kernel
theorem dX5_step_116 : decode cX5_step 116 = .ok (.iload 4, 2) := by decide +kernel
theorem dX5_step_118 : decode cX5_step 118 = .ok (.iload 6, 2) := by decide +kernel
theorem dX5_step_120 : decode cX5_step 120 = .ok (.iconst 1, 1) := by decide +kernel
theorem dX5_step_121 : decode cX5_step 121 = .ok (.iadd, 1) := by decide +kernel
theorem dX5_step_122 : decode cX5_step 122 = .ok (.imul, 1) := by decide +kernel
theorem dX5_step_123 : decode cX5_step 123 = .ok (.ixor, 1) := by decide +kernel
theorem dX5_step_124 : decode cX5_step 124 = .ok (.ireturn, 1) := by decide +kernel
theorem dX5_step_125 : decode cX5_step 125 = .ok (.iload 7, 2) := by decide +kernel
theorem dX5_step_127 : decode cX5_step 127 = .ok (.iconst 5, 1) := by decide +kernel
theorem dX5_step_128 : decode cX5_step 128 = .ok (.if_icmp .ne 38, 3) := by decide +kernel
theorem dX5_step_131 : decode cX5_step 131 = .ok (.aload_n 0, 1) := by decide +kernel
theorem dX5_step_132 : decode cX5_step 132 = .ok (.aload_n 0, 1) := by decide +kernel
theorem dX5_step_133 : decode cX5_step 133 = .ok (.getfield 103, 3) := by decide +kernel
theorem dX5_step_136 : decode cX5_step 136 = .ok (.iconst 1, 1) := by decide +kernel
theorem dX5_step_137 : decode cX5_step 137 = .ok (.iload 5, 2) := by decide +kernel
theorem dX5_step_139 : decode cX5_step 139 = .ok (.iload 6, 2) := by decide +kernel
theorem dX5_step_141 : decode cX5_step 141 = .ok (.iadd, 1) := by decide +kernel
theorem dX5_step_142 : decode cX5_step 142 = .ok (.bipush 8, 2) := by decide +kernel
theorem dX5_step_144 : decode cX5_step 144 = .ok (.irem, 1) := by decide +kernel
theorem dX5_step_145 : decode cX5_step 145 = .ok (.ishl, 1) := by decide +kernel
theorem dX5_step_146 : decode cX5_step 146 = .ok (.ior, 1) := by decide +kernel
theorem dX5_step_147 : decode cX5_step 147 = .ok (.putfield 103, 3) := by decide +kernel
theorem dX5_step_150 : decode cX5_step 150 = .ok (.iload_n 1, 1) := by decide +kernel
theorem dX5_step_151 : decode cX5_step 151 = .ok (.aload_n 0, 1) := by decide +kernel
theorem dX5_step_152 : decode cX5_step 152 = .ok (.getfield 16, 3) := by decide +kernel
theorem dX5_step_155 : decode cX5_step 155 = .ok (.iload 5, 2) := by decide +kernel
theorem dX5_step_157 : decode cX5_step 157 = .ok (.iload 6, 2) := by decide +kernel
theorem dX5_step_159 : decode cX5_step 159 = .ok (.iadd, 1) := by decide +kernel
theorem dX5_step_160 : decode cX5_step 160 = .ok (.bipush 8, 2) := by decide +kernel
theorem dX5_step_162 : decode cX5_step 162 = .ok (.irem, 1) := by decide +kernel
theorem dX5_step_163 : decode cX5_step 163 = .ok (.iaload, 1) := by decide +kernel
theorem dX5_step_164 : decode cX5_step 164 = .ok (.iadd, 1) := by decide +kernel
theorem dX5_step_165 : decode cX5_step 165 = .ok (.ireturn, 1) := by decide +kernel
theorem dX5_step_166 : decode cX5_step 166 = .ok (.iload 7, 2) := by decide +kernel
theorem dX5_step_168 : decode cX5_step 168 = .ok (.bipush 6, 2) := by decide +kernel
theorem dX5_step_170 : decode cX5_step 170 = .ok (.if_icmp .ne 15, 3) := by decide +kernel
theorem dX5_step_173 : decode cX5_step 173 = .ok (.aload_n 0, 1) := by decide +kernel
theorem dX5_step_174 : decode cX5_step 174 = .ok (.iconst 1, 1) := by decide +kernel
theorem dX5_step_175 : decode cX5_step 175 = .ok (.putfield 106, 3) := by decide +kernel
theorem dX5_step_178 : decode cX5_step 178 = .ok (.iload_n 1, 1) := by decide +kernel
theorem dX5_step_179 : decode cX5_step 179 = .ok (.aload_n 0, 1) := by decide +kernel
theorem dX5_step_180 : decode cX5_step 180 = .ok (.getfield 109, 3) := by decide +kernel
theorem dX5_step_183 : decode cX5_step 183 = .ok (.iadd, 1) := by decide +kernel
theorem dX5_step_184 : decode cX5_step 184 = .ok (.ireturn, 1) := by decide +kernel
theorem dX5_step_185 : decode cX5_step 185 = .ok (.iload 7, 2) := by decide +kernel
theorem dX5_step_187 : decode cX5_step 187 = .ok (.bipush 7, 2) := by decide +kernel
theorem dX5_step_189 : decode cX5_step 189 = .ok (.if_icmp .ne 25, 3) := by decide +kernel
theorem dX5_step_192 : decode cX5_step 192 = .ok (.iload 6, 2) := by decide +kernel
theorem dX5_step_194 : decode cX5_step 194 = .ok (.ifCond .ne 7, 3) := by decide +kernel
theorem dX5_step_197 : decode cX5_step 197 = .ok (.iload_n 1, 1) := by decide +kernel
theorem dX5_step_198 : decode cX5_step 198 = .ok (.goto 15, 3) := by decide +kernel
theorem dX5_step_201 : decode cX5_step 201 = .ok (.iload_n 1, 1) := by decide +kernel
theorem dX5_step_202 : decode cX5_step 202 = .ok (.iload 6, 2) := by decide +kernel
theorem dX5_step_204 : decode cX5_step 204 = .ok (.ishl, 1) := by decide +kernel
theorem dX5_step_205 : decode cX5_step 205 = .ok (.iload_n 1, 1) := by decide +kernel
theorem dX5_step_206 : decode cX5_step 206 = .ok (.bipush 32, 2) := by decide +kernel
theorem dX5_step_208 : decode cX5_step 208 = .ok (.iload 6, 2) := by decide +kernel
theorem dX5_step_210 : decode cX5_step 210 = .ok (.isub, 1) := by decide +kernel
theorem dX5_step_211 : decode cX5_step 211 = .ok (.iushr, 1) := by decide +kernel
theorem dX5_step_212 : decode cX5_step 212 = .ok (.ior, 1) := by decide +kernel
theorem dX5_step_213 : decode cX5_step 213 = .ok (.ireturn, 1) := by decide +kernel
theorem dX5_step_214 : decode cX5_step 214 = .ok (.iload 7, 2) := by decide +kernel
theorem dX5_step_216 : decode cX5_step 216 = .ok (.bipush 8, 2) := by decide +kernel
theorem dX5_step_218 : decode cX5_step 218 = .ok (.if_icmp .ne 10, 3) := by decide +kernel
theorem dX5_step_221 : decode cX5_step 221 = .ok (.iload_n 1, 1) := by decide +kernel
theorem dX5_step_222 : decode cX5_step 222 = .ok (.iload 6, 2) := by decide +kernel
theorem dX5_step_224 : decode cX5_step 224 = .ok (.iconst 2, 1) := by decide +kernel
theorem dX5_step_225 : decode cX5_step 225 = .ok (.iadd, 1) := by decide +kernel
theorem dX5_step_226 : decode cX5_step 226 = .ok (.irem, 1) := by decide +kernel
theorem dX5_step_227 : decode cX5_step 227 = .ok (.ireturn, 1) := by decide +kernel
theorem dX5_step_228 : decode cX5_step 228 = .ok (.iload 7, 2) := by decide +kernel
theorem dX5_step_230 : decode cX5_step 230 = .ok (.bipush 9, 2) := by decide +kernel
theorem dX5_step_232 : decode cX5_step 232 = .ok (.if_icmp .ne 21, 3) := by decide +kernel
theorem dX5_step_235 : decode cX5_step 235 = .ok (.aload_n 0, 1) := by decide +kernel
theorem dX5_step_236 : decode cX5_step 236 = .ok (.iload_n 1, 1) := by decide +kernel
theorem dX5_step_237 : decode cX5_step 237 = .ok (.iload 6, 2) := by decide +kernel
theorem dX5_step_239 : decode cX5_step 239 = .ok (.iconst 1, 1) := by decide +kernel
theorem dX5_step_240 : decode cX5_step 240 = .ok (.iadd, 1) := by decide +kernel
theorem dX5_step_241 : decode cX5_step 241 = .ok (.irem, 1) := by decide +kernel
theorem dX5_step_242 : decode cX5_step 242 = .ok (.ifCond .ne 7, 3) := by decide +kernel
theorem dX5_step_245 : decode cX5_step 245 = .ok (.iconst 1, 1) := by decide +kernel
theorem dX5_step_246 : decode cX5_step 246 = .ok (.goto 4, 3) := by decide +kernel
theorem dX5_step_249 : decode cX5_step 249 = .ok (.iconst 0, 1) := by decide +kernel
theorem dX5_step_250 : decode cX5_step 250 = .ok (.putfield 112, 3) := by decide +kernel
theorem dX5_step_253 : decode cX5_step 253 = .ok (.iload_n 1, 1) := by decide +kernel
theorem dX5_step_254 : decode cX5_step 254 = .ok (.ireturn, 1) := by decide +kernel
theorem dX5_goes_0 : decode cX5_goes 0 = .ok (.iload_n 3, 1) := by decide +kernel
theorem dX5_goes_1 : decode cX5_goes 1 = .ok (.istore 7, 2) := by decide +kernel
theorem dX5_goes_3 : decode cX5_goes 3 = .ok (.aload_n 0, 1) := by decide +kernel
theorem dX5_goes_4 : decode cX5_goes 4 = .ok (.iload_n 2, 1) := by decide +kernel
theorem dX5_goes_5 : decode cX5_goes 5 = .ok (.putfield 115, 3) := by decide +kernel
theorem dX5_goes_8 : decode cX5_goes 8 = .ok (.aload_n 0, 1) := by decide +kernel
theorem dX5_goes_9 : decode cX5_goes 9 = .ok (.iconst 0, 1) := by decide +kernel
theorem dX5_goes_10 : decode cX5_goes 10 = .ok (.putfield 118, 3) := by decide +kernel
theorem dX5_goes_13 : decode cX5_goes 13 = .ok (.aload_n 0, 1) := by decide +kernel
theorem dX5_goes_14 : decode cX5_goes 14 = .ok (.iconst 0, 1) := by decide +kernel
theorem dX5_goes_15 : decode cX5_goes 15 = .ok (.putfield 93, 3) := by decide +kernel
theorem dX5_goes_18 : decode cX5_goes 18 = .ok (.aload_n 0, 1) := by decide +kernel
theorem dX5_goes_19 : decode cX5_goes 19 = .ok (.iconst 0, 1) := by decide +kernel
theorem dX5_goes_20 : decode cX5_goes 20 = .ok (.putfield 103, 3) := by decide +kernel
theorem dX5_goes_23 : decode cX5_goes 23 = .ok (.aload_n 0, 1) := by decide +kernel
theorem dX5_goes_24 : decode cX5_goes 24 = .ok (.iconst 0, 1) := by decide +kernel
theorem dX5_goes_25 : decode cX5_goes 25 = .ok (.putfield 100, 3) := by decide +kernel
theorem dX5_goes_28 : decode cX5_goes 28 = .ok (.aload_n 0, 1) := by decide +kernel
theorem dX5_goes_29 : decode cX5_goes 29 = .ok (.iconst 0, 1) := by decide +kernel
theorem dX5_goes_30 : decode cX5_goes 30 = .ok (.putfield 106, 3) := by decide +kernel
theorem dX5_goes_33 : decode cX5_goes 33 = .ok (.aload_n 0, 1) := by decide +kernel
theorem dX5_goes_34 : decode cX5_goes 34 = .ok (.iconst 0, 1) := by decide +kernel
theorem dX5_goes_35 : decode cX5_goes 35 = .ok (.putfield 112, 3) := by decide +kernel
theorem dX5_goes_38 : decode cX5_goes 38 = .ok (.iload_n 2, 1) := by decide +kernel
theorem dX5_goes_39 : decode cX5_goes 39 = .ok (.istore 8, 2) := by decide +kernel
theorem dX5_goes_41 : decode cX5_goes 41 = .ok (.iload 8, 2) := by decide +kernel
theorem dX5_goes_43 : decode cX5_goes 43 = .ok (.iload 6, 2) := by decide +kernel
theorem dX5_goes_45 : decode cX5_goes 45 = .ok (.if_icmp .ge 116, 3) := by decide +kernel
theorem dX5_goes_48 : decode cX5_goes 48 = .ok (.aload_n 0, 1) := by decide +kernel
theorem dX5_goes_49 : decode cX5_goes 49 = .ok (.getfield 112, 3) := by decide +kernel
theorem dX5_goes_52 : decode cX5_goes 52 = .ok (.ifCond .ne 109, 3) := by decide +kernel
theorem dX5_goes_55 : decode cX5_goes 55 = .ok (.aload_n 0, 1) := by decide +kernel
theorem dX5_goes_56 : decode cX5_goes 56 = .ok (.iconst 0, 1) := by decide +kernel
theorem dX5_goes_57 : decode cX5_goes 57 = .ok (.putfield 96, 3) := by decide +kernel
theorem dX5_goes_60 : decode cX5_goes 60 = .ok (.iconst 0, 1) := by decide +kernel
theorem dX5_goes_61 : decode cX5_goes 61 = .ok (.istore 9, 2) := by decide +kernel
theorem dX5_goes_63 : decode cX5_goes 63 = .ok (.iload 9, 2) := by decide +kernel
theorem dX5_goes_65 : decode cX5_goes 65 = .ok (.aload_n 0, 1) := by decide +kernel
theorem dX5_goes_66 : decode cX5_goes 66 = .ok (.getfield 25, 3) := by decide +kernel
theorem dX5_goes_69 : decode cX5_goes 69 = .ok (.iload_n 1, 1) := by decide +kernel
theorem dX5_goes_70 : decode cX5_goes 70 = .ok (.iaload, 1) := by decide +kernel
theorem dX5_goes_71 : decode cX5_goes 71 = .ok (.if_icmp .ge 57, 3) := by decide +kernel
theorem dX5_goes_74 : decode cX5_goes 74 = .ok (.aload_n 0, 1) := by decide +kernel
theorem dX5_goes_75 : decode cX5_goes 75 = .ok (.getfield 112, 3) := by decide +kernel
theorem dX5_goes_78 : decode cX5_goes 78 = .ok (.ifCond .ne 50, 3) := by decide +kernel
theorem dX5_goes_81 : decode cX5_goes 81 = .ok (.aload_n 0, 1) := by decide +kernel
theorem dX5_goes_82 : decode cX5_goes 82 = .ok (.getfield 96, 3) := by decide +kernel
theorem dX5_goes_85 : decode cX5_goes 85 = .ok (.ifCond .eq 11, 3) := by decide +kernel
theorem dX5_goes_88 : decode cX5_goes 88 = .ok (.aload_n 0, 1) := by decide +kernel
theorem dX5_goes_89 : decode cX5_goes 89 = .ok (.iconst 0, 1) := by decide +kernel
theorem dX5_goes_90 : decode cX5_goes 90 = .ok (.putfield 96, 3) := by decide +kernel
theorem dX5_goes_93 : decode cX5_goes 93 = .ok (.goto 29, 3) := by decide +kernel
theorem dX5_goes_96 : decode cX5_goes 96 = .ok (.aload_n 0, 1) := by decide +kernel
theorem dX5_goes_97 : decode cX5_goes 97 = .ok (.iload 7, 2) := by decide +kernel
theorem dX5_goes_99 : decode cX5_goes 99 = .ok (.aload_n 0, 1) := by decide +kernel
theorem dX5_goes_100 : decode cX5_goes 100 = .ok (.getfield 28, 3) := by decide +kernel
theorem dX5_goes_103 : decode cX5_goes 103 = .ok (.bipush 8, 2) := by decide +kernel
theorem dX5_goes_105 : decode cX5_goes 105 = .ok (.iload_n 1, 1) := by decide +kernel
theorem dX5_goes_106 : decode cX5_goes 106 = .ok (.imul, 1) := by decide +kernel
theorem dX5_goes_107 : decode cX5_goes 107 = .ok (.iload 9, 2) := by decide +kernel
theorem dX5_goes_109 : decode cX5_goes 109 = .ok (.iadd, 1) := by decide +kernel
theorem dX5_goes_110 : decode cX5_goes 110 = .ok (.iaload, 1) := by decide +kernel
theorem dX5_goes_111 : decode cX5_goes 111 = .ok (.iload 4, 2) := by decide +kernel
theorem dX5_goes_113 : decode cX5_goes 113 = .ok (.iload 5, 2) := by decide +kernel
theorem dX5_goes_115 : decode cX5_goes 115 = .ok (.iload 8, 2) := by decide +kernel
theorem dX5_goes_117 : decode cX5_goes 117 = .ok (.invokevirtual 121, 3) := by decide +kernel
theorem dX5_goes_120 : decode cX5_goes 120 = .ok (.istore 7, 2) := by decide +kernel
theorem dX5_goes_122 : decode cX5_goes 122 = .ok (.iinc 9 1, 3) := by decide +kernel
theorem dX5_goes_125 : decode cX5_goes 125 = .ok (.goto (-62), 3) := by decide +kernel
theorem dX5_goes_128 : decode cX5_goes 128 = .ok (.aload_n 0, 1) := by decide +kernel
theorem dX5_goes_129 : decode cX5_goes 129 = .ok (.getfield 112, 3) := by decide +kernel
theorem dX5_goes_132 : decode cX5_goes 132 = .ok (.ifCond .eq 6, 3) := by decide +kernel
theorem dX5_goes_135 : decode cX5_goes 135 = .ok (.goto 20, 3) := by decide +kernel
theorem dX5_goes_138 : decode cX5_goes 138 = .ok (.aload_n 0, 1) := by decide +kernel
theorem dX5_goes_139 : decode cX5_goes 139 = .ok (.getfield 71, 3) := by decide +kernel
theorem dX5_goes_142 : decode cX5_goes 142 = .ok (.iload 8, 2) := by decide +kernel
theorem dX5_goes_144 : decode cX5_goes 144 = .ok (.iload 7, 2) := by decide +kernel
theorem dX5_goes_146 : decode cX5_goes 146 = .ok (.iastore, 1) := by decide +kernel
theorem dX5_goes_147 : decode cX5_goes 147 = .ok (.aload_n 0, 1) := by decide +kernel
theorem dX5_goes_148 : decode cX5_goes 148 = .ok (.iload 8, 2) := by decide +kernel
theorem dX5_goes_150 : decode cX5_goes 150 = .ok (.iconst 1, 1) := by decide +kernel
theorem dX5_goes_151 : decode cX5_goes 151 = .ok (.iadd, 1) := by decide +kernel
theorem dX5_goes_152 : decode cX5_goes 152 = .ok (.putfield 115, 3) := by decide +kernel
theorem dX5_goes_155 : decode cX5_goes 155 = .ok (.iinc 8 1, 3) := by decide +kernel
theorem dX5_goes_158 : decode cX5_goes 158 = .ok (.goto (-117), 3) := by decide +kernel
theorem dX5_goes_161 : decode cX5_goes 161 = .ok (.aload_n 0, 1) := by decide +kernel
theorem dX5_goes_162 : decode cX5_goes 162 = .ok (.aload_n 0, 1) := by decide +kernel
theorem dX5_goes_163 : decode cX5_goes 163 = .ok (.getfield 112, 3) := by decide +kernel
theorem dX5_goes_166 : decode cX5_goes 166 = .ok (.putfield 118, 3) := by decide +kernel
theorem dX5_goes_169 : decode cX5_goes 169 = .ok (.return_, 1) := by decide +kernel
theorem dX5_takes_0 : decode cX5_takes 0 = .ok (.iload_n 2, 1) := by decide +kernel
theorem dX5_takes_1 : decode cX5_takes 1 = .ok (.istore_n 3, 1) := by decide +kernel
theorem dX5_takes_2 : decode cX5_takes 2 = .ok (.iload_n 3, 1) := by decide +kernel
theorem dX5_takes_3 : decode cX5_takes 3 = .ok (.aload_n 0, 1) := by decide +kernel
theorem dX5_takes_4 : decode cX5_takes 4 = .ok (.getfield 115, 3) := by decide +kernel
theorem dX5_takes_7 : decode cX5_takes 7 = .ok (.if_icmp .ge 26, 3) := by decide +kernel
theorem dX5_takes_10 : decode cX5_takes 10 = .ok (.aload_n 0, 1) := by decide +kernel
theorem dX5_takes_11 : decode cX5_takes 11 = .ok (.getfield 43, 3) := by decide +kernel
theorem dX5_takes_14 : decode cX5_takes 14 = .ok (.bipush 16, 2) := by decide +kernel
theorem dX5_takes_16 : decode cX5_takes 16 = .ok (.iload_n 1, 1) := by decide +kernel
theorem dX5_takes_17 : decode cX5_takes 17 = .ok (.imul, 1) := by decide +kernel
theorem dX5_takes_18 : decode cX5_takes 18 = .ok (.iload_n 3, 1) := by decide +kernel
theorem dX5_takes_19 : decode cX5_takes 19 = .ok (.iadd, 1) := by decide +kernel
theorem dX5_takes_20 : decode cX5_takes 20 = .ok (.aload_n 0, 1) := by decide +kernel
theorem dX5_takes_21 : decode cX5_takes 21 = .ok (.getfield 71, 3) := by decide +kernel
theorem dX5_takes_24 : decode cX5_takes 24 = .ok (.iload_n 3, 1) := by decide +kernel
theorem dX5_takes_25 : decode cX5_takes 25 = .ok (.iaload, 1) := by decide +kernel
theorem dX5_takes_26 : decode cX5_takes 26 = .ok (.iastore, 1) := by decide +kernel
theorem dX5_takes_27 : decode cX5_takes 27 = .ok (.iinc 3 1, 3) := by decide +kernel
theorem dX5_takes_30 : decode cX5_takes 30 = .ok (.goto (-28), 3) := by decide +kernel
theorem dX5_takes_33 : decode cX5_takes 33 = .ok (.aload_n 0, 1) := by decide +kernel
theorem dX5_takes_34 : decode cX5_takes 34 = .ok (.getfield 40, 3) := by decide +kernel
theorem dX5_takes_37 : decode cX5_takes 37 = .ok (.iload_n 1, 1) := by decide +kernel
theorem dX5_takes_38 : decode cX5_takes 38 = .ok (.aload_n 0, 1) := by decide +kernel
theorem dX5_takes_39 : decode cX5_takes 39 = .ok (.getfield 115, 3) := by decide +kernel
theorem dX5_takes_42 : decode cX5_takes 42 = .ok (.iastore, 1) := by decide +kernel
theorem dX5_takes_43 : decode cX5_takes 43 = .ok (.aload_n 0, 1) := by decide +kernel
theorem dX5_takes_44 : decode cX5_takes 44 = .ok (.getfield 46, 3) := by decide +kernel
theorem dX5_takes_47 : decode cX5_takes 47 = .ok (.iload_n 1, 1) := by decide +kernel
theorem dX5_takes_48 : decode cX5_takes 48 = .ok (.aload_n 0, 1) := by decide +kernel
theorem dX5_takes_49 : decode cX5_takes 49 = .ok (.getfield 118, 3) := by decide +kernel
theorem dX5_takes_52 : decode cX5_takes 52 = .ok (.bastore, 1) := by decide +kernel
theorem dX5_takes_53 : decode cX5_takes 53 = .ok (.aload_n 0, 1) := by decide +kernel
theorem dX5_takes_54 : decode cX5_takes 54 = .ok (.getfield 56, 3) := by decide +kernel
theorem dX5_takes_57 : decode cX5_takes 57 = .ok (.iload_n 1, 1) := by decide +kernel
theorem dX5_takes_58 : decode cX5_takes 58 = .ok (.aload_n 0, 1) := by decide +kernel
theorem dX5_takes_59 : decode cX5_takes 59 = .ok (.getfield 56, 3) := by decide +kernel
theorem dX5_takes_62 : decode cX5_takes 62 = .ok (.iload_n 1, 1) := by decide +kernel
theorem dX5_takes_63 : decode cX5_takes 63 = .ok (.iaload, 1) := by decide +kernel
theorem dX5_takes_64 : decode cX5_takes 64 = .ok (.aload_n 0, 1) := by decide +kernel
theorem dX5_takes_65 : decode cX5_takes 65 = .ok (.getfield 93, 3) := by decide +kernel
theorem dX5_takes_68 : decode cX5_takes 68 = .ok (.ior, 1) := by decide +kernel
theorem dX5_takes_69 : decode cX5_takes 69 = .ok (.iastore, 1) := by decide +kernel
theorem dX5_takes_70 : decode cX5_takes 70 = .ok (.aload_n 0, 1) := by decide +kernel
theorem dX5_takes_71 : decode cX5_takes 71 = .ok (.getfield 65, 3) := by decide +kernel
theorem dX5_takes_74 : decode cX5_takes 74 = .ok (.iload_n 1, 1) := by decide +kernel
theorem dX5_takes_75 : decode cX5_takes 75 = .ok (.aload_n 0, 1) := by decide +kernel
theorem dX5_takes_76 : decode cX5_takes 76 = .ok (.getfield 65, 3) := by decide +kernel
theorem dX5_takes_79 : decode cX5_takes 79 = .ok (.iload_n 1, 1) := by decide +kernel
theorem dX5_takes_80 : decode cX5_takes 80 = .ok (.baload, 1) := by decide +kernel
theorem dX5_takes_81 : decode cX5_takes 81 = .ok (.ifCond .ne 10, 3) := by decide +kernel
theorem dX5_takes_84 : decode cX5_takes 84 = .ok (.aload_n 0, 1) := by decide +kernel
theorem dX5_takes_85 : decode cX5_takes 85 = .ok (.getfield 100, 3) := by decide +kernel
theorem dX5_takes_88 : decode cX5_takes 88 = .ok (.ifCond .eq 7, 3) := by decide +kernel
theorem dX5_takes_91 : decode cX5_takes 91 = .ok (.iconst 1, 1) := by decide +kernel
theorem dX5_takes_92 : decode cX5_takes 92 = .ok (.goto 4, 3) := by decide +kernel
theorem dX5_takes_95 : decode cX5_takes 95 = .ok (.iconst 0, 1) := by decide +kernel
theorem dX5_takes_96 : decode cX5_takes 96 = .ok (.bastore, 1) := by decide +kernel
theorem dX5_takes_97 : decode cX5_takes 97 = .ok (.aload_n 0, 1) := by decide +kernel
theorem dX5_takes_98 : decode cX5_takes 98 = .ok (.getfield 68, 3) := by decide +kernel
theorem dX5_takes_101 : decode cX5_takes 101 = .ok (.iload_n 1, 1) := by decide +kernel
theorem dX5_takes_102 : decode cX5_takes 102 = .ok (.aload_n 0, 1) := by decide +kernel
theorem dX5_takes_103 : decode cX5_takes 103 = .ok (.getfield 68, 3) := by decide +kernel
theorem dX5_takes_106 : decode cX5_takes 106 = .ok (.iload_n 1, 1) := by decide +kernel
theorem dX5_takes_107 : decode cX5_takes 107 = .ok (.baload, 1) := by decide +kernel
theorem dX5_takes_108 : decode cX5_takes 108 = .ok (.ifCond .ne 10, 3) := by decide +kernel
theorem dX5_takes_111 : decode cX5_takes 111 = .ok (.aload_n 0, 1) := by decide +kernel
theorem dX5_takes_112 : decode cX5_takes 112 = .ok (.getfield 106, 3) := by decide +kernel
theorem dX5_takes_115 : decode cX5_takes 115 = .ok (.ifCond .eq 7, 3) := by decide +kernel
theorem dX5_takes_118 : decode cX5_takes 118 = .ok (.iconst 1, 1) := by decide +kernel
theorem dX5_takes_119 : decode cX5_takes 119 = .ok (.goto 4, 3) := by decide +kernel
theorem dX5_takes_122 : decode cX5_takes 122 = .ok (.iconst 0, 1) := by decide +kernel
theorem dX5_takes_123 : decode cX5_takes 123 = .ok (.bastore, 1) := by decide +kernel
theorem dX5_takes_124 : decode cX5_takes 124 = .ok (.iconst 0, 1) := by decide +kernel
theorem dX5_takes_125 : decode cX5_takes 125 = .ok (.istore_n 3, 1) := by decide +kernel
theorem dX5_takes_126 : decode cX5_takes 126 = .ok (.iload_n 3, 1) := by decide +kernel
theorem dX5_takes_127 : decode cX5_takes 127 = .ok (.bipush 8, 2) := by decide +kernel
theorem dX5_takes_129 : decode cX5_takes 129 = .ok (.if_icmp .ge 40, 3) := by decide +kernel
theorem dX5_takes_132 : decode cX5_takes 132 = .ok (.aload_n 0, 1) := by decide +kernel
theorem dX5_takes_133 : decode cX5_takes 133 = .ok (.getfield 103, 3) := by decide +kernel
theorem dX5_takes_136 : decode cX5_takes 136 = .ok (.iload_n 3, 1) := by decide +kernel
theorem dX5_takes_137 : decode cX5_takes 137 = .ok (.ishr, 1) := by decide +kernel
theorem dX5_takes_138 : decode cX5_takes 138 = .ok (.iconst 1, 1) := by decide +kernel
theorem dX5_takes_139 : decode cX5_takes 139 = .ok (.iand, 1) := by decide +kernel
theorem dX5_takes_140 : decode cX5_takes 140 = .ok (.ifCond .ne 6, 3) := by decide +kernel
theorem dX5_takes_143 : decode cX5_takes 143 = .ok (.goto 20, 3) := by decide +kernel
theorem dX5_takes_146 : decode cX5_takes 146 = .ok (.aload_n 0, 1) := by decide +kernel
theorem dX5_takes_147 : decode cX5_takes 147 = .ok (.getfield 62, 3) := by decide +kernel
theorem dX5_takes_150 : decode cX5_takes 150 = .ok (.bipush 8, 2) := by decide +kernel
theorem dX5_takes_152 : decode cX5_takes 152 = .ok (.iload_n 1, 1) := by decide +kernel
theorem dX5_takes_153 : decode cX5_takes 153 = .ok (.imul, 1) := by decide +kernel
theorem dX5_takes_154 : decode cX5_takes 154 = .ok (.iload_n 3, 1) := by decide +kernel
theorem dX5_takes_155 : decode cX5_takes 155 = .ok (.iadd, 1) := by decide +kernel
theorem dX5_takes_156 : decode cX5_takes 156 = .ok (.aload_n 0, 1) := by decide +kernel
theorem dX5_takes_157 : decode cX5_takes 157 = .ok (.getfield 16, 3) := by decide +kernel
theorem dX5_takes_160 : decode cX5_takes 160 = .ok (.iload_n 3, 1) := by decide +kernel
theorem dX5_takes_161 : decode cX5_takes 161 = .ok (.iaload, 1) := by decide +kernel
theorem dX5_takes_162 : decode cX5_takes 162 = .ok (.iastore, 1) := by decide +kernel
theorem dX5_takes_163 : decode cX5_takes 163 = .ok (.iinc 3 1, 3) := by decide +kernel
theorem dX5_takes_166 : decode cX5_takes 166 = .ok (.goto (-40), 3) := by decide +kernel
theorem dX5_takes_169 : decode cX5_takes 169 = .ok (.aload_n 0, 1) := by decide +kernel
theorem dX5_takes_170 : decode cX5_takes 170 = .ok (.getfield 59, 3) := by decide +kernel
theorem dX5_takes_173 : decode cX5_takes 173 = .ok (.iload_n 1, 1) := by decide +kernel
theorem dX5_takes_174 : decode cX5_takes 174 = .ok (.aload_n 0, 1) := by decide +kernel
theorem dX5_takes_175 : decode cX5_takes 175 = .ok (.getfield 59, 3) := by decide +kernel
theorem dX5_takes_178 : decode cX5_takes 178 = .ok (.iload_n 1, 1) := by decide +kernel
theorem dX5_takes_179 : decode cX5_takes 179 = .ok (.iaload, 1) := by decide +kernel
theorem dX5_takes_180 : decode cX5_takes 180 = .ok (.aload_n 0, 1) := by decide +kernel
theorem dX5_takes_181 : decode cX5_takes 181 = .ok (.getfield 103, 3) := by decide +kernel
theorem dX5_takes_184 : decode cX5_takes 184 = .ok (.ior, 1) := by decide +kernel
theorem dX5_takes_185 : decode cX5_takes 185 = .ok (.iastore, 1) := by decide +kernel
theorem dX5_takes_186 : decode cX5_takes 186 = .ok (.return_, 1) := by decide +kernel
theorem dX5_run_0 : decode cX5_run 0 = .ok (.aload_n 0, 1) := by decide +kernel
theorem dX5_run_1 : decode cX5_run 1 = .ok (.iconst 0, 1) := by decide +kernel
theorem dX5_run_2 : decode cX5_run 2 = .ok (.putfield 77, 3) := by decide +kernel
theorem dX5_run_5 : decode cX5_run 5 = .ok (.aload_n 0, 1) := by decide +kernel
theorem dX5_run_6 : decode cX5_run 6 = .ok (.iload_n 1, 1) := by decide +kernel
theorem dX5_run_7 : decode cX5_run 7 = .ok (.invokevirtual 81, 3) := by decide +kernel
theorem dX5_run_10 : decode cX5_run 10 = .ok (.ifCond .eq 37, 3) := by decide +kernel
theorem dX5_run_13 : decode cX5_run 13 = .ok (.aload_n 0, 1) := by decide +kernel
theorem dX5_run_14 : decode cX5_run 14 = .ok (.iload_n 2, 1) := by decide +kernel
theorem dX5_run_15 : decode cX5_run 15 = .ok (.invokevirtual 125, 3) := by decide +kernel
theorem dX5_run_18 : decode cX5_run 18 = .ok (.ifCond .eq 29, 3) := by decide +kernel
theorem dX5_run_21 : decode cX5_run 21 = .ok (.aload_n 0, 1) := by decide +kernel
theorem dX5_run_22 : decode cX5_run 22 = .ok (.iload_n 3, 1) := by decide +kernel
theorem dX5_run_23 : decode cX5_run 23 = .ok (.invokevirtual 128, 3) := by decide +kernel
theorem dX5_run_26 : decode cX5_run 26 = .ok (.ifCond .eq 21, 3) := by decide +kernel
theorem dX5_run_29 : decode cX5_run 29 = .ok (.aload_n 0, 1) := by decide +kernel
theorem dX5_run_30 : decode cX5_run 30 = .ok (.iload 4, 2) := by decide +kernel
theorem dX5_run_32 : decode cX5_run 32 = .ok (.invokevirtual 131, 3) := by decide +kernel
theorem dX5_run_35 : decode cX5_run 35 = .ok (.ifCond .eq 12, 3) := by decide +kernel
theorem dX5_run_38 : decode cX5_run 38 = .ok (.aload_n 0, 1) := by decide +kernel
theorem dX5_run_39 : decode cX5_run 39 = .ok (.getfield 90, 3) := by decide +kernel
theorem dX5_run_42 : decode cX5_run 42 = .ok (.bipush 40, 2) := by decide +kernel
theorem dX5_run_44 : decode cX5_run 44 = .ok (.if_icmp .ne 5, 3) := by decide +kernel
theorem dX5_run_47 : decode cX5_run 47 = .ok (.iconst (-1), 1) := by decide +kernel
theorem dX5_run_48 : decode cX5_run 48 = .ok (.ireturn, 1) := by decide +kernel
theorem dX5_run_49 : decode cX5_run 49 = .ok (.aload_n 0, 1) := by decide +kernel
theorem dX5_run_50 : decode cX5_run 50 = .ok (.getfield 90, 3) := by decide +kernel
theorem dX5_run_53 : decode cX5_run 53 = .ok (.istore 5, 2) := by decide +kernel
theorem dX5_run_55 : decode cX5_run 55 = .ok (.aload_n 0, 1) := by decide +kernel
theorem dX5_run_56 : decode cX5_run 56 = .ok (.aload_n 0, 1) := by decide +kernel
theorem dX5_run_57 : decode cX5_run 57 = .ok (.getfield 90, 3) := by decide +kernel
theorem dX5_run_60 : decode cX5_run 60 = .ok (.iconst 1, 1) := by decide +kernel
theorem dX5_run_61 : decode cX5_run 61 = .ok (.iadd, 1) := by decide +kernel
theorem dX5_run_62 : decode cX5_run 62 = .ok (.putfield 90, 3) := by decide +kernel
theorem dX5_run_65 : decode cX5_run 65 = .ok (.aload_n 0, 1) := by decide +kernel
theorem dX5_run_66 : decode cX5_run 66 = .ok (.aload_n 0, 1) := by decide +kernel
theorem dX5_run_67 : decode cX5_run 67 = .ok (.getfield 109, 3) := by decide +kernel
theorem dX5_run_70 : decode cX5_run 70 = .ok (.iconst 1, 1) := by decide +kernel
theorem dX5_run_71 : decode cX5_run 71 = .ok (.iadd, 1) := by decide +kernel
theorem dX5_run_72 : decode cX5_run 72 = .ok (.putfield 109, 3) := by decide +kernel
theorem dX5_run_75 : decode cX5_run 75 = .ok (.aload_n 0, 1) := by decide +kernel
theorem dX5_run_76 : decode cX5_run 76 = .ok (.getfield 22, 3) := by decide +kernel
theorem dX5_run_79 : decode cX5_run 79 = .ok (.iload 5, 2) := by decide +kernel
theorem dX5_run_81 : decode cX5_run 81 = .ok (.iload_n 1, 1) := by decide +kernel
theorem dX5_run_82 : decode cX5_run 82 = .ok (.iastore, 1) := by decide +kernel
theorem dX5_run_83 : decode cX5_run 83 = .ok (.aload_n 0, 1) := by decide +kernel
theorem dX5_run_84 : decode cX5_run 84 = .ok (.getfield 25, 3) := by decide +kernel
theorem dX5_run_87 : decode cX5_run 87 = .ok (.iload 5, 2) := by decide +kernel
theorem dX5_run_89 : decode cX5_run 89 = .ok (.aload_n 0, 1) := by decide +kernel
theorem dX5_run_90 : decode cX5_run 90 = .ok (.getfield 7, 3) := by decide +kernel
theorem dX5_run_93 : decode cX5_run 93 = .ok (.iload_n 1, 1) := by decide +kernel
theorem dX5_run_94 : decode cX5_run 94 = .ok (.iaload, 1) := by decide +kernel
theorem dX5_run_95 : decode cX5_run 95 = .ok (.iastore, 1) := by decide +kernel
theorem dX5_run_96 : decode cX5_run 96 = .ok (.iconst 0, 1) := by decide +kernel
theorem dX5_run_97 : decode cX5_run 97 = .ok (.istore 6, 2) := by decide +kernel
theorem dX5_run_99 : decode cX5_run 99 = .ok (.iload 6, 2) := by decide +kernel
theorem dX5_run_101 : decode cX5_run 101 = .ok (.bipush 8, 2) := by decide +kernel
theorem dX5_run_103 : decode cX5_run 103 = .ok (.if_icmp .ge 34, 3) := by decide +kernel
theorem dX5_run_106 : decode cX5_run 106 = .ok (.aload_n 0, 1) := by decide +kernel
theorem dX5_run_107 : decode cX5_run 107 = .ok (.getfield 28, 3) := by decide +kernel
theorem dX5_run_110 : decode cX5_run 110 = .ok (.bipush 8, 2) := by decide +kernel
theorem dX5_run_112 : decode cX5_run 112 = .ok (.iload 5, 2) := by decide +kernel
theorem dX5_run_114 : decode cX5_run 114 = .ok (.imul, 1) := by decide +kernel
theorem dX5_run_115 : decode cX5_run 115 = .ok (.iload 6, 2) := by decide +kernel
theorem dX5_run_117 : decode cX5_run 117 = .ok (.iadd, 1) := by decide +kernel
theorem dX5_run_118 : decode cX5_run 118 = .ok (.aload_n 0, 1) := by decide +kernel
theorem dX5_run_119 : decode cX5_run 119 = .ok (.getfield 13, 3) := by decide +kernel
theorem dX5_run_122 : decode cX5_run 122 = .ok (.bipush 8, 2) := by decide +kernel
theorem dX5_run_124 : decode cX5_run 124 = .ok (.iload_n 1, 1) := by decide +kernel
theorem dX5_run_125 : decode cX5_run 125 = .ok (.imul, 1) := by decide +kernel
theorem dX5_run_126 : decode cX5_run 126 = .ok (.iload 6, 2) := by decide +kernel
theorem dX5_run_128 : decode cX5_run 128 = .ok (.iadd, 1) := by decide +kernel
theorem dX5_run_129 : decode cX5_run 129 = .ok (.iaload, 1) := by decide +kernel
theorem dX5_run_130 : decode cX5_run 130 = .ok (.iastore, 1) := by decide +kernel
theorem dX5_run_131 : decode cX5_run 131 = .ok (.iinc 6 1, 3) := by decide +kernel
theorem dX5_run_134 : decode cX5_run 134 = .ok (.goto (-35), 3) := by decide +kernel
theorem dX5_run_137 : decode cX5_run 137 = .ok (.aload_n 0, 1) := by decide +kernel
theorem dX5_run_138 : decode cX5_run 138 = .ok (.getfield 31, 3) := by decide +kernel
theorem dX5_run_141 : decode cX5_run 141 = .ok (.iload 5, 2) := by decide +kernel
theorem dX5_run_143 : decode cX5_run 143 = .ok (.iload_n 2, 1) := by decide +kernel
theorem dX5_run_144 : decode cX5_run 144 = .ok (.iastore, 1) := by decide +kernel
theorem dX5_run_145 : decode cX5_run 145 = .ok (.aload_n 0, 1) := by decide +kernel
theorem dX5_run_146 : decode cX5_run 146 = .ok (.getfield 34, 3) := by decide +kernel
theorem dX5_run_149 : decode cX5_run 149 = .ok (.iload 5, 2) := by decide +kernel
theorem dX5_run_151 : decode cX5_run 151 = .ok (.iload_n 3, 1) := by decide +kernel
theorem dX5_run_152 : decode cX5_run 152 = .ok (.iastore, 1) := by decide +kernel
theorem dX5_run_153 : decode cX5_run 153 = .ok (.aload_n 0, 1) := by decide +kernel
theorem dX5_run_154 : decode cX5_run 154 = .ok (.getfield 37, 3) := by decide +kernel
theorem dX5_run_157 : decode cX5_run 157 = .ok (.iload 5, 2) := by decide +kernel
theorem dX5_run_159 : decode cX5_run 159 = .ok (.iload 4, 2) := by decide +kernel
theorem dX5_run_161 : decode cX5_run 161 = .ok (.iastore, 1) := by decide +kernel
theorem dX5_run_162 : decode cX5_run 162 = .ok (.aload_n 0, 1) := by decide +kernel
theorem dX5_run_163 : decode cX5_run 163 = .ok (.getfield 50, 3) := by decide +kernel
theorem dX5_run_166 : decode cX5_run 166 = .ok (.iload 5, 2) := by decide +kernel
theorem dX5_run_168 : decode cX5_run 168 = .ok (.iconst (-1), 1) := by decide +kernel
theorem dX5_run_169 : decode cX5_run 169 = .ok (.iastore, 1) := by decide +kernel
theorem dX5_run_170 : decode cX5_run 170 = .ok (.aload_n 0, 1) := by decide +kernel
theorem dX5_run_171 : decode cX5_run 171 = .ok (.getfield 53, 3) := by decide +kernel
theorem dX5_run_174 : decode cX5_run 174 = .ok (.iload 5, 2) := by decide +kernel
theorem dX5_run_176 : decode cX5_run 176 = .ok (.iconst (-1), 1) := by decide +kernel
theorem dX5_run_177 : decode cX5_run 177 = .ok (.iastore, 1) := by decide +kernel
theorem dX5_run_178 : decode cX5_run 178 = .ok (.aload_n 0, 1) := by decide +kernel
theorem dX5_run_179 : decode cX5_run 179 = .ok (.iload 5, 2) := by decide +kernel
theorem dX5_run_181 : decode cX5_run 181 = .ok (.iconst 0, 1) := by decide +kernel
theorem dX5_run_182 : decode cX5_run 182 = .ok (.iconst 0, 1) := by decide +kernel
theorem dX5_run_183 : decode cX5_run 183 = .ok (.iload_n 2, 1) := by decide +kernel
theorem dX5_run_184 : decode cX5_run 184 = .ok (.iload_n 3, 1) := by decide +kernel
theorem dX5_run_185 : decode cX5_run 185 = .ok (.iload 4, 2) := by decide +kernel
theorem dX5_run_187 : decode cX5_run 187 = .ok (.invokevirtual 134, 3) := by decide +kernel
theorem dX5_run_190 : decode cX5_run 190 = .ok (.aload_n 0, 1) := by decide +kernel
theorem dX5_run_191 : decode cX5_run 191 = .ok (.iload 5, 2) := by decide +kernel
theorem dX5_run_193 : decode cX5_run 193 = .ok (.iconst 0, 1) := by decide +kernel
theorem dX5_run_194 : decode cX5_run 194 = .ok (.invokevirtual 138, 3) := by decide +kernel
theorem dX5_run_197 : decode cX5_run 197 = .ok (.iload 5, 2) := by decide +kernel
theorem dX5_run_199 : decode cX5_run 199 = .ok (.ireturn, 1) := by decide +kernel
theorem dX5_fork_0 : decode cX5_fork 0 = .ok (.aload_n 0, 1) := by decide +kernel
theorem dX5_fork_1 : decode cX5_fork 1 = .ok (.iconst 0, 1) := by decide +kernel
theorem dX5_fork_2 : decode cX5_fork 2 = .ok (.putfield 77, 3) := by decide +kernel
theorem dX5_fork_5 : decode cX5_fork 5 = .ok (.aload_n 0, 1) := by decide +kernel
theorem dX5_fork_6 : decode cX5_fork 6 = .ok (.iload_n 1, 1) := by decide +kernel
theorem dX5_fork_7 : decode cX5_fork 7 = .ok (.invokevirtual 142, 3) := by decide +kernel
theorem dX5_fork_10 : decode cX5_fork 10 = .ok (.ifCond .eq 52, 3) := by decide +kernel
theorem dX5_fork_13 : decode cX5_fork 13 = .ok (.aload_n 0, 1) := by decide +kernel
theorem dX5_fork_14 : decode cX5_fork 14 = .ok (.getfield 46, 3) := by decide +kernel
theorem dX5_fork_17 : decode cX5_fork 17 = .ok (.iload_n 1, 1) := by decide +kernel
theorem dX5_fork_18 : decode cX5_fork 18 = .ok (.baload, 1) := by decide +kernel
theorem dX5_fork_19 : decode cX5_fork 19 = .ok (.ifCond .ne 43, 3) := by decide +kernel
theorem dX5_fork_22 : decode cX5_fork 22 = .ok (.iload_n 2, 1) := by decide +kernel
theorem dX5_fork_23 : decode cX5_fork 23 = .ok (.ifCond .lt 39, 3) := by decide +kernel
theorem dX5_fork_26 : decode cX5_fork 26 = .ok (.iload_n 2, 1) := by decide +kernel
theorem dX5_fork_27 : decode cX5_fork 27 = .ok (.aload_n 0, 1) := by decide +kernel
theorem dX5_fork_28 : decode cX5_fork 28 = .ok (.getfield 40, 3) := by decide +kernel
theorem dX5_fork_31 : decode cX5_fork 31 = .ok (.iload_n 1, 1) := by decide +kernel
theorem dX5_fork_32 : decode cX5_fork 32 = .ok (.iaload, 1) := by decide +kernel
theorem dX5_fork_33 : decode cX5_fork 33 = .ok (.if_icmp .gt 29, 3) := by decide +kernel
theorem dX5_fork_36 : decode cX5_fork 36 = .ok (.aload_n 0, 1) := by decide +kernel
theorem dX5_fork_37 : decode cX5_fork 37 = .ok (.iload_n 3, 1) := by decide +kernel
theorem dX5_fork_38 : decode cX5_fork 38 = .ok (.invokevirtual 125, 3) := by decide +kernel
theorem dX5_fork_41 : decode cX5_fork 41 = .ok (.ifCond .eq 21, 3) := by decide +kernel
theorem dX5_fork_44 : decode cX5_fork 44 = .ok (.aload_n 0, 1) := by decide +kernel
theorem dX5_fork_45 : decode cX5_fork 45 = .ok (.iload 4, 2) := by decide +kernel
theorem dX5_fork_47 : decode cX5_fork 47 = .ok (.invokevirtual 128, 3) := by decide +kernel
theorem dX5_fork_50 : decode cX5_fork 50 = .ok (.ifCond .eq 12, 3) := by decide +kernel
theorem dX5_fork_53 : decode cX5_fork 53 = .ok (.aload_n 0, 1) := by decide +kernel
theorem dX5_fork_54 : decode cX5_fork 54 = .ok (.getfield 90, 3) := by decide +kernel
theorem dX5_fork_57 : decode cX5_fork 57 = .ok (.bipush 40, 2) := by decide +kernel
theorem dX5_fork_59 : decode cX5_fork 59 = .ok (.if_icmp .ne 5, 3) := by decide +kernel
theorem dX5_fork_62 : decode cX5_fork 62 = .ok (.iconst (-1), 1) := by decide +kernel
theorem dX5_fork_63 : decode cX5_fork 63 = .ok (.ireturn, 1) := by decide +kernel
theorem dX5_fork_64 : decode cX5_fork 64 = .ok (.aload_n 0, 1) := by decide +kernel
theorem dX5_fork_65 : decode cX5_fork 65 = .ok (.getfield 90, 3) := by decide +kernel
theorem dX5_fork_68 : decode cX5_fork 68 = .ok (.istore 5, 2) := by decide +kernel
theorem dX5_fork_70 : decode cX5_fork 70 = .ok (.aload_n 0, 1) := by decide +kernel
theorem dX5_fork_71 : decode cX5_fork 71 = .ok (.aload_n 0, 1) := by decide +kernel
theorem dX5_fork_72 : decode cX5_fork 72 = .ok (.getfield 90, 3) := by decide +kernel
theorem dX5_fork_75 : decode cX5_fork 75 = .ok (.iconst 1, 1) := by decide +kernel
theorem dX5_fork_76 : decode cX5_fork 76 = .ok (.iadd, 1) := by decide +kernel
theorem dX5_fork_77 : decode cX5_fork 77 = .ok (.putfield 90, 3) := by decide +kernel
theorem dX5_fork_80 : decode cX5_fork 80 = .ok (.aload_n 0, 1) := by decide +kernel
theorem dX5_fork_81 : decode cX5_fork 81 = .ok (.aload_n 0, 1) := by decide +kernel
theorem dX5_fork_82 : decode cX5_fork 82 = .ok (.getfield 109, 3) := by decide +kernel
theorem dX5_fork_85 : decode cX5_fork 85 = .ok (.iconst 1, 1) := by decide +kernel
theorem dX5_fork_86 : decode cX5_fork 86 = .ok (.iadd, 1) := by decide +kernel
theorem dX5_fork_87 : decode cX5_fork 87 = .ok (.putfield 109, 3) := by decide +kernel
theorem dX5_fork_90 : decode cX5_fork 90 = .ok (.aload_n 0, 1) := by decide +kernel
theorem dX5_fork_91 : decode cX5_fork 91 = .ok (.getfield 22, 3) := by decide +kernel
theorem dX5_fork_94 : decode cX5_fork 94 = .ok (.iload 5, 2) := by decide +kernel
theorem dX5_fork_96 : decode cX5_fork 96 = .ok (.aload_n 0, 1) := by decide +kernel
theorem dX5_fork_97 : decode cX5_fork 97 = .ok (.getfield 22, 3) := by decide +kernel
theorem dX5_fork_100 : decode cX5_fork 100 = .ok (.iload_n 1, 1) := by decide +kernel
theorem dX5_fork_101 : decode cX5_fork 101 = .ok (.iaload, 1) := by decide +kernel
theorem dX5_fork_102 : decode cX5_fork 102 = .ok (.iastore, 1) := by decide +kernel
theorem dX5_fork_103 : decode cX5_fork 103 = .ok (.aload_n 0, 1) := by decide +kernel
theorem dX5_fork_104 : decode cX5_fork 104 = .ok (.getfield 25, 3) := by decide +kernel
theorem dX5_fork_107 : decode cX5_fork 107 = .ok (.iload 5, 2) := by decide +kernel
theorem dX5_fork_109 : decode cX5_fork 109 = .ok (.aload_n 0, 1) := by decide +kernel
theorem dX5_fork_110 : decode cX5_fork 110 = .ok (.getfield 25, 3) := by decide +kernel
theorem dX5_fork_113 : decode cX5_fork 113 = .ok (.iload_n 1, 1) := by decide +kernel
theorem dX5_fork_114 : decode cX5_fork 114 = .ok (.iaload, 1) := by decide +kernel
theorem dX5_fork_115 : decode cX5_fork 115 = .ok (.iastore, 1) := by decide +kernel
theorem dX5_fork_116 : decode cX5_fork 116 = .ok (.iconst 0, 1) := by decide +kernel
theorem dX5_fork_117 : decode cX5_fork 117 = .ok (.istore 6, 2) := by decide +kernel
theorem dX5_fork_119 : decode cX5_fork 119 = .ok (.iload 6, 2) := by decide +kernel
theorem dX5_fork_121 : decode cX5_fork 121 = .ok (.bipush 8, 2) := by decide +kernel
theorem dX5_fork_123 : decode cX5_fork 123 = .ok (.if_icmp .ge 34, 3) := by decide +kernel
theorem dX5_fork_126 : decode cX5_fork 126 = .ok (.aload_n 0, 1) := by decide +kernel
theorem dX5_fork_127 : decode cX5_fork 127 = .ok (.getfield 28, 3) := by decide +kernel
theorem dX5_fork_130 : decode cX5_fork 130 = .ok (.bipush 8, 2) := by decide +kernel
theorem dX5_fork_132 : decode cX5_fork 132 = .ok (.iload 5, 2) := by decide +kernel
theorem dX5_fork_134 : decode cX5_fork 134 = .ok (.imul, 1) := by decide +kernel
theorem dX5_fork_135 : decode cX5_fork 135 = .ok (.iload 6, 2) := by decide +kernel
theorem dX5_fork_137 : decode cX5_fork 137 = .ok (.iadd, 1) := by decide +kernel
theorem dX5_fork_138 : decode cX5_fork 138 = .ok (.aload_n 0, 1) := by decide +kernel
theorem dX5_fork_139 : decode cX5_fork 139 = .ok (.getfield 28, 3) := by decide +kernel
theorem dX5_fork_142 : decode cX5_fork 142 = .ok (.bipush 8, 2) := by decide +kernel
theorem dX5_fork_144 : decode cX5_fork 144 = .ok (.iload_n 1, 1) := by decide +kernel
theorem dX5_fork_145 : decode cX5_fork 145 = .ok (.imul, 1) := by decide +kernel
theorem dX5_fork_146 : decode cX5_fork 146 = .ok (.iload 6, 2) := by decide +kernel
theorem dX5_fork_148 : decode cX5_fork 148 = .ok (.iadd, 1) := by decide +kernel
theorem dX5_fork_149 : decode cX5_fork 149 = .ok (.iaload, 1) := by decide +kernel
theorem dX5_fork_150 : decode cX5_fork 150 = .ok (.iastore, 1) := by decide +kernel
theorem dX5_fork_151 : decode cX5_fork 151 = .ok (.iinc 6 1, 3) := by decide +kernel
theorem dX5_fork_154 : decode cX5_fork 154 = .ok (.goto (-35), 3) := by decide +kernel
theorem dX5_fork_157 : decode cX5_fork 157 = .ok (.aload_n 0, 1) := by decide +kernel
theorem dX5_fork_158 : decode cX5_fork 158 = .ok (.getfield 31, 3) := by decide +kernel
theorem dX5_fork_161 : decode cX5_fork 161 = .ok (.iload 5, 2) := by decide +kernel
theorem dX5_fork_163 : decode cX5_fork 163 = .ok (.iload_n 3, 1) := by decide +kernel
theorem dX5_fork_164 : decode cX5_fork 164 = .ok (.iastore, 1) := by decide +kernel
theorem dX5_fork_165 : decode cX5_fork 165 = .ok (.aload_n 0, 1) := by decide +kernel
theorem dX5_fork_166 : decode cX5_fork 166 = .ok (.getfield 34, 3) := by decide +kernel
theorem dX5_fork_169 : decode cX5_fork 169 = .ok (.iload 5, 2) := by decide +kernel
theorem dX5_fork_171 : decode cX5_fork 171 = .ok (.iload 4, 2) := by decide +kernel
theorem dX5_fork_173 : decode cX5_fork 173 = .ok (.iastore, 1) := by decide +kernel
theorem dX5_fork_174 : decode cX5_fork 174 = .ok (.aload_n 0, 1) := by decide +kernel
theorem dX5_fork_175 : decode cX5_fork 175 = .ok (.getfield 37, 3) := by decide +kernel
theorem dX5_fork_178 : decode cX5_fork 178 = .ok (.iload 5, 2) := by decide +kernel
theorem dX5_fork_180 : decode cX5_fork 180 = .ok (.aload_n 0, 1) := by decide +kernel
theorem dX5_fork_181 : decode cX5_fork 181 = .ok (.getfield 37, 3) := by decide +kernel
theorem dX5_fork_184 : decode cX5_fork 184 = .ok (.iload_n 1, 1) := by decide +kernel
theorem dX5_fork_185 : decode cX5_fork 185 = .ok (.iaload, 1) := by decide +kernel
theorem dX5_fork_186 : decode cX5_fork 186 = .ok (.iastore, 1) := by decide +kernel
theorem dX5_fork_187 : decode cX5_fork 187 = .ok (.aload_n 0, 1) := by decide +kernel
theorem dX5_fork_188 : decode cX5_fork 188 = .ok (.getfield 50, 3) := by decide +kernel
theorem dX5_fork_191 : decode cX5_fork 191 = .ok (.iload 5, 2) := by decide +kernel
theorem dX5_fork_193 : decode cX5_fork 193 = .ok (.iload_n 1, 1) := by decide +kernel
theorem dX5_fork_194 : decode cX5_fork 194 = .ok (.iastore, 1) := by decide +kernel
theorem dX5_fork_195 : decode cX5_fork 195 = .ok (.aload_n 0, 1) := by decide +kernel
theorem dX5_fork_196 : decode cX5_fork 196 = .ok (.getfield 53, 3) := by decide +kernel
theorem dX5_fork_199 : decode cX5_fork 199 = .ok (.iload 5, 2) := by decide +kernel
theorem dX5_fork_201 : decode cX5_fork 201 = .ok (.iload_n 2, 1) := by decide +kernel
theorem dX5_fork_202 : decode cX5_fork 202 = .ok (.iastore, 1) := by decide +kernel
theorem dX5_fork_203 : decode cX5_fork 203 = .ok (.iconst 0, 1) := by decide +kernel
theorem dX5_fork_204 : decode cX5_fork 204 = .ok (.istore 6, 2) := by decide +kernel
theorem dX5_fork_206 : decode cX5_fork 206 = .ok (.iload 6, 2) := by decide +kernel
theorem dX5_fork_208 : decode cX5_fork 208 = .ok (.iload_n 2, 1) := by decide +kernel
theorem dX5_fork_209 : decode cX5_fork 209 = .ok (.if_icmp .ge 34, 3) := by decide +kernel
theorem dX5_fork_212 : decode cX5_fork 212 = .ok (.aload_n 0, 1) := by decide +kernel
theorem dX5_fork_213 : decode cX5_fork 213 = .ok (.getfield 43, 3) := by decide +kernel
theorem dX5_fork_216 : decode cX5_fork 216 = .ok (.bipush 16, 2) := by decide +kernel
theorem dX5_fork_218 : decode cX5_fork 218 = .ok (.iload 5, 2) := by decide +kernel
theorem dX5_fork_220 : decode cX5_fork 220 = .ok (.imul, 1) := by decide +kernel
theorem dX5_fork_221 : decode cX5_fork 221 = .ok (.iload 6, 2) := by decide +kernel
theorem dX5_fork_223 : decode cX5_fork 223 = .ok (.iadd, 1) := by decide +kernel
theorem dX5_fork_224 : decode cX5_fork 224 = .ok (.aload_n 0, 1) := by decide +kernel
theorem dX5_fork_225 : decode cX5_fork 225 = .ok (.getfield 43, 3) := by decide +kernel
theorem dX5_fork_228 : decode cX5_fork 228 = .ok (.bipush 16, 2) := by decide +kernel
theorem dX5_fork_230 : decode cX5_fork 230 = .ok (.iload_n 1, 1) := by decide +kernel
theorem dX5_fork_231 : decode cX5_fork 231 = .ok (.imul, 1) := by decide +kernel
theorem dX5_fork_232 : decode cX5_fork 232 = .ok (.iload 6, 2) := by decide +kernel
theorem dX5_fork_234 : decode cX5_fork 234 = .ok (.iadd, 1) := by decide +kernel
theorem dX5_fork_235 : decode cX5_fork 235 = .ok (.iaload, 1) := by decide +kernel
theorem dX5_fork_236 : decode cX5_fork 236 = .ok (.iastore, 1) := by decide +kernel
theorem dX5_fork_237 : decode cX5_fork 237 = .ok (.iinc 6 1, 3) := by decide +kernel
theorem dX5_fork_240 : decode cX5_fork 240 = .ok (.goto (-34), 3) := by decide +kernel
theorem dX5_fork_243 : decode cX5_fork 243 = .ok (.aload_n 0, 1) := by decide +kernel
theorem dX5_fork_244 : decode cX5_fork 244 = .ok (.getfield 56, 3) := by decide +kernel
theorem dX5_fork_247 : decode cX5_fork 247 = .ok (.iload 5, 2) := by decide +kernel
theorem dX5_fork_249 : decode cX5_fork 249 = .ok (.aload_n 0, 1) := by decide +kernel
theorem dX5_fork_250 : decode cX5_fork 250 = .ok (.getfield 56, 3) := by decide +kernel
theorem dX5_fork_253 : decode cX5_fork 253 = .ok (.iload_n 1, 1) := by decide +kernel
theorem dX5_fork_254 : decode cX5_fork 254 = .ok (.iaload, 1) := by decide +kernel
theorem dX5_fork_255 : decode cX5_fork 255 = .ok (.iastore, 1) := by decide +kernel
theorem dX5_fork_256 : decode cX5_fork 256 = .ok (.aload_n 0, 1) := by decide +kernel
theorem dX5_fork_257 : decode cX5_fork 257 = .ok (.getfield 59, 3) := by decide +kernel
theorem dX5_fork_260 : decode cX5_fork 260 = .ok (.iload 5, 2) := by decide +kernel
theorem dX5_fork_262 : decode cX5_fork 262 = .ok (.aload_n 0, 1) := by decide +kernel
theorem dX5_fork_263 : decode cX5_fork 263 = .ok (.getfield 59, 3) := by decide +kernel
theorem dX5_fork_266 : decode cX5_fork 266 = .ok (.iload_n 1, 1) := by decide +kernel
theorem dX5_fork_267 : decode cX5_fork 267 = .ok (.iaload, 1) := by decide +kernel
theorem dX5_fork_268 : decode cX5_fork 268 = .ok (.iastore, 1) := by decide +kernel
theorem dX5_fork_269 : decode cX5_fork 269 = .ok (.iconst 0, 1) := by decide +kernel
theorem dX5_fork_270 : decode cX5_fork 270 = .ok (.istore 6, 2) := by decide +kernel
theorem dX5_fork_272 : decode cX5_fork 272 = .ok (.iload 6, 2) := by decide +kernel
theorem dX5_fork_274 : decode cX5_fork 274 = .ok (.bipush 8, 2) := by decide +kernel
theorem dX5_fork_276 : decode cX5_fork 276 = .ok (.if_icmp .ge 34, 3) := by decide +kernel
theorem dX5_fork_279 : decode cX5_fork 279 = .ok (.aload_n 0, 1) := by decide +kernel
theorem dX5_fork_280 : decode cX5_fork 280 = .ok (.getfield 62, 3) := by decide +kernel
theorem dX5_fork_283 : decode cX5_fork 283 = .ok (.bipush 8, 2) := by decide +kernel
theorem dX5_fork_285 : decode cX5_fork 285 = .ok (.iload 5, 2) := by decide +kernel
theorem dX5_fork_287 : decode cX5_fork 287 = .ok (.imul, 1) := by decide +kernel
theorem dX5_fork_288 : decode cX5_fork 288 = .ok (.iload 6, 2) := by decide +kernel
theorem dX5_fork_290 : decode cX5_fork 290 = .ok (.iadd, 1) := by decide +kernel
theorem dX5_fork_291 : decode cX5_fork 291 = .ok (.aload_n 0, 1) := by decide +kernel
theorem dX5_fork_292 : decode cX5_fork 292 = .ok (.getfield 62, 3) := by decide +kernel
theorem dX5_fork_295 : decode cX5_fork 295 = .ok (.bipush 8, 2) := by decide +kernel
theorem dX5_fork_297 : decode cX5_fork 297 = .ok (.iload_n 1, 1) := by decide +kernel
theorem dX5_fork_298 : decode cX5_fork 298 = .ok (.imul, 1) := by decide +kernel
theorem dX5_fork_299 : decode cX5_fork 299 = .ok (.iload 6, 2) := by decide +kernel
theorem dX5_fork_301 : decode cX5_fork 301 = .ok (.iadd, 1) := by decide +kernel
theorem dX5_fork_302 : decode cX5_fork 302 = .ok (.iaload, 1) := by decide +kernel
theorem dX5_fork_303 : decode cX5_fork 303 = .ok (.iastore, 1) := by decide +kernel
theorem dX5_fork_304 : decode cX5_fork 304 = .ok (.iinc 6 1, 3) := by decide +kernel
theorem dX5_fork_307 : decode cX5_fork 307 = .ok (.goto (-35), 3) := by decide +kernel
theorem dX5_fork_310 : decode cX5_fork 310 = .ok (.aload_n 0, 1) := by decide +kernel
theorem dX5_fork_311 : decode cX5_fork 311 = .ok (.getfield 65, 3) := by decide +kernel
theorem dX5_fork_314 : decode cX5_fork 314 = .ok (.iload 5, 2) := by decide +kernel
theorem dX5_fork_316 : decode cX5_fork 316 = .ok (.aload_n 0, 1) := by decide +kernel
theorem dX5_fork_317 : decode cX5_fork 317 = .ok (.getfield 65, 3) := by decide +kernel
theorem dX5_fork_320 : decode cX5_fork 320 = .ok (.iload_n 1, 1) := by decide +kernel
theorem dX5_fork_321 : decode cX5_fork 321 = .ok (.baload, 1) := by decide +kernel
theorem dX5_fork_322 : decode cX5_fork 322 = .ok (.bastore, 1) := by decide +kernel
theorem dX5_fork_323 : decode cX5_fork 323 = .ok (.aload_n 0, 1) := by decide +kernel
theorem dX5_fork_324 : decode cX5_fork 324 = .ok (.getfield 68, 3) := by decide +kernel
theorem dX5_fork_327 : decode cX5_fork 327 = .ok (.iload 5, 2) := by decide +kernel
theorem dX5_fork_329 : decode cX5_fork 329 = .ok (.aload_n 0, 1) := by decide +kernel
theorem dX5_fork_330 : decode cX5_fork 330 = .ok (.getfield 68, 3) := by decide +kernel
theorem dX5_fork_333 : decode cX5_fork 333 = .ok (.iload_n 1, 1) := by decide +kernel
theorem dX5_fork_334 : decode cX5_fork 334 = .ok (.baload, 1) := by decide +kernel
theorem dX5_fork_335 : decode cX5_fork 335 = .ok (.bastore, 1) := by decide +kernel
theorem dX5_fork_336 : decode cX5_fork 336 = .ok (.aload_n 0, 1) := by decide +kernel
theorem dX5_fork_337 : decode cX5_fork 337 = .ok (.iload 5, 2) := by decide +kernel
theorem dX5_fork_339 : decode cX5_fork 339 = .ok (.iload_n 2, 1) := by decide +kernel
theorem dX5_fork_340 : decode cX5_fork 340 = .ok (.iload_n 2, 1) := by decide +kernel
theorem dX5_fork_341 : decode cX5_fork 341 = .ok (.ifCond .ne 7, 3) := by decide +kernel
theorem dX5_fork_344 : decode cX5_fork 344 = .ok (.iconst 0, 1) := by decide +kernel
theorem dX5_fork_345 : decode cX5_fork 345 = .ok (.goto 17, 3) := by decide +kernel
theorem dX5_fork_348 : decode cX5_fork 348 = .ok (.aload_n 0, 1) := by decide +kernel
theorem dX5_fork_349 : decode cX5_fork 349 = .ok (.getfield 43, 3) := by decide +kernel
theorem dX5_fork_352 : decode cX5_fork 352 = .ok (.bipush 16, 2) := by decide +kernel
theorem dX5_fork_354 : decode cX5_fork 354 = .ok (.iload 5, 2) := by decide +kernel
theorem dX5_fork_356 : decode cX5_fork 356 = .ok (.imul, 1) := by decide +kernel
theorem dX5_fork_357 : decode cX5_fork 357 = .ok (.iload_n 2, 1) := by decide +kernel
theorem dX5_fork_358 : decode cX5_fork 358 = .ok (.iadd, 1) := by decide +kernel
theorem dX5_fork_359 : decode cX5_fork 359 = .ok (.iconst 1, 1) := by decide +kernel
theorem dX5_fork_360 : decode cX5_fork 360 = .ok (.isub, 1) := by decide +kernel
theorem dX5_fork_361 : decode cX5_fork 361 = .ok (.iaload, 1) := by decide +kernel
theorem dX5_fork_362 : decode cX5_fork 362 = .ok (.iload_n 3, 1) := by decide +kernel
theorem dX5_fork_363 : decode cX5_fork 363 = .ok (.iload 4, 2) := by decide +kernel
theorem dX5_fork_365 : decode cX5_fork 365 = .ok (.aload_n 0, 1) := by decide +kernel
theorem dX5_fork_366 : decode cX5_fork 366 = .ok (.getfield 37, 3) := by decide +kernel
theorem dX5_fork_369 : decode cX5_fork 369 = .ok (.iload 5, 2) := by decide +kernel
theorem dX5_fork_371 : decode cX5_fork 371 = .ok (.iaload, 1) := by decide +kernel
theorem dX5_fork_372 : decode cX5_fork 372 = .ok (.invokevirtual 134, 3) := by decide +kernel
theorem dX5_fork_375 : decode cX5_fork 375 = .ok (.aload_n 0, 1) := by decide +kernel
theorem dX5_fork_376 : decode cX5_fork 376 = .ok (.iload 5, 2) := by decide +kernel
theorem dX5_fork_378 : decode cX5_fork 378 = .ok (.iload_n 2, 1) := by decide +kernel
theorem dX5_fork_379 : decode cX5_fork 379 = .ok (.invokevirtual 138, 3) := by decide +kernel
theorem dX5_fork_382 : decode cX5_fork 382 = .ok (.iload 5, 2) := by decide +kernel
theorem dX5_fork_384 : decode cX5_fork 384 = .ok (.ireturn, 1) := by decide +kernel
theorem dX5_isOtherWord_0 : decode cX5_isOtherWord 0 = .ok (.aload_n 0, 1) := by decide +kernel
theorem dX5_isOtherWord_1 : decode cX5_isOtherWord 1 = .ok (.getfield 59, 3) := by decide +kernel
theorem dX5_isOtherWord_4 : decode cX5_isOtherWord 4 = .ok (.iload_n 1, 1) := by decide +kernel
theorem dX5_isOtherWord_5 : decode cX5_isOtherWord 5 = .ok (.iaload, 1) := by decide +kernel
theorem dX5_isOtherWord_6 : decode cX5_isOtherWord 6 = .ok (.iload_n 2, 1) := by decide +kernel
theorem dX5_isOtherWord_7 : decode cX5_isOtherWord 7 = .ok (.ishr, 1) := by decide +kernel
theorem dX5_isOtherWord_8 : decode cX5_isOtherWord 8 = .ok (.iconst 1, 1) := by decide +kernel
theorem dX5_isOtherWord_9 : decode cX5_isOtherWord 9 = .ok (.iand, 1) := by decide +kernel
theorem dX5_isOtherWord_10 : decode cX5_isOtherWord 10 = .ok (.iconst 1, 1) := by decide +kernel
theorem dX5_isOtherWord_11 : decode cX5_isOtherWord 11 = .ok (.if_icmp .ne 27, 3) := by decide +kernel
theorem dX5_isOtherWord_14 : decode cX5_isOtherWord 14 = .ok (.aload_n 0, 1) := by decide +kernel
theorem dX5_isOtherWord_15 : decode cX5_isOtherWord 15 = .ok (.getfield 62, 3) := by decide +kernel
theorem dX5_isOtherWord_18 : decode cX5_isOtherWord 18 = .ok (.bipush 8, 2) := by decide +kernel
theorem dX5_isOtherWord_20 : decode cX5_isOtherWord 20 = .ok (.iload_n 1, 1) := by decide +kernel
theorem dX5_isOtherWord_21 : decode cX5_isOtherWord 21 = .ok (.imul, 1) := by decide +kernel
theorem dX5_isOtherWord_22 : decode cX5_isOtherWord 22 = .ok (.iload_n 2, 1) := by decide +kernel
theorem dX5_isOtherWord_23 : decode cX5_isOtherWord 23 = .ok (.iadd, 1) := by decide +kernel
theorem dX5_isOtherWord_24 : decode cX5_isOtherWord 24 = .ok (.iaload, 1) := by decide +kernel
theorem dX5_isOtherWord_25 : decode cX5_isOtherWord 25 = .ok (.aload_n 0, 1) := by decide +kernel
theorem dX5_isOtherWord_26 : decode cX5_isOtherWord 26 = .ok (.getfield 16, 3) := by decide +kernel
theorem dX5_isOtherWord_29 : decode cX5_isOtherWord 29 = .ok (.iload_n 2, 1) := by decide +kernel
theorem dX5_isOtherWord_30 : decode cX5_isOtherWord 30 = .ok (.iaload, 1) := by decide +kernel
theorem dX5_isOtherWord_31 : decode cX5_isOtherWord 31 = .ok (.if_icmp .eq 7, 3) := by decide +kernel
theorem dX5_isOtherWord_34 : decode cX5_isOtherWord 34 = .ok (.iconst 1, 1) := by decide +kernel
theorem dX5_isOtherWord_35 : decode cX5_isOtherWord 35 = .ok (.goto 4, 3) := by decide +kernel
theorem dX5_isOtherWord_38 : decode cX5_isOtherWord 38 = .ok (.iconst 0, 1) := by decide +kernel
theorem dX5_isOtherWord_39 : decode cX5_isOtherWord 39 = .ok (.ireturn, 1) := by decide +kernel
theorem dX5_isCodeOf_0 : decode cX5_isCodeOf 0 = .ok (.aload_n 0, 1) := by decide +kernel
theorem dX5_isCodeOf_1 : decode cX5_isCodeOf 1 = .ok (.getfield 25, 3) := by decide +kernel
theorem dX5_isCodeOf_4 : decode cX5_isCodeOf 4 = .ok (.iload_n 1, 1) := by decide +kernel
theorem dX5_isCodeOf_5 : decode cX5_isCodeOf 5 = .ok (.iaload, 1) := by decide +kernel
theorem dX5_isCodeOf_6 : decode cX5_isCodeOf 6 = .ok (.aload_n 0, 1) := by decide +kernel
theorem dX5_isCodeOf_7 : decode cX5_isCodeOf 7 = .ok (.getfield 7, 3) := by decide +kernel
theorem dX5_isCodeOf_10 : decode cX5_isCodeOf 10 = .ok (.iload_n 2, 1) := by decide +kernel
theorem dX5_isCodeOf_11 : decode cX5_isCodeOf 11 = .ok (.iaload, 1) := by decide +kernel
theorem dX5_isCodeOf_12 : decode cX5_isCodeOf 12 = .ok (.if_icmp .eq 5, 3) := by decide +kernel
theorem dX5_isCodeOf_15 : decode cX5_isCodeOf 15 = .ok (.iconst 0, 1) := by decide +kernel
theorem dX5_isCodeOf_16 : decode cX5_isCodeOf 16 = .ok (.ireturn, 1) := by decide +kernel
theorem dX5_isCodeOf_17 : decode cX5_isCodeOf 17 = .ok (.iconst 0, 1) := by decide +kernel
theorem dX5_isCodeOf_18 : decode cX5_isCodeOf 18 = .ok (.istore_n 3, 1) := by decide +kernel
theorem dX5_isCodeOf_19 : decode cX5_isCodeOf 19 = .ok (.iload_n 3, 1) := by decide +kernel
theorem dX5_isCodeOf_20 : decode cX5_isCodeOf 20 = .ok (.aload_n 0, 1) := by decide +kernel
theorem dX5_isCodeOf_21 : decode cX5_isCodeOf 21 = .ok (.getfield 25, 3) := by decide +kernel
theorem dX5_isCodeOf_24 : decode cX5_isCodeOf 24 = .ok (.iload_n 1, 1) := by decide +kernel
theorem dX5_isCodeOf_25 : decode cX5_isCodeOf 25 = .ok (.iaload, 1) := by decide +kernel
theorem dX5_isCodeOf_26 : decode cX5_isCodeOf 26 = .ok (.if_icmp .ge 36, 3) := by decide +kernel
theorem dX5_isCodeOf_29 : decode cX5_isCodeOf 29 = .ok (.aload_n 0, 1) := by decide +kernel
theorem dX5_isCodeOf_30 : decode cX5_isCodeOf 30 = .ok (.getfield 28, 3) := by decide +kernel
theorem dX5_isCodeOf_33 : decode cX5_isCodeOf 33 = .ok (.bipush 8, 2) := by decide +kernel
theorem dX5_isCodeOf_35 : decode cX5_isCodeOf 35 = .ok (.iload_n 1, 1) := by decide +kernel
theorem dX5_isCodeOf_36 : decode cX5_isCodeOf 36 = .ok (.imul, 1) := by decide +kernel
theorem dX5_isCodeOf_37 : decode cX5_isCodeOf 37 = .ok (.iload_n 3, 1) := by decide +kernel
theorem dX5_isCodeOf_38 : decode cX5_isCodeOf 38 = .ok (.iadd, 1) := by decide +kernel
theorem dX5_isCodeOf_39 : decode cX5_isCodeOf 39 = .ok (.iaload, 1) := by decide +kernel
theorem dX5_isCodeOf_40 : decode cX5_isCodeOf 40 = .ok (.aload_n 0, 1) := by decide +kernel
theorem dX5_isCodeOf_41 : decode cX5_isCodeOf 41 = .ok (.getfield 13, 3) := by decide +kernel
theorem dX5_isCodeOf_44 : decode cX5_isCodeOf 44 = .ok (.bipush 8, 2) := by decide +kernel
theorem dX5_isCodeOf_46 : decode cX5_isCodeOf 46 = .ok (.iload_n 2, 1) := by decide +kernel
theorem dX5_isCodeOf_47 : decode cX5_isCodeOf 47 = .ok (.imul, 1) := by decide +kernel
theorem dX5_isCodeOf_48 : decode cX5_isCodeOf 48 = .ok (.iload_n 3, 1) := by decide +kernel
theorem dX5_isCodeOf_49 : decode cX5_isCodeOf 49 = .ok (.iadd, 1) := by decide +kernel
theorem dX5_isCodeOf_50 : decode cX5_isCodeOf 50 = .ok (.iaload, 1) := by decide +kernel
theorem dX5_isCodeOf_51 : decode cX5_isCodeOf 51 = .ok (.if_icmp .eq 5, 3) := by decide +kernel
theorem dX5_isCodeOf_54 : decode cX5_isCodeOf 54 = .ok (.iconst 0, 1) := by decide +kernel
theorem dX5_isCodeOf_55 : decode cX5_isCodeOf 55 = .ok (.ireturn, 1) := by decide +kernel
theorem dX5_isCodeOf_56 : decode cX5_isCodeOf 56 = .ok (.iinc 3 1, 3) := by decide +kernel
theorem dX5_isCodeOf_59 : decode cX5_isCodeOf 59 = .ok (.goto (-40), 3) := by decide +kernel
theorem dX5_isCodeOf_62 : decode cX5_isCodeOf 62 = .ok (.iconst 1, 1) := by decide +kernel
theorem dX5_isCodeOf_63 : decode cX5_isCodeOf 63 = .ok (.ireturn, 1) := by decide +kernel
theorem dX5_isStale_0 : decode cX5_isStale 0 = .ok (.aload_n 0, 1) := by decide +kernel
theorem dX5_isStale_1 : decode cX5_isStale 1 = .ok (.iload_n 1, 1) := by decide +kernel
theorem dX5_isStale_2 : decode cX5_isStale 2 = .ok (.aload_n 0, 1) := by decide +kernel
theorem dX5_isStale_3 : decode cX5_isStale 3 = .ok (.getfield 22, 3) := by decide +kernel
theorem dX5_isStale_6 : decode cX5_isStale 6 = .ok (.iload_n 1, 1) := by decide +kernel
theorem dX5_isStale_7 : decode cX5_isStale 7 = .ok (.iaload, 1) := by decide +kernel
theorem dX5_isStale_8 : decode cX5_isStale 8 = .ok (.invokevirtual 145, 3) := by decide +kernel
theorem dX5_isStale_11 : decode cX5_isStale 11 = .ok (.ifCond .ne 5, 3) := by decide +kernel
theorem dX5_isStale_14 : decode cX5_isStale 14 = .ok (.iconst 1, 1) := by decide +kernel
theorem dX5_isStale_15 : decode cX5_isStale 15 = .ok (.ireturn, 1) := by decide +kernel
theorem dX5_isStale_16 : decode cX5_isStale 16 = .ok (.iconst 0, 1) := by decide +kernel
theorem dX5_isStale_17 : decode cX5_isStale 17 = .ok (.istore_n 2, 1) := by decide +kernel
theorem dX5_isStale_18 : decode cX5_isStale 18 = .ok (.iload_n 2, 1) := by decide +kernel
theorem dX5_isStale_19 : decode cX5_isStale 19 = .ok (.bipush 8, 2) := by decide +kernel
theorem dX5_isStale_21 : decode cX5_isStale 21 = .ok (.if_icmp .ge 20, 3) := by decide +kernel
theorem dX5_isStale_24 : decode cX5_isStale 24 = .ok (.aload_n 0, 1) := by decide +kernel
theorem dX5_isStale_25 : decode cX5_isStale 25 = .ok (.iload_n 1, 1) := by decide +kernel
theorem dX5_isStale_26 : decode cX5_isStale 26 = .ok (.iload_n 2, 1) := by decide +kernel
theorem dX5_isStale_27 : decode cX5_isStale 27 = .ok (.invokevirtual 149, 3) := by decide +kernel
theorem dX5_isStale_30 : decode cX5_isStale 30 = .ok (.ifCond .eq 5, 3) := by decide +kernel
theorem dX5_isStale_33 : decode cX5_isStale 33 = .ok (.iconst 1, 1) := by decide +kernel
theorem dX5_isStale_34 : decode cX5_isStale 34 = .ok (.ireturn, 1) := by decide +kernel
theorem dX5_isStale_35 : decode cX5_isStale 35 = .ok (.iinc 2 1, 3) := by decide +kernel
theorem dX5_isStale_38 : decode cX5_isStale 38 = .ok (.goto (-20), 3) := by decide +kernel
theorem dX5_isStale_41 : decode cX5_isStale 41 = .ok (.iconst 0, 1) := by decide +kernel
theorem dX5_isStale_42 : decode cX5_isStale 42 = .ok (.ireturn, 1) := by decide +kernel
theorem dX5_of_0 : decode cX5_of 0 = .ok (.aload_n 0, 1) := by decide +kernel
theorem dX5_of_1 : decode cX5_of 1 = .ok (.iconst 0, 1) := by decide +kernel
theorem dX5_of_2 : decode cX5_of 2 = .ok (.putfield 77, 3) := by decide +kernel
theorem dX5_of_5 : decode cX5_of 5 = .ok (.aload_n 0, 1) := by decide +kernel
theorem dX5_of_6 : decode cX5_of 6 = .ok (.iload_n 1, 1) := by decide +kernel
theorem dX5_of_7 : decode cX5_of 7 = .ok (.invokevirtual 142, 3) := by decide +kernel
theorem dX5_of_10 : decode cX5_of 10 = .ok (.ifCond .ne 5, 3) := by decide +kernel
theorem dX5_of_13 : decode cX5_of 13 = .ok (.iconst (-1), 1) := by decide +kernel
theorem dX5_of_14 : decode cX5_of 14 = .ok (.ireturn, 1) := by decide +kernel
theorem dX5_of_15 : decode cX5_of 15 = .ok (.iload_n 2, 1) := by decide +kernel
theorem dX5_of_16 : decode cX5_of 16 = .ok (.ifCond .ne 10, 3) := by decide +kernel
theorem dX5_of_19 : decode cX5_of 19 = .ok (.aload_n 0, 1) := by decide +kernel
theorem dX5_of_20 : decode cX5_of 20 = .ok (.getfield 22, 3) := by decide +kernel
theorem dX5_of_23 : decode cX5_of 23 = .ok (.iload_n 1, 1) := by decide +kernel
theorem dX5_of_24 : decode cX5_of 24 = .ok (.iaload, 1) := by decide +kernel
theorem dX5_of_25 : decode cX5_of 25 = .ok (.ireturn, 1) := by decide +kernel
theorem dX5_of_26 : decode cX5_of 26 = .ok (.iload_n 2, 1) := by decide +kernel
theorem dX5_of_27 : decode cX5_of 27 = .ok (.iconst 1, 1) := by decide +kernel
theorem dX5_of_28 : decode cX5_of 28 = .ok (.if_icmp .ne 10, 3) := by decide +kernel
theorem dX5_of_31 : decode cX5_of 31 = .ok (.aload_n 0, 1) := by decide +kernel
theorem dX5_of_32 : decode cX5_of 32 = .ok (.getfield 31, 3) := by decide +kernel
theorem dX5_of_35 : decode cX5_of 35 = .ok (.iload_n 1, 1) := by decide +kernel
theorem dX5_of_36 : decode cX5_of 36 = .ok (.iaload, 1) := by decide +kernel
theorem dX5_of_37 : decode cX5_of 37 = .ok (.ireturn, 1) := by decide +kernel
theorem dX5_of_38 : decode cX5_of 38 = .ok (.iload_n 2, 1) := by decide +kernel
theorem dX5_of_39 : decode cX5_of 39 = .ok (.iconst 2, 1) := by decide +kernel
theorem dX5_of_40 : decode cX5_of 40 = .ok (.if_icmp .ne 10, 3) := by decide +kernel
theorem dX5_of_43 : decode cX5_of 43 = .ok (.aload_n 0, 1) := by decide +kernel
theorem dX5_of_44 : decode cX5_of 44 = .ok (.getfield 34, 3) := by decide +kernel
theorem dX5_of_47 : decode cX5_of 47 = .ok (.iload_n 1, 1) := by decide +kernel
theorem dX5_of_48 : decode cX5_of 48 = .ok (.iaload, 1) := by decide +kernel
theorem dX5_of_49 : decode cX5_of 49 = .ok (.ireturn, 1) := by decide +kernel
theorem dX5_of_50 : decode cX5_of 50 = .ok (.iload_n 2, 1) := by decide +kernel
theorem dX5_of_51 : decode cX5_of 51 = .ok (.iconst 3, 1) := by decide +kernel
theorem dX5_of_52 : decode cX5_of 52 = .ok (.if_icmp .ne 10, 3) := by decide +kernel
theorem dX5_of_55 : decode cX5_of 55 = .ok (.aload_n 0, 1) := by decide +kernel
theorem dX5_of_56 : decode cX5_of 56 = .ok (.getfield 37, 3) := by decide +kernel
theorem dX5_of_59 : decode cX5_of 59 = .ok (.iload_n 1, 1) := by decide +kernel
theorem dX5_of_60 : decode cX5_of 60 = .ok (.iaload, 1) := by decide +kernel
theorem dX5_of_61 : decode cX5_of 61 = .ok (.ireturn, 1) := by decide +kernel
theorem dX5_of_62 : decode cX5_of 62 = .ok (.iload_n 2, 1) := by decide +kernel
theorem dX5_of_63 : decode cX5_of 63 = .ok (.iconst 4, 1) := by decide +kernel
theorem dX5_of_64 : decode cX5_of 64 = .ok (.if_icmp .ne 10, 3) := by decide +kernel
theorem dX5_of_67 : decode cX5_of 67 = .ok (.aload_n 0, 1) := by decide +kernel
theorem dX5_of_68 : decode cX5_of 68 = .ok (.getfield 40, 3) := by decide +kernel
theorem dX5_of_71 : decode cX5_of 71 = .ok (.iload_n 1, 1) := by decide +kernel
theorem dX5_of_72 : decode cX5_of 72 = .ok (.iaload, 1) := by decide +kernel
theorem dX5_of_73 : decode cX5_of 73 = .ok (.ireturn, 1) := by decide +kernel
theorem dX5_of_74 : decode cX5_of 74 = .ok (.iload_n 2, 1) := by decide +kernel
theorem dX5_of_75 : decode cX5_of 75 = .ok (.iconst 5, 1) := by decide +kernel
theorem dX5_of_76 : decode cX5_of 76 = .ok (.if_icmp .ne 18, 3) := by decide +kernel
theorem dX5_of_79 : decode cX5_of 79 = .ok (.aload_n 0, 1) := by decide +kernel
theorem dX5_of_80 : decode cX5_of 80 = .ok (.getfield 46, 3) := by decide +kernel
theorem dX5_of_83 : decode cX5_of 83 = .ok (.iload_n 1, 1) := by decide +kernel
theorem dX5_of_84 : decode cX5_of 84 = .ok (.baload, 1) := by decide +kernel
theorem dX5_of_85 : decode cX5_of 85 = .ok (.ifCond .eq 7, 3) := by decide +kernel
theorem dX5_of_88 : decode cX5_of 88 = .ok (.iconst 1, 1) := by decide +kernel
theorem dX5_of_89 : decode cX5_of 89 = .ok (.goto 4, 3) := by decide +kernel
theorem dX5_of_92 : decode cX5_of 92 = .ok (.iconst 0, 1) := by decide +kernel
theorem dX5_of_93 : decode cX5_of 93 = .ok (.ireturn, 1) := by decide +kernel
theorem dX5_of_94 : decode cX5_of 94 = .ok (.iload_n 2, 1) := by decide +kernel
theorem dX5_of_95 : decode cX5_of 95 = .ok (.bipush 6, 2) := by decide +kernel
theorem dX5_of_97 : decode cX5_of 97 = .ok (.if_icmp .ne 10, 3) := by decide +kernel
theorem dX5_of_100 : decode cX5_of 100 = .ok (.aload_n 0, 1) := by decide +kernel
theorem dX5_of_101 : decode cX5_of 101 = .ok (.getfield 50, 3) := by decide +kernel
theorem dX5_of_104 : decode cX5_of 104 = .ok (.iload_n 1, 1) := by decide +kernel
theorem dX5_of_105 : decode cX5_of 105 = .ok (.iaload, 1) := by decide +kernel
theorem dX5_of_106 : decode cX5_of 106 = .ok (.ireturn, 1) := by decide +kernel
theorem dX5_of_107 : decode cX5_of 107 = .ok (.iload_n 2, 1) := by decide +kernel
theorem dX5_of_108 : decode cX5_of 108 = .ok (.bipush 7, 2) := by decide +kernel
theorem dX5_of_110 : decode cX5_of 110 = .ok (.if_icmp .ne 10, 3) := by decide +kernel
theorem dX5_of_113 : decode cX5_of 113 = .ok (.aload_n 0, 1) := by decide +kernel
theorem dX5_of_114 : decode cX5_of 114 = .ok (.getfield 53, 3) := by decide +kernel
theorem dX5_of_117 : decode cX5_of 117 = .ok (.iload_n 1, 1) := by decide +kernel
theorem dX5_of_118 : decode cX5_of 118 = .ok (.iaload, 1) := by decide +kernel
theorem dX5_of_119 : decode cX5_of 119 = .ok (.ireturn, 1) := by decide +kernel
theorem dX5_of_120 : decode cX5_of 120 = .ok (.iload_n 2, 1) := by decide +kernel
theorem dX5_of_121 : decode cX5_of 121 = .ok (.bipush 8, 2) := by decide +kernel
theorem dX5_of_123 : decode cX5_of 123 = .ok (.if_icmp .ne 10, 3) := by decide +kernel
theorem dX5_of_126 : decode cX5_of 126 = .ok (.aload_n 0, 1) := by decide +kernel
theorem dX5_of_127 : decode cX5_of 127 = .ok (.getfield 56, 3) := by decide +kernel
theorem dX5_of_130 : decode cX5_of 130 = .ok (.iload_n 1, 1) := by decide +kernel
theorem dX5_of_131 : decode cX5_of 131 = .ok (.iaload, 1) := by decide +kernel
theorem dX5_of_132 : decode cX5_of 132 = .ok (.ireturn, 1) := by decide +kernel
theorem dX5_of_133 : decode cX5_of 133 = .ok (.iload_n 2, 1) := by decide +kernel
theorem dX5_of_134 : decode cX5_of 134 = .ok (.bipush 9, 2) := by decide +kernel
theorem dX5_of_136 : decode cX5_of 136 = .ok (.if_icmp .ne 10, 3) := by decide +kernel
theorem dX5_of_139 : decode cX5_of 139 = .ok (.aload_n 0, 1) := by decide +kernel
theorem dX5_of_140 : decode cX5_of 140 = .ok (.getfield 59, 3) := by decide +kernel
theorem dX5_of_143 : decode cX5_of 143 = .ok (.iload_n 1, 1) := by decide +kernel
theorem dX5_of_144 : decode cX5_of 144 = .ok (.iaload, 1) := by decide +kernel
theorem dX5_of_145 : decode cX5_of 145 = .ok (.ireturn, 1) := by decide +kernel
theorem dX5_of_146 : decode cX5_of 146 = .ok (.iload_n 2, 1) := by decide +kernel
theorem dX5_of_147 : decode cX5_of 147 = .ok (.bipush 10, 2) := by decide +kernel
theorem dX5_of_149 : decode cX5_of 149 = .ok (.if_icmp .ne 18, 3) := by decide +kernel
theorem dX5_of_152 : decode cX5_of 152 = .ok (.aload_n 0, 1) := by decide +kernel
theorem dX5_of_153 : decode cX5_of 153 = .ok (.getfield 65, 3) := by decide +kernel
theorem dX5_of_156 : decode cX5_of 156 = .ok (.iload_n 1, 1) := by decide +kernel
theorem dX5_of_157 : decode cX5_of 157 = .ok (.baload, 1) := by decide +kernel
theorem dX5_of_158 : decode cX5_of 158 = .ok (.ifCond .eq 7, 3) := by decide +kernel
theorem dX5_of_161 : decode cX5_of 161 = .ok (.iconst 1, 1) := by decide +kernel
theorem dX5_of_162 : decode cX5_of 162 = .ok (.goto 4, 3) := by decide +kernel
theorem dX5_of_165 : decode cX5_of 165 = .ok (.iconst 0, 1) := by decide +kernel
theorem dX5_of_166 : decode cX5_of 166 = .ok (.ireturn, 1) := by decide +kernel
theorem dX5_of_167 : decode cX5_of 167 = .ok (.iload_n 2, 1) := by decide +kernel
theorem dX5_of_168 : decode cX5_of 168 = .ok (.bipush 11, 2) := by decide +kernel
theorem dX5_of_170 : decode cX5_of 170 = .ok (.if_icmp .ne 18, 3) := by decide +kernel
theorem dX5_of_173 : decode cX5_of 173 = .ok (.aload_n 0, 1) := by decide +kernel
theorem dX5_of_174 : decode cX5_of 174 = .ok (.getfield 68, 3) := by decide +kernel
theorem dX5_of_177 : decode cX5_of 177 = .ok (.iload_n 1, 1) := by decide +kernel
theorem dX5_of_178 : decode cX5_of 178 = .ok (.baload, 1) := by decide +kernel
theorem dX5_of_179 : decode cX5_of 179 = .ok (.ifCond .eq 7, 3) := by decide +kernel
theorem dX5_of_182 : decode cX5_of 182 = .ok (.iconst 1, 1) := by decide +kernel
theorem dX5_of_183 : decode cX5_of 183 = .ok (.goto 4, 3) := by decide +kernel
theorem dX5_of_186 : decode cX5_of 186 = .ok (.iconst 0, 1) := by decide +kernel
theorem dX5_of_187 : decode cX5_of 187 = .ok (.ireturn, 1) := by decide +kernel
theorem dX5_of_188 : decode cX5_of 188 = .ok (.iload_n 2, 1) := by decide +kernel
theorem dX5_of_189 : decode cX5_of 189 = .ok (.bipush 12, 2) := by decide +kernel
theorem dX5_of_191 : decode cX5_of 191 = .ok (.if_icmp .ne 17, 3) := by decide +kernel
theorem dX5_of_194 : decode cX5_of 194 = .ok (.aload_n 0, 1) := by decide +kernel
theorem dX5_of_195 : decode cX5_of 195 = .ok (.iload_n 1, 1) := by decide +kernel
theorem dX5_of_196 : decode cX5_of 196 = .ok (.invokevirtual 152, 3) := by decide +kernel
theorem dX5_of_199 : decode cX5_of 199 = .ok (.ifCond .eq 7, 3) := by decide +kernel
theorem dX5_of_202 : decode cX5_of 202 = .ok (.iconst 1, 1) := by decide +kernel
theorem dX5_of_203 : decode cX5_of 203 = .ok (.goto 4, 3) := by decide +kernel
theorem dX5_of_206 : decode cX5_of 206 = .ok (.iconst 0, 1) := by decide +kernel
theorem dX5_of_207 : decode cX5_of 207 = .ok (.ireturn, 1) := by decide +kernel
theorem dX5_of_208 : decode cX5_of 208 = .ok (.iload_n 2, 1) := by decide +kernel
theorem dX5_of_209 : decode cX5_of 209 = .ok (.bipush 100, 2) := by decide +kernel
theorem dX5_of_211 : decode cX5_of 211 = .ok (.if_icmp .lt 33, 3) := by decide +kernel
theorem dX5_of_214 : decode cX5_of 214 = .ok (.iload_n 2, 1) := by decide +kernel
theorem dX5_of_215 : decode cX5_of 215 = .ok (.bipush 100, 2) := by decide +kernel
theorem dX5_of_217 : decode cX5_of 217 = .ok (.isub, 1) := by decide +kernel
theorem dX5_of_218 : decode cX5_of 218 = .ok (.aload_n 0, 1) := by decide +kernel
theorem dX5_of_219 : decode cX5_of 219 = .ok (.getfield 40, 3) := by decide +kernel
theorem dX5_of_222 : decode cX5_of 222 = .ok (.iload_n 1, 1) := by decide +kernel
theorem dX5_of_223 : decode cX5_of 223 = .ok (.iaload, 1) := by decide +kernel
theorem dX5_of_224 : decode cX5_of 224 = .ok (.if_icmp .ge 20, 3) := by decide +kernel
theorem dX5_of_227 : decode cX5_of 227 = .ok (.aload_n 0, 1) := by decide +kernel
theorem dX5_of_228 : decode cX5_of 228 = .ok (.getfield 43, 3) := by decide +kernel
theorem dX5_of_231 : decode cX5_of 231 = .ok (.bipush 16, 2) := by decide +kernel
theorem dX5_of_233 : decode cX5_of 233 = .ok (.iload_n 1, 1) := by decide +kernel
theorem dX5_of_234 : decode cX5_of 234 = .ok (.imul, 1) := by decide +kernel
theorem dX5_of_235 : decode cX5_of 235 = .ok (.iload_n 2, 1) := by decide +kernel
theorem dX5_of_236 : decode cX5_of 236 = .ok (.iadd, 1) := by decide +kernel
end
section
theorem dX5_of_237 : decode cX5_of 237 = .ok (.bipush 100, 2) := by decide +kernel
theorem dX5_of_239 : decode cX5_of 239 = .ok (.isub, 1) := by decide +kernel
theorem dX5_of_240 : decode cX5_of 240 = .ok (.iaload, 1) := by decide +kernel
theorem dX5_of_241 : decode cX5_of 241 = .ok (.goto 4, 3) := by decide +kernel
theorem dX5_of_244 : decode cX5_of 244 = .ok (.iconst (-1), 1) := by decide +kernel
theorem dX5_of_245 : decode cX5_of 245 = .ok (.ireturn, 1) := by decide +kernel
theorem dX5_clock_0 : decode cX5_clock 0 = .ok (.aload_n 0, 1) := by decide +kernel
theorem dX5_clock_1 : decode cX5_clock 1 = .ok (.iconst 0, 1) := by decide +kernel
theorem dX5_clock_2 : decode cX5_clock 2 = .ok (.putfield 77, 3) := by decide +kernel
theorem dX5_clock_5 : decode cX5_clock 5 = .ok (.aload_n 0, 1) := by decide +kernel
theorem dX5_clock_6 : decode cX5_clock 6 = .ok (.getfield 109, 3) := by decide +kernel
theorem dX5_clock_9 : decode cX5_clock 9 = .ok (.ireturn, 1) := by decide +kernel
theorem dX5_runs_0 : decode cX5_runs 0 = .ok (.aload_n 0, 1) := by decide +kernel
theorem dX5_runs_1 : decode cX5_runs 1 = .ok (.iconst 0, 1) := by decide +kernel
theorem dX5_runs_2 : decode cX5_runs 2 = .ok (.putfield 77, 3) := by decide +kernel
theorem dX5_runs_5 : decode cX5_runs 5 = .ok (.aload_n 0, 1) := by decide +kernel
theorem dX5_runs_6 : decode cX5_runs 6 = .ok (.getfield 90, 3) := by decide +kernel
theorem dX5_runs_9 : decode cX5_runs 9 = .ok (.ireturn, 1) := by decide +kernel
theorem dX5_again_0 : decode cX5_again 0 = .ok (.aload_n 0, 1) := by decide +kernel
theorem dX5_again_1 : decode cX5_again 1 = .ok (.iconst 0, 1) := by decide +kernel
theorem dX5_again_2 : decode cX5_again 2 = .ok (.putfield 77, 3) := by decide +kernel
theorem dX5_again_5 : decode cX5_again 5 = .ok (.aload_n 0, 1) := by decide +kernel
theorem dX5_again_6 : decode cX5_again 6 = .ok (.iload_n 1, 1) := by decide +kernel
theorem dX5_again_7 : decode cX5_again 7 = .ok (.invokevirtual 142, 3) := by decide +kernel
theorem dX5_again_10 : decode cX5_again 10 = .ok (.ifCond .ne 5, 3) := by decide +kernel
theorem dX5_again_13 : decode cX5_again 13 = .ok (.iconst (-1), 1) := by decide +kernel
theorem dX5_again_14 : decode cX5_again 14 = .ok (.ireturn, 1) := by decide +kernel
theorem dX5_again_15 : decode cX5_again 15 = .ok (.aload_n 0, 1) := by decide +kernel
theorem dX5_again_16 : decode cX5_again 16 = .ok (.aload_n 0, 1) := by decide +kernel
theorem dX5_again_17 : decode cX5_again 17 = .ok (.getfield 109, 3) := by decide +kernel
theorem dX5_again_20 : decode cX5_again 20 = .ok (.iconst 1, 1) := by decide +kernel
theorem dX5_again_21 : decode cX5_again 21 = .ok (.iadd, 1) := by decide +kernel
theorem dX5_again_22 : decode cX5_again 22 = .ok (.putfield 109, 3) := by decide +kernel
theorem dX5_again_25 : decode cX5_again 25 = .ok (.aload_n 0, 1) := by decide +kernel
theorem dX5_again_26 : decode cX5_again 26 = .ok (.getfield 53, 3) := by decide +kernel
theorem dX5_again_29 : decode cX5_again 29 = .ok (.iload_n 1, 1) := by decide +kernel
theorem dX5_again_30 : decode cX5_again 30 = .ok (.iaload, 1) := by decide +kernel
theorem dX5_again_31 : decode cX5_again 31 = .ok (.iconst (-1), 1) := by decide +kernel
theorem dX5_again_32 : decode cX5_again 32 = .ok (.if_icmp .ne 7, 3) := by decide +kernel
theorem dX5_again_35 : decode cX5_again 35 = .ok (.iconst 0, 1) := by decide +kernel
theorem dX5_again_36 : decode cX5_again 36 = .ok (.goto 9, 3) := by decide +kernel
theorem dX5_again_39 : decode cX5_again 39 = .ok (.aload_n 0, 1) := by decide +kernel
theorem dX5_again_40 : decode cX5_again 40 = .ok (.getfield 53, 3) := by decide +kernel
theorem dX5_again_43 : decode cX5_again 43 = .ok (.iload_n 1, 1) := by decide +kernel
theorem dX5_again_44 : decode cX5_again 44 = .ok (.iaload, 1) := by decide +kernel
theorem dX5_again_45 : decode cX5_again 45 = .ok (.istore_n 2, 1) := by decide +kernel
theorem dX5_again_46 : decode cX5_again 46 = .ok (.aload_n 0, 1) := by decide +kernel
theorem dX5_again_47 : decode cX5_again 47 = .ok (.iload_n 1, 1) := by decide +kernel
theorem dX5_again_48 : decode cX5_again 48 = .ok (.iload_n 2, 1) := by decide +kernel
theorem dX5_again_49 : decode cX5_again 49 = .ok (.iload_n 2, 1) := by decide +kernel
theorem dX5_again_50 : decode cX5_again 50 = .ok (.ifCond .ne 7, 3) := by decide +kernel
theorem dX5_again_53 : decode cX5_again 53 = .ok (.iconst 0, 1) := by decide +kernel
theorem dX5_again_54 : decode cX5_again 54 = .ok (.goto 16, 3) := by decide +kernel
theorem dX5_again_57 : decode cX5_again 57 = .ok (.aload_n 0, 1) := by decide +kernel
theorem dX5_again_58 : decode cX5_again 58 = .ok (.getfield 43, 3) := by decide +kernel
theorem dX5_again_61 : decode cX5_again 61 = .ok (.bipush 16, 2) := by decide +kernel
theorem dX5_again_63 : decode cX5_again 63 = .ok (.iload_n 1, 1) := by decide +kernel
theorem dX5_again_64 : decode cX5_again 64 = .ok (.imul, 1) := by decide +kernel
theorem dX5_again_65 : decode cX5_again 65 = .ok (.iload_n 2, 1) := by decide +kernel
theorem dX5_again_66 : decode cX5_again 66 = .ok (.iadd, 1) := by decide +kernel
theorem dX5_again_67 : decode cX5_again 67 = .ok (.iconst 1, 1) := by decide +kernel
theorem dX5_again_68 : decode cX5_again 68 = .ok (.isub, 1) := by decide +kernel
theorem dX5_again_69 : decode cX5_again 69 = .ok (.iaload, 1) := by decide +kernel
theorem dX5_again_70 : decode cX5_again 70 = .ok (.aload_n 0, 1) := by decide +kernel
theorem dX5_again_71 : decode cX5_again 71 = .ok (.getfield 31, 3) := by decide +kernel
theorem dX5_again_74 : decode cX5_again 74 = .ok (.iload_n 1, 1) := by decide +kernel
theorem dX5_again_75 : decode cX5_again 75 = .ok (.iaload, 1) := by decide +kernel
theorem dX5_again_76 : decode cX5_again 76 = .ok (.aload_n 0, 1) := by decide +kernel
theorem dX5_again_77 : decode cX5_again 77 = .ok (.getfield 34, 3) := by decide +kernel
theorem dX5_again_80 : decode cX5_again 80 = .ok (.iload_n 1, 1) := by decide +kernel
theorem dX5_again_81 : decode cX5_again 81 = .ok (.iaload, 1) := by decide +kernel
theorem dX5_again_82 : decode cX5_again 82 = .ok (.aload_n 0, 1) := by decide +kernel
theorem dX5_again_83 : decode cX5_again 83 = .ok (.getfield 37, 3) := by decide +kernel
theorem dX5_again_86 : decode cX5_again 86 = .ok (.iload_n 1, 1) := by decide +kernel
theorem dX5_again_87 : decode cX5_again 87 = .ok (.iaload, 1) := by decide +kernel
theorem dX5_again_88 : decode cX5_again 88 = .ok (.invokevirtual 134, 3) := by decide +kernel
theorem dX5_again_91 : decode cX5_again 91 = .ok (.iload_n 2, 1) := by decide +kernel
theorem dX5_again_92 : decode cX5_again 92 = .ok (.istore_n 3, 1) := by decide +kernel
theorem dX5_again_93 : decode cX5_again 93 = .ok (.iload_n 3, 1) := by decide +kernel
theorem dX5_again_94 : decode cX5_again 94 = .ok (.aload_n 0, 1) := by decide +kernel
theorem dX5_again_95 : decode cX5_again 95 = .ok (.getfield 37, 3) := by decide +kernel
theorem dX5_again_98 : decode cX5_again 98 = .ok (.iload_n 1, 1) := by decide +kernel
theorem dX5_again_99 : decode cX5_again 99 = .ok (.iaload, 1) := by decide +kernel
theorem dX5_again_100 : decode cX5_again 100 = .ok (.if_icmp .ge 75, 3) := by decide +kernel
theorem dX5_again_103 : decode cX5_again 103 = .ok (.iload_n 3, 1) := by decide +kernel
theorem dX5_again_104 : decode cX5_again 104 = .ok (.aload_n 0, 1) := by decide +kernel
theorem dX5_again_105 : decode cX5_again 105 = .ok (.getfield 40, 3) := by decide +kernel
theorem dX5_again_108 : decode cX5_again 108 = .ok (.iload_n 1, 1) := by decide +kernel
theorem dX5_again_109 : decode cX5_again 109 = .ok (.iaload, 1) := by decide +kernel
theorem dX5_again_110 : decode cX5_again 110 = .ok (.if_icmp .ge 7, 3) := by decide +kernel
theorem dX5_again_113 : decode cX5_again 113 = .ok (.iconst 1, 1) := by decide +kernel
theorem dX5_again_114 : decode cX5_again 114 = .ok (.goto 4, 3) := by decide +kernel
theorem dX5_again_117 : decode cX5_again 117 = .ok (.iconst 0, 1) := by decide +kernel
theorem dX5_again_118 : decode cX5_again 118 = .ok (.istore 4, 2) := by decide +kernel
theorem dX5_again_120 : decode cX5_again 120 = .ok (.iload_n 3, 1) := by decide +kernel
theorem dX5_again_121 : decode cX5_again 121 = .ok (.aload_n 0, 1) := by decide +kernel
theorem dX5_again_122 : decode cX5_again 122 = .ok (.getfield 115, 3) := by decide +kernel
theorem dX5_again_125 : decode cX5_again 125 = .ok (.if_icmp .ge 7, 3) := by decide +kernel
theorem dX5_again_128 : decode cX5_again 128 = .ok (.iconst 1, 1) := by decide +kernel
theorem dX5_again_129 : decode cX5_again 129 = .ok (.goto 4, 3) := by decide +kernel
theorem dX5_again_132 : decode cX5_again 132 = .ok (.iconst 0, 1) := by decide +kernel
theorem dX5_again_133 : decode cX5_again 133 = .ok (.istore 5, 2) := by decide +kernel
theorem dX5_again_135 : decode cX5_again 135 = .ok (.iload 4, 2) := by decide +kernel
theorem dX5_again_137 : decode cX5_again 137 = .ok (.iload 5, 2) := by decide +kernel
theorem dX5_again_139 : decode cX5_again 139 = .ok (.if_icmp .ne 28, 3) := by decide +kernel
theorem dX5_again_142 : decode cX5_again 142 = .ok (.iload 4, 2) := by decide +kernel
theorem dX5_again_144 : decode cX5_again 144 = .ok (.ifCond .eq 25, 3) := by decide +kernel
theorem dX5_again_147 : decode cX5_again 147 = .ok (.aload_n 0, 1) := by decide +kernel
theorem dX5_again_148 : decode cX5_again 148 = .ok (.getfield 43, 3) := by decide +kernel
theorem dX5_again_151 : decode cX5_again 151 = .ok (.bipush 16, 2) := by decide +kernel
theorem dX5_again_153 : decode cX5_again 153 = .ok (.iload_n 1, 1) := by decide +kernel
theorem dX5_again_154 : decode cX5_again 154 = .ok (.imul, 1) := by decide +kernel
theorem dX5_again_155 : decode cX5_again 155 = .ok (.iload_n 3, 1) := by decide +kernel
theorem dX5_again_156 : decode cX5_again 156 = .ok (.iadd, 1) := by decide +kernel
theorem dX5_again_157 : decode cX5_again 157 = .ok (.iaload, 1) := by decide +kernel
theorem dX5_again_158 : decode cX5_again 158 = .ok (.aload_n 0, 1) := by decide +kernel
theorem dX5_again_159 : decode cX5_again 159 = .ok (.getfield 71, 3) := by decide +kernel
theorem dX5_again_162 : decode cX5_again 162 = .ok (.iload_n 3, 1) := by decide +kernel
theorem dX5_again_163 : decode cX5_again 163 = .ok (.iaload, 1) := by decide +kernel
theorem dX5_again_164 : decode cX5_again 164 = .ok (.if_icmp .eq 5, 3) := by decide +kernel
theorem dX5_again_167 : decode cX5_again 167 = .ok (.iload_n 3, 1) := by decide +kernel
theorem dX5_again_168 : decode cX5_again 168 = .ok (.ireturn, 1) := by decide +kernel
theorem dX5_again_169 : decode cX5_again 169 = .ok (.iinc 3 1, 3) := by decide +kernel
theorem dX5_again_172 : decode cX5_again 172 = .ok (.goto (-79), 3) := by decide +kernel
theorem dX5_again_175 : decode cX5_again 175 = .ok (.aload_n 0, 1) := by decide +kernel
theorem dX5_again_176 : decode cX5_again 176 = .ok (.getfield 37, 3) := by decide +kernel
theorem dX5_again_179 : decode cX5_again 179 = .ok (.iload_n 1, 1) := by decide +kernel
theorem dX5_again_180 : decode cX5_again 180 = .ok (.iaload, 1) := by decide +kernel
theorem dX5_again_181 : decode cX5_again 181 = .ok (.ireturn, 1) := by decide +kernel
theorem dX5_loose_0 : decode cX5_loose 0 = .ok (.aload_n 0, 1) := by decide +kernel
theorem dX5_loose_1 : decode cX5_loose 1 = .ok (.iconst 0, 1) := by decide +kernel
theorem dX5_loose_2 : decode cX5_loose 2 = .ok (.putfield 77, 3) := by decide +kernel
theorem dX5_loose_5 : decode cX5_loose 5 = .ok (.aload_n 0, 1) := by decide +kernel
theorem dX5_loose_6 : decode cX5_loose 6 = .ok (.iload_n 1, 1) := by decide +kernel
theorem dX5_loose_7 : decode cX5_loose 7 = .ok (.invokevirtual 142, 3) := by decide +kernel
theorem dX5_loose_10 : decode cX5_loose 10 = .ok (.ifCond .ne 5, 3) := by decide +kernel
theorem dX5_loose_13 : decode cX5_loose 13 = .ok (.iconst (-1), 1) := by decide +kernel
theorem dX5_loose_14 : decode cX5_loose 14 = .ok (.ireturn, 1) := by decide +kernel
theorem dX5_loose_15 : decode cX5_loose 15 = .ok (.aload_n 0, 1) := by decide +kernel
theorem dX5_loose_16 : decode cX5_loose 16 = .ok (.getfield 68, 3) := by decide +kernel
theorem dX5_loose_19 : decode cX5_loose 19 = .ok (.iload_n 1, 1) := by decide +kernel
theorem dX5_loose_20 : decode cX5_loose 20 = .ok (.baload, 1) := by decide +kernel
theorem dX5_loose_21 : decode cX5_loose 21 = .ok (.ifCond .eq 9, 3) := by decide +kernel
theorem dX5_loose_24 : decode cX5_loose 24 = .ok (.sipush 256, 3) := by decide +kernel
theorem dX5_loose_27 : decode cX5_loose 27 = .ok (.goto 4, 3) := by decide +kernel
theorem dX5_loose_30 : decode cX5_loose 30 = .ok (.iconst 0, 1) := by decide +kernel
theorem dX5_loose_31 : decode cX5_loose 31 = .ok (.istore_n 2, 1) := by decide +kernel
theorem dX5_loose_32 : decode cX5_loose 32 = .ok (.iconst 0, 1) := by decide +kernel
theorem dX5_loose_33 : decode cX5_loose 33 = .ok (.istore_n 3, 1) := by decide +kernel
theorem dX5_loose_34 : decode cX5_loose 34 = .ok (.iload_n 3, 1) := by decide +kernel
theorem dX5_loose_35 : decode cX5_loose 35 = .ok (.bipush 8, 2) := by decide +kernel
theorem dX5_loose_37 : decode cX5_loose 37 = .ok (.if_icmp .ge 24, 3) := by decide +kernel
theorem dX5_loose_40 : decode cX5_loose 40 = .ok (.aload_n 0, 1) := by decide +kernel
theorem dX5_loose_41 : decode cX5_loose 41 = .ok (.iload_n 1, 1) := by decide +kernel
theorem dX5_loose_42 : decode cX5_loose 42 = .ok (.iload_n 3, 1) := by decide +kernel
theorem dX5_loose_43 : decode cX5_loose 43 = .ok (.invokevirtual 149, 3) := by decide +kernel
theorem dX5_loose_46 : decode cX5_loose 46 = .ok (.ifCond .eq 9, 3) := by decide +kernel
theorem dX5_loose_49 : decode cX5_loose 49 = .ok (.iload_n 2, 1) := by decide +kernel
theorem dX5_loose_50 : decode cX5_loose 50 = .ok (.iconst 1, 1) := by decide +kernel
theorem dX5_loose_51 : decode cX5_loose 51 = .ok (.iload_n 3, 1) := by decide +kernel
theorem dX5_loose_52 : decode cX5_loose 52 = .ok (.ishl, 1) := by decide +kernel
theorem dX5_loose_53 : decode cX5_loose 53 = .ok (.ior, 1) := by decide +kernel
theorem dX5_loose_54 : decode cX5_loose 54 = .ok (.istore_n 2, 1) := by decide +kernel
theorem dX5_loose_55 : decode cX5_loose 55 = .ok (.iinc 3 1, 3) := by decide +kernel
theorem dX5_loose_58 : decode cX5_loose 58 = .ok (.goto (-24), 3) := by decide +kernel
theorem dX5_loose_61 : decode cX5_loose 61 = .ok (.iload_n 2, 1) := by decide +kernel
theorem dX5_loose_62 : decode cX5_loose 62 = .ok (.ireturn, 1) := by decide +kernel
theorem dX5_savedBy_0 : decode cX5_savedBy 0 = .ok (.iconst 0, 1) := by decide +kernel
theorem dX5_savedBy_1 : decode cX5_savedBy 1 = .ok (.istore 5, 2) := by decide +kernel
theorem dX5_savedBy_3 : decode cX5_savedBy 3 = .ok (.iload 5, 2) := by decide +kernel
theorem dX5_savedBy_5 : decode cX5_savedBy 5 = .ok (.aload_n 0, 1) := by decide +kernel
theorem dX5_savedBy_6 : decode cX5_savedBy 6 = .ok (.getfield 90, 3) := by decide +kernel
theorem dX5_savedBy_9 : decode cX5_savedBy 9 = .ok (.if_icmp .ge 205, 3) := by decide +kernel
theorem dX5_savedBy_12 : decode cX5_savedBy 12 = .ok (.aload_n 0, 1) := by decide +kernel
theorem dX5_savedBy_13 : decode cX5_savedBy 13 = .ok (.getfield 50, 3) := by decide +kernel
theorem dX5_savedBy_16 : decode cX5_savedBy 16 = .ok (.iload 5, 2) := by decide +kernel
theorem dX5_savedBy_18 : decode cX5_savedBy 18 = .ok (.iaload, 1) := by decide +kernel
theorem dX5_savedBy_19 : decode cX5_savedBy 19 = .ok (.iconst (-1), 1) := by decide +kernel
theorem dX5_savedBy_20 : decode cX5_savedBy 20 = .ok (.if_icmp .ne 188, 3) := by decide +kernel
theorem dX5_savedBy_23 : decode cX5_savedBy 23 = .ok (.aload_n 0, 1) := by decide +kernel
theorem dX5_savedBy_24 : decode cX5_savedBy 24 = .ok (.getfield 46, 3) := by decide +kernel
theorem dX5_savedBy_27 : decode cX5_savedBy 27 = .ok (.iload 5, 2) := by decide +kernel
theorem dX5_savedBy_29 : decode cX5_savedBy 29 = .ok (.baload, 1) := by decide +kernel
theorem dX5_savedBy_30 : decode cX5_savedBy 30 = .ok (.ifCond .ne 178, 3) := by decide +kernel
theorem dX5_savedBy_33 : decode cX5_savedBy 33 = .ok (.aload_n 0, 1) := by decide +kernel
theorem dX5_savedBy_34 : decode cX5_savedBy 34 = .ok (.getfield 68, 3) := by decide +kernel
theorem dX5_savedBy_37 : decode cX5_savedBy 37 = .ok (.iload 5, 2) := by decide +kernel
theorem dX5_savedBy_39 : decode cX5_savedBy 39 = .ok (.baload, 1) := by decide +kernel
theorem dX5_savedBy_40 : decode cX5_savedBy 40 = .ok (.ifCond .ne 168, 3) := by decide +kernel
theorem dX5_savedBy_43 : decode cX5_savedBy 43 = .ok (.aload_n 0, 1) := by decide +kernel
theorem dX5_savedBy_44 : decode cX5_savedBy 44 = .ok (.getfield 37, 3) := by decide +kernel
theorem dX5_savedBy_47 : decode cX5_savedBy 47 = .ok (.iload 5, 2) := by decide +kernel
theorem dX5_savedBy_49 : decode cX5_savedBy 49 = .ok (.iaload, 1) := by decide +kernel
theorem dX5_savedBy_50 : decode cX5_savedBy 50 = .ok (.iload 4, 2) := by decide +kernel
theorem dX5_savedBy_52 : decode cX5_savedBy 52 = .ok (.if_icmp .lt 156, 3) := by decide +kernel
theorem dX5_savedBy_55 : decode cX5_savedBy 55 = .ok (.aload_n 0, 1) := by decide +kernel
theorem dX5_savedBy_56 : decode cX5_savedBy 56 = .ok (.iload 5, 2) := by decide +kernel
theorem dX5_savedBy_58 : decode cX5_savedBy 58 = .ok (.iload_n 1, 1) := by decide +kernel
theorem dX5_savedBy_59 : decode cX5_savedBy 59 = .ok (.invokevirtual 145, 3) := by decide +kernel
theorem dX5_savedBy_62 : decode cX5_savedBy 62 = .ok (.ifCond .ne 6, 3) := by decide +kernel
theorem dX5_savedBy_65 : decode cX5_savedBy 65 = .ok (.goto 143, 3) := by decide +kernel
theorem dX5_savedBy_68 : decode cX5_savedBy 68 = .ok (.aload_n 0, 1) := by decide +kernel
theorem dX5_savedBy_69 : decode cX5_savedBy 69 = .ok (.getfield 65, 3) := by decide +kernel
theorem dX5_savedBy_72 : decode cX5_savedBy 72 = .ok (.iload 5, 2) := by decide +kernel
theorem dX5_savedBy_74 : decode cX5_savedBy 74 = .ok (.baload, 1) := by decide +kernel
theorem dX5_savedBy_75 : decode cX5_savedBy 75 = .ok (.ifCond .eq 14, 3) := by decide +kernel
theorem dX5_savedBy_78 : decode cX5_savedBy 78 = .ok (.aload_n 0, 1) := by decide +kernel
theorem dX5_savedBy_79 : decode cX5_savedBy 79 = .ok (.getfield 34, 3) := by decide +kernel
theorem dX5_savedBy_82 : decode cX5_savedBy 82 = .ok (.iload 5, 2) := by decide +kernel
theorem dX5_savedBy_84 : decode cX5_savedBy 84 = .ok (.iaload, 1) := by decide +kernel
theorem dX5_savedBy_85 : decode cX5_savedBy 85 = .ok (.iload_n 3, 1) := by decide +kernel
theorem dX5_savedBy_86 : decode cX5_savedBy 86 = .ok (.if_icmp .ne 7, 3) := by decide +kernel
theorem dX5_savedBy_89 : decode cX5_savedBy 89 = .ok (.iconst 1, 1) := by decide +kernel
theorem dX5_savedBy_90 : decode cX5_savedBy 90 = .ok (.goto 4, 3) := by decide +kernel
theorem dX5_savedBy_93 : decode cX5_savedBy 93 = .ok (.iconst 0, 1) := by decide +kernel
theorem dX5_savedBy_94 : decode cX5_savedBy 94 = .ok (.istore 6, 2) := by decide +kernel
theorem dX5_savedBy_96 : decode cX5_savedBy 96 = .ok (.iconst 0, 1) := by decide +kernel
theorem dX5_savedBy_97 : decode cX5_savedBy 97 = .ok (.istore 7, 2) := by decide +kernel
theorem dX5_savedBy_99 : decode cX5_savedBy 99 = .ok (.iload 7, 2) := by decide +kernel
theorem dX5_savedBy_101 : decode cX5_savedBy 101 = .ok (.iconst 4, 1) := by decide +kernel
theorem dX5_savedBy_102 : decode cX5_savedBy 102 = .ok (.if_icmp .ge 59, 3) := by decide +kernel
theorem dX5_savedBy_105 : decode cX5_savedBy 105 = .ok (.iload 6, 2) := by decide +kernel
theorem dX5_savedBy_107 : decode cX5_savedBy 107 = .ok (.ifCond .eq 45, 3) := by decide +kernel
theorem dX5_savedBy_110 : decode cX5_savedBy 110 = .ok (.aload_n 0, 1) := by decide +kernel
theorem dX5_savedBy_111 : decode cX5_savedBy 111 = .ok (.getfield 56, 3) := by decide +kernel
theorem dX5_savedBy_114 : decode cX5_savedBy 114 = .ok (.iload 5, 2) := by decide +kernel
theorem dX5_savedBy_116 : decode cX5_savedBy 116 = .ok (.iaload, 1) := by decide +kernel
theorem dX5_savedBy_117 : decode cX5_savedBy 117 = .ok (.iload 7, 2) := by decide +kernel
theorem dX5_savedBy_119 : decode cX5_savedBy 119 = .ok (.ishr, 1) := by decide +kernel
theorem dX5_savedBy_120 : decode cX5_savedBy 120 = .ok (.iconst 1, 1) := by decide +kernel
theorem dX5_savedBy_121 : decode cX5_savedBy 121 = .ok (.iand, 1) := by decide +kernel
theorem dX5_savedBy_122 : decode cX5_savedBy 122 = .ok (.ifCond .eq 26, 3) := by decide +kernel
theorem dX5_savedBy_125 : decode cX5_savedBy 125 = .ok (.aload_n 0, 1) := by decide +kernel
theorem dX5_savedBy_126 : decode cX5_savedBy 126 = .ok (.aload_n 0, 1) := by decide +kernel
theorem dX5_savedBy_127 : decode cX5_savedBy 127 = .ok (.getfield 31, 3) := by decide +kernel
theorem dX5_savedBy_130 : decode cX5_savedBy 130 = .ok (.iload 5, 2) := by decide +kernel
theorem dX5_savedBy_132 : decode cX5_savedBy 132 = .ok (.iaload, 1) := by decide +kernel
theorem dX5_savedBy_133 : decode cX5_savedBy 133 = .ok (.iload 7, 2) := by decide +kernel
theorem dX5_savedBy_135 : decode cX5_savedBy 135 = .ok (.invokevirtual 86, 3) := by decide +kernel
theorem dX5_savedBy_138 : decode cX5_savedBy 138 = .ok (.aload_n 0, 1) := by decide +kernel
theorem dX5_savedBy_139 : decode cX5_savedBy 139 = .ok (.iload_n 2, 1) := by decide +kernel
theorem dX5_savedBy_140 : decode cX5_savedBy 140 = .ok (.iload 7, 2) := by decide +kernel
theorem dX5_savedBy_142 : decode cX5_savedBy 142 = .ok (.invokevirtual 86, 3) := by decide +kernel
theorem dX5_savedBy_145 : decode cX5_savedBy 145 = .ok (.if_icmp .ne 7, 3) := by decide +kernel
theorem dX5_savedBy_148 : decode cX5_savedBy 148 = .ok (.iconst 1, 1) := by decide +kernel
theorem dX5_savedBy_149 : decode cX5_savedBy 149 = .ok (.goto 4, 3) := by decide +kernel
theorem dX5_savedBy_152 : decode cX5_savedBy 152 = .ok (.iconst 0, 1) := by decide +kernel
theorem dX5_savedBy_153 : decode cX5_savedBy 153 = .ok (.istore 6, 2) := by decide +kernel
theorem dX5_savedBy_155 : decode cX5_savedBy 155 = .ok (.iinc 7 1, 3) := by decide +kernel
theorem dX5_savedBy_158 : decode cX5_savedBy 158 = .ok (.goto (-59), 3) := by decide +kernel
theorem dX5_savedBy_161 : decode cX5_savedBy 161 = .ok (.iconst 0, 1) := by decide +kernel
theorem dX5_savedBy_162 : decode cX5_savedBy 162 = .ok (.istore 7, 2) := by decide +kernel
theorem dX5_savedBy_164 : decode cX5_savedBy 164 = .ok (.iload 7, 2) := by decide +kernel
theorem dX5_savedBy_166 : decode cX5_savedBy 166 = .ok (.bipush 8, 2) := by decide +kernel
theorem dX5_savedBy_168 : decode cX5_savedBy 168 = .ok (.if_icmp .ge 32, 3) := by decide +kernel
theorem dX5_savedBy_171 : decode cX5_savedBy 171 = .ok (.iload 6, 2) := by decide +kernel
theorem dX5_savedBy_173 : decode cX5_savedBy 173 = .ok (.ifCond .eq 18, 3) := by decide +kernel
theorem dX5_savedBy_176 : decode cX5_savedBy 176 = .ok (.aload_n 0, 1) := by decide +kernel
theorem dX5_savedBy_177 : decode cX5_savedBy 177 = .ok (.iload 5, 2) := by decide +kernel
theorem dX5_savedBy_179 : decode cX5_savedBy 179 = .ok (.iload 7, 2) := by decide +kernel
theorem dX5_savedBy_181 : decode cX5_savedBy 181 = .ok (.invokevirtual 149, 3) := by decide +kernel
theorem dX5_savedBy_184 : decode cX5_savedBy 184 = .ok (.ifCond .ne 7, 3) := by decide +kernel
theorem dX5_savedBy_187 : decode cX5_savedBy 187 = .ok (.iconst 1, 1) := by decide +kernel
theorem dX5_savedBy_188 : decode cX5_savedBy 188 = .ok (.goto 4, 3) := by decide +kernel
theorem dX5_savedBy_191 : decode cX5_savedBy 191 = .ok (.iconst 0, 1) := by decide +kernel
theorem dX5_savedBy_192 : decode cX5_savedBy 192 = .ok (.istore 6, 2) := by decide +kernel
theorem dX5_savedBy_194 : decode cX5_savedBy 194 = .ok (.iinc 7 1, 3) := by decide +kernel
theorem dX5_savedBy_197 : decode cX5_savedBy 197 = .ok (.goto (-33), 3) := by decide +kernel
theorem dX5_savedBy_200 : decode cX5_savedBy 200 = .ok (.iload 6, 2) := by decide +kernel
theorem dX5_savedBy_202 : decode cX5_savedBy 202 = .ok (.ifCond .eq 6, 3) := by decide +kernel
theorem dX5_savedBy_205 : decode cX5_savedBy 205 = .ok (.iload 5, 2) := by decide +kernel
theorem dX5_savedBy_207 : decode cX5_savedBy 207 = .ok (.ireturn, 1) := by decide +kernel
theorem dX5_savedBy_208 : decode cX5_savedBy 208 = .ok (.iinc 5 1, 3) := by decide +kernel
theorem dX5_savedBy_211 : decode cX5_savedBy 211 = .ok (.goto (-208), 3) := by decide +kernel
theorem dX5_savedBy_214 : decode cX5_savedBy 214 = .ok (.iconst (-1), 1) := by decide +kernel
theorem dX5_savedBy_215 : decode cX5_savedBy 215 = .ok (.ireturn, 1) := by decide +kernel
theorem dX5_saved_0 : decode cX5_saved 0 = .ok (.aload_n 0, 1) := by decide +kernel
theorem dX5_saved_1 : decode cX5_saved 1 = .ok (.iconst 0, 1) := by decide +kernel
theorem dX5_saved_2 : decode cX5_saved 2 = .ok (.putfield 77, 3) := by decide +kernel
theorem dX5_saved_5 : decode cX5_saved 5 = .ok (.aload_n 0, 1) := by decide +kernel
theorem dX5_saved_6 : decode cX5_saved 6 = .ok (.iload_n 1, 1) := by decide +kernel
theorem dX5_saved_7 : decode cX5_saved 7 = .ok (.invokevirtual 81, 3) := by decide +kernel
theorem dX5_saved_10 : decode cX5_saved 10 = .ok (.ifCond .eq 40, 3) := by decide +kernel
theorem dX5_saved_13 : decode cX5_saved 13 = .ok (.aload_n 0, 1) := by decide +kernel
theorem dX5_saved_14 : decode cX5_saved 14 = .ok (.iload_n 2, 1) := by decide +kernel
theorem dX5_saved_15 : decode cX5_saved 15 = .ok (.invokevirtual 125, 3) := by decide +kernel
theorem dX5_saved_18 : decode cX5_saved 18 = .ok (.ifCond .eq 32, 3) := by decide +kernel
theorem dX5_saved_21 : decode cX5_saved 21 = .ok (.aload_n 0, 1) := by decide +kernel
theorem dX5_saved_22 : decode cX5_saved 22 = .ok (.iload_n 3, 1) := by decide +kernel
theorem dX5_saved_23 : decode cX5_saved 23 = .ok (.invokevirtual 128, 3) := by decide +kernel
theorem dX5_saved_26 : decode cX5_saved 26 = .ok (.ifCond .eq 24, 3) := by decide +kernel
theorem dX5_saved_29 : decode cX5_saved 29 = .ok (.aload_n 0, 1) := by decide +kernel
theorem dX5_saved_30 : decode cX5_saved 30 = .ok (.iload 4, 2) := by decide +kernel
theorem dX5_saved_32 : decode cX5_saved 32 = .ok (.invokevirtual 131, 3) := by decide +kernel
theorem dX5_saved_35 : decode cX5_saved 35 = .ok (.ifCond .eq 15, 3) := by decide +kernel
theorem dX5_saved_38 : decode cX5_saved 38 = .ok (.aload_n 0, 1) := by decide +kernel
theorem dX5_saved_39 : decode cX5_saved 39 = .ok (.iload_n 1, 1) := by decide +kernel
theorem dX5_saved_40 : decode cX5_saved 40 = .ok (.iload_n 2, 1) := by decide +kernel
theorem dX5_saved_41 : decode cX5_saved 41 = .ok (.iload_n 3, 1) := by decide +kernel
theorem dX5_saved_42 : decode cX5_saved 42 = .ok (.iload 4, 2) := by decide +kernel
theorem dX5_saved_44 : decode cX5_saved 44 = .ok (.invokevirtual 155, 3) := by decide +kernel
theorem dX5_saved_47 : decode cX5_saved 47 = .ok (.goto 4, 3) := by decide +kernel
theorem dX5_saved_50 : decode cX5_saved 50 = .ok (.iconst (-1), 1) := by decide +kernel
theorem dX5_saved_51 : decode cX5_saved 51 = .ok (.ireturn, 1) := by decide +kernel
theorem dX5_isLikeCode_0 : decode cX5_isLikeCode 0 = .ok (.aload_n 0, 1) := by decide +kernel
theorem dX5_isLikeCode_1 : decode cX5_isLikeCode 1 = .ok (.getfield 25, 3) := by decide +kernel
theorem dX5_isLikeCode_4 : decode cX5_isLikeCode 4 = .ok (.iload_n 1, 1) := by decide +kernel
theorem dX5_isLikeCode_5 : decode cX5_isLikeCode 5 = .ok (.iaload, 1) := by decide +kernel
theorem dX5_isLikeCode_6 : decode cX5_isLikeCode 6 = .ok (.aload_n 0, 1) := by decide +kernel
theorem dX5_isLikeCode_7 : decode cX5_isLikeCode 7 = .ok (.getfield 25, 3) := by decide +kernel
theorem dX5_isLikeCode_10 : decode cX5_isLikeCode 10 = .ok (.iload_n 2, 1) := by decide +kernel
theorem dX5_isLikeCode_11 : decode cX5_isLikeCode 11 = .ok (.iaload, 1) := by decide +kernel
theorem dX5_isLikeCode_12 : decode cX5_isLikeCode 12 = .ok (.if_icmp .eq 5, 3) := by decide +kernel
theorem dX5_isLikeCode_15 : decode cX5_isLikeCode 15 = .ok (.iconst 0, 1) := by decide +kernel
theorem dX5_isLikeCode_16 : decode cX5_isLikeCode 16 = .ok (.ireturn, 1) := by decide +kernel
theorem dX5_isLikeCode_17 : decode cX5_isLikeCode 17 = .ok (.iconst 0, 1) := by decide +kernel
theorem dX5_isLikeCode_18 : decode cX5_isLikeCode 18 = .ok (.istore_n 3, 1) := by decide +kernel
theorem dX5_isLikeCode_19 : decode cX5_isLikeCode 19 = .ok (.iload_n 3, 1) := by decide +kernel
theorem dX5_isLikeCode_20 : decode cX5_isLikeCode 20 = .ok (.aload_n 0, 1) := by decide +kernel
theorem dX5_isLikeCode_21 : decode cX5_isLikeCode 21 = .ok (.getfield 25, 3) := by decide +kernel
theorem dX5_isLikeCode_24 : decode cX5_isLikeCode 24 = .ok (.iload_n 1, 1) := by decide +kernel
theorem dX5_isLikeCode_25 : decode cX5_isLikeCode 25 = .ok (.iaload, 1) := by decide +kernel
theorem dX5_isLikeCode_26 : decode cX5_isLikeCode 26 = .ok (.if_icmp .ge 36, 3) := by decide +kernel
theorem dX5_isLikeCode_29 : decode cX5_isLikeCode 29 = .ok (.aload_n 0, 1) := by decide +kernel
theorem dX5_isLikeCode_30 : decode cX5_isLikeCode 30 = .ok (.getfield 28, 3) := by decide +kernel
theorem dX5_isLikeCode_33 : decode cX5_isLikeCode 33 = .ok (.bipush 8, 2) := by decide +kernel
theorem dX5_isLikeCode_35 : decode cX5_isLikeCode 35 = .ok (.iload_n 1, 1) := by decide +kernel
theorem dX5_isLikeCode_36 : decode cX5_isLikeCode 36 = .ok (.imul, 1) := by decide +kernel
theorem dX5_isLikeCode_37 : decode cX5_isLikeCode 37 = .ok (.iload_n 3, 1) := by decide +kernel
theorem dX5_isLikeCode_38 : decode cX5_isLikeCode 38 = .ok (.iadd, 1) := by decide +kernel
theorem dX5_isLikeCode_39 : decode cX5_isLikeCode 39 = .ok (.iaload, 1) := by decide +kernel
theorem dX5_isLikeCode_40 : decode cX5_isLikeCode 40 = .ok (.aload_n 0, 1) := by decide +kernel
theorem dX5_isLikeCode_41 : decode cX5_isLikeCode 41 = .ok (.getfield 28, 3) := by decide +kernel
theorem dX5_isLikeCode_44 : decode cX5_isLikeCode 44 = .ok (.bipush 8, 2) := by decide +kernel
theorem dX5_isLikeCode_46 : decode cX5_isLikeCode 46 = .ok (.iload_n 2, 1) := by decide +kernel
theorem dX5_isLikeCode_47 : decode cX5_isLikeCode 47 = .ok (.imul, 1) := by decide +kernel
theorem dX5_isLikeCode_48 : decode cX5_isLikeCode 48 = .ok (.iload_n 3, 1) := by decide +kernel
theorem dX5_isLikeCode_49 : decode cX5_isLikeCode 49 = .ok (.iadd, 1) := by decide +kernel
theorem dX5_isLikeCode_50 : decode cX5_isLikeCode 50 = .ok (.iaload, 1) := by decide +kernel
theorem dX5_isLikeCode_51 : decode cX5_isLikeCode 51 = .ok (.if_icmp .eq 5, 3) := by decide +kernel
theorem dX5_isLikeCode_54 : decode cX5_isLikeCode 54 = .ok (.iconst 0, 1) := by decide +kernel
theorem dX5_isLikeCode_55 : decode cX5_isLikeCode 55 = .ok (.ireturn, 1) := by decide +kernel
theorem dX5_isLikeCode_56 : decode cX5_isLikeCode 56 = .ok (.iinc 3 1, 3) := by decide +kernel
theorem dX5_isLikeCode_59 : decode cX5_isLikeCode 59 = .ok (.goto (-40), 3) := by decide +kernel
theorem dX5_isLikeCode_62 : decode cX5_isLikeCode 62 = .ok (.iconst 1, 1) := by decide +kernel
theorem dX5_isLikeCode_63 : decode cX5_isLikeCode 63 = .ok (.ireturn, 1) := by decide +kernel
theorem dX5_isLike_0 : decode cX5_isLike 0 = .ok (.aload_n 0, 1) := by decide +kernel
theorem dX5_isLike_1 : decode cX5_isLike 1 = .ok (.iload_n 1, 1) := by decide +kernel
theorem dX5_isLike_2 : decode cX5_isLike 2 = .ok (.iload_n 2, 1) := by decide +kernel
theorem dX5_isLike_3 : decode cX5_isLike 3 = .ok (.invokevirtual 159, 3) := by decide +kernel
theorem dX5_isLike_6 : decode cX5_isLike 6 = .ok (.ifCond .eq 33, 3) := by decide +kernel
theorem dX5_isLike_9 : decode cX5_isLike 9 = .ok (.aload_n 0, 1) := by decide +kernel
theorem dX5_isLike_10 : decode cX5_isLike 10 = .ok (.getfield 34, 3) := by decide +kernel
theorem dX5_isLike_13 : decode cX5_isLike 13 = .ok (.iload_n 1, 1) := by decide +kernel
theorem dX5_isLike_14 : decode cX5_isLike 14 = .ok (.iaload, 1) := by decide +kernel
theorem dX5_isLike_15 : decode cX5_isLike 15 = .ok (.aload_n 0, 1) := by decide +kernel
theorem dX5_isLike_16 : decode cX5_isLike 16 = .ok (.getfield 34, 3) := by decide +kernel
theorem dX5_isLike_19 : decode cX5_isLike 19 = .ok (.iload_n 2, 1) := by decide +kernel
theorem dX5_isLike_20 : decode cX5_isLike 20 = .ok (.iaload, 1) := by decide +kernel
theorem dX5_isLike_21 : decode cX5_isLike 21 = .ok (.if_icmp .ne 18, 3) := by decide +kernel
theorem dX5_isLike_24 : decode cX5_isLike 24 = .ok (.aload_n 0, 1) := by decide +kernel
theorem dX5_isLike_25 : decode cX5_isLike 25 = .ok (.getfield 37, 3) := by decide +kernel
theorem dX5_isLike_28 : decode cX5_isLike 28 = .ok (.iload_n 1, 1) := by decide +kernel
theorem dX5_isLike_29 : decode cX5_isLike 29 = .ok (.iaload, 1) := by decide +kernel
theorem dX5_isLike_30 : decode cX5_isLike 30 = .ok (.aload_n 0, 1) := by decide +kernel
theorem dX5_isLike_31 : decode cX5_isLike 31 = .ok (.getfield 37, 3) := by decide +kernel
theorem dX5_isLike_34 : decode cX5_isLike 34 = .ok (.iload_n 2, 1) := by decide +kernel
theorem dX5_isLike_35 : decode cX5_isLike 35 = .ok (.iaload, 1) := by decide +kernel
theorem dX5_isLike_36 : decode cX5_isLike 36 = .ok (.if_icmp .eq 5, 3) := by decide +kernel
theorem dX5_isLike_39 : decode cX5_isLike 39 = .ok (.iconst 0, 1) := by decide +kernel
theorem dX5_isLike_40 : decode cX5_isLike 40 = .ok (.ireturn, 1) := by decide +kernel
theorem dX5_isLike_41 : decode cX5_isLike 41 = .ok (.iconst 0, 1) := by decide +kernel
theorem dX5_isLike_42 : decode cX5_isLike 42 = .ok (.istore_n 3, 1) := by decide +kernel
theorem dX5_isLike_43 : decode cX5_isLike 43 = .ok (.iload_n 3, 1) := by decide +kernel
theorem dX5_isLike_44 : decode cX5_isLike 44 = .ok (.bipush 8, 2) := by decide +kernel
theorem dX5_isLike_46 : decode cX5_isLike 46 = .ok (.if_icmp .ge 57, 3) := by decide +kernel
theorem dX5_isLike_49 : decode cX5_isLike 49 = .ok (.aload_n 0, 1) := by decide +kernel
theorem dX5_isLike_50 : decode cX5_isLike 50 = .ok (.getfield 59, 3) := by decide +kernel
theorem dX5_isLike_53 : decode cX5_isLike 53 = .ok (.iload_n 1, 1) := by decide +kernel
theorem dX5_isLike_54 : decode cX5_isLike 54 = .ok (.iaload, 1) := by decide +kernel
theorem dX5_isLike_55 : decode cX5_isLike 55 = .ok (.aload_n 0, 1) := by decide +kernel
theorem dX5_isLike_56 : decode cX5_isLike 56 = .ok (.getfield 59, 3) := by decide +kernel
theorem dX5_isLike_59 : decode cX5_isLike 59 = .ok (.iload_n 2, 1) := by decide +kernel
theorem dX5_isLike_60 : decode cX5_isLike 60 = .ok (.iaload, 1) := by decide +kernel
theorem dX5_isLike_61 : decode cX5_isLike 61 = .ok (.iand, 1) := by decide +kernel
theorem dX5_isLike_62 : decode cX5_isLike 62 = .ok (.iload_n 3, 1) := by decide +kernel
theorem dX5_isLike_63 : decode cX5_isLike 63 = .ok (.ishr, 1) := by decide +kernel
theorem dX5_isLike_64 : decode cX5_isLike 64 = .ok (.iconst 1, 1) := by decide +kernel
theorem dX5_isLike_65 : decode cX5_isLike 65 = .ok (.iand, 1) := by decide +kernel
theorem dX5_isLike_66 : decode cX5_isLike 66 = .ok (.iconst 1, 1) := by decide +kernel
theorem dX5_isLike_67 : decode cX5_isLike 67 = .ok (.if_icmp .ne 30, 3) := by decide +kernel
theorem dX5_isLike_70 : decode cX5_isLike 70 = .ok (.aload_n 0, 1) := by decide +kernel
theorem dX5_isLike_71 : decode cX5_isLike 71 = .ok (.getfield 62, 3) := by decide +kernel
theorem dX5_isLike_74 : decode cX5_isLike 74 = .ok (.bipush 8, 2) := by decide +kernel
theorem dX5_isLike_76 : decode cX5_isLike 76 = .ok (.iload_n 1, 1) := by decide +kernel
theorem dX5_isLike_77 : decode cX5_isLike 77 = .ok (.imul, 1) := by decide +kernel
theorem dX5_isLike_78 : decode cX5_isLike 78 = .ok (.iload_n 3, 1) := by decide +kernel
theorem dX5_isLike_79 : decode cX5_isLike 79 = .ok (.iadd, 1) := by decide +kernel
theorem dX5_isLike_80 : decode cX5_isLike 80 = .ok (.iaload, 1) := by decide +kernel
theorem dX5_isLike_81 : decode cX5_isLike 81 = .ok (.aload_n 0, 1) := by decide +kernel
theorem dX5_isLike_82 : decode cX5_isLike 82 = .ok (.getfield 62, 3) := by decide +kernel
theorem dX5_isLike_85 : decode cX5_isLike 85 = .ok (.bipush 8, 2) := by decide +kernel
theorem dX5_isLike_87 : decode cX5_isLike 87 = .ok (.iload_n 2, 1) := by decide +kernel
theorem dX5_isLike_88 : decode cX5_isLike 88 = .ok (.imul, 1) := by decide +kernel
theorem dX5_isLike_89 : decode cX5_isLike 89 = .ok (.iload_n 3, 1) := by decide +kernel
theorem dX5_isLike_90 : decode cX5_isLike 90 = .ok (.iadd, 1) := by decide +kernel
theorem dX5_isLike_91 : decode cX5_isLike 91 = .ok (.iaload, 1) := by decide +kernel
theorem dX5_isLike_92 : decode cX5_isLike 92 = .ok (.if_icmp .eq 5, 3) := by decide +kernel
theorem dX5_isLike_95 : decode cX5_isLike 95 = .ok (.iconst 0, 1) := by decide +kernel
theorem dX5_isLike_96 : decode cX5_isLike 96 = .ok (.ireturn, 1) := by decide +kernel
theorem dX5_isLike_97 : decode cX5_isLike 97 = .ok (.iinc 3 1, 3) := by decide +kernel
theorem dX5_isLike_100 : decode cX5_isLike 100 = .ok (.goto (-57), 3) := by decide +kernel
theorem dX5_isLike_103 : decode cX5_isLike 103 = .ok (.iconst 1, 1) := by decide +kernel
theorem dX5_isLike_104 : decode cX5_isLike 104 = .ok (.ireturn, 1) := by decide +kernel
theorem dX5_mayBe_0 : decode cX5_mayBe 0 = .ok (.aload_n 0, 1) := by decide +kernel
theorem dX5_mayBe_1 : decode cX5_mayBe 1 = .ok (.getfield 50, 3) := by decide +kernel
theorem dX5_mayBe_4 : decode cX5_mayBe 4 = .ok (.iload_n 1, 1) := by decide +kernel
theorem dX5_mayBe_5 : decode cX5_mayBe 5 = .ok (.iaload, 1) := by decide +kernel
theorem dX5_mayBe_6 : decode cX5_mayBe 6 = .ok (.iconst (-1), 1) := by decide +kernel
theorem dX5_mayBe_7 : decode cX5_mayBe 7 = .ok (.if_icmp .ne 35, 3) := by decide +kernel
theorem dX5_mayBe_10 : decode cX5_mayBe 10 = .ok (.aload_n 0, 1) := by decide +kernel
theorem dX5_mayBe_11 : decode cX5_mayBe 11 = .ok (.getfield 46, 3) := by decide +kernel
theorem dX5_mayBe_14 : decode cX5_mayBe 14 = .ok (.iload_n 1, 1) := by decide +kernel
theorem dX5_mayBe_15 : decode cX5_mayBe 15 = .ok (.baload, 1) := by decide +kernel
theorem dX5_mayBe_16 : decode cX5_mayBe 16 = .ok (.ifCond .ne 26, 3) := by decide +kernel
theorem dX5_mayBe_19 : decode cX5_mayBe 19 = .ok (.aload_n 0, 1) := by decide +kernel
theorem dX5_mayBe_20 : decode cX5_mayBe 20 = .ok (.getfield 68, 3) := by decide +kernel
theorem dX5_mayBe_23 : decode cX5_mayBe 23 = .ok (.iload_n 1, 1) := by decide +kernel
theorem dX5_mayBe_24 : decode cX5_mayBe 24 = .ok (.baload, 1) := by decide +kernel
theorem dX5_mayBe_25 : decode cX5_mayBe 25 = .ok (.ifCond .ne 17, 3) := by decide +kernel
theorem dX5_mayBe_28 : decode cX5_mayBe 28 = .ok (.aload_n 0, 1) := by decide +kernel
theorem dX5_mayBe_29 : decode cX5_mayBe 29 = .ok (.getfield 37, 3) := by decide +kernel
theorem dX5_mayBe_32 : decode cX5_mayBe 32 = .ok (.iload_n 1, 1) := by decide +kernel
theorem dX5_mayBe_33 : decode cX5_mayBe 33 = .ok (.iaload, 1) := by decide +kernel
theorem dX5_mayBe_34 : decode cX5_mayBe 34 = .ok (.iload_n 2, 1) := by decide +kernel
theorem dX5_mayBe_35 : decode cX5_mayBe 35 = .ok (.if_icmp .ne 7, 3) := by decide +kernel
theorem dX5_mayBe_38 : decode cX5_mayBe 38 = .ok (.iconst 1, 1) := by decide +kernel
theorem dX5_mayBe_39 : decode cX5_mayBe 39 = .ok (.goto 4, 3) := by decide +kernel
theorem dX5_mayBe_42 : decode cX5_mayBe 42 = .ok (.iconst 0, 1) := by decide +kernel
theorem dX5_mayBe_43 : decode cX5_mayBe 43 = .ok (.ireturn, 1) := by decide +kernel
theorem dX5_isLeast_0 : decode cX5_isLeast 0 = .ok (.iconst 0, 1) := by decide +kernel
theorem dX5_isLeast_1 : decode cX5_isLeast 1 = .ok (.istore_n 3, 1) := by decide +kernel
theorem dX5_isLeast_2 : decode cX5_isLeast 2 = .ok (.iload_n 3, 1) := by decide +kernel
theorem dX5_isLeast_3 : decode cX5_isLeast 3 = .ok (.iload_n 1, 1) := by decide +kernel
theorem dX5_isLeast_4 : decode cX5_isLeast 4 = .ok (.if_icmp .ge 44, 3) := by decide +kernel
theorem dX5_isLeast_7 : decode cX5_isLeast 7 = .ok (.aload_n 0, 1) := by decide +kernel
theorem dX5_isLeast_8 : decode cX5_isLeast 8 = .ok (.iload_n 3, 1) := by decide +kernel
theorem dX5_isLeast_9 : decode cX5_isLeast 9 = .ok (.iload_n 2, 1) := by decide +kernel
theorem dX5_isLeast_10 : decode cX5_isLeast 10 = .ok (.invokevirtual 162, 3) := by decide +kernel
theorem dX5_isLeast_13 : decode cX5_isLeast 13 = .ok (.ifCond .eq 29, 3) := by decide +kernel
theorem dX5_isLeast_16 : decode cX5_isLeast 16 = .ok (.aload_n 0, 1) := by decide +kernel
theorem dX5_isLeast_17 : decode cX5_isLeast 17 = .ok (.getfield 31, 3) := by decide +kernel
theorem dX5_isLeast_20 : decode cX5_isLeast 20 = .ok (.iload_n 3, 1) := by decide +kernel
theorem dX5_isLeast_21 : decode cX5_isLeast 21 = .ok (.iaload, 1) := by decide +kernel
theorem dX5_isLeast_22 : decode cX5_isLeast 22 = .ok (.aload_n 0, 1) := by decide +kernel
theorem dX5_isLeast_23 : decode cX5_isLeast 23 = .ok (.getfield 31, 3) := by decide +kernel
theorem dX5_isLeast_26 : decode cX5_isLeast 26 = .ok (.iload_n 1, 1) := by decide +kernel
theorem dX5_isLeast_27 : decode cX5_isLeast 27 = .ok (.iaload, 1) := by decide +kernel
theorem dX5_isLeast_28 : decode cX5_isLeast 28 = .ok (.if_icmp .ne 14, 3) := by decide +kernel
theorem dX5_isLeast_31 : decode cX5_isLeast 31 = .ok (.aload_n 0, 1) := by decide +kernel
theorem dX5_isLeast_32 : decode cX5_isLeast 32 = .ok (.iload_n 3, 1) := by decide +kernel
theorem dX5_isLeast_33 : decode cX5_isLeast 33 = .ok (.iload_n 1, 1) := by decide +kernel
theorem dX5_isLeast_34 : decode cX5_isLeast 34 = .ok (.invokevirtual 165, 3) := by decide +kernel
theorem dX5_isLeast_37 : decode cX5_isLeast 37 = .ok (.ifCond .eq 5, 3) := by decide +kernel
theorem dX5_isLeast_40 : decode cX5_isLeast 40 = .ok (.iconst 0, 1) := by decide +kernel
theorem dX5_isLeast_41 : decode cX5_isLeast 41 = .ok (.ireturn, 1) := by decide +kernel
theorem dX5_isLeast_42 : decode cX5_isLeast 42 = .ok (.iinc 3 1, 3) := by decide +kernel
theorem dX5_isLeast_45 : decode cX5_isLeast 45 = .ok (.goto (-43), 3) := by decide +kernel
theorem dX5_isLeast_48 : decode cX5_isLeast 48 = .ok (.iconst 1, 1) := by decide +kernel
theorem dX5_isLeast_49 : decode cX5_isLeast 49 = .ok (.ireturn, 1) := by decide +kernel
theorem dX5_isPair_0 : decode cX5_isPair 0 = .ok (.aload_n 0, 1) := by decide +kernel
theorem dX5_isPair_1 : decode cX5_isPair 1 = .ok (.iload_n 1, 1) := by decide +kernel
theorem dX5_isPair_2 : decode cX5_isPair 2 = .ok (.iload 6, 2) := by decide +kernel
theorem dX5_isPair_4 : decode cX5_isPair 4 = .ok (.invokevirtual 162, 3) := by decide +kernel
theorem dX5_isPair_7 : decode cX5_isPair 7 = .ok (.ifCond .eq 45, 3) := by decide +kernel
theorem dX5_isPair_10 : decode cX5_isPair 10 = .ok (.aload_n 0, 1) := by decide +kernel
theorem dX5_isPair_11 : decode cX5_isPair 11 = .ok (.iload_n 2, 1) := by decide +kernel
theorem dX5_isPair_12 : decode cX5_isPair 12 = .ok (.iload 6, 2) := by decide +kernel
theorem dX5_isPair_14 : decode cX5_isPair 14 = .ok (.invokevirtual 162, 3) := by decide +kernel
theorem dX5_isPair_17 : decode cX5_isPair 17 = .ok (.ifCond .eq 35, 3) := by decide +kernel
theorem dX5_isPair_20 : decode cX5_isPair 20 = .ok (.aload_n 0, 1) := by decide +kernel
theorem dX5_isPair_21 : decode cX5_isPair 21 = .ok (.aload_n 0, 1) := by decide +kernel
theorem dX5_isPair_22 : decode cX5_isPair 22 = .ok (.getfield 31, 3) := by decide +kernel
theorem dX5_isPair_25 : decode cX5_isPair 25 = .ok (.iload_n 1, 1) := by decide +kernel
theorem dX5_isPair_26 : decode cX5_isPair 26 = .ok (.iaload, 1) := by decide +kernel
theorem dX5_isPair_27 : decode cX5_isPair 27 = .ok (.iload_n 3, 1) := by decide +kernel
theorem dX5_isPair_28 : decode cX5_isPair 28 = .ok (.invokevirtual 86, 3) := by decide +kernel
theorem dX5_isPair_31 : decode cX5_isPair 31 = .ok (.iload 4, 2) := by decide +kernel
theorem dX5_isPair_33 : decode cX5_isPair 33 = .ok (.if_icmp .ne 19, 3) := by decide +kernel
theorem dX5_isPair_36 : decode cX5_isPair 36 = .ok (.aload_n 0, 1) := by decide +kernel
theorem dX5_isPair_37 : decode cX5_isPair 37 = .ok (.aload_n 0, 1) := by decide +kernel
theorem dX5_isPair_38 : decode cX5_isPair 38 = .ok (.getfield 31, 3) := by decide +kernel
theorem dX5_isPair_41 : decode cX5_isPair 41 = .ok (.iload_n 2, 1) := by decide +kernel
theorem dX5_isPair_42 : decode cX5_isPair 42 = .ok (.iaload, 1) := by decide +kernel
theorem dX5_isPair_43 : decode cX5_isPair 43 = .ok (.iload_n 3, 1) := by decide +kernel
theorem dX5_isPair_44 : decode cX5_isPair 44 = .ok (.invokevirtual 86, 3) := by decide +kernel
theorem dX5_isPair_47 : decode cX5_isPair 47 = .ok (.iload 5, 2) := by decide +kernel
theorem dX5_isPair_49 : decode cX5_isPair 49 = .ok (.if_icmp .eq 5, 3) := by decide +kernel
theorem dX5_isPair_52 : decode cX5_isPair 52 = .ok (.iconst 0, 1) := by decide +kernel
theorem dX5_isPair_53 : decode cX5_isPair 53 = .ok (.ireturn, 1) := by decide +kernel
theorem dX5_isPair_54 : decode cX5_isPair 54 = .ok (.aload_n 0, 1) := by decide +kernel
theorem dX5_isPair_55 : decode cX5_isPair 55 = .ok (.getfield 31, 3) := by decide +kernel
theorem dX5_isPair_58 : decode cX5_isPair 58 = .ok (.iload_n 1, 1) := by decide +kernel
theorem dX5_isPair_59 : decode cX5_isPair 59 = .ok (.iaload, 1) := by decide +kernel
theorem dX5_isPair_60 : decode cX5_isPair 60 = .ok (.aload_n 0, 1) := by decide +kernel
theorem dX5_isPair_61 : decode cX5_isPair 61 = .ok (.getfield 31, 3) := by decide +kernel
theorem dX5_isPair_64 : decode cX5_isPair 64 = .ok (.iload_n 2, 1) := by decide +kernel
theorem dX5_isPair_65 : decode cX5_isPair 65 = .ok (.iaload, 1) := by decide +kernel
theorem dX5_isPair_66 : decode cX5_isPair 66 = .ok (.ixor, 1) := by decide +kernel
theorem dX5_isPair_67 : decode cX5_isPair 67 = .ok (.iload 4, 2) := by decide +kernel
theorem dX5_isPair_69 : decode cX5_isPair 69 = .ok (.iload 5, 2) := by decide +kernel
theorem dX5_isPair_71 : decode cX5_isPair 71 = .ok (.ixor, 1) := by decide +kernel
theorem dX5_isPair_72 : decode cX5_isPair 72 = .ok (.iconst 4, 1) := by decide +kernel
theorem dX5_isPair_73 : decode cX5_isPair 73 = .ok (.iload_n 3, 1) := by decide +kernel
theorem dX5_isPair_74 : decode cX5_isPair 74 = .ok (.imul, 1) := by decide +kernel
theorem dX5_isPair_75 : decode cX5_isPair 75 = .ok (.ishl, 1) := by decide +kernel
theorem dX5_isPair_76 : decode cX5_isPair 76 = .ok (.if_icmp .ne 12, 3) := by decide +kernel
theorem dX5_isPair_79 : decode cX5_isPair 79 = .ok (.aload_n 0, 1) := by decide +kernel
theorem dX5_isPair_80 : decode cX5_isPair 80 = .ok (.iload_n 1, 1) := by decide +kernel
theorem dX5_isPair_81 : decode cX5_isPair 81 = .ok (.iload_n 2, 1) := by decide +kernel
theorem dX5_isPair_82 : decode cX5_isPair 82 = .ok (.invokevirtual 165, 3) := by decide +kernel
theorem dX5_isPair_85 : decode cX5_isPair 85 = .ok (.ifCond .ne 5, 3) := by decide +kernel
theorem dX5_isPair_88 : decode cX5_isPair 88 = .ok (.iconst 0, 1) := by decide +kernel
theorem dX5_isPair_89 : decode cX5_isPair 89 = .ok (.ireturn, 1) := by decide +kernel
theorem dX5_isPair_90 : decode cX5_isPair 90 = .ok (.aload_n 0, 1) := by decide +kernel
theorem dX5_isPair_91 : decode cX5_isPair 91 = .ok (.iload_n 1, 1) := by decide +kernel
theorem dX5_isPair_92 : decode cX5_isPair 92 = .ok (.iload 6, 2) := by decide +kernel
theorem dX5_isPair_94 : decode cX5_isPair 94 = .ok (.invokevirtual 168, 3) := by decide +kernel
theorem dX5_isPair_97 : decode cX5_isPair 97 = .ok (.ifCond .eq 17, 3) := by decide +kernel
theorem dX5_isPair_100 : decode cX5_isPair 100 = .ok (.aload_n 0, 1) := by decide +kernel
theorem dX5_isPair_101 : decode cX5_isPair 101 = .ok (.iload_n 2, 1) := by decide +kernel
theorem dX5_isPair_102 : decode cX5_isPair 102 = .ok (.iload 6, 2) := by decide +kernel
theorem dX5_isPair_104 : decode cX5_isPair 104 = .ok (.invokevirtual 168, 3) := by decide +kernel
theorem dX5_isPair_107 : decode cX5_isPair 107 = .ok (.ifCond .eq 7, 3) := by decide +kernel
theorem dX5_isPair_110 : decode cX5_isPair 110 = .ok (.iconst 1, 1) := by decide +kernel
theorem dX5_isPair_111 : decode cX5_isPair 111 = .ok (.goto 4, 3) := by decide +kernel
theorem dX5_isPair_114 : decode cX5_isPair 114 = .ok (.iconst 0, 1) := by decide +kernel
theorem dX5_isPair_115 : decode cX5_isPair 115 = .ok (.ireturn, 1) := by decide +kernel
theorem dX5_findPairs_0 : decode cX5_findPairs 0 = .ok (.aload_n 0, 1) := by decide +kernel
theorem dX5_findPairs_1 : decode cX5_findPairs 1 = .ok (.iconst 0, 1) := by decide +kernel
theorem dX5_findPairs_2 : decode cX5_findPairs 2 = .ok (.putfield 171, 3) := by decide +kernel
theorem dX5_findPairs_5 : decode cX5_findPairs 5 = .ok (.aload_n 0, 1) := by decide +kernel
theorem dX5_findPairs_6 : decode cX5_findPairs 6 = .ok (.iconst 0, 1) := by decide +kernel
theorem dX5_findPairs_7 : decode cX5_findPairs 7 = .ok (.putfield 174, 3) := by decide +kernel
theorem dX5_findPairs_10 : decode cX5_findPairs 10 = .ok (.aload_n 0, 1) := by decide +kernel
theorem dX5_findPairs_11 : decode cX5_findPairs 11 = .ok (.iconst 0, 1) := by decide +kernel
theorem dX5_findPairs_12 : decode cX5_findPairs 12 = .ok (.putfield 177, 3) := by decide +kernel
theorem dX5_findPairs_15 : decode cX5_findPairs 15 = .ok (.iconst 0, 1) := by decide +kernel
theorem dX5_findPairs_16 : decode cX5_findPairs 16 = .ok (.istore 5, 2) := by decide +kernel
theorem dX5_findPairs_18 : decode cX5_findPairs 18 = .ok (.iload 5, 2) := by decide +kernel
theorem dX5_findPairs_20 : decode cX5_findPairs 20 = .ok (.aload_n 0, 1) := by decide +kernel
theorem dX5_findPairs_21 : decode cX5_findPairs 21 = .ok (.getfield 90, 3) := by decide +kernel
theorem dX5_findPairs_24 : decode cX5_findPairs 24 = .ok (.if_icmp .ge 124, 3) := by decide +kernel
theorem dX5_findPairs_27 : decode cX5_findPairs 27 = .ok (.iconst 0, 1) := by decide +kernel
theorem dX5_findPairs_28 : decode cX5_findPairs 28 = .ok (.istore 6, 2) := by decide +kernel
theorem dX5_findPairs_30 : decode cX5_findPairs 30 = .ok (.iload 6, 2) := by decide +kernel
theorem dX5_findPairs_32 : decode cX5_findPairs 32 = .ok (.aload_n 0, 1) := by decide +kernel
theorem dX5_findPairs_33 : decode cX5_findPairs 33 = .ok (.getfield 90, 3) := by decide +kernel
theorem dX5_findPairs_36 : decode cX5_findPairs 36 = .ok (.if_icmp .ge 106, 3) := by decide +kernel
theorem dX5_findPairs_39 : decode cX5_findPairs 39 = .ok (.aload_n 0, 1) := by decide +kernel
theorem dX5_findPairs_40 : decode cX5_findPairs 40 = .ok (.iload 5, 2) := by decide +kernel
theorem dX5_findPairs_42 : decode cX5_findPairs 42 = .ok (.iload 6, 2) := by decide +kernel
theorem dX5_findPairs_44 : decode cX5_findPairs 44 = .ok (.iload_n 1, 1) := by decide +kernel
theorem dX5_findPairs_45 : decode cX5_findPairs 45 = .ok (.iload_n 2, 1) := by decide +kernel
theorem dX5_findPairs_46 : decode cX5_findPairs 46 = .ok (.iload_n 3, 1) := by decide +kernel
theorem dX5_findPairs_47 : decode cX5_findPairs 47 = .ok (.iload 4, 2) := by decide +kernel
theorem dX5_findPairs_49 : decode cX5_findPairs 49 = .ok (.invokevirtual 180, 3) := by decide +kernel
theorem dX5_findPairs_52 : decode cX5_findPairs 52 = .ok (.ifCond .ne 6, 3) := by decide +kernel
theorem dX5_findPairs_55 : decode cX5_findPairs 55 = .ok (.goto 81, 3) := by decide +kernel
theorem dX5_findPairs_58 : decode cX5_findPairs 58 = .ok (.aload_n 0, 1) := by decide +kernel
theorem dX5_findPairs_59 : decode cX5_findPairs 59 = .ok (.aload_n 0, 1) := by decide +kernel
theorem dX5_findPairs_60 : decode cX5_findPairs 60 = .ok (.getfield 171, 3) := by decide +kernel
theorem dX5_findPairs_63 : decode cX5_findPairs 63 = .ok (.iconst 1, 1) := by decide +kernel
theorem dX5_findPairs_64 : decode cX5_findPairs 64 = .ok (.iadd, 1) := by decide +kernel
theorem dX5_findPairs_65 : decode cX5_findPairs 65 = .ok (.putfield 171, 3) := by decide +kernel
theorem dX5_findPairs_68 : decode cX5_findPairs 68 = .ok (.aload_n 0, 1) := by decide +kernel
theorem dX5_findPairs_69 : decode cX5_findPairs 69 = .ok (.getfield 43, 3) := by decide +kernel
theorem dX5_findPairs_72 : decode cX5_findPairs 72 = .ok (.bipush 16, 2) := by decide +kernel
theorem dX5_findPairs_74 : decode cX5_findPairs 74 = .ok (.iload 5, 2) := by decide +kernel
theorem dX5_findPairs_76 : decode cX5_findPairs 76 = .ok (.imul, 1) := by decide +kernel
theorem dX5_findPairs_77 : decode cX5_findPairs 77 = .ok (.iload 4, 2) := by decide +kernel
theorem dX5_findPairs_79 : decode cX5_findPairs 79 = .ok (.iadd, 1) := by decide +kernel
theorem dX5_findPairs_80 : decode cX5_findPairs 80 = .ok (.iconst 1, 1) := by decide +kernel
theorem dX5_findPairs_81 : decode cX5_findPairs 81 = .ok (.isub, 1) := by decide +kernel
theorem dX5_findPairs_82 : decode cX5_findPairs 82 = .ok (.iaload, 1) := by decide +kernel
theorem dX5_findPairs_83 : decode cX5_findPairs 83 = .ok (.istore 7, 2) := by decide +kernel
theorem dX5_findPairs_85 : decode cX5_findPairs 85 = .ok (.aload_n 0, 1) := by decide +kernel
theorem dX5_findPairs_86 : decode cX5_findPairs 86 = .ok (.getfield 43, 3) := by decide +kernel
theorem dX5_findPairs_89 : decode cX5_findPairs 89 = .ok (.bipush 16, 2) := by decide +kernel
theorem dX5_findPairs_91 : decode cX5_findPairs 91 = .ok (.iload 6, 2) := by decide +kernel
theorem dX5_findPairs_93 : decode cX5_findPairs 93 = .ok (.imul, 1) := by decide +kernel
theorem dX5_findPairs_94 : decode cX5_findPairs 94 = .ok (.iload 4, 2) := by decide +kernel
theorem dX5_findPairs_96 : decode cX5_findPairs 96 = .ok (.iadd, 1) := by decide +kernel
theorem dX5_findPairs_97 : decode cX5_findPairs 97 = .ok (.iconst 1, 1) := by decide +kernel
theorem dX5_findPairs_98 : decode cX5_findPairs 98 = .ok (.isub, 1) := by decide +kernel
theorem dX5_findPairs_99 : decode cX5_findPairs 99 = .ok (.iaload, 1) := by decide +kernel
theorem dX5_findPairs_100 : decode cX5_findPairs 100 = .ok (.istore 8, 2) := by decide +kernel
theorem dX5_findPairs_102 : decode cX5_findPairs 102 = .ok (.iload 8, 2) := by decide +kernel
theorem dX5_findPairs_104 : decode cX5_findPairs 104 = .ok (.iload 7, 2) := by decide +kernel
theorem dX5_findPairs_106 : decode cX5_findPairs 106 = .ok (.if_icmp .le 13, 3) := by decide +kernel
theorem dX5_findPairs_109 : decode cX5_findPairs 109 = .ok (.aload_n 0, 1) := by decide +kernel
theorem dX5_findPairs_110 : decode cX5_findPairs 110 = .ok (.aload_n 0, 1) := by decide +kernel
theorem dX5_findPairs_111 : decode cX5_findPairs 111 = .ok (.getfield 174, 3) := by decide +kernel
theorem dX5_findPairs_114 : decode cX5_findPairs 114 = .ok (.iconst 1, 1) := by decide +kernel
theorem dX5_findPairs_115 : decode cX5_findPairs 115 = .ok (.iadd, 1) := by decide +kernel
theorem dX5_findPairs_116 : decode cX5_findPairs 116 = .ok (.putfield 174, 3) := by decide +kernel
theorem dX5_findPairs_119 : decode cX5_findPairs 119 = .ok (.iload 8, 2) := by decide +kernel
theorem dX5_findPairs_121 : decode cX5_findPairs 121 = .ok (.iload 7, 2) := by decide +kernel
theorem dX5_findPairs_123 : decode cX5_findPairs 123 = .ok (.if_icmp .ge 13, 3) := by decide +kernel
theorem dX5_findPairs_126 : decode cX5_findPairs 126 = .ok (.aload_n 0, 1) := by decide +kernel
theorem dX5_findPairs_127 : decode cX5_findPairs 127 = .ok (.aload_n 0, 1) := by decide +kernel
theorem dX5_findPairs_128 : decode cX5_findPairs 128 = .ok (.getfield 177, 3) := by decide +kernel
theorem dX5_findPairs_131 : decode cX5_findPairs 131 = .ok (.iconst 1, 1) := by decide +kernel
theorem dX5_findPairs_132 : decode cX5_findPairs 132 = .ok (.iadd, 1) := by decide +kernel
theorem dX5_findPairs_133 : decode cX5_findPairs 133 = .ok (.putfield 177, 3) := by decide +kernel
theorem dX5_findPairs_136 : decode cX5_findPairs 136 = .ok (.iinc 6 1, 3) := by decide +kernel
theorem dX5_findPairs_139 : decode cX5_findPairs 139 = .ok (.goto (-109), 3) := by decide +kernel
theorem dX5_findPairs_142 : decode cX5_findPairs 142 = .ok (.iinc 5 1, 3) := by decide +kernel
theorem dX5_findPairs_145 : decode cX5_findPairs 145 = .ok (.goto (-127), 3) := by decide +kernel
theorem dX5_findPairs_148 : decode cX5_findPairs 148 = .ok (.return_, 1) := by decide +kernel
theorem dX5_canPair_0 : decode cX5_canPair 0 = .ok (.iload_n 1, 1) := by decide +kernel
theorem dX5_canPair_1 : decode cX5_canPair 1 = .ok (.ifCond .lt 46, 3) := by decide +kernel
theorem dX5_canPair_4 : decode cX5_canPair 4 = .ok (.iload_n 1, 1) := by decide +kernel
theorem dX5_canPair_5 : decode cX5_canPair 5 = .ok (.iconst 4, 1) := by decide +kernel
theorem dX5_canPair_6 : decode cX5_canPair 6 = .ok (.if_icmp .ge 41, 3) := by decide +kernel
theorem dX5_canPair_9 : decode cX5_canPair 9 = .ok (.iload_n 2, 1) := by decide +kernel
theorem dX5_canPair_10 : decode cX5_canPair 10 = .ok (.ifCond .lt 37, 3) := by decide +kernel
theorem dX5_canPair_13 : decode cX5_canPair 13 = .ok (.iload_n 2, 1) := by decide +kernel
theorem dX5_canPair_14 : decode cX5_canPair 14 = .ok (.bipush 6, 2) := by decide +kernel
theorem dX5_canPair_16 : decode cX5_canPair 16 = .ok (.if_icmp .ge 31, 3) := by decide +kernel
theorem dX5_canPair_19 : decode cX5_canPair 19 = .ok (.iload_n 3, 1) := by decide +kernel
theorem dX5_canPair_20 : decode cX5_canPair 20 = .ok (.ifCond .lt 27, 3) := by decide +kernel
theorem dX5_canPair_23 : decode cX5_canPair 23 = .ok (.iload_n 3, 1) := by decide +kernel
theorem dX5_canPair_24 : decode cX5_canPair 24 = .ok (.bipush 6, 2) := by decide +kernel
theorem dX5_canPair_26 : decode cX5_canPair 26 = .ok (.if_icmp .ge 21, 3) := by decide +kernel
theorem dX5_canPair_29 : decode cX5_canPair 29 = .ok (.iload_n 2, 1) := by decide +kernel
theorem dX5_canPair_30 : decode cX5_canPair 30 = .ok (.iload_n 3, 1) := by decide +kernel
theorem dX5_canPair_31 : decode cX5_canPair 31 = .ok (.if_icmp .eq 16, 3) := by decide +kernel
theorem dX5_canPair_34 : decode cX5_canPair 34 = .ok (.aload_n 0, 1) := by decide +kernel
theorem dX5_canPair_35 : decode cX5_canPair 35 = .ok (.iload 4, 2) := by decide +kernel
theorem dX5_canPair_37 : decode cX5_canPair 37 = .ok (.invokevirtual 131, 3) := by decide +kernel
theorem dX5_canPair_40 : decode cX5_canPair 40 = .ok (.ifCond .eq 7, 3) := by decide +kernel
theorem dX5_canPair_43 : decode cX5_canPair 43 = .ok (.iconst 1, 1) := by decide +kernel
theorem dX5_canPair_44 : decode cX5_canPair 44 = .ok (.goto 4, 3) := by decide +kernel
theorem dX5_canPair_47 : decode cX5_canPair 47 = .ok (.iconst 0, 1) := by decide +kernel
theorem dX5_canPair_48 : decode cX5_canPair 48 = .ok (.ireturn, 1) := by decide +kernel
theorem dX5_pairs_0 : decode cX5_pairs 0 = .ok (.aload_n 0, 1) := by decide +kernel
theorem dX5_pairs_1 : decode cX5_pairs 1 = .ok (.iconst 0, 1) := by decide +kernel
theorem dX5_pairs_2 : decode cX5_pairs 2 = .ok (.putfield 77, 3) := by decide +kernel
theorem dX5_pairs_5 : decode cX5_pairs 5 = .ok (.aload_n 0, 1) := by decide +kernel
theorem dX5_pairs_6 : decode cX5_pairs 6 = .ok (.iload_n 1, 1) := by decide +kernel
theorem dX5_pairs_7 : decode cX5_pairs 7 = .ok (.iload_n 2, 1) := by decide +kernel
theorem dX5_pairs_8 : decode cX5_pairs 8 = .ok (.iload_n 3, 1) := by decide +kernel
theorem dX5_pairs_9 : decode cX5_pairs 9 = .ok (.iload 4, 2) := by decide +kernel
theorem dX5_pairs_11 : decode cX5_pairs 11 = .ok (.invokevirtual 184, 3) := by decide +kernel
theorem dX5_pairs_14 : decode cX5_pairs 14 = .ok (.ifCond .eq 14, 3) := by decide +kernel
theorem dX5_pairs_17 : decode cX5_pairs 17 = .ok (.iload 5, 2) := by decide +kernel
theorem dX5_pairs_19 : decode cX5_pairs 19 = .ok (.ifCond .lt 9, 3) := by decide +kernel
theorem dX5_pairs_22 : decode cX5_pairs 22 = .ok (.iload 5, 2) := by decide +kernel
theorem dX5_pairs_24 : decode cX5_pairs 24 = .ok (.iconst 2, 1) := by decide +kernel
theorem dX5_pairs_25 : decode cX5_pairs 25 = .ok (.if_icmp .le 5, 3) := by decide +kernel
theorem dX5_pairs_28 : decode cX5_pairs 28 = .ok (.iconst (-1), 1) := by decide +kernel
theorem dX5_pairs_29 : decode cX5_pairs 29 = .ok (.ireturn, 1) := by decide +kernel
theorem dX5_pairs_30 : decode cX5_pairs 30 = .ok (.aload_n 0, 1) := by decide +kernel
theorem dX5_pairs_31 : decode cX5_pairs 31 = .ok (.iload_n 1, 1) := by decide +kernel
theorem dX5_pairs_32 : decode cX5_pairs 32 = .ok (.iload_n 2, 1) := by decide +kernel
theorem dX5_pairs_33 : decode cX5_pairs 33 = .ok (.iload_n 3, 1) := by decide +kernel
theorem dX5_pairs_34 : decode cX5_pairs 34 = .ok (.iload 4, 2) := by decide +kernel
theorem dX5_pairs_36 : decode cX5_pairs 36 = .ok (.invokevirtual 188, 3) := by decide +kernel
theorem dX5_pairs_39 : decode cX5_pairs 39 = .ok (.iload 5, 2) := by decide +kernel
theorem dX5_pairs_41 : decode cX5_pairs 41 = .ok (.ifCond .ne 10, 3) := by decide +kernel
theorem dX5_pairs_44 : decode cX5_pairs 44 = .ok (.aload_n 0, 1) := by decide +kernel
theorem dX5_pairs_45 : decode cX5_pairs 45 = .ok (.getfield 171, 3) := by decide +kernel
theorem dX5_pairs_48 : decode cX5_pairs 48 = .ok (.goto 20, 3) := by decide +kernel
theorem dX5_pairs_51 : decode cX5_pairs 51 = .ok (.iload 5, 2) := by decide +kernel
theorem dX5_pairs_53 : decode cX5_pairs 53 = .ok (.iconst 1, 1) := by decide +kernel
theorem dX5_pairs_54 : decode cX5_pairs 54 = .ok (.if_icmp .ne 10, 3) := by decide +kernel
theorem dX5_pairs_57 : decode cX5_pairs 57 = .ok (.aload_n 0, 1) := by decide +kernel
theorem dX5_pairs_58 : decode cX5_pairs 58 = .ok (.getfield 174, 3) := by decide +kernel
theorem dX5_pairs_61 : decode cX5_pairs 61 = .ok (.goto 7, 3) := by decide +kernel
theorem dX5_pairs_64 : decode cX5_pairs 64 = .ok (.aload_n 0, 1) := by decide +kernel
theorem dX5_pairs_65 : decode cX5_pairs 65 = .ok (.getfield 177, 3) := by decide +kernel
theorem dX5_pairs_68 : decode cX5_pairs 68 = .ok (.ireturn, 1) := by decide +kernel
theorem dX5_pair_0 : decode cX5_pair 0 = .ok (.aload_n 0, 1) := by decide +kernel
theorem dX5_pair_1 : decode cX5_pair 1 = .ok (.iconst 0, 1) := by decide +kernel
theorem dX5_pair_2 : decode cX5_pair 2 = .ok (.putfield 77, 3) := by decide +kernel
theorem dX5_pair_5 : decode cX5_pair 5 = .ok (.aload_n 0, 1) := by decide +kernel
theorem dX5_pair_6 : decode cX5_pair 6 = .ok (.iload_n 1, 1) := by decide +kernel
theorem dX5_pair_7 : decode cX5_pair 7 = .ok (.iload_n 2, 1) := by decide +kernel
theorem dX5_pair_8 : decode cX5_pair 8 = .ok (.iload_n 3, 1) := by decide +kernel
theorem dX5_pair_9 : decode cX5_pair 9 = .ok (.iload 4, 2) := by decide +kernel
theorem dX5_pair_11 : decode cX5_pair 11 = .ok (.invokevirtual 184, 3) := by decide +kernel
theorem dX5_pair_14 : decode cX5_pair 14 = .ok (.ifCond .eq 19, 3) := by decide +kernel
theorem dX5_pair_17 : decode cX5_pair 17 = .ok (.iload 5, 2) := by decide +kernel
theorem dX5_pair_19 : decode cX5_pair 19 = .ok (.ifCond .lt 14, 3) := by decide +kernel
theorem dX5_pair_22 : decode cX5_pair 22 = .ok (.iload 6, 2) := by decide +kernel
theorem dX5_pair_24 : decode cX5_pair 24 = .ok (.ifCond .lt 9, 3) := by decide +kernel
theorem dX5_pair_27 : decode cX5_pair 27 = .ok (.iload 6, 2) := by decide +kernel
theorem dX5_pair_29 : decode cX5_pair 29 = .ok (.iconst 1, 1) := by decide +kernel
theorem dX5_pair_30 : decode cX5_pair 30 = .ok (.if_icmp .le 5, 3) := by decide +kernel
theorem dX5_pair_33 : decode cX5_pair 33 = .ok (.iconst (-1), 1) := by decide +kernel
theorem dX5_pair_34 : decode cX5_pair 34 = .ok (.ireturn, 1) := by decide +kernel
theorem dX5_pair_35 : decode cX5_pair 35 = .ok (.iconst 0, 1) := by decide +kernel
theorem dX5_pair_36 : decode cX5_pair 36 = .ok (.istore 7, 2) := by decide +kernel
theorem dX5_pair_38 : decode cX5_pair 38 = .ok (.iconst 0, 1) := by decide +kernel
theorem dX5_pair_39 : decode cX5_pair 39 = .ok (.istore 8, 2) := by decide +kernel
theorem dX5_pair_41 : decode cX5_pair 41 = .ok (.iload 8, 2) := by decide +kernel
theorem dX5_pair_43 : decode cX5_pair 43 = .ok (.aload_n 0, 1) := by decide +kernel
theorem dX5_pair_44 : decode cX5_pair 44 = .ok (.getfield 90, 3) := by decide +kernel
theorem dX5_pair_47 : decode cX5_pair 47 = .ok (.if_icmp .ge 72, 3) := by decide +kernel
theorem dX5_pair_50 : decode cX5_pair 50 = .ok (.iconst 0, 1) := by decide +kernel
theorem dX5_pair_51 : decode cX5_pair 51 = .ok (.istore 9, 2) := by decide +kernel
theorem dX5_pair_53 : decode cX5_pair 53 = .ok (.iload 9, 2) := by decide +kernel
theorem dX5_pair_55 : decode cX5_pair 55 = .ok (.aload_n 0, 1) := by decide +kernel
theorem dX5_pair_56 : decode cX5_pair 56 = .ok (.getfield 90, 3) := by decide +kernel
theorem dX5_pair_59 : decode cX5_pair 59 = .ok (.if_icmp .ge 54, 3) := by decide +kernel
theorem dX5_pair_62 : decode cX5_pair 62 = .ok (.aload_n 0, 1) := by decide +kernel
theorem dX5_pair_63 : decode cX5_pair 63 = .ok (.iload 8, 2) := by decide +kernel
theorem dX5_pair_65 : decode cX5_pair 65 = .ok (.iload 9, 2) := by decide +kernel
theorem dX5_pair_67 : decode cX5_pair 67 = .ok (.iload_n 1, 1) := by decide +kernel
theorem dX5_pair_68 : decode cX5_pair 68 = .ok (.iload_n 2, 1) := by decide +kernel
theorem dX5_pair_69 : decode cX5_pair 69 = .ok (.iload_n 3, 1) := by decide +kernel
theorem dX5_pair_70 : decode cX5_pair 70 = .ok (.iload 4, 2) := by decide +kernel
theorem dX5_pair_72 : decode cX5_pair 72 = .ok (.invokevirtual 180, 3) := by decide +kernel
theorem dX5_pair_75 : decode cX5_pair 75 = .ok (.ifCond .ne 6, 3) := by decide +kernel
theorem dX5_pair_78 : decode cX5_pair 78 = .ok (.goto 29, 3) := by decide +kernel
theorem dX5_pair_81 : decode cX5_pair 81 = .ok (.iload 7, 2) := by decide +kernel
theorem dX5_pair_83 : decode cX5_pair 83 = .ok (.iload 5, 2) := by decide +kernel
theorem dX5_pair_85 : decode cX5_pair 85 = .ok (.if_icmp .ne 16, 3) := by decide +kernel
theorem dX5_pair_88 : decode cX5_pair 88 = .ok (.iload 6, 2) := by decide +kernel
theorem dX5_pair_90 : decode cX5_pair 90 = .ok (.ifCond .ne 8, 3) := by decide +kernel
theorem dX5_pair_93 : decode cX5_pair 93 = .ok (.iload 8, 2) := by decide +kernel
theorem dX5_pair_95 : decode cX5_pair 95 = .ok (.goto 5, 3) := by decide +kernel
theorem dX5_pair_98 : decode cX5_pair 98 = .ok (.iload 9, 2) := by decide +kernel
theorem dX5_pair_100 : decode cX5_pair 100 = .ok (.ireturn, 1) := by decide +kernel
theorem dX5_pair_101 : decode cX5_pair 101 = .ok (.iload 7, 2) := by decide +kernel
theorem dX5_pair_103 : decode cX5_pair 103 = .ok (.iconst 1, 1) := by decide +kernel
theorem dX5_pair_104 : decode cX5_pair 104 = .ok (.iadd, 1) := by decide +kernel
theorem dX5_pair_105 : decode cX5_pair 105 = .ok (.istore 7, 2) := by decide +kernel
theorem dX5_pair_107 : decode cX5_pair 107 = .ok (.iinc 9 1, 3) := by decide +kernel
theorem dX5_pair_110 : decode cX5_pair 110 = .ok (.goto (-57), 3) := by decide +kernel
theorem dX5_pair_113 : decode cX5_pair 113 = .ok (.iinc 8 1, 3) := by decide +kernel
theorem dX5_pair_116 : decode cX5_pair 116 = .ok (.goto (-75), 3) := by decide +kernel
theorem dX5_pair_119 : decode cX5_pair 119 = .ok (.iconst (-1), 1) := by decide +kernel
theorem dX5_pair_120 : decode cX5_pair 120 = .ok (.ireturn, 1) := by decide +kernel
theorem dX5_overs_0 : decode cX5_overs 0 = .ok (.lconst 0, 1) := by decide +kernel
theorem dX5_overs_1 : decode cX5_overs 1 = .ok (.lstore_n 3, 1) := by decide +kernel
theorem dX5_overs_2 : decode cX5_overs 2 = .ok (.lconst 1, 1) := by decide +kernel
theorem dX5_overs_3 : decode cX5_overs 3 = .ok (.lstore 5, 2) := by decide +kernel
theorem dX5_overs_5 : decode cX5_overs 5 = .ok (.iconst 0, 1) := by decide +kernel
theorem dX5_overs_6 : decode cX5_overs 6 = .ok (.istore 7, 2) := by decide +kernel
theorem dX5_overs_8 : decode cX5_overs 8 = .ok (.iload 7, 2) := by decide +kernel
theorem dX5_overs_10 : decode cX5_overs 10 = .ok (.iload_n 1, 1) := by decide +kernel
theorem dX5_overs_11 : decode cX5_overs 11 = .ok (.if_icmp .gt 36, 3) := by decide +kernel
theorem dX5_overs_14 : decode cX5_overs 14 = .ok (.iload 7, 2) := by decide +kernel
theorem dX5_overs_16 : decode cX5_overs 16 = .ok (.iload_n 2, 1) := by decide +kernel
theorem dX5_overs_17 : decode cX5_overs 17 = .ok (.if_icmp .lt 8, 3) := by decide +kernel
theorem dX5_overs_20 : decode cX5_overs 20 = .ok (.lload_n 3, 1) := by decide +kernel
theorem dX5_overs_21 : decode cX5_overs 21 = .ok (.lload 5, 2) := by decide +kernel
theorem dX5_overs_23 : decode cX5_overs 23 = .ok (.ladd, 1) := by decide +kernel
theorem dX5_overs_24 : decode cX5_overs 24 = .ok (.lstore_n 3, 1) := by decide +kernel
theorem dX5_overs_25 : decode cX5_overs 25 = .ok (.lload 5, 2) := by decide +kernel
theorem dX5_overs_27 : decode cX5_overs 27 = .ok (.iload_n 1, 1) := by decide +kernel
theorem dX5_overs_28 : decode cX5_overs 28 = .ok (.iload 7, 2) := by decide +kernel
theorem dX5_overs_30 : decode cX5_overs 30 = .ok (.isub, 1) := by decide +kernel
theorem dX5_overs_31 : decode cX5_overs 31 = .ok (.i2l, 1) := by decide +kernel
theorem dX5_overs_32 : decode cX5_overs 32 = .ok (.lmul, 1) := by decide +kernel
theorem dX5_overs_33 : decode cX5_overs 33 = .ok (.iload 7, 2) := by decide +kernel
theorem dX5_overs_35 : decode cX5_overs 35 = .ok (.iconst 1, 1) := by decide +kernel
theorem dX5_overs_36 : decode cX5_overs 36 = .ok (.iadd, 1) := by decide +kernel
theorem dX5_overs_37 : decode cX5_overs 37 = .ok (.i2l, 1) := by decide +kernel
theorem dX5_overs_38 : decode cX5_overs 38 = .ok (.ldiv, 1) := by decide +kernel
theorem dX5_overs_39 : decode cX5_overs 39 = .ok (.lstore 5, 2) := by decide +kernel
theorem dX5_overs_41 : decode cX5_overs 41 = .ok (.iinc 7 1, 3) := by decide +kernel
theorem dX5_overs_44 : decode cX5_overs 44 = .ok (.goto (-36), 3) := by decide +kernel
theorem dX5_overs_47 : decode cX5_overs 47 = .ok (.lload_n 3, 1) := by decide +kernel
theorem dX5_overs_48 : decode cX5_overs 48 = .ok (.lreturn, 1) := by decide +kernel
theorem dX5_sureOf_0 : decode cX5_sureOf 0 = .ok (.aload_n 0, 1) := by decide +kernel
theorem dX5_sureOf_1 : decode cX5_sureOf 1 = .ok (.iload_n 1, 1) := by decide +kernel
theorem dX5_sureOf_2 : decode cX5_sureOf 2 = .ok (.iload_n 2, 1) := by decide +kernel
theorem dX5_sureOf_3 : decode cX5_sureOf 3 = .ok (.iload_n 3, 1) := by decide +kernel
theorem dX5_sureOf_4 : decode cX5_sureOf 4 = .ok (.iload 4, 2) := by decide +kernel
theorem dX5_sureOf_6 : decode cX5_sureOf 6 = .ok (.invokevirtual 188, 3) := by decide +kernel
theorem dX5_sureOf_9 : decode cX5_sureOf 9 = .ok (.aload_n 0, 1) := by decide +kernel
theorem dX5_sureOf_10 : decode cX5_sureOf 10 = .ok (.getfield 174, 3) := by decide +kernel
theorem dX5_sureOf_13 : decode cX5_sureOf 13 = .ok (.aload_n 0, 1) := by decide +kernel
theorem dX5_sureOf_14 : decode cX5_sureOf 14 = .ok (.getfield 177, 3) := by decide +kernel
theorem dX5_sureOf_17 : decode cX5_sureOf 17 = .ok (.iadd, 1) := by decide +kernel
theorem dX5_sureOf_18 : decode cX5_sureOf 18 = .ok (.istore 7, 2) := by decide +kernel
theorem dX5_sureOf_20 : decode cX5_sureOf 20 = .ok (.iload 7, 2) := by decide +kernel
theorem dX5_sureOf_22 : decode cX5_sureOf 22 = .ok (.bipush 30, 2) := by decide +kernel
theorem dX5_sureOf_24 : decode cX5_sureOf 24 = .ok (.if_icmp .le 5, 3) := by decide +kernel
theorem dX5_sureOf_27 : decode cX5_sureOf 27 = .ok (.iconst (-1), 1) := by decide +kernel
theorem dX5_sureOf_28 : decode cX5_sureOf 28 = .ok (.ireturn, 1) := by decide +kernel
theorem dX5_sureOf_29 : decode cX5_sureOf 29 = .ok (.lload 5, 2) := by decide +kernel
theorem dX5_sureOf_31 : decode cX5_sureOf 31 = .ok (.aload_n 0, 1) := by decide +kernel
theorem dX5_sureOf_32 : decode cX5_sureOf 32 = .ok (.iload 7, 2) := by decide +kernel
theorem dX5_sureOf_34 : decode cX5_sureOf 34 = .ok (.aload_n 0, 1) := by decide +kernel
theorem dX5_sureOf_35 : decode cX5_sureOf 35 = .ok (.getfield 174, 3) := by decide +kernel
theorem dX5_sureOf_38 : decode cX5_sureOf 38 = .ok (.invokevirtual 192, 3) := by decide +kernel
theorem dX5_sureOf_41 : decode cX5_sureOf 41 = .ok (.lmul, 1) := by decide +kernel
theorem dX5_sureOf_42 : decode cX5_sureOf 42 = .ok (.lconst 1, 1) := by decide +kernel
theorem dX5_sureOf_43 : decode cX5_sureOf 43 = .ok (.iload 7, 2) := by decide +kernel
theorem dX5_sureOf_45 : decode cX5_sureOf 45 = .ok (.lshl, 1) := by decide +kernel
theorem dX5_sureOf_46 : decode cX5_sureOf 46 = .ok (.lcmp, 1) := by decide +kernel
theorem dX5_sureOf_47 : decode cX5_sureOf 47 = .ok (.ifCond .gt 7, 3) := by decide +kernel
theorem dX5_sureOf_50 : decode cX5_sureOf 50 = .ok (.iconst 1, 1) := by decide +kernel
theorem dX5_sureOf_51 : decode cX5_sureOf 51 = .ok (.goto 4, 3) := by decide +kernel
theorem dX5_sureOf_54 : decode cX5_sureOf 54 = .ok (.iconst 0, 1) := by decide +kernel
theorem dX5_sureOf_55 : decode cX5_sureOf 55 = .ok (.ireturn, 1) := by decide +kernel
theorem dX5_sure_0 : decode cX5_sure 0 = .ok (.aload_n 0, 1) := by decide +kernel
theorem dX5_sure_1 : decode cX5_sure 1 = .ok (.iconst 0, 1) := by decide +kernel
theorem dX5_sure_2 : decode cX5_sure 2 = .ok (.putfield 77, 3) := by decide +kernel
theorem dX5_sure_5 : decode cX5_sure 5 = .ok (.aload_n 0, 1) := by decide +kernel
theorem dX5_sure_6 : decode cX5_sure 6 = .ok (.iload_n 1, 1) := by decide +kernel
theorem dX5_sure_7 : decode cX5_sure 7 = .ok (.iload_n 2, 1) := by decide +kernel
theorem dX5_sure_8 : decode cX5_sure 8 = .ok (.iload_n 3, 1) := by decide +kernel
theorem dX5_sure_9 : decode cX5_sure 9 = .ok (.iload 4, 2) := by decide +kernel
theorem dX5_sure_11 : decode cX5_sure 11 = .ok (.invokevirtual 184, 3) := by decide +kernel
theorem dX5_sure_14 : decode cX5_sure 14 = .ok (.ifCond .eq 30, 3) := by decide +kernel
theorem dX5_sure_17 : decode cX5_sure 17 = .ok (.iload 5, 2) := by decide +kernel
theorem dX5_sure_19 : decode cX5_sure 19 = .ok (.iconst 1, 1) := by decide +kernel
theorem dX5_sure_20 : decode cX5_sure 20 = .ok (.if_icmp .lt 24, 3) := by decide +kernel
theorem dX5_sure_23 : decode cX5_sure 23 = .ok (.iload 5, 2) := by decide +kernel
theorem dX5_sure_25 : decode cX5_sure 25 = .ok (.sipush 1000, 3) := by decide +kernel
theorem dX5_sure_28 : decode cX5_sure 28 = .ok (.if_icmp .gt 16, 3) := by decide +kernel
theorem dX5_sure_31 : decode cX5_sure 31 = .ok (.iload 6, 2) := by decide +kernel
theorem dX5_sure_33 : decode cX5_sure 33 = .ok (.iconst 1, 1) := by decide +kernel
theorem dX5_sure_34 : decode cX5_sure 34 = .ok (.if_icmp .lt 10, 3) := by decide +kernel
theorem dX5_sure_37 : decode cX5_sure 37 = .ok (.iload 6, 2) := by decide +kernel
theorem dX5_sure_39 : decode cX5_sure 39 = .ok (.ldc 196, 2) := by decide +kernel
theorem dX5_sure_41 : decode cX5_sure 41 = .ok (.if_icmp .le 7, 3) := by decide +kernel
theorem dX5_sure_44 : decode cX5_sure 44 = .ok (.iconst (-1), 1) := by decide +kernel
theorem dX5_sure_45 : decode cX5_sure 45 = .ok (.goto 19, 3) := by decide +kernel
theorem dX5_sure_48 : decode cX5_sure 48 = .ok (.aload_n 0, 1) := by decide +kernel
theorem dX5_sure_49 : decode cX5_sure 49 = .ok (.iload_n 1, 1) := by decide +kernel
theorem dX5_sure_50 : decode cX5_sure 50 = .ok (.iload_n 2, 1) := by decide +kernel
theorem dX5_sure_51 : decode cX5_sure 51 = .ok (.iload_n 3, 1) := by decide +kernel
theorem dX5_sure_52 : decode cX5_sure 52 = .ok (.iload 4, 2) := by decide +kernel
theorem dX5_sure_54 : decode cX5_sure 54 = .ok (.iload 5, 2) := by decide +kernel
theorem dX5_sure_56 : decode cX5_sure 56 = .ok (.i2l, 1) := by decide +kernel
theorem dX5_sure_57 : decode cX5_sure 57 = .ok (.iload 6, 2) := by decide +kernel
theorem dX5_sure_59 : decode cX5_sure 59 = .ok (.i2l, 1) := by decide +kernel
theorem dX5_sure_60 : decode cX5_sure 60 = .ok (.lmul, 1) := by decide +kernel
theorem dX5_sure_61 : decode cX5_sure 61 = .ok (.invokevirtual 197, 3) := by decide +kernel
theorem dX5_sure_64 : decode cX5_sure 64 = .ok (.ireturn, 1) := by decide +kernel
theorem dX5_best_0 : decode cX5_best 0 = .ok (.aload_n 0, 1) := by decide +kernel
theorem dX5_best_1 : decode cX5_best 1 = .ok (.iconst 0, 1) := by decide +kernel
theorem dX5_best_2 : decode cX5_best 2 = .ok (.putfield 77, 3) := by decide +kernel
theorem dX5_best_5 : decode cX5_best 5 = .ok (.iload_n 1, 1) := by decide +kernel
theorem dX5_best_6 : decode cX5_best 6 = .ok (.ifCond .lt 37, 3) := by decide +kernel
theorem dX5_best_9 : decode cX5_best 9 = .ok (.iload_n 1, 1) := by decide +kernel
theorem dX5_best_10 : decode cX5_best 10 = .ok (.iconst 3, 1) := by decide +kernel
theorem dX5_best_11 : decode cX5_best 11 = .ok (.if_icmp .gt 32, 3) := by decide +kernel
theorem dX5_best_14 : decode cX5_best 14 = .ok (.aload_n 0, 1) := by decide +kernel
theorem dX5_best_15 : decode cX5_best 15 = .ok (.iload_n 2, 1) := by decide +kernel
theorem dX5_best_16 : decode cX5_best 16 = .ok (.invokevirtual 131, 3) := by decide +kernel
theorem dX5_best_19 : decode cX5_best 19 = .ok (.ifCond .eq 24, 3) := by decide +kernel
theorem dX5_best_22 : decode cX5_best 22 = .ok (.iload_n 3, 1) := by decide +kernel
theorem dX5_best_23 : decode cX5_best 23 = .ok (.iconst 1, 1) := by decide +kernel
theorem dX5_best_24 : decode cX5_best 24 = .ok (.if_icmp .lt 19, 3) := by decide +kernel
theorem dX5_best_27 : decode cX5_best 27 = .ok (.iload_n 3, 1) := by decide +kernel
theorem dX5_best_28 : decode cX5_best 28 = .ok (.ldc 196, 2) := by decide +kernel
theorem dX5_best_30 : decode cX5_best 30 = .ok (.if_icmp .gt 13, 3) := by decide +kernel
theorem dX5_best_33 : decode cX5_best 33 = .ok (.aload_n 0, 1) := by decide +kernel
theorem dX5_best_34 : decode cX5_best 34 = .ok (.getfield 19, 3) := by decide +kernel
theorem dX5_best_37 : decode cX5_best 37 = .ok (.iload_n 1, 1) := by decide +kernel
theorem dX5_best_38 : decode cX5_best 38 = .ok (.iaload, 1) := by decide +kernel
theorem dX5_best_39 : decode cX5_best 39 = .ok (.iconst 2, 1) := by decide +kernel
theorem dX5_best_40 : decode cX5_best 40 = .ok (.if_icmp .ge 5, 3) := by decide +kernel
theorem dX5_best_43 : decode cX5_best 43 = .ok (.iconst (-1), 1) := by decide +kernel
theorem dX5_best_44 : decode cX5_best 44 = .ok (.ireturn, 1) := by decide +kernel
theorem dX5_best_45 : decode cX5_best 45 = .ok (.iconst 0, 1) := by decide +kernel
theorem dX5_best_46 : decode cX5_best 46 = .ok (.istore 4, 2) := by decide +kernel
theorem dX5_best_48 : decode cX5_best 48 = .ok (.iload 4, 2) := by decide +kernel
theorem dX5_best_50 : decode cX5_best 50 = .ok (.aload_n 0, 1) := by decide +kernel
theorem dX5_best_51 : decode cX5_best 51 = .ok (.getfield 19, 3) := by decide +kernel
theorem dX5_best_54 : decode cX5_best 54 = .ok (.iload_n 1, 1) := by decide +kernel
theorem dX5_best_55 : decode cX5_best 55 = .ok (.iaload, 1) := by decide +kernel
theorem dX5_best_56 : decode cX5_best 56 = .ok (.if_icmp .ge 93, 3) := by decide +kernel
theorem dX5_best_59 : decode cX5_best 59 = .ok (.iconst 1, 1) := by decide +kernel
theorem dX5_best_60 : decode cX5_best 60 = .ok (.istore 5, 2) := by decide +kernel
theorem dX5_best_62 : decode cX5_best 62 = .ok (.iconst 0, 1) := by decide +kernel
theorem dX5_best_63 : decode cX5_best 63 = .ok (.istore 6, 2) := by decide +kernel
theorem dX5_best_65 : decode cX5_best 65 = .ok (.iload 6, 2) := by decide +kernel
theorem dX5_best_67 : decode cX5_best 67 = .ok (.aload_n 0, 1) := by decide +kernel
theorem dX5_best_68 : decode cX5_best 68 = .ok (.getfield 19, 3) := by decide +kernel
theorem dX5_best_71 : decode cX5_best 71 = .ok (.iload_n 1, 1) := by decide +kernel
theorem dX5_best_72 : decode cX5_best 72 = .ok (.iaload, 1) := by decide +kernel
theorem dX5_best_73 : decode cX5_best 73 = .ok (.if_icmp .ge 62, 3) := by decide +kernel
theorem dX5_best_76 : decode cX5_best 76 = .ok (.iload 5, 2) := by decide +kernel
theorem dX5_best_78 : decode cX5_best 78 = .ok (.ifCond .eq 57, 3) := by decide +kernel
theorem dX5_best_81 : decode cX5_best 81 = .ok (.iload 6, 2) := by decide +kernel
theorem dX5_best_83 : decode cX5_best 83 = .ok (.iload 4, 2) := by decide +kernel
theorem dX5_best_85 : decode cX5_best 85 = .ok (.if_icmp .eq 37, 3) := by decide +kernel
theorem dX5_best_88 : decode cX5_best 88 = .ok (.aload_n 0, 1) := by decide +kernel
theorem dX5_best_89 : decode cX5_best 89 = .ok (.iload_n 1, 1) := by decide +kernel
theorem dX5_best_90 : decode cX5_best 90 = .ok (.iload 6, 2) := by decide +kernel
theorem dX5_best_92 : decode cX5_best 92 = .ok (.iload 4, 2) := by decide +kernel
theorem dX5_best_94 : decode cX5_best 94 = .ok (.iload_n 2, 1) := by decide +kernel
theorem dX5_best_95 : decode cX5_best 95 = .ok (.aload_n 0, 1) := by decide +kernel
theorem dX5_best_96 : decode cX5_best 96 = .ok (.getfield 19, 3) := by decide +kernel
theorem dX5_best_99 : decode cX5_best 99 = .ok (.iload_n 1, 1) := by decide +kernel
theorem dX5_best_100 : decode cX5_best 100 = .ok (.iaload, 1) := by decide +kernel
theorem dX5_best_101 : decode cX5_best 101 = .ok (.i2l, 1) := by decide +kernel
theorem dX5_best_102 : decode cX5_best 102 = .ok (.aload_n 0, 1) := by decide +kernel
theorem dX5_best_103 : decode cX5_best 103 = .ok (.getfield 19, 3) := by decide +kernel
theorem dX5_best_106 : decode cX5_best 106 = .ok (.iload_n 1, 1) := by decide +kernel
theorem dX5_best_107 : decode cX5_best 107 = .ok (.iaload, 1) := by decide +kernel
theorem dX5_best_108 : decode cX5_best 108 = .ok (.iconst 1, 1) := by decide +kernel
theorem dX5_best_109 : decode cX5_best 109 = .ok (.isub, 1) := by decide +kernel
theorem dX5_best_110 : decode cX5_best 110 = .ok (.i2l, 1) := by decide +kernel
theorem dX5_best_111 : decode cX5_best 111 = .ok (.lmul, 1) := by decide +kernel
theorem dX5_best_112 : decode cX5_best 112 = .ok (.iload_n 3, 1) := by decide +kernel
theorem dX5_best_113 : decode cX5_best 113 = .ok (.i2l, 1) := by decide +kernel
theorem dX5_best_114 : decode cX5_best 114 = .ok (.lmul, 1) := by decide +kernel
theorem dX5_best_115 : decode cX5_best 115 = .ok (.invokevirtual 197, 3) := by decide +kernel
theorem dX5_best_118 : decode cX5_best 118 = .ok (.iconst 1, 1) := by decide +kernel
theorem dX5_best_119 : decode cX5_best 119 = .ok (.if_icmp .ne 7, 3) := by decide +kernel
theorem dX5_best_122 : decode cX5_best 122 = .ok (.iconst 1, 1) := by decide +kernel
theorem dX5_best_123 : decode cX5_best 123 = .ok (.goto 4, 3) := by decide +kernel
theorem dX5_best_126 : decode cX5_best 126 = .ok (.iconst 0, 1) := by decide +kernel
theorem dX5_best_127 : decode cX5_best 127 = .ok (.istore 5, 2) := by decide +kernel
theorem dX5_best_129 : decode cX5_best 129 = .ok (.iinc 6 1, 3) := by decide +kernel
theorem dX5_best_132 : decode cX5_best 132 = .ok (.goto (-67), 3) := by decide +kernel
theorem dX5_best_135 : decode cX5_best 135 = .ok (.iload 5, 2) := by decide +kernel
theorem dX5_best_137 : decode cX5_best 137 = .ok (.ifCond .eq 6, 3) := by decide +kernel
theorem dX5_best_140 : decode cX5_best 140 = .ok (.iload 4, 2) := by decide +kernel
theorem dX5_best_142 : decode cX5_best 142 = .ok (.ireturn, 1) := by decide +kernel
theorem dX5_best_143 : decode cX5_best 143 = .ok (.iinc 4 1, 3) := by decide +kernel
theorem dX5_best_146 : decode cX5_best 146 = .ok (.goto (-98), 3) := by decide +kernel
theorem dX5_best_149 : decode cX5_best 149 = .ok (.iconst (-1), 1) := by decide +kernel
theorem dX5_best_150 : decode cX5_best 150 = .ok (.ireturn, 1) := by decide +kernel
theorem dX5_settingsAt_0 : decode cX5_settingsAt 0 = .ok (.iload_n 1, 1) := by decide +kernel
theorem dX5_settingsAt_1 : decode cX5_settingsAt 1 = .ok (.istore_n 2, 1) := by decide +kernel
theorem dX5_settingsAt_2 : decode cX5_settingsAt 2 = .ok (.iconst 0, 1) := by decide +kernel
theorem dX5_settingsAt_3 : decode cX5_settingsAt 3 = .ok (.istore_n 3, 1) := by decide +kernel
theorem dX5_settingsAt_4 : decode cX5_settingsAt 4 = .ok (.iconst 3, 1) := by decide +kernel
theorem dX5_settingsAt_5 : decode cX5_settingsAt 5 = .ok (.istore 4, 2) := by decide +kernel
theorem dX5_settingsAt_7 : decode cX5_settingsAt 7 = .ok (.iload 4, 2) := by decide +kernel
theorem dX5_settingsAt_9 : decode cX5_settingsAt 9 = .ok (.ifCond .lt 36, 3) := by decide +kernel
theorem dX5_settingsAt_12 : decode cX5_settingsAt 12 = .ok (.iload_n 3, 1) := by decide +kernel
theorem dX5_settingsAt_13 : decode cX5_settingsAt 13 = .ok (.iload_n 2, 1) := by decide +kernel
theorem dX5_settingsAt_14 : decode cX5_settingsAt 14 = .ok (.aload_n 0, 1) := by decide +kernel
theorem dX5_settingsAt_15 : decode cX5_settingsAt 15 = .ok (.getfield 19, 3) := by decide +kernel
theorem dX5_settingsAt_18 : decode cX5_settingsAt 18 = .ok (.iload 4, 2) := by decide +kernel
theorem dX5_settingsAt_20 : decode cX5_settingsAt 20 = .ok (.iaload, 1) := by decide +kernel
theorem dX5_settingsAt_21 : decode cX5_settingsAt 21 = .ok (.irem, 1) := by decide +kernel
theorem dX5_settingsAt_22 : decode cX5_settingsAt 22 = .ok (.iconst 4, 1) := by decide +kernel
theorem dX5_settingsAt_23 : decode cX5_settingsAt 23 = .ok (.iload 4, 2) := by decide +kernel
theorem dX5_settingsAt_25 : decode cX5_settingsAt 25 = .ok (.imul, 1) := by decide +kernel
theorem dX5_settingsAt_26 : decode cX5_settingsAt 26 = .ok (.ishl, 1) := by decide +kernel
theorem dX5_settingsAt_27 : decode cX5_settingsAt 27 = .ok (.ior, 1) := by decide +kernel
theorem dX5_settingsAt_28 : decode cX5_settingsAt 28 = .ok (.istore_n 3, 1) := by decide +kernel
theorem dX5_settingsAt_29 : decode cX5_settingsAt 29 = .ok (.iload_n 2, 1) := by decide +kernel
theorem dX5_settingsAt_30 : decode cX5_settingsAt 30 = .ok (.aload_n 0, 1) := by decide +kernel
theorem dX5_settingsAt_31 : decode cX5_settingsAt 31 = .ok (.getfield 19, 3) := by decide +kernel
theorem dX5_settingsAt_34 : decode cX5_settingsAt 34 = .ok (.iload 4, 2) := by decide +kernel
theorem dX5_settingsAt_36 : decode cX5_settingsAt 36 = .ok (.iaload, 1) := by decide +kernel
theorem dX5_settingsAt_37 : decode cX5_settingsAt 37 = .ok (.idiv, 1) := by decide +kernel
theorem dX5_settingsAt_38 : decode cX5_settingsAt 38 = .ok (.istore_n 2, 1) := by decide +kernel
theorem dX5_settingsAt_39 : decode cX5_settingsAt 39 = .ok (.iinc 4 (-1), 3) := by decide +kernel
theorem dX5_settingsAt_42 : decode cX5_settingsAt 42 = .ok (.goto (-35), 3) := by decide +kernel
theorem dX5_settingsAt_45 : decode cX5_settingsAt 45 = .ok (.iload_n 3, 1) := by decide +kernel
theorem dX5_settingsAt_46 : decode cX5_settingsAt 46 = .ok (.ireturn, 1) := by decide +kernel
theorem dX5_grid_0 : decode cX5_grid 0 = .ok (.aload_n 0, 1) := by decide +kernel
theorem dX5_grid_1 : decode cX5_grid 1 = .ok (.getfield 19, 3) := by decide +kernel
theorem dX5_grid_4 : decode cX5_grid 4 = .ok (.iconst 0, 1) := by decide +kernel
theorem dX5_grid_5 : decode cX5_grid 5 = .ok (.iaload, 1) := by decide +kernel
theorem dX5_grid_6 : decode cX5_grid 6 = .ok (.aload_n 0, 1) := by decide +kernel
theorem dX5_grid_7 : decode cX5_grid 7 = .ok (.getfield 19, 3) := by decide +kernel
theorem dX5_grid_10 : decode cX5_grid 10 = .ok (.iconst 1, 1) := by decide +kernel
theorem dX5_grid_11 : decode cX5_grid 11 = .ok (.iaload, 1) := by decide +kernel
theorem dX5_grid_12 : decode cX5_grid 12 = .ok (.imul, 1) := by decide +kernel
theorem dX5_grid_13 : decode cX5_grid 13 = .ok (.aload_n 0, 1) := by decide +kernel
theorem dX5_grid_14 : decode cX5_grid 14 = .ok (.getfield 19, 3) := by decide +kernel
theorem dX5_grid_17 : decode cX5_grid 17 = .ok (.iconst 2, 1) := by decide +kernel
theorem dX5_grid_18 : decode cX5_grid 18 = .ok (.iaload, 1) := by decide +kernel
theorem dX5_grid_19 : decode cX5_grid 19 = .ok (.imul, 1) := by decide +kernel
theorem dX5_grid_20 : decode cX5_grid 20 = .ok (.aload_n 0, 1) := by decide +kernel
theorem dX5_grid_21 : decode cX5_grid 21 = .ok (.getfield 19, 3) := by decide +kernel
theorem dX5_grid_24 : decode cX5_grid 24 = .ok (.iconst 3, 1) := by decide +kernel
theorem dX5_grid_25 : decode cX5_grid 25 = .ok (.iaload, 1) := by decide +kernel
theorem dX5_grid_26 : decode cX5_grid 26 = .ok (.imul, 1) := by decide +kernel
theorem dX5_grid_27 : decode cX5_grid 27 = .ok (.ireturn, 1) := by decide +kernel
theorem dX5_canHole_0 : decode cX5_canHole 0 = .ok (.aload_n 0, 1) := by decide +kernel
theorem dX5_canHole_1 : decode cX5_canHole 1 = .ok (.iload_n 1, 1) := by decide +kernel
theorem dX5_canHole_2 : decode cX5_canHole 2 = .ok (.invokevirtual 81, 3) := by decide +kernel
theorem dX5_canHole_5 : decode cX5_canHole 5 = .ok (.ifCond .eq 26, 3) := by decide +kernel
theorem dX5_canHole_8 : decode cX5_canHole 8 = .ok (.aload_n 0, 1) := by decide +kernel
theorem dX5_canHole_9 : decode cX5_canHole 9 = .ok (.iload_n 2, 1) := by decide +kernel
theorem dX5_canHole_10 : decode cX5_canHole 10 = .ok (.invokevirtual 131, 3) := by decide +kernel
theorem dX5_canHole_13 : decode cX5_canHole 13 = .ok (.ifCond .eq 18, 3) := by decide +kernel
theorem dX5_canHole_16 : decode cX5_canHole 16 = .ok (.iload_n 3, 1) := by decide +kernel
theorem dX5_canHole_17 : decode cX5_canHole 17 = .ok (.iconst 1, 1) := by decide +kernel
theorem dX5_canHole_18 : decode cX5_canHole 18 = .ok (.if_icmp .lt 13, 3) := by decide +kernel
theorem dX5_canHole_21 : decode cX5_canHole 21 = .ok (.iload_n 3, 1) := by decide +kernel
theorem dX5_canHole_22 : decode cX5_canHole 22 = .ok (.bipush 8, 2) := by decide +kernel
theorem dX5_canHole_24 : decode cX5_canHole 24 = .ok (.if_icmp .gt 7, 3) := by decide +kernel
theorem dX5_canHole_27 : decode cX5_canHole 27 = .ok (.iconst 1, 1) := by decide +kernel
theorem dX5_canHole_28 : decode cX5_canHole 28 = .ok (.goto 4, 3) := by decide +kernel
theorem dX5_canHole_31 : decode cX5_canHole 31 = .ok (.iconst 0, 1) := by decide +kernel
theorem dX5_canHole_32 : decode cX5_canHole 32 = .ok (.ireturn, 1) := by decide +kernel
theorem dX5_holes_0 : decode cX5_holes 0 = .ok (.aload_n 0, 1) := by decide +kernel
theorem dX5_holes_1 : decode cX5_holes 1 = .ok (.iconst 0, 1) := by decide +kernel
theorem dX5_holes_2 : decode cX5_holes 2 = .ok (.putfield 77, 3) := by decide +kernel
theorem dX5_holes_5 : decode cX5_holes 5 = .ok (.aload_n 0, 1) := by decide +kernel
theorem dX5_holes_6 : decode cX5_holes 6 = .ok (.iload_n 1, 1) := by decide +kernel
theorem dX5_holes_7 : decode cX5_holes 7 = .ok (.iload_n 2, 1) := by decide +kernel
theorem dX5_holes_8 : decode cX5_holes 8 = .ok (.iload_n 3, 1) := by decide +kernel
theorem dX5_holes_9 : decode cX5_holes 9 = .ok (.invokevirtual 201, 3) := by decide +kernel
theorem dX5_holes_12 : decode cX5_holes 12 = .ok (.ifCond .ne 5, 3) := by decide +kernel
theorem dX5_holes_15 : decode cX5_holes 15 = .ok (.iconst (-1), 1) := by decide +kernel
theorem dX5_holes_16 : decode cX5_holes 16 = .ok (.ireturn, 1) := by decide +kernel
theorem dX5_holes_17 : decode cX5_holes 17 = .ok (.iconst 0, 1) := by decide +kernel
theorem dX5_holes_18 : decode cX5_holes 18 = .ok (.istore 4, 2) := by decide +kernel
theorem dX5_holes_20 : decode cX5_holes 20 = .ok (.iconst 0, 1) := by decide +kernel
theorem dX5_holes_21 : decode cX5_holes 21 = .ok (.istore 5, 2) := by decide +kernel
theorem dX5_holes_23 : decode cX5_holes 23 = .ok (.iload 5, 2) := by decide +kernel
theorem dX5_holes_25 : decode cX5_holes 25 = .ok (.aload_n 0, 1) := by decide +kernel
theorem dX5_holes_26 : decode cX5_holes 26 = .ok (.invokevirtual 205, 3) := by decide +kernel
theorem dX5_holes_29 : decode cX5_holes 29 = .ok (.if_icmp .ge 48, 3) := by decide +kernel
theorem dX5_holes_32 : decode cX5_holes 32 = .ok (.iconst 0, 1) := by decide +kernel
theorem dX5_holes_33 : decode cX5_holes 33 = .ok (.istore 6, 2) := by decide +kernel
theorem dX5_holes_35 : decode cX5_holes 35 = .ok (.iload 6, 2) := by decide +kernel
theorem dX5_holes_37 : decode cX5_holes 37 = .ok (.iload_n 3, 1) := by decide +kernel
theorem dX5_holes_38 : decode cX5_holes 38 = .ok (.if_icmp .ge 33, 3) := by decide +kernel
theorem dX5_holes_41 : decode cX5_holes 41 = .ok (.aload_n 0, 1) := by decide +kernel
theorem dX5_holes_42 : decode cX5_holes 42 = .ok (.iload_n 1, 1) := by decide +kernel
theorem dX5_holes_43 : decode cX5_holes 43 = .ok (.aload_n 0, 1) := by decide +kernel
theorem dX5_holes_44 : decode cX5_holes 44 = .ok (.iload 5, 2) := by decide +kernel
theorem dX5_holes_46 : decode cX5_holes 46 = .ok (.invokevirtual 209, 3) := by decide +kernel
theorem dX5_holes_49 : decode cX5_holes 49 = .ok (.iload 6, 2) := by decide +kernel
theorem dX5_holes_51 : decode cX5_holes 51 = .ok (.iload_n 2, 1) := by decide +kernel
theorem dX5_holes_52 : decode cX5_holes 52 = .ok (.invokevirtual 155, 3) := by decide +kernel
theorem dX5_holes_55 : decode cX5_holes 55 = .ok (.iconst (-1), 1) := by decide +kernel
theorem dX5_holes_56 : decode cX5_holes 56 = .ok (.if_icmp .ne 9, 3) := by decide +kernel
theorem dX5_holes_59 : decode cX5_holes 59 = .ok (.iload 4, 2) := by decide +kernel
theorem dX5_holes_61 : decode cX5_holes 61 = .ok (.iconst 1, 1) := by decide +kernel
theorem dX5_holes_62 : decode cX5_holes 62 = .ok (.iadd, 1) := by decide +kernel
theorem dX5_holes_63 : decode cX5_holes 63 = .ok (.istore 4, 2) := by decide +kernel
theorem dX5_holes_65 : decode cX5_holes 65 = .ok (.iinc 6 1, 3) := by decide +kernel
theorem dX5_holes_68 : decode cX5_holes 68 = .ok (.goto (-33), 3) := by decide +kernel
theorem dX5_holes_71 : decode cX5_holes 71 = .ok (.iinc 5 1, 3) := by decide +kernel
theorem dX5_holes_74 : decode cX5_holes 74 = .ok (.goto (-51), 3) := by decide +kernel
theorem dX5_holes_77 : decode cX5_holes 77 = .ok (.iload 4, 2) := by decide +kernel
theorem dX5_holes_79 : decode cX5_holes 79 = .ok (.ireturn, 1) := by decide +kernel
theorem dX5_hole_0 : decode cX5_hole 0 = .ok (.aload_n 0, 1) := by decide +kernel
theorem dX5_hole_1 : decode cX5_hole 1 = .ok (.iconst 0, 1) := by decide +kernel
theorem dX5_hole_2 : decode cX5_hole 2 = .ok (.putfield 77, 3) := by decide +kernel
theorem dX5_hole_5 : decode cX5_hole 5 = .ok (.aload_n 0, 1) := by decide +kernel
theorem dX5_hole_6 : decode cX5_hole 6 = .ok (.iload_n 1, 1) := by decide +kernel
theorem dX5_hole_7 : decode cX5_hole 7 = .ok (.iload_n 2, 1) := by decide +kernel
theorem dX5_hole_8 : decode cX5_hole 8 = .ok (.iload_n 3, 1) := by decide +kernel
theorem dX5_hole_9 : decode cX5_hole 9 = .ok (.invokevirtual 201, 3) := by decide +kernel
theorem dX5_hole_12 : decode cX5_hole 12 = .ok (.ifCond .eq 19, 3) := by decide +kernel
theorem dX5_hole_15 : decode cX5_hole 15 = .ok (.iload 4, 2) := by decide +kernel
theorem dX5_hole_17 : decode cX5_hole 17 = .ok (.ifCond .lt 14, 3) := by decide +kernel
theorem dX5_hole_20 : decode cX5_hole 20 = .ok (.iload 5, 2) := by decide +kernel
theorem dX5_hole_22 : decode cX5_hole 22 = .ok (.ifCond .lt 9, 3) := by decide +kernel
theorem dX5_hole_25 : decode cX5_hole 25 = .ok (.iload 5, 2) := by decide +kernel
theorem dX5_hole_27 : decode cX5_hole 27 = .ok (.iconst 1, 1) := by decide +kernel
theorem dX5_hole_28 : decode cX5_hole 28 = .ok (.if_icmp .le 5, 3) := by decide +kernel
theorem dX5_hole_31 : decode cX5_hole 31 = .ok (.iconst (-1), 1) := by decide +kernel
theorem dX5_hole_32 : decode cX5_hole 32 = .ok (.ireturn, 1) := by decide +kernel
theorem dX5_hole_33 : decode cX5_hole 33 = .ok (.iconst 0, 1) := by decide +kernel
theorem dX5_hole_34 : decode cX5_hole 34 = .ok (.istore 6, 2) := by decide +kernel
theorem dX5_hole_36 : decode cX5_hole 36 = .ok (.iconst 0, 1) := by decide +kernel
theorem dX5_hole_37 : decode cX5_hole 37 = .ok (.istore 7, 2) := by decide +kernel
theorem dX5_hole_39 : decode cX5_hole 39 = .ok (.iload 7, 2) := by decide +kernel
theorem dX5_hole_41 : decode cX5_hole 41 = .ok (.aload_n 0, 1) := by decide +kernel
theorem dX5_hole_42 : decode cX5_hole 42 = .ok (.invokevirtual 205, 3) := by decide +kernel
theorem dX5_hole_45 : decode cX5_hole 45 = .ok (.if_icmp .ge 75, 3) := by decide +kernel
theorem dX5_hole_48 : decode cX5_hole 48 = .ok (.iconst 0, 1) := by decide +kernel
theorem dX5_hole_49 : decode cX5_hole 49 = .ok (.istore 8, 2) := by decide +kernel
theorem dX5_hole_51 : decode cX5_hole 51 = .ok (.iload 8, 2) := by decide +kernel
theorem dX5_hole_53 : decode cX5_hole 53 = .ok (.iload_n 3, 1) := by decide +kernel
theorem dX5_hole_54 : decode cX5_hole 54 = .ok (.if_icmp .ge 60, 3) := by decide +kernel
theorem dX5_hole_57 : decode cX5_hole 57 = .ok (.aload_n 0, 1) := by decide +kernel
theorem dX5_hole_58 : decode cX5_hole 58 = .ok (.iload_n 1, 1) := by decide +kernel
theorem dX5_hole_59 : decode cX5_hole 59 = .ok (.aload_n 0, 1) := by decide +kernel
theorem dX5_hole_60 : decode cX5_hole 60 = .ok (.iload 7, 2) := by decide +kernel
theorem dX5_hole_62 : decode cX5_hole 62 = .ok (.invokevirtual 209, 3) := by decide +kernel
theorem dX5_hole_65 : decode cX5_hole 65 = .ok (.iload 8, 2) := by decide +kernel
theorem dX5_hole_67 : decode cX5_hole 67 = .ok (.iload_n 2, 1) := by decide +kernel
theorem dX5_hole_68 : decode cX5_hole 68 = .ok (.invokevirtual 155, 3) := by decide +kernel
theorem dX5_hole_71 : decode cX5_hole 71 = .ok (.iconst (-1), 1) := by decide +kernel
theorem dX5_hole_72 : decode cX5_hole 72 = .ok (.if_icmp .eq 6, 3) := by decide +kernel
theorem dX5_hole_75 : decode cX5_hole 75 = .ok (.goto 33, 3) := by decide +kernel
theorem dX5_hole_78 : decode cX5_hole 78 = .ok (.iload 6, 2) := by decide +kernel
theorem dX5_hole_80 : decode cX5_hole 80 = .ok (.iload 4, 2) := by decide +kernel
theorem dX5_hole_82 : decode cX5_hole 82 = .ok (.if_icmp .ne 20, 3) := by decide +kernel
theorem dX5_hole_85 : decode cX5_hole 85 = .ok (.iload 5, 2) := by decide +kernel
theorem dX5_hole_87 : decode cX5_hole 87 = .ok (.ifCond .ne 12, 3) := by decide +kernel
theorem dX5_hole_90 : decode cX5_hole 90 = .ok (.aload_n 0, 1) := by decide +kernel
theorem dX5_hole_91 : decode cX5_hole 91 = .ok (.iload 7, 2) := by decide +kernel
theorem dX5_hole_93 : decode cX5_hole 93 = .ok (.invokevirtual 209, 3) := by decide +kernel
theorem dX5_hole_96 : decode cX5_hole 96 = .ok (.goto 5, 3) := by decide +kernel
theorem dX5_hole_99 : decode cX5_hole 99 = .ok (.iload 8, 2) := by decide +kernel
theorem dX5_hole_101 : decode cX5_hole 101 = .ok (.ireturn, 1) := by decide +kernel
theorem dX5_hole_102 : decode cX5_hole 102 = .ok (.iload 6, 2) := by decide +kernel
theorem dX5_hole_104 : decode cX5_hole 104 = .ok (.iconst 1, 1) := by decide +kernel
theorem dX5_hole_105 : decode cX5_hole 105 = .ok (.iadd, 1) := by decide +kernel
theorem dX5_hole_106 : decode cX5_hole 106 = .ok (.istore 6, 2) := by decide +kernel
theorem dX5_hole_108 : decode cX5_hole 108 = .ok (.iinc 8 1, 3) := by decide +kernel
theorem dX5_hole_111 : decode cX5_hole 111 = .ok (.goto (-60), 3) := by decide +kernel
theorem dX5_hole_114 : decode cX5_hole 114 = .ok (.iinc 7 1, 3) := by decide +kernel
theorem dX5_hole_117 : decode cX5_hole 117 = .ok (.goto (-78), 3) := by decide +kernel
theorem dX5_hole_120 : decode cX5_hole 120 = .ok (.iconst (-1), 1) := by decide +kernel
theorem dX5_hole_121 : decode cX5_hole 121 = .ok (.ireturn, 1) := by decide +kernel
theorem dX5_idle_0 : decode cX5_idle 0 = .ok (.aload_n 0, 1) := by decide +kernel
theorem dX5_idle_1 : decode cX5_idle 1 = .ok (.iconst 0, 1) := by decide +kernel
theorem dX5_idle_2 : decode cX5_idle 2 = .ok (.putfield 77, 3) := by decide +kernel
theorem dX5_idle_5 : decode cX5_idle 5 = .ok (.bipush 15, 2) := by decide +kernel
theorem dX5_idle_7 : decode cX5_idle 7 = .ok (.istore_n 1, 1) := by decide +kernel
theorem dX5_idle_8 : decode cX5_idle 8 = .ok (.iconst 0, 1) := by decide +kernel
theorem dX5_idle_9 : decode cX5_idle 9 = .ok (.istore_n 2, 1) := by decide +kernel
theorem dX5_idle_10 : decode cX5_idle 10 = .ok (.iload_n 2, 1) := by decide +kernel
theorem dX5_idle_11 : decode cX5_idle 11 = .ok (.aload_n 0, 1) := by decide +kernel
theorem dX5_idle_12 : decode cX5_idle 12 = .ok (.getfield 90, 3) := by decide +kernel
theorem dX5_idle_15 : decode cX5_idle 15 = .ok (.if_icmp .ge 20, 3) := by decide +kernel
theorem dX5_idle_18 : decode cX5_idle 18 = .ok (.iload_n 1, 1) := by decide +kernel
theorem dX5_idle_19 : decode cX5_idle 19 = .ok (.aload_n 0, 1) := by decide +kernel
theorem dX5_idle_20 : decode cX5_idle 20 = .ok (.getfield 56, 3) := by decide +kernel
theorem dX5_idle_23 : decode cX5_idle 23 = .ok (.iload_n 2, 1) := by decide +kernel
theorem dX5_idle_24 : decode cX5_idle 24 = .ok (.iaload, 1) := by decide +kernel
theorem dX5_idle_25 : decode cX5_idle 25 = .ok (.iconst (-1), 1) := by decide +kernel
theorem dX5_idle_26 : decode cX5_idle 26 = .ok (.ixor, 1) := by decide +kernel
theorem dX5_idle_27 : decode cX5_idle 27 = .ok (.iand, 1) := by decide +kernel
theorem dX5_idle_28 : decode cX5_idle 28 = .ok (.istore_n 1, 1) := by decide +kernel
theorem dX5_idle_29 : decode cX5_idle 29 = .ok (.iinc 2 1, 3) := by decide +kernel
theorem dX5_idle_32 : decode cX5_idle 32 = .ok (.goto (-22), 3) := by decide +kernel
theorem dX5_idle_35 : decode cX5_idle 35 = .ok (.iload_n 1, 1) := by decide +kernel
theorem dX5_idle_36 : decode cX5_idle 36 = .ok (.ireturn, 1) := by decide +kernel
theorem dX5_claim_0 : decode cX5_claim 0 = .ok (.aload_n 0, 1) := by decide +kernel
theorem dX5_claim_1 : decode cX5_claim 1 = .ok (.iconst 0, 1) := by decide +kernel
theorem dX5_claim_2 : decode cX5_claim 2 = .ok (.putfield 77, 3) := by decide +kernel
theorem dX5_claim_5 : decode cX5_claim 5 = .ok (.aload_n 0, 1) := by decide +kernel
theorem dX5_claim_6 : decode cX5_claim 6 = .ok (.iload_n 1, 1) := by decide +kernel
theorem dX5_claim_7 : decode cX5_claim 7 = .ok (.invokevirtual 142, 3) := by decide +kernel
theorem dX5_claim_10 : decode cX5_claim 10 = .ok (.ifCond .eq 21, 3) := by decide +kernel
theorem dX5_claim_13 : decode cX5_claim 13 = .ok (.aload_n 0, 1) := by decide +kernel
theorem dX5_claim_14 : decode cX5_claim 14 = .ok (.getfield 46, 3) := by decide +kernel
theorem dX5_claim_17 : decode cX5_claim 17 = .ok (.iload_n 1, 1) := by decide +kernel
theorem dX5_claim_18 : decode cX5_claim 18 = .ok (.baload, 1) := by decide +kernel
theorem dX5_claim_19 : decode cX5_claim 19 = .ok (.ifCond .ne 12, 3) := by decide +kernel
theorem dX5_claim_22 : decode cX5_claim 22 = .ok (.aload_n 0, 1) := by decide +kernel
theorem dX5_claim_23 : decode cX5_claim 23 = .ok (.getfield 213, 3) := by decide +kernel
theorem dX5_claim_26 : decode cX5_claim 26 = .ok (.bipush 20, 2) := by decide +kernel
theorem dX5_claim_28 : decode cX5_claim 28 = .ok (.if_icmp .ne 5, 3) := by decide +kernel
theorem dX5_claim_31 : decode cX5_claim 31 = .ok (.iconst (-1), 1) := by decide +kernel
theorem dX5_claim_32 : decode cX5_claim 32 = .ok (.ireturn, 1) := by decide +kernel
theorem dX5_claim_33 : decode cX5_claim 33 = .ok (.aload_n 0, 1) := by decide +kernel
theorem dX5_claim_34 : decode cX5_claim 34 = .ok (.getfield 74, 3) := by decide +kernel
theorem dX5_claim_37 : decode cX5_claim 37 = .ok (.aload_n 0, 1) := by decide +kernel
theorem dX5_claim_38 : decode cX5_claim 38 = .ok (.getfield 213, 3) := by decide +kernel
theorem dX5_claim_41 : decode cX5_claim 41 = .ok (.iload_n 1, 1) := by decide +kernel
theorem dX5_claim_42 : decode cX5_claim 42 = .ok (.iastore, 1) := by decide +kernel
theorem dX5_claim_43 : decode cX5_claim 43 = .ok (.aload_n 0, 1) := by decide +kernel
theorem dX5_claim_44 : decode cX5_claim 44 = .ok (.aload_n 0, 1) := by decide +kernel
theorem dX5_claim_45 : decode cX5_claim 45 = .ok (.getfield 213, 3) := by decide +kernel
theorem dX5_claim_48 : decode cX5_claim 48 = .ok (.iconst 1, 1) := by decide +kernel
theorem dX5_claim_49 : decode cX5_claim 49 = .ok (.iadd, 1) := by decide +kernel
theorem dX5_claim_50 : decode cX5_claim 50 = .ok (.putfield 213, 3) := by decide +kernel
theorem dX5_claim_53 : decode cX5_claim 53 = .ok (.aload_n 0, 1) := by decide +kernel
theorem dX5_claim_54 : decode cX5_claim 54 = .ok (.getfield 213, 3) := by decide +kernel
theorem dX5_claim_57 : decode cX5_claim 57 = .ok (.iconst 1, 1) := by decide +kernel
theorem dX5_claim_58 : decode cX5_claim 58 = .ok (.isub, 1) := by decide +kernel
theorem dX5_claim_59 : decode cX5_claim 59 = .ok (.ireturn, 1) := by decide +kernel
theorem dX5_claimed_0 : decode cX5_claimed 0 = .ok (.aload_n 0, 1) := by decide +kernel
theorem dX5_claimed_1 : decode cX5_claimed 1 = .ok (.iconst 0, 1) := by decide +kernel
theorem dX5_claimed_2 : decode cX5_claimed 2 = .ok (.putfield 77, 3) := by decide +kernel
theorem dX5_claimed_5 : decode cX5_claimed 5 = .ok (.iload_n 1, 1) := by decide +kernel
theorem dX5_claimed_6 : decode cX5_claimed 6 = .ok (.ifCond .lt 11, 3) := by decide +kernel
theorem dX5_claimed_9 : decode cX5_claimed 9 = .ok (.iload_n 1, 1) := by decide +kernel
theorem dX5_claimed_10 : decode cX5_claimed 10 = .ok (.aload_n 0, 1) := by decide +kernel
theorem dX5_claimed_11 : decode cX5_claimed 11 = .ok (.getfield 213, 3) := by decide +kernel
theorem dX5_claimed_14 : decode cX5_claimed 14 = .ok (.if_icmp .lt 5, 3) := by decide +kernel
theorem dX5_claimed_17 : decode cX5_claimed 17 = .ok (.iconst (-1), 1) := by decide +kernel
theorem dX5_claimed_18 : decode cX5_claimed 18 = .ok (.ireturn, 1) := by decide +kernel
theorem dX5_claimed_19 : decode cX5_claimed 19 = .ok (.aload_n 0, 1) := by decide +kernel
theorem dX5_claimed_20 : decode cX5_claimed 20 = .ok (.getfield 74, 3) := by decide +kernel
theorem dX5_claimed_23 : decode cX5_claimed 23 = .ok (.iload_n 1, 1) := by decide +kernel
theorem dX5_claimed_24 : decode cX5_claimed 24 = .ok (.iaload, 1) := by decide +kernel
theorem dX5_claimed_25 : decode cX5_claimed 25 = .ok (.istore_n 3, 1) := by decide +kernel
theorem dX5_claimed_26 : decode cX5_claimed 26 = .ok (.iload_n 2, 1) := by decide +kernel
theorem dX5_claimed_27 : decode cX5_claimed 27 = .ok (.ifCond .ne 5, 3) := by decide +kernel
theorem dX5_claimed_30 : decode cX5_claimed 30 = .ok (.iload_n 3, 1) := by decide +kernel
theorem dX5_claimed_31 : decode cX5_claimed 31 = .ok (.ireturn, 1) := by decide +kernel
theorem dX5_claimed_32 : decode cX5_claimed 32 = .ok (.iload_n 2, 1) := by decide +kernel
theorem dX5_claimed_33 : decode cX5_claimed 33 = .ok (.iconst 1, 1) := by decide +kernel
theorem dX5_claimed_34 : decode cX5_claimed 34 = .ok (.if_icmp .ne 22, 3) := by decide +kernel
theorem dX5_claimed_37 : decode cX5_claimed 37 = .ok (.aload_n 0, 1) := by decide +kernel
theorem dX5_claimed_38 : decode cX5_claimed 38 = .ok (.getfield 43, 3) := by decide +kernel
theorem dX5_claimed_41 : decode cX5_claimed 41 = .ok (.bipush 16, 2) := by decide +kernel
theorem dX5_claimed_43 : decode cX5_claimed 43 = .ok (.iload_n 3, 1) := by decide +kernel
theorem dX5_claimed_44 : decode cX5_claimed 44 = .ok (.imul, 1) := by decide +kernel
theorem dX5_claimed_45 : decode cX5_claimed 45 = .ok (.aload_n 0, 1) := by decide +kernel
theorem dX5_claimed_46 : decode cX5_claimed 46 = .ok (.getfield 40, 3) := by decide +kernel
theorem dX5_claimed_49 : decode cX5_claimed 49 = .ok (.iload_n 3, 1) := by decide +kernel
theorem dX5_claimed_50 : decode cX5_claimed 50 = .ok (.iaload, 1) := by decide +kernel
theorem dX5_claimed_51 : decode cX5_claimed 51 = .ok (.iadd, 1) := by decide +kernel
theorem dX5_claimed_52 : decode cX5_claimed 52 = .ok (.iconst 1, 1) := by decide +kernel
theorem dX5_claimed_53 : decode cX5_claimed 53 = .ok (.isub, 1) := by decide +kernel
theorem dX5_claimed_54 : decode cX5_claimed 54 = .ok (.iaload, 1) := by decide +kernel
theorem dX5_claimed_55 : decode cX5_claimed 55 = .ok (.ireturn, 1) := by decide +kernel
theorem dX5_claimed_56 : decode cX5_claimed 56 = .ok (.iload_n 2, 1) := by decide +kernel
theorem dX5_claimed_57 : decode cX5_claimed 57 = .ok (.iconst 2, 1) := by decide +kernel
theorem dX5_claimed_58 : decode cX5_claimed 58 = .ok (.if_icmp .ne 19, 3) := by decide +kernel
theorem dX5_claimed_61 : decode cX5_claimed 61 = .ok (.aload_n 0, 1) := by decide +kernel
theorem dX5_claimed_62 : decode cX5_claimed 62 = .ok (.iload_n 3, 1) := by decide +kernel
theorem dX5_claimed_63 : decode cX5_claimed 63 = .ok (.invokevirtual 152, 3) := by decide +kernel
theorem dX5_claimed_66 : decode cX5_claimed 66 = .ok (.ifCond .eq 7, 3) := by decide +kernel
theorem dX5_claimed_69 : decode cX5_claimed 69 = .ok (.iconst 1, 1) := by decide +kernel
theorem dX5_claimed_70 : decode cX5_claimed 70 = .ok (.goto 8, 3) := by decide +kernel
theorem dX5_claimed_73 : decode cX5_claimed 73 = .ok (.iconst 0, 1) := by decide +kernel
theorem dX5_claimed_74 : decode cX5_claimed 74 = .ok (.goto 4, 3) := by decide +kernel
theorem dX5_claimed_77 : decode cX5_claimed 77 = .ok (.iconst (-1), 1) := by decide +kernel
theorem dX5_claimed_78 : decode cX5_claimed 78 = .ok (.ireturn, 1) := by decide +kernel
end
section
theorem dJ6_bitCount_0f7a4_0 : decode cJ6_bitCount_0f7a4 0 = .ok (.iload_n 0, 1) := by decide +kernel
theorem dJ6_bitCount_0f7a4_1 : decode cJ6_bitCount_0f7a4 1 = .ok (.iload_n 0, 1) := by decide +kernel
theorem dJ6_bitCount_0f7a4_2 : decode cJ6_bitCount_0f7a4 2 = .ok (.iconst 1, 1) := by decide +kernel
theorem dJ6_bitCount_0f7a4_3 : decode cJ6_bitCount_0f7a4 3 = .ok (.iushr, 1) := by decide +kernel
theorem dJ6_bitCount_0f7a4_4 : decode cJ6_bitCount_0f7a4 4 = .ok (.ldc_w 265, 3) := by decide +kernel
theorem dJ6_bitCount_0f7a4_7 : decode cJ6_bitCount_0f7a4 7 = .ok (.iand, 1) := by decide +kernel
theorem dJ6_bitCount_0f7a4_8 : decode cJ6_bitCount_0f7a4 8 = .ok (.isub, 1) := by decide +kernel
theorem dJ6_bitCount_0f7a4_9 : decode cJ6_bitCount_0f7a4 9 = .ok (.istore_n 0, 1) := by decide +kernel
theorem dJ6_bitCount_0f7a4_10 : decode cJ6_bitCount_0f7a4 10 = .ok (.iload_n 0, 1) := by decide +kernel
theorem dJ6_bitCount_0f7a4_11 : decode cJ6_bitCount_0f7a4 11 = .ok (.ldc_w 266, 3) := by decide +kernel
theorem dJ6_bitCount_0f7a4_14 : decode cJ6_bitCount_0f7a4 14 = .ok (.iand, 1) := by decide +kernel
theorem dJ6_bitCount_0f7a4_15 : decode cJ6_bitCount_0f7a4 15 = .ok (.iload_n 0, 1) := by decide +kernel
theorem dJ6_bitCount_0f7a4_16 : decode cJ6_bitCount_0f7a4 16 = .ok (.iconst 2, 1) := by decide +kernel
theorem dJ6_bitCount_0f7a4_17 : decode cJ6_bitCount_0f7a4 17 = .ok (.iushr, 1) := by decide +kernel
theorem dJ6_bitCount_0f7a4_18 : decode cJ6_bitCount_0f7a4 18 = .ok (.ldc_w 266, 3) := by decide +kernel
theorem dJ6_bitCount_0f7a4_21 : decode cJ6_bitCount_0f7a4 21 = .ok (.iand, 1) := by decide +kernel
theorem dJ6_bitCount_0f7a4_22 : decode cJ6_bitCount_0f7a4 22 = .ok (.iadd, 1) := by decide +kernel
theorem dJ6_bitCount_0f7a4_23 : decode cJ6_bitCount_0f7a4 23 = .ok (.istore_n 0, 1) := by decide +kernel
theorem dJ6_bitCount_0f7a4_24 : decode cJ6_bitCount_0f7a4 24 = .ok (.iload_n 0, 1) := by decide +kernel
theorem dJ6_bitCount_0f7a4_25 : decode cJ6_bitCount_0f7a4 25 = .ok (.iload_n 0, 1) := by decide +kernel
theorem dJ6_bitCount_0f7a4_26 : decode cJ6_bitCount_0f7a4 26 = .ok (.iconst 4, 1) := by decide +kernel
theorem dJ6_bitCount_0f7a4_27 : decode cJ6_bitCount_0f7a4 27 = .ok (.iushr, 1) := by decide +kernel
theorem dJ6_bitCount_0f7a4_28 : decode cJ6_bitCount_0f7a4 28 = .ok (.iadd, 1) := by decide +kernel
theorem dJ6_bitCount_0f7a4_29 : decode cJ6_bitCount_0f7a4 29 = .ok (.ldc_w 267, 3) := by decide +kernel
theorem dJ6_bitCount_0f7a4_32 : decode cJ6_bitCount_0f7a4 32 = .ok (.iand, 1) := by decide +kernel
theorem dJ6_bitCount_0f7a4_33 : decode cJ6_bitCount_0f7a4 33 = .ok (.istore_n 0, 1) := by decide +kernel
theorem dJ6_bitCount_0f7a4_34 : decode cJ6_bitCount_0f7a4 34 = .ok (.iload_n 0, 1) := by decide +kernel
theorem dJ6_bitCount_0f7a4_35 : decode cJ6_bitCount_0f7a4 35 = .ok (.iload_n 0, 1) := by decide +kernel
theorem dJ6_bitCount_0f7a4_36 : decode cJ6_bitCount_0f7a4 36 = .ok (.bipush 8, 2) := by decide +kernel
theorem dJ6_bitCount_0f7a4_38 : decode cJ6_bitCount_0f7a4 38 = .ok (.iushr, 1) := by decide +kernel
theorem dJ6_bitCount_0f7a4_39 : decode cJ6_bitCount_0f7a4 39 = .ok (.iadd, 1) := by decide +kernel
theorem dJ6_bitCount_0f7a4_40 : decode cJ6_bitCount_0f7a4 40 = .ok (.istore_n 0, 1) := by decide +kernel
theorem dJ6_bitCount_0f7a4_41 : decode cJ6_bitCount_0f7a4 41 = .ok (.iload_n 0, 1) := by decide +kernel
theorem dJ6_bitCount_0f7a4_42 : decode cJ6_bitCount_0f7a4 42 = .ok (.iload_n 0, 1) := by decide +kernel
theorem dJ6_bitCount_0f7a4_43 : decode cJ6_bitCount_0f7a4 43 = .ok (.bipush 16, 2) := by decide +kernel
theorem dJ6_bitCount_0f7a4_45 : decode cJ6_bitCount_0f7a4 45 = .ok (.iushr, 1) := by decide +kernel
theorem dJ6_bitCount_0f7a4_46 : decode cJ6_bitCount_0f7a4 46 = .ok (.iadd, 1) := by decide +kernel
theorem dJ6_bitCount_0f7a4_47 : decode cJ6_bitCount_0f7a4 47 = .ok (.istore_n 0, 1) := by decide +kernel
theorem dJ6_bitCount_0f7a4_48 : decode cJ6_bitCount_0f7a4 48 = .ok (.iload_n 0, 1) := by decide +kernel
theorem dJ6_bitCount_0f7a4_49 : decode cJ6_bitCount_0f7a4 49 = .ok (.bipush 63, 2) := by decide +kernel
theorem dJ6_bitCount_0f7a4_51 : decode cJ6_bitCount_0f7a4 51 = .ok (.iand, 1) := by decide +kernel
theorem dJ6_bitCount_0f7a4_52 : decode cJ6_bitCount_0f7a4 52 = .ok (.ireturn, 1) := by decide +kernel
theorem dJ9_min_7cf53_0 : decode cJ9_min_7cf53 0 = .ok (.iload_n 0, 1) := by decide +kernel
theorem dJ9_min_7cf53_1 : decode cJ9_min_7cf53 1 = .ok (.iload_n 1, 1) := by decide +kernel
theorem dJ9_min_7cf53_2 : decode cJ9_min_7cf53 2 = .ok (.if_icmp .gt 7, 3) := by decide +kernel
theorem dJ9_min_7cf53_5 : decode cJ9_min_7cf53 5 = .ok (.iload_n 0, 1) := by decide +kernel
theorem dJ9_min_7cf53_6 : decode cJ9_min_7cf53 6 = .ok (.goto 4, 3) := by decide +kernel
theorem dJ9_min_7cf53_9 : decode cJ9_min_7cf53 9 = .ok (.iload_n 1, 1) := by decide +kernel
theorem dJ9_min_7cf53_10 : decode cJ9_min_7cf53 10 = .ok (.ireturn, 1) := by decide +kernel
theorem dL_law_0 : decode cL_law 0 = .ok (.new 7, 3) := by decide +kernel
theorem dL_law_3 : decode cL_law 3 = .ok (.dup, 1) := by decide +kernel
theorem dL_law_4 : decode cL_law 4 = .ok (.invokespecial 9, 3) := by decide +kernel
theorem dL_law_7 : decode cL_law 7 = .ok (.astore_n 1, 1) := by decide +kernel
theorem dL_law_8 : decode cL_law 8 = .ok (.new 10, 3) := by decide +kernel
theorem dL_law_11 : decode cL_law 11 = .ok (.dup, 1) := by decide +kernel
theorem dL_law_12 : decode cL_law 12 = .ok (.invokespecial 12, 3) := by decide +kernel
theorem dL_law_15 : decode cL_law 15 = .ok (.astore_n 2, 1) := by decide +kernel
theorem dL_law_16 : decode cL_law 16 = .ok (.iconst 0, 1) := by decide +kernel
theorem dL_law_17 : decode cL_law 17 = .ok (.istore_n 3, 1) := by decide +kernel
theorem dL_law_18 : decode cL_law 18 = .ok (.iload_n 3, 1) := by decide +kernel
theorem dL_law_19 : decode cL_law 19 = .ok (.aload_n 0, 1) := by decide +kernel
theorem dL_law_20 : decode cL_law 20 = .ok (.arraylength, 1) := by decide +kernel
theorem dL_law_21 : decode cL_law 21 = .ok (.bipush 7, 2) := by decide +kernel
theorem dL_law_23 : decode cL_law 23 = .ok (.isub, 1) := by decide +kernel
theorem dL_law_24 : decode cL_law 24 = .ok (.if_icmp .gt 924, 3) := by decide +kernel
theorem dL_law_27 : decode cL_law 27 = .ok (.aload_n 0, 1) := by decide +kernel
theorem dL_law_28 : decode cL_law 28 = .ok (.iload_n 3, 1) := by decide +kernel
theorem dL_law_29 : decode cL_law 29 = .ok (.iaload, 1) := by decide +kernel
theorem dL_law_30 : decode cL_law 30 = .ok (.bipush 31, 2) := by decide +kernel
theorem dL_law_32 : decode cL_law 32 = .ok (.iand, 1) := by decide +kernel
theorem dL_law_33 : decode cL_law 33 = .ok (.tableswitch 909 0 19 #[95, 148, 181, 214, 267, 320, 353, 366, 379, 402, 425, 478, 541, 616, 691, 734, 777, 840, 853, 876], 95) := by decide +kernel
theorem dL_law_128 : decode cL_law 128 = .ok (.aload_n 1, 1) := by decide +kernel
theorem dL_law_129 : decode cL_law 129 = .ok (.aload_n 0, 1) := by decide +kernel
theorem dL_law_130 : decode cL_law 130 = .ok (.iload_n 3, 1) := by decide +kernel
theorem dL_law_131 : decode cL_law 131 = .ok (.iconst 1, 1) := by decide +kernel
theorem dL_law_132 : decode cL_law 132 = .ok (.iadd, 1) := by decide +kernel
theorem dL_law_133 : decode cL_law 133 = .ok (.iaload, 1) := by decide +kernel
theorem dL_law_134 : decode cL_law 134 = .ok (.aload_n 0, 1) := by decide +kernel
theorem dL_law_135 : decode cL_law 135 = .ok (.iload_n 3, 1) := by decide +kernel
theorem dL_law_136 : decode cL_law 136 = .ok (.iconst 2, 1) := by decide +kernel
theorem dL_law_137 : decode cL_law 137 = .ok (.iadd, 1) := by decide +kernel
theorem dL_law_138 : decode cL_law 138 = .ok (.iaload, 1) := by decide +kernel
theorem dL_law_139 : decode cL_law 139 = .ok (.aload_n 0, 1) := by decide +kernel
theorem dL_law_140 : decode cL_law 140 = .ok (.iload_n 3, 1) := by decide +kernel
theorem dL_law_141 : decode cL_law 141 = .ok (.iconst 3, 1) := by decide +kernel
theorem dL_law_142 : decode cL_law 142 = .ok (.iadd, 1) := by decide +kernel
theorem dL_law_143 : decode cL_law 143 = .ok (.iaload, 1) := by decide +kernel
theorem dL_law_144 : decode cL_law 144 = .ok (.aload_n 0, 1) := by decide +kernel
theorem dL_law_145 : decode cL_law 145 = .ok (.iload_n 3, 1) := by decide +kernel
theorem dL_law_146 : decode cL_law 146 = .ok (.iconst 4, 1) := by decide +kernel
theorem dL_law_147 : decode cL_law 147 = .ok (.iadd, 1) := by decide +kernel
theorem dL_law_148 : decode cL_law 148 = .ok (.iaload, 1) := by decide +kernel
theorem dL_law_149 : decode cL_law 149 = .ok (.invokevirtual 13, 3) := by decide +kernel
theorem dL_law_152 : decode cL_law 152 = .ok (.aload_n 2, 1) := by decide +kernel
theorem dL_law_153 : decode cL_law 153 = .ok (.aload_n 0, 1) := by decide +kernel
theorem dL_law_154 : decode cL_law 154 = .ok (.iload_n 3, 1) := by decide +kernel
theorem dL_law_155 : decode cL_law 155 = .ok (.iconst 1, 1) := by decide +kernel
theorem dL_law_156 : decode cL_law 156 = .ok (.iadd, 1) := by decide +kernel
theorem dL_law_157 : decode cL_law 157 = .ok (.iaload, 1) := by decide +kernel
theorem dL_law_158 : decode cL_law 158 = .ok (.aload_n 0, 1) := by decide +kernel
theorem dL_law_159 : decode cL_law 159 = .ok (.iload_n 3, 1) := by decide +kernel
theorem dL_law_160 : decode cL_law 160 = .ok (.iconst 2, 1) := by decide +kernel
theorem dL_law_161 : decode cL_law 161 = .ok (.iadd, 1) := by decide +kernel
theorem dL_law_162 : decode cL_law 162 = .ok (.iaload, 1) := by decide +kernel
theorem dL_law_163 : decode cL_law 163 = .ok (.aload_n 0, 1) := by decide +kernel
theorem dL_law_164 : decode cL_law 164 = .ok (.iload_n 3, 1) := by decide +kernel
theorem dL_law_165 : decode cL_law 165 = .ok (.iconst 3, 1) := by decide +kernel
theorem dL_law_166 : decode cL_law 166 = .ok (.iadd, 1) := by decide +kernel
theorem dL_law_167 : decode cL_law 167 = .ok (.iaload, 1) := by decide +kernel
theorem dL_law_168 : decode cL_law 168 = .ok (.aload_n 0, 1) := by decide +kernel
theorem dL_law_169 : decode cL_law 169 = .ok (.iload_n 3, 1) := by decide +kernel
theorem dL_law_170 : decode cL_law 170 = .ok (.iconst 4, 1) := by decide +kernel
theorem dL_law_171 : decode cL_law 171 = .ok (.iadd, 1) := by decide +kernel
theorem dL_law_172 : decode cL_law 172 = .ok (.iaload, 1) := by decide +kernel
theorem dL_law_173 : decode cL_law 173 = .ok (.invokevirtual 17, 3) := by decide +kernel
theorem dL_law_176 : decode cL_law 176 = .ok (.if_icmp .eq 766, 3) := by decide +kernel
theorem dL_law_179 : decode cL_law 179 = .ok (.iconst 0, 1) := by decide +kernel
theorem dL_law_180 : decode cL_law 180 = .ok (.ireturn, 1) := by decide +kernel
theorem dL_law_181 : decode cL_law 181 = .ok (.aload_n 1, 1) := by decide +kernel
theorem dL_law_182 : decode cL_law 182 = .ok (.aload_n 0, 1) := by decide +kernel
theorem dL_law_183 : decode cL_law 183 = .ok (.iload_n 3, 1) := by decide +kernel
theorem dL_law_184 : decode cL_law 184 = .ok (.iconst 1, 1) := by decide +kernel
theorem dL_law_185 : decode cL_law 185 = .ok (.iadd, 1) := by decide +kernel
theorem dL_law_186 : decode cL_law 186 = .ok (.iaload, 1) := by decide +kernel
theorem dL_law_187 : decode cL_law 187 = .ok (.aload_n 0, 1) := by decide +kernel
theorem dL_law_188 : decode cL_law 188 = .ok (.iload_n 3, 1) := by decide +kernel
theorem dL_law_189 : decode cL_law 189 = .ok (.iconst 2, 1) := by decide +kernel
theorem dL_law_190 : decode cL_law 190 = .ok (.iadd, 1) := by decide +kernel
theorem dL_law_191 : decode cL_law 191 = .ok (.iaload, 1) := by decide +kernel
theorem dL_law_192 : decode cL_law 192 = .ok (.invokevirtual 18, 3) := by decide +kernel
theorem dL_law_195 : decode cL_law 195 = .ok (.aload_n 2, 1) := by decide +kernel
theorem dL_law_196 : decode cL_law 196 = .ok (.aload_n 0, 1) := by decide +kernel
theorem dL_law_197 : decode cL_law 197 = .ok (.iload_n 3, 1) := by decide +kernel
theorem dL_law_198 : decode cL_law 198 = .ok (.iconst 1, 1) := by decide +kernel
theorem dL_law_199 : decode cL_law 199 = .ok (.iadd, 1) := by decide +kernel
theorem dL_law_200 : decode cL_law 200 = .ok (.iaload, 1) := by decide +kernel
theorem dL_law_201 : decode cL_law 201 = .ok (.aload_n 0, 1) := by decide +kernel
theorem dL_law_202 : decode cL_law 202 = .ok (.iload_n 3, 1) := by decide +kernel
theorem dL_law_203 : decode cL_law 203 = .ok (.iconst 2, 1) := by decide +kernel
theorem dL_law_204 : decode cL_law 204 = .ok (.iadd, 1) := by decide +kernel
theorem dL_law_205 : decode cL_law 205 = .ok (.iaload, 1) := by decide +kernel
theorem dL_law_206 : decode cL_law 206 = .ok (.invokevirtual 22, 3) := by decide +kernel
theorem dL_law_209 : decode cL_law 209 = .ok (.if_icmp .eq 733, 3) := by decide +kernel
theorem dL_law_212 : decode cL_law 212 = .ok (.iconst 0, 1) := by decide +kernel
theorem dL_law_213 : decode cL_law 213 = .ok (.ireturn, 1) := by decide +kernel
theorem dL_law_214 : decode cL_law 214 = .ok (.aload_n 1, 1) := by decide +kernel
theorem dL_law_215 : decode cL_law 215 = .ok (.aload_n 0, 1) := by decide +kernel
theorem dL_law_216 : decode cL_law 216 = .ok (.iload_n 3, 1) := by decide +kernel
theorem dL_law_217 : decode cL_law 217 = .ok (.iconst 1, 1) := by decide +kernel
theorem dL_law_218 : decode cL_law 218 = .ok (.iadd, 1) := by decide +kernel
theorem dL_law_219 : decode cL_law 219 = .ok (.iaload, 1) := by decide +kernel
theorem dL_law_220 : decode cL_law 220 = .ok (.aload_n 0, 1) := by decide +kernel
theorem dL_law_221 : decode cL_law 221 = .ok (.iload_n 3, 1) := by decide +kernel
theorem dL_law_222 : decode cL_law 222 = .ok (.iconst 2, 1) := by decide +kernel
theorem dL_law_223 : decode cL_law 223 = .ok (.iadd, 1) := by decide +kernel
theorem dL_law_224 : decode cL_law 224 = .ok (.iaload, 1) := by decide +kernel
theorem dL_law_225 : decode cL_law 225 = .ok (.invokevirtual 23, 3) := by decide +kernel
theorem dL_law_228 : decode cL_law 228 = .ok (.aload_n 2, 1) := by decide +kernel
theorem dL_law_229 : decode cL_law 229 = .ok (.aload_n 0, 1) := by decide +kernel
theorem dL_law_230 : decode cL_law 230 = .ok (.iload_n 3, 1) := by decide +kernel
theorem dL_law_231 : decode cL_law 231 = .ok (.iconst 1, 1) := by decide +kernel
theorem dL_law_232 : decode cL_law 232 = .ok (.iadd, 1) := by decide +kernel
theorem dL_law_233 : decode cL_law 233 = .ok (.iaload, 1) := by decide +kernel
theorem dL_law_234 : decode cL_law 234 = .ok (.aload_n 0, 1) := by decide +kernel
theorem dL_law_235 : decode cL_law 235 = .ok (.iload_n 3, 1) := by decide +kernel
theorem dL_law_236 : decode cL_law 236 = .ok (.iconst 2, 1) := by decide +kernel
theorem dL_law_237 : decode cL_law 237 = .ok (.iadd, 1) := by decide +kernel
theorem dL_law_238 : decode cL_law 238 = .ok (.iaload, 1) := by decide +kernel
theorem dL_law_239 : decode cL_law 239 = .ok (.invokevirtual 26, 3) := by decide +kernel
theorem dL_law_242 : decode cL_law 242 = .ok (.if_icmp .eq 700, 3) := by decide +kernel
theorem dL_law_245 : decode cL_law 245 = .ok (.iconst 0, 1) := by decide +kernel
theorem dL_law_246 : decode cL_law 246 = .ok (.ireturn, 1) := by decide +kernel
theorem dL_law_247 : decode cL_law 247 = .ok (.aload_n 1, 1) := by decide +kernel
theorem dL_law_248 : decode cL_law 248 = .ok (.aload_n 0, 1) := by decide +kernel
theorem dL_law_249 : decode cL_law 249 = .ok (.iload_n 3, 1) := by decide +kernel
theorem dL_law_250 : decode cL_law 250 = .ok (.iconst 1, 1) := by decide +kernel
theorem dL_law_251 : decode cL_law 251 = .ok (.iadd, 1) := by decide +kernel
theorem dL_law_252 : decode cL_law 252 = .ok (.iaload, 1) := by decide +kernel
theorem dL_law_253 : decode cL_law 253 = .ok (.aload_n 0, 1) := by decide +kernel
theorem dL_law_254 : decode cL_law 254 = .ok (.iload_n 3, 1) := by decide +kernel
theorem dL_law_255 : decode cL_law 255 = .ok (.iconst 2, 1) := by decide +kernel
theorem dL_law_256 : decode cL_law 256 = .ok (.iadd, 1) := by decide +kernel
theorem dL_law_257 : decode cL_law 257 = .ok (.iaload, 1) := by decide +kernel
theorem dL_law_258 : decode cL_law 258 = .ok (.aload_n 0, 1) := by decide +kernel
theorem dL_law_259 : decode cL_law 259 = .ok (.iload_n 3, 1) := by decide +kernel
theorem dL_law_260 : decode cL_law 260 = .ok (.iconst 3, 1) := by decide +kernel
theorem dL_law_261 : decode cL_law 261 = .ok (.iadd, 1) := by decide +kernel
theorem dL_law_262 : decode cL_law 262 = .ok (.iaload, 1) := by decide +kernel
theorem dL_law_263 : decode cL_law 263 = .ok (.aload_n 0, 1) := by decide +kernel
theorem dL_law_264 : decode cL_law 264 = .ok (.iload_n 3, 1) := by decide +kernel
theorem dL_law_265 : decode cL_law 265 = .ok (.iconst 4, 1) := by decide +kernel
theorem dL_law_266 : decode cL_law 266 = .ok (.iadd, 1) := by decide +kernel
theorem dL_law_267 : decode cL_law 267 = .ok (.iaload, 1) := by decide +kernel
theorem dL_law_268 : decode cL_law 268 = .ok (.invokevirtual 27, 3) := by decide +kernel
theorem dL_law_271 : decode cL_law 271 = .ok (.aload_n 2, 1) := by decide +kernel
theorem dL_law_272 : decode cL_law 272 = .ok (.aload_n 0, 1) := by decide +kernel
theorem dL_law_273 : decode cL_law 273 = .ok (.iload_n 3, 1) := by decide +kernel
theorem dL_law_274 : decode cL_law 274 = .ok (.iconst 1, 1) := by decide +kernel
theorem dL_law_275 : decode cL_law 275 = .ok (.iadd, 1) := by decide +kernel
theorem dL_law_276 : decode cL_law 276 = .ok (.iaload, 1) := by decide +kernel
theorem dL_law_277 : decode cL_law 277 = .ok (.aload_n 0, 1) := by decide +kernel
theorem dL_law_278 : decode cL_law 278 = .ok (.iload_n 3, 1) := by decide +kernel
theorem dL_law_279 : decode cL_law 279 = .ok (.iconst 2, 1) := by decide +kernel
theorem dL_law_280 : decode cL_law 280 = .ok (.iadd, 1) := by decide +kernel
theorem dL_law_281 : decode cL_law 281 = .ok (.iaload, 1) := by decide +kernel
theorem dL_law_282 : decode cL_law 282 = .ok (.aload_n 0, 1) := by decide +kernel
theorem dL_law_283 : decode cL_law 283 = .ok (.iload_n 3, 1) := by decide +kernel
theorem dL_law_284 : decode cL_law 284 = .ok (.iconst 3, 1) := by decide +kernel
theorem dL_law_285 : decode cL_law 285 = .ok (.iadd, 1) := by decide +kernel
theorem dL_law_286 : decode cL_law 286 = .ok (.iaload, 1) := by decide +kernel
theorem dL_law_287 : decode cL_law 287 = .ok (.aload_n 0, 1) := by decide +kernel
theorem dL_law_288 : decode cL_law 288 = .ok (.iload_n 3, 1) := by decide +kernel
theorem dL_law_289 : decode cL_law 289 = .ok (.iconst 4, 1) := by decide +kernel
theorem dL_law_290 : decode cL_law 290 = .ok (.iadd, 1) := by decide +kernel
theorem dL_law_291 : decode cL_law 291 = .ok (.iaload, 1) := by decide +kernel
theorem dL_law_292 : decode cL_law 292 = .ok (.invokevirtual 31, 3) := by decide +kernel
theorem dL_law_295 : decode cL_law 295 = .ok (.if_icmp .eq 647, 3) := by decide +kernel
theorem dL_law_298 : decode cL_law 298 = .ok (.iconst 0, 1) := by decide +kernel
theorem dL_law_299 : decode cL_law 299 = .ok (.ireturn, 1) := by decide +kernel
theorem dL_law_300 : decode cL_law 300 = .ok (.aload_n 1, 1) := by decide +kernel
theorem dL_law_301 : decode cL_law 301 = .ok (.aload_n 0, 1) := by decide +kernel
theorem dL_law_302 : decode cL_law 302 = .ok (.iload_n 3, 1) := by decide +kernel
theorem dL_law_303 : decode cL_law 303 = .ok (.iconst 1, 1) := by decide +kernel
theorem dL_law_304 : decode cL_law 304 = .ok (.iadd, 1) := by decide +kernel
theorem dL_law_305 : decode cL_law 305 = .ok (.iaload, 1) := by decide +kernel
theorem dL_law_306 : decode cL_law 306 = .ok (.aload_n 0, 1) := by decide +kernel
theorem dL_law_307 : decode cL_law 307 = .ok (.iload_n 3, 1) := by decide +kernel
theorem dL_law_308 : decode cL_law 308 = .ok (.iconst 2, 1) := by decide +kernel
theorem dL_law_309 : decode cL_law 309 = .ok (.iadd, 1) := by decide +kernel
theorem dL_law_310 : decode cL_law 310 = .ok (.iaload, 1) := by decide +kernel
theorem dL_law_311 : decode cL_law 311 = .ok (.aload_n 0, 1) := by decide +kernel
theorem dL_law_312 : decode cL_law 312 = .ok (.iload_n 3, 1) := by decide +kernel
theorem dL_law_313 : decode cL_law 313 = .ok (.iconst 3, 1) := by decide +kernel
theorem dL_law_314 : decode cL_law 314 = .ok (.iadd, 1) := by decide +kernel
theorem dL_law_315 : decode cL_law 315 = .ok (.iaload, 1) := by decide +kernel
theorem dL_law_316 : decode cL_law 316 = .ok (.aload_n 0, 1) := by decide +kernel
theorem dL_law_317 : decode cL_law 317 = .ok (.iload_n 3, 1) := by decide +kernel
theorem dL_law_318 : decode cL_law 318 = .ok (.iconst 4, 1) := by decide +kernel
theorem dL_law_319 : decode cL_law 319 = .ok (.iadd, 1) := by decide +kernel
theorem dL_law_320 : decode cL_law 320 = .ok (.iaload, 1) := by decide +kernel
theorem dL_law_321 : decode cL_law 321 = .ok (.invokevirtual 32, 3) := by decide +kernel
theorem dL_law_324 : decode cL_law 324 = .ok (.aload_n 2, 1) := by decide +kernel
theorem dL_law_325 : decode cL_law 325 = .ok (.aload_n 0, 1) := by decide +kernel
theorem dL_law_326 : decode cL_law 326 = .ok (.iload_n 3, 1) := by decide +kernel
theorem dL_law_327 : decode cL_law 327 = .ok (.iconst 1, 1) := by decide +kernel
theorem dL_law_328 : decode cL_law 328 = .ok (.iadd, 1) := by decide +kernel
theorem dL_law_329 : decode cL_law 329 = .ok (.iaload, 1) := by decide +kernel
theorem dL_law_330 : decode cL_law 330 = .ok (.aload_n 0, 1) := by decide +kernel
theorem dL_law_331 : decode cL_law 331 = .ok (.iload_n 3, 1) := by decide +kernel
theorem dL_law_332 : decode cL_law 332 = .ok (.iconst 2, 1) := by decide +kernel
theorem dL_law_333 : decode cL_law 333 = .ok (.iadd, 1) := by decide +kernel
theorem dL_law_334 : decode cL_law 334 = .ok (.iaload, 1) := by decide +kernel
theorem dL_law_335 : decode cL_law 335 = .ok (.aload_n 0, 1) := by decide +kernel
theorem dL_law_336 : decode cL_law 336 = .ok (.iload_n 3, 1) := by decide +kernel
theorem dL_law_337 : decode cL_law 337 = .ok (.iconst 3, 1) := by decide +kernel
theorem dL_law_338 : decode cL_law 338 = .ok (.iadd, 1) := by decide +kernel
theorem dL_law_339 : decode cL_law 339 = .ok (.iaload, 1) := by decide +kernel
theorem dL_law_340 : decode cL_law 340 = .ok (.aload_n 0, 1) := by decide +kernel
theorem dL_law_341 : decode cL_law 341 = .ok (.iload_n 3, 1) := by decide +kernel
theorem dL_law_342 : decode cL_law 342 = .ok (.iconst 4, 1) := by decide +kernel
theorem dL_law_343 : decode cL_law 343 = .ok (.iadd, 1) := by decide +kernel
theorem dL_law_344 : decode cL_law 344 = .ok (.iaload, 1) := by decide +kernel
theorem dL_law_345 : decode cL_law 345 = .ok (.invokevirtual 35, 3) := by decide +kernel
theorem dL_law_348 : decode cL_law 348 = .ok (.if_icmp .eq 594, 3) := by decide +kernel
theorem dL_law_351 : decode cL_law 351 = .ok (.iconst 0, 1) := by decide +kernel
theorem dL_law_352 : decode cL_law 352 = .ok (.ireturn, 1) := by decide +kernel
theorem dL_law_353 : decode cL_law 353 = .ok (.aload_n 1, 1) := by decide +kernel
theorem dL_law_354 : decode cL_law 354 = .ok (.aload_n 0, 1) := by decide +kernel
theorem dL_law_355 : decode cL_law 355 = .ok (.iload_n 3, 1) := by decide +kernel
theorem dL_law_356 : decode cL_law 356 = .ok (.iconst 1, 1) := by decide +kernel
theorem dL_law_357 : decode cL_law 357 = .ok (.iadd, 1) := by decide +kernel
theorem dL_law_358 : decode cL_law 358 = .ok (.iaload, 1) := by decide +kernel
theorem dL_law_359 : decode cL_law 359 = .ok (.aload_n 0, 1) := by decide +kernel
theorem dL_law_360 : decode cL_law 360 = .ok (.iload_n 3, 1) := by decide +kernel
theorem dL_law_361 : decode cL_law 361 = .ok (.iconst 2, 1) := by decide +kernel
theorem dL_law_362 : decode cL_law 362 = .ok (.iadd, 1) := by decide +kernel
theorem dL_law_363 : decode cL_law 363 = .ok (.iaload, 1) := by decide +kernel
theorem dL_law_364 : decode cL_law 364 = .ok (.invokevirtual 36, 3) := by decide +kernel
theorem dL_law_367 : decode cL_law 367 = .ok (.aload_n 2, 1) := by decide +kernel
theorem dL_law_368 : decode cL_law 368 = .ok (.aload_n 0, 1) := by decide +kernel
theorem dL_law_369 : decode cL_law 369 = .ok (.iload_n 3, 1) := by decide +kernel
theorem dL_law_370 : decode cL_law 370 = .ok (.iconst 1, 1) := by decide +kernel
theorem dL_law_371 : decode cL_law 371 = .ok (.iadd, 1) := by decide +kernel
theorem dL_law_372 : decode cL_law 372 = .ok (.iaload, 1) := by decide +kernel
theorem dL_law_373 : decode cL_law 373 = .ok (.aload_n 0, 1) := by decide +kernel
theorem dL_law_374 : decode cL_law 374 = .ok (.iload_n 3, 1) := by decide +kernel
theorem dL_law_375 : decode cL_law 375 = .ok (.iconst 2, 1) := by decide +kernel
theorem dL_law_376 : decode cL_law 376 = .ok (.iadd, 1) := by decide +kernel
theorem dL_law_377 : decode cL_law 377 = .ok (.iaload, 1) := by decide +kernel
theorem dL_law_378 : decode cL_law 378 = .ok (.invokevirtual 40, 3) := by decide +kernel
theorem dL_law_381 : decode cL_law 381 = .ok (.if_icmp .eq 561, 3) := by decide +kernel
theorem dL_law_384 : decode cL_law 384 = .ok (.iconst 0, 1) := by decide +kernel
theorem dL_law_385 : decode cL_law 385 = .ok (.ireturn, 1) := by decide +kernel
theorem dL_law_386 : decode cL_law 386 = .ok (.aload_n 1, 1) := by decide +kernel
theorem dL_law_387 : decode cL_law 387 = .ok (.invokevirtual 41, 3) := by decide +kernel
theorem dL_law_390 : decode cL_law 390 = .ok (.aload_n 2, 1) := by decide +kernel
theorem dL_law_391 : decode cL_law 391 = .ok (.invokevirtual 45, 3) := by decide +kernel
theorem dL_law_394 : decode cL_law 394 = .ok (.if_icmp .eq 548, 3) := by decide +kernel
theorem dL_law_397 : decode cL_law 397 = .ok (.iconst 0, 1) := by decide +kernel
theorem dL_law_398 : decode cL_law 398 = .ok (.ireturn, 1) := by decide +kernel
theorem dL_law_399 : decode cL_law 399 = .ok (.aload_n 1, 1) := by decide +kernel
theorem dL_law_400 : decode cL_law 400 = .ok (.invokevirtual 46, 3) := by decide +kernel
theorem dL_law_403 : decode cL_law 403 = .ok (.aload_n 2, 1) := by decide +kernel
theorem dL_law_404 : decode cL_law 404 = .ok (.invokevirtual 49, 3) := by decide +kernel
theorem dL_law_407 : decode cL_law 407 = .ok (.if_icmp .eq 535, 3) := by decide +kernel
theorem dL_law_410 : decode cL_law 410 = .ok (.iconst 0, 1) := by decide +kernel
theorem dL_law_411 : decode cL_law 411 = .ok (.ireturn, 1) := by decide +kernel
theorem dL_law_412 : decode cL_law 412 = .ok (.aload_n 1, 1) := by decide +kernel
theorem dL_law_413 : decode cL_law 413 = .ok (.aload_n 0, 1) := by decide +kernel
theorem dL_law_414 : decode cL_law 414 = .ok (.iload_n 3, 1) := by decide +kernel
theorem dL_law_415 : decode cL_law 415 = .ok (.iconst 1, 1) := by decide +kernel
theorem dL_law_416 : decode cL_law 416 = .ok (.iadd, 1) := by decide +kernel
theorem dL_law_417 : decode cL_law 417 = .ok (.iaload, 1) := by decide +kernel
theorem dL_law_418 : decode cL_law 418 = .ok (.invokevirtual 50, 3) := by decide +kernel
theorem dL_law_421 : decode cL_law 421 = .ok (.aload_n 2, 1) := by decide +kernel
theorem dL_law_422 : decode cL_law 422 = .ok (.aload_n 0, 1) := by decide +kernel
theorem dL_law_423 : decode cL_law 423 = .ok (.iload_n 3, 1) := by decide +kernel
theorem dL_law_424 : decode cL_law 424 = .ok (.iconst 1, 1) := by decide +kernel
theorem dL_law_425 : decode cL_law 425 = .ok (.iadd, 1) := by decide +kernel
theorem dL_law_426 : decode cL_law 426 = .ok (.iaload, 1) := by decide +kernel
theorem dL_law_427 : decode cL_law 427 = .ok (.invokevirtual 54, 3) := by decide +kernel
theorem dL_law_430 : decode cL_law 430 = .ok (.if_icmp .eq 512, 3) := by decide +kernel
theorem dL_law_433 : decode cL_law 433 = .ok (.iconst 0, 1) := by decide +kernel
theorem dL_law_434 : decode cL_law 434 = .ok (.ireturn, 1) := by decide +kernel
theorem dL_law_435 : decode cL_law 435 = .ok (.aload_n 1, 1) := by decide +kernel
theorem dL_law_436 : decode cL_law 436 = .ok (.aload_n 0, 1) := by decide +kernel
theorem dL_law_437 : decode cL_law 437 = .ok (.iload_n 3, 1) := by decide +kernel
theorem dL_law_438 : decode cL_law 438 = .ok (.iconst 1, 1) := by decide +kernel
theorem dL_law_439 : decode cL_law 439 = .ok (.iadd, 1) := by decide +kernel
theorem dL_law_440 : decode cL_law 440 = .ok (.iaload, 1) := by decide +kernel
theorem dL_law_441 : decode cL_law 441 = .ok (.invokevirtual 55, 3) := by decide +kernel
theorem dL_law_444 : decode cL_law 444 = .ok (.aload_n 2, 1) := by decide +kernel
theorem dL_law_445 : decode cL_law 445 = .ok (.aload_n 0, 1) := by decide +kernel
theorem dL_law_446 : decode cL_law 446 = .ok (.iload_n 3, 1) := by decide +kernel
theorem dL_law_447 : decode cL_law 447 = .ok (.iconst 1, 1) := by decide +kernel
theorem dL_law_448 : decode cL_law 448 = .ok (.iadd, 1) := by decide +kernel
theorem dL_law_449 : decode cL_law 449 = .ok (.iaload, 1) := by decide +kernel
theorem dL_law_450 : decode cL_law 450 = .ok (.invokevirtual 58, 3) := by decide +kernel
theorem dL_law_453 : decode cL_law 453 = .ok (.if_icmp .eq 489, 3) := by decide +kernel
theorem dL_law_456 : decode cL_law 456 = .ok (.iconst 0, 1) := by decide +kernel
theorem dL_law_457 : decode cL_law 457 = .ok (.ireturn, 1) := by decide +kernel
theorem dL_law_458 : decode cL_law 458 = .ok (.aload_n 1, 1) := by decide +kernel
theorem dL_law_459 : decode cL_law 459 = .ok (.aload_n 0, 1) := by decide +kernel
theorem dL_law_460 : decode cL_law 460 = .ok (.iload_n 3, 1) := by decide +kernel
theorem dL_law_461 : decode cL_law 461 = .ok (.iconst 1, 1) := by decide +kernel
theorem dL_law_462 : decode cL_law 462 = .ok (.iadd, 1) := by decide +kernel
theorem dL_law_463 : decode cL_law 463 = .ok (.iaload, 1) := by decide +kernel
theorem dL_law_464 : decode cL_law 464 = .ok (.aload_n 0, 1) := by decide +kernel
theorem dL_law_465 : decode cL_law 465 = .ok (.iload_n 3, 1) := by decide +kernel
theorem dL_law_466 : decode cL_law 466 = .ok (.iconst 2, 1) := by decide +kernel
theorem dL_law_467 : decode cL_law 467 = .ok (.iadd, 1) := by decide +kernel
theorem dL_law_468 : decode cL_law 468 = .ok (.iaload, 1) := by decide +kernel
theorem dL_law_469 : decode cL_law 469 = .ok (.aload_n 0, 1) := by decide +kernel
theorem dL_law_470 : decode cL_law 470 = .ok (.iload_n 3, 1) := by decide +kernel
theorem dL_law_471 : decode cL_law 471 = .ok (.iconst 3, 1) := by decide +kernel
theorem dL_law_472 : decode cL_law 472 = .ok (.iadd, 1) := by decide +kernel
theorem dL_law_473 : decode cL_law 473 = .ok (.iaload, 1) := by decide +kernel
theorem dL_law_474 : decode cL_law 474 = .ok (.aload_n 0, 1) := by decide +kernel
theorem dL_law_475 : decode cL_law 475 = .ok (.iload_n 3, 1) := by decide +kernel
theorem dL_law_476 : decode cL_law 476 = .ok (.iconst 4, 1) := by decide +kernel
theorem dL_law_477 : decode cL_law 477 = .ok (.iadd, 1) := by decide +kernel
theorem dL_law_478 : decode cL_law 478 = .ok (.iaload, 1) := by decide +kernel
theorem dL_law_479 : decode cL_law 479 = .ok (.invokevirtual 59, 3) := by decide +kernel
theorem dL_law_482 : decode cL_law 482 = .ok (.aload_n 2, 1) := by decide +kernel
theorem dL_law_483 : decode cL_law 483 = .ok (.aload_n 0, 1) := by decide +kernel
theorem dL_law_484 : decode cL_law 484 = .ok (.iload_n 3, 1) := by decide +kernel
theorem dL_law_485 : decode cL_law 485 = .ok (.iconst 1, 1) := by decide +kernel
theorem dL_law_486 : decode cL_law 486 = .ok (.iadd, 1) := by decide +kernel
theorem dL_law_487 : decode cL_law 487 = .ok (.iaload, 1) := by decide +kernel
theorem dL_law_488 : decode cL_law 488 = .ok (.aload_n 0, 1) := by decide +kernel
theorem dL_law_489 : decode cL_law 489 = .ok (.iload_n 3, 1) := by decide +kernel
theorem dL_law_490 : decode cL_law 490 = .ok (.iconst 2, 1) := by decide +kernel
theorem dL_law_491 : decode cL_law 491 = .ok (.iadd, 1) := by decide +kernel
theorem dL_law_492 : decode cL_law 492 = .ok (.iaload, 1) := by decide +kernel
theorem dL_law_493 : decode cL_law 493 = .ok (.aload_n 0, 1) := by decide +kernel
theorem dL_law_494 : decode cL_law 494 = .ok (.iload_n 3, 1) := by decide +kernel
theorem dL_law_495 : decode cL_law 495 = .ok (.iconst 3, 1) := by decide +kernel
theorem dL_law_496 : decode cL_law 496 = .ok (.iadd, 1) := by decide +kernel
theorem dL_law_497 : decode cL_law 497 = .ok (.iaload, 1) := by decide +kernel
theorem dL_law_498 : decode cL_law 498 = .ok (.aload_n 0, 1) := by decide +kernel
theorem dL_law_499 : decode cL_law 499 = .ok (.iload_n 3, 1) := by decide +kernel
theorem dL_law_500 : decode cL_law 500 = .ok (.iconst 4, 1) := by decide +kernel
theorem dL_law_501 : decode cL_law 501 = .ok (.iadd, 1) := by decide +kernel
theorem dL_law_502 : decode cL_law 502 = .ok (.iaload, 1) := by decide +kernel
theorem dL_law_503 : decode cL_law 503 = .ok (.invokevirtual 62, 3) := by decide +kernel
theorem dL_law_506 : decode cL_law 506 = .ok (.if_icmp .eq 436, 3) := by decide +kernel
theorem dL_law_509 : decode cL_law 509 = .ok (.iconst 0, 1) := by decide +kernel
theorem dL_law_510 : decode cL_law 510 = .ok (.ireturn, 1) := by decide +kernel
theorem dL_law_511 : decode cL_law 511 = .ok (.aload_n 1, 1) := by decide +kernel
theorem dL_law_512 : decode cL_law 512 = .ok (.aload_n 0, 1) := by decide +kernel
theorem dL_law_513 : decode cL_law 513 = .ok (.iload_n 3, 1) := by decide +kernel
theorem dL_law_514 : decode cL_law 514 = .ok (.iconst 1, 1) := by decide +kernel
theorem dL_law_515 : decode cL_law 515 = .ok (.iadd, 1) := by decide +kernel
theorem dL_law_516 : decode cL_law 516 = .ok (.iaload, 1) := by decide +kernel
theorem dL_law_517 : decode cL_law 517 = .ok (.aload_n 0, 1) := by decide +kernel
theorem dL_law_518 : decode cL_law 518 = .ok (.iload_n 3, 1) := by decide +kernel
theorem dL_law_519 : decode cL_law 519 = .ok (.iconst 2, 1) := by decide +kernel
theorem dL_law_520 : decode cL_law 520 = .ok (.iadd, 1) := by decide +kernel
theorem dL_law_521 : decode cL_law 521 = .ok (.iaload, 1) := by decide +kernel
theorem dL_law_522 : decode cL_law 522 = .ok (.aload_n 0, 1) := by decide +kernel
theorem dL_law_523 : decode cL_law 523 = .ok (.iload_n 3, 1) := by decide +kernel
theorem dL_law_524 : decode cL_law 524 = .ok (.iconst 3, 1) := by decide +kernel
theorem dL_law_525 : decode cL_law 525 = .ok (.iadd, 1) := by decide +kernel
theorem dL_law_526 : decode cL_law 526 = .ok (.iaload, 1) := by decide +kernel
theorem dL_law_527 : decode cL_law 527 = .ok (.aload_n 0, 1) := by decide +kernel
theorem dL_law_528 : decode cL_law 528 = .ok (.iload_n 3, 1) := by decide +kernel
theorem dL_law_529 : decode cL_law 529 = .ok (.iconst 4, 1) := by decide +kernel
theorem dL_law_530 : decode cL_law 530 = .ok (.iadd, 1) := by decide +kernel
theorem dL_law_531 : decode cL_law 531 = .ok (.iaload, 1) := by decide +kernel
theorem dL_law_532 : decode cL_law 532 = .ok (.aload_n 0, 1) := by decide +kernel
theorem dL_law_533 : decode cL_law 533 = .ok (.iload_n 3, 1) := by decide +kernel
theorem dL_law_534 : decode cL_law 534 = .ok (.iconst 5, 1) := by decide +kernel
theorem dL_law_535 : decode cL_law 535 = .ok (.iadd, 1) := by decide +kernel
theorem dL_law_536 : decode cL_law 536 = .ok (.iaload, 1) := by decide +kernel
theorem dL_law_537 : decode cL_law 537 = .ok (.invokevirtual 63, 3) := by decide +kernel
theorem dL_law_540 : decode cL_law 540 = .ok (.aload_n 2, 1) := by decide +kernel
theorem dL_law_541 : decode cL_law 541 = .ok (.aload_n 0, 1) := by decide +kernel
theorem dL_law_542 : decode cL_law 542 = .ok (.iload_n 3, 1) := by decide +kernel
theorem dL_law_543 : decode cL_law 543 = .ok (.iconst 1, 1) := by decide +kernel
theorem dL_law_544 : decode cL_law 544 = .ok (.iadd, 1) := by decide +kernel
theorem dL_law_545 : decode cL_law 545 = .ok (.iaload, 1) := by decide +kernel
theorem dL_law_546 : decode cL_law 546 = .ok (.aload_n 0, 1) := by decide +kernel
theorem dL_law_547 : decode cL_law 547 = .ok (.iload_n 3, 1) := by decide +kernel
theorem dL_law_548 : decode cL_law 548 = .ok (.iconst 2, 1) := by decide +kernel
theorem dL_law_549 : decode cL_law 549 = .ok (.iadd, 1) := by decide +kernel
theorem dL_law_550 : decode cL_law 550 = .ok (.iaload, 1) := by decide +kernel
theorem dL_law_551 : decode cL_law 551 = .ok (.aload_n 0, 1) := by decide +kernel
theorem dL_law_552 : decode cL_law 552 = .ok (.iload_n 3, 1) := by decide +kernel
theorem dL_law_553 : decode cL_law 553 = .ok (.iconst 3, 1) := by decide +kernel
theorem dL_law_554 : decode cL_law 554 = .ok (.iadd, 1) := by decide +kernel
theorem dL_law_555 : decode cL_law 555 = .ok (.iaload, 1) := by decide +kernel
theorem dL_law_556 : decode cL_law 556 = .ok (.aload_n 0, 1) := by decide +kernel
theorem dL_law_557 : decode cL_law 557 = .ok (.iload_n 3, 1) := by decide +kernel
theorem dL_law_558 : decode cL_law 558 = .ok (.iconst 4, 1) := by decide +kernel
theorem dL_law_559 : decode cL_law 559 = .ok (.iadd, 1) := by decide +kernel
theorem dL_law_560 : decode cL_law 560 = .ok (.iaload, 1) := by decide +kernel
theorem dL_law_561 : decode cL_law 561 = .ok (.aload_n 0, 1) := by decide +kernel
theorem dL_law_562 : decode cL_law 562 = .ok (.iload_n 3, 1) := by decide +kernel
theorem dL_law_563 : decode cL_law 563 = .ok (.iconst 5, 1) := by decide +kernel
theorem dL_law_564 : decode cL_law 564 = .ok (.iadd, 1) := by decide +kernel
theorem dL_law_565 : decode cL_law 565 = .ok (.iaload, 1) := by decide +kernel
theorem dL_law_566 : decode cL_law 566 = .ok (.invokevirtual 67, 3) := by decide +kernel
theorem dL_law_569 : decode cL_law 569 = .ok (.if_icmp .eq 373, 3) := by decide +kernel
theorem dL_law_572 : decode cL_law 572 = .ok (.iconst 0, 1) := by decide +kernel
theorem dL_law_573 : decode cL_law 573 = .ok (.ireturn, 1) := by decide +kernel
theorem dL_law_574 : decode cL_law 574 = .ok (.aload_n 1, 1) := by decide +kernel
theorem dL_law_575 : decode cL_law 575 = .ok (.aload_n 0, 1) := by decide +kernel
theorem dL_law_576 : decode cL_law 576 = .ok (.iload_n 3, 1) := by decide +kernel
theorem dL_law_577 : decode cL_law 577 = .ok (.iconst 1, 1) := by decide +kernel
theorem dL_law_578 : decode cL_law 578 = .ok (.iadd, 1) := by decide +kernel
theorem dL_law_579 : decode cL_law 579 = .ok (.iaload, 1) := by decide +kernel
theorem dL_law_580 : decode cL_law 580 = .ok (.aload_n 0, 1) := by decide +kernel
theorem dL_law_581 : decode cL_law 581 = .ok (.iload_n 3, 1) := by decide +kernel
theorem dL_law_582 : decode cL_law 582 = .ok (.iconst 2, 1) := by decide +kernel
theorem dL_law_583 : decode cL_law 583 = .ok (.iadd, 1) := by decide +kernel
theorem dL_law_584 : decode cL_law 584 = .ok (.iaload, 1) := by decide +kernel
theorem dL_law_585 : decode cL_law 585 = .ok (.aload_n 0, 1) := by decide +kernel
theorem dL_law_586 : decode cL_law 586 = .ok (.iload_n 3, 1) := by decide +kernel
theorem dL_law_587 : decode cL_law 587 = .ok (.iconst 3, 1) := by decide +kernel
theorem dL_law_588 : decode cL_law 588 = .ok (.iadd, 1) := by decide +kernel
theorem dL_law_589 : decode cL_law 589 = .ok (.iaload, 1) := by decide +kernel
theorem dL_law_590 : decode cL_law 590 = .ok (.aload_n 0, 1) := by decide +kernel
theorem dL_law_591 : decode cL_law 591 = .ok (.iload_n 3, 1) := by decide +kernel
theorem dL_law_592 : decode cL_law 592 = .ok (.iconst 4, 1) := by decide +kernel
theorem dL_law_593 : decode cL_law 593 = .ok (.iadd, 1) := by decide +kernel
theorem dL_law_594 : decode cL_law 594 = .ok (.iaload, 1) := by decide +kernel
theorem dL_law_595 : decode cL_law 595 = .ok (.aload_n 0, 1) := by decide +kernel
theorem dL_law_596 : decode cL_law 596 = .ok (.iload_n 3, 1) := by decide +kernel
theorem dL_law_597 : decode cL_law 597 = .ok (.iconst 5, 1) := by decide +kernel
theorem dL_law_598 : decode cL_law 598 = .ok (.iadd, 1) := by decide +kernel
theorem dL_law_599 : decode cL_law 599 = .ok (.iaload, 1) := by decide +kernel
theorem dL_law_600 : decode cL_law 600 = .ok (.aload_n 0, 1) := by decide +kernel
theorem dL_law_601 : decode cL_law 601 = .ok (.iload_n 3, 1) := by decide +kernel
theorem dL_law_602 : decode cL_law 602 = .ok (.bipush 6, 2) := by decide +kernel
theorem dL_law_604 : decode cL_law 604 = .ok (.iadd, 1) := by decide +kernel
theorem dL_law_605 : decode cL_law 605 = .ok (.iaload, 1) := by decide +kernel
theorem dL_law_606 : decode cL_law 606 = .ok (.invokevirtual 68, 3) := by decide +kernel
theorem dL_law_609 : decode cL_law 609 = .ok (.aload_n 2, 1) := by decide +kernel
theorem dL_law_610 : decode cL_law 610 = .ok (.aload_n 0, 1) := by decide +kernel
theorem dL_law_611 : decode cL_law 611 = .ok (.iload_n 3, 1) := by decide +kernel
theorem dL_law_612 : decode cL_law 612 = .ok (.iconst 1, 1) := by decide +kernel
theorem dL_law_613 : decode cL_law 613 = .ok (.iadd, 1) := by decide +kernel
theorem dL_law_614 : decode cL_law 614 = .ok (.iaload, 1) := by decide +kernel
theorem dL_law_615 : decode cL_law 615 = .ok (.aload_n 0, 1) := by decide +kernel
theorem dL_law_616 : decode cL_law 616 = .ok (.iload_n 3, 1) := by decide +kernel
theorem dL_law_617 : decode cL_law 617 = .ok (.iconst 2, 1) := by decide +kernel
theorem dL_law_618 : decode cL_law 618 = .ok (.iadd, 1) := by decide +kernel
theorem dL_law_619 : decode cL_law 619 = .ok (.iaload, 1) := by decide +kernel
theorem dL_law_620 : decode cL_law 620 = .ok (.aload_n 0, 1) := by decide +kernel
theorem dL_law_621 : decode cL_law 621 = .ok (.iload_n 3, 1) := by decide +kernel
theorem dL_law_622 : decode cL_law 622 = .ok (.iconst 3, 1) := by decide +kernel
theorem dL_law_623 : decode cL_law 623 = .ok (.iadd, 1) := by decide +kernel
theorem dL_law_624 : decode cL_law 624 = .ok (.iaload, 1) := by decide +kernel
theorem dL_law_625 : decode cL_law 625 = .ok (.aload_n 0, 1) := by decide +kernel
theorem dL_law_626 : decode cL_law 626 = .ok (.iload_n 3, 1) := by decide +kernel
theorem dL_law_627 : decode cL_law 627 = .ok (.iconst 4, 1) := by decide +kernel
theorem dL_law_628 : decode cL_law 628 = .ok (.iadd, 1) := by decide +kernel
theorem dL_law_629 : decode cL_law 629 = .ok (.iaload, 1) := by decide +kernel
theorem dL_law_630 : decode cL_law 630 = .ok (.aload_n 0, 1) := by decide +kernel
theorem dL_law_631 : decode cL_law 631 = .ok (.iload_n 3, 1) := by decide +kernel
theorem dL_law_632 : decode cL_law 632 = .ok (.iconst 5, 1) := by decide +kernel
theorem dL_law_633 : decode cL_law 633 = .ok (.iadd, 1) := by decide +kernel
theorem dL_law_634 : decode cL_law 634 = .ok (.iaload, 1) := by decide +kernel
theorem dL_law_635 : decode cL_law 635 = .ok (.aload_n 0, 1) := by decide +kernel
theorem dL_law_636 : decode cL_law 636 = .ok (.iload_n 3, 1) := by decide +kernel
theorem dL_law_637 : decode cL_law 637 = .ok (.bipush 6, 2) := by decide +kernel
theorem dL_law_639 : decode cL_law 639 = .ok (.iadd, 1) := by decide +kernel
theorem dL_law_640 : decode cL_law 640 = .ok (.iaload, 1) := by decide +kernel
theorem dL_law_641 : decode cL_law 641 = .ok (.invokevirtual 72, 3) := by decide +kernel
theorem dL_law_644 : decode cL_law 644 = .ok (.if_icmp .eq 298, 3) := by decide +kernel
theorem dL_law_647 : decode cL_law 647 = .ok (.iconst 0, 1) := by decide +kernel
theorem dL_law_648 : decode cL_law 648 = .ok (.ireturn, 1) := by decide +kernel
theorem dL_law_649 : decode cL_law 649 = .ok (.aload_n 1, 1) := by decide +kernel
theorem dL_law_650 : decode cL_law 650 = .ok (.aload_n 0, 1) := by decide +kernel
theorem dL_law_651 : decode cL_law 651 = .ok (.iload_n 3, 1) := by decide +kernel
theorem dL_law_652 : decode cL_law 652 = .ok (.iconst 1, 1) := by decide +kernel
theorem dL_law_653 : decode cL_law 653 = .ok (.iadd, 1) := by decide +kernel
theorem dL_law_654 : decode cL_law 654 = .ok (.iaload, 1) := by decide +kernel
theorem dL_law_655 : decode cL_law 655 = .ok (.aload_n 0, 1) := by decide +kernel
theorem dL_law_656 : decode cL_law 656 = .ok (.iload_n 3, 1) := by decide +kernel
theorem dL_law_657 : decode cL_law 657 = .ok (.iconst 2, 1) := by decide +kernel
theorem dL_law_658 : decode cL_law 658 = .ok (.iadd, 1) := by decide +kernel
theorem dL_law_659 : decode cL_law 659 = .ok (.iaload, 1) := by decide +kernel
theorem dL_law_660 : decode cL_law 660 = .ok (.aload_n 0, 1) := by decide +kernel
theorem dL_law_661 : decode cL_law 661 = .ok (.iload_n 3, 1) := by decide +kernel
theorem dL_law_662 : decode cL_law 662 = .ok (.iconst 3, 1) := by decide +kernel
theorem dL_law_663 : decode cL_law 663 = .ok (.iadd, 1) := by decide +kernel
theorem dL_law_664 : decode cL_law 664 = .ok (.iaload, 1) := by decide +kernel
theorem dL_law_665 : decode cL_law 665 = .ok (.aload_n 0, 1) := by decide +kernel
theorem dL_law_666 : decode cL_law 666 = .ok (.iload_n 3, 1) := by decide +kernel
theorem dL_law_667 : decode cL_law 667 = .ok (.iconst 4, 1) := by decide +kernel
theorem dL_law_668 : decode cL_law 668 = .ok (.iadd, 1) := by decide +kernel
theorem dL_law_669 : decode cL_law 669 = .ok (.iaload, 1) := by decide +kernel
theorem dL_law_670 : decode cL_law 670 = .ok (.aload_n 0, 1) := by decide +kernel
theorem dL_law_671 : decode cL_law 671 = .ok (.iload_n 3, 1) := by decide +kernel
theorem dL_law_672 : decode cL_law 672 = .ok (.iconst 5, 1) := by decide +kernel
theorem dL_law_673 : decode cL_law 673 = .ok (.iadd, 1) := by decide +kernel
theorem dL_law_674 : decode cL_law 674 = .ok (.iaload, 1) := by decide +kernel
theorem dL_law_675 : decode cL_law 675 = .ok (.aload_n 0, 1) := by decide +kernel
theorem dL_law_676 : decode cL_law 676 = .ok (.iload_n 3, 1) := by decide +kernel
theorem dL_law_677 : decode cL_law 677 = .ok (.bipush 6, 2) := by decide +kernel
theorem dL_law_679 : decode cL_law 679 = .ok (.iadd, 1) := by decide +kernel
theorem dL_law_680 : decode cL_law 680 = .ok (.iaload, 1) := by decide +kernel
theorem dL_law_681 : decode cL_law 681 = .ok (.invokevirtual 73, 3) := by decide +kernel
theorem dL_law_684 : decode cL_law 684 = .ok (.aload_n 2, 1) := by decide +kernel
theorem dL_law_685 : decode cL_law 685 = .ok (.aload_n 0, 1) := by decide +kernel
theorem dL_law_686 : decode cL_law 686 = .ok (.iload_n 3, 1) := by decide +kernel
theorem dL_law_687 : decode cL_law 687 = .ok (.iconst 1, 1) := by decide +kernel
theorem dL_law_688 : decode cL_law 688 = .ok (.iadd, 1) := by decide +kernel
theorem dL_law_689 : decode cL_law 689 = .ok (.iaload, 1) := by decide +kernel
theorem dL_law_690 : decode cL_law 690 = .ok (.aload_n 0, 1) := by decide +kernel
theorem dL_law_691 : decode cL_law 691 = .ok (.iload_n 3, 1) := by decide +kernel
theorem dL_law_692 : decode cL_law 692 = .ok (.iconst 2, 1) := by decide +kernel
theorem dL_law_693 : decode cL_law 693 = .ok (.iadd, 1) := by decide +kernel
theorem dL_law_694 : decode cL_law 694 = .ok (.iaload, 1) := by decide +kernel
theorem dL_law_695 : decode cL_law 695 = .ok (.aload_n 0, 1) := by decide +kernel
theorem dL_law_696 : decode cL_law 696 = .ok (.iload_n 3, 1) := by decide +kernel
theorem dL_law_697 : decode cL_law 697 = .ok (.iconst 3, 1) := by decide +kernel
theorem dL_law_698 : decode cL_law 698 = .ok (.iadd, 1) := by decide +kernel
theorem dL_law_699 : decode cL_law 699 = .ok (.iaload, 1) := by decide +kernel
theorem dL_law_700 : decode cL_law 700 = .ok (.aload_n 0, 1) := by decide +kernel
theorem dL_law_701 : decode cL_law 701 = .ok (.iload_n 3, 1) := by decide +kernel
theorem dL_law_702 : decode cL_law 702 = .ok (.iconst 4, 1) := by decide +kernel
theorem dL_law_703 : decode cL_law 703 = .ok (.iadd, 1) := by decide +kernel
theorem dL_law_704 : decode cL_law 704 = .ok (.iaload, 1) := by decide +kernel
theorem dL_law_705 : decode cL_law 705 = .ok (.aload_n 0, 1) := by decide +kernel
theorem dL_law_706 : decode cL_law 706 = .ok (.iload_n 3, 1) := by decide +kernel
theorem dL_law_707 : decode cL_law 707 = .ok (.iconst 5, 1) := by decide +kernel
theorem dL_law_708 : decode cL_law 708 = .ok (.iadd, 1) := by decide +kernel
theorem dL_law_709 : decode cL_law 709 = .ok (.iaload, 1) := by decide +kernel
theorem dL_law_710 : decode cL_law 710 = .ok (.aload_n 0, 1) := by decide +kernel
theorem dL_law_711 : decode cL_law 711 = .ok (.iload_n 3, 1) := by decide +kernel
theorem dL_law_712 : decode cL_law 712 = .ok (.bipush 6, 2) := by decide +kernel
theorem dL_law_714 : decode cL_law 714 = .ok (.iadd, 1) := by decide +kernel
theorem dL_law_715 : decode cL_law 715 = .ok (.iaload, 1) := by decide +kernel
theorem dL_law_716 : decode cL_law 716 = .ok (.invokevirtual 76, 3) := by decide +kernel
theorem dL_law_719 : decode cL_law 719 = .ok (.if_icmp .eq 223, 3) := by decide +kernel
theorem dL_law_722 : decode cL_law 722 = .ok (.iconst 0, 1) := by decide +kernel
theorem dL_law_723 : decode cL_law 723 = .ok (.ireturn, 1) := by decide +kernel
theorem dL_law_724 : decode cL_law 724 = .ok (.aload_n 1, 1) := by decide +kernel
theorem dL_law_725 : decode cL_law 725 = .ok (.aload_n 0, 1) := by decide +kernel
theorem dL_law_726 : decode cL_law 726 = .ok (.iload_n 3, 1) := by decide +kernel
theorem dL_law_727 : decode cL_law 727 = .ok (.iconst 1, 1) := by decide +kernel
theorem dL_law_728 : decode cL_law 728 = .ok (.iadd, 1) := by decide +kernel
theorem dL_law_729 : decode cL_law 729 = .ok (.iaload, 1) := by decide +kernel
theorem dL_law_730 : decode cL_law 730 = .ok (.aload_n 0, 1) := by decide +kernel
theorem dL_law_731 : decode cL_law 731 = .ok (.iload_n 3, 1) := by decide +kernel
theorem dL_law_732 : decode cL_law 732 = .ok (.iconst 2, 1) := by decide +kernel
theorem dL_law_733 : decode cL_law 733 = .ok (.iadd, 1) := by decide +kernel
theorem dL_law_734 : decode cL_law 734 = .ok (.iaload, 1) := by decide +kernel
theorem dL_law_735 : decode cL_law 735 = .ok (.aload_n 0, 1) := by decide +kernel
theorem dL_law_736 : decode cL_law 736 = .ok (.iload_n 3, 1) := by decide +kernel
theorem dL_law_737 : decode cL_law 737 = .ok (.iconst 3, 1) := by decide +kernel
theorem dL_law_738 : decode cL_law 738 = .ok (.iadd, 1) := by decide +kernel
theorem dL_law_739 : decode cL_law 739 = .ok (.iaload, 1) := by decide +kernel
theorem dL_law_740 : decode cL_law 740 = .ok (.invokevirtual 77, 3) := by decide +kernel
theorem dL_law_743 : decode cL_law 743 = .ok (.aload_n 2, 1) := by decide +kernel
theorem dL_law_744 : decode cL_law 744 = .ok (.aload_n 0, 1) := by decide +kernel
theorem dL_law_745 : decode cL_law 745 = .ok (.iload_n 3, 1) := by decide +kernel
theorem dL_law_746 : decode cL_law 746 = .ok (.iconst 1, 1) := by decide +kernel
theorem dL_law_747 : decode cL_law 747 = .ok (.iadd, 1) := by decide +kernel
theorem dL_law_748 : decode cL_law 748 = .ok (.iaload, 1) := by decide +kernel
theorem dL_law_749 : decode cL_law 749 = .ok (.aload_n 0, 1) := by decide +kernel
theorem dL_law_750 : decode cL_law 750 = .ok (.iload_n 3, 1) := by decide +kernel
theorem dL_law_751 : decode cL_law 751 = .ok (.iconst 2, 1) := by decide +kernel
theorem dL_law_752 : decode cL_law 752 = .ok (.iadd, 1) := by decide +kernel
theorem dL_law_753 : decode cL_law 753 = .ok (.iaload, 1) := by decide +kernel
theorem dL_law_754 : decode cL_law 754 = .ok (.aload_n 0, 1) := by decide +kernel
theorem dL_law_755 : decode cL_law 755 = .ok (.iload_n 3, 1) := by decide +kernel
theorem dL_law_756 : decode cL_law 756 = .ok (.iconst 3, 1) := by decide +kernel
theorem dL_law_757 : decode cL_law 757 = .ok (.iadd, 1) := by decide +kernel
theorem dL_law_758 : decode cL_law 758 = .ok (.iaload, 1) := by decide +kernel
theorem dL_law_759 : decode cL_law 759 = .ok (.invokevirtual 81, 3) := by decide +kernel
theorem dL_law_762 : decode cL_law 762 = .ok (.if_icmp .eq 180, 3) := by decide +kernel
theorem dL_law_765 : decode cL_law 765 = .ok (.iconst 0, 1) := by decide +kernel
theorem dL_law_766 : decode cL_law 766 = .ok (.ireturn, 1) := by decide +kernel
theorem dL_law_767 : decode cL_law 767 = .ok (.aload_n 1, 1) := by decide +kernel
theorem dL_law_768 : decode cL_law 768 = .ok (.aload_n 0, 1) := by decide +kernel
theorem dL_law_769 : decode cL_law 769 = .ok (.iload_n 3, 1) := by decide +kernel
theorem dL_law_770 : decode cL_law 770 = .ok (.iconst 1, 1) := by decide +kernel
theorem dL_law_771 : decode cL_law 771 = .ok (.iadd, 1) := by decide +kernel
theorem dL_law_772 : decode cL_law 772 = .ok (.iaload, 1) := by decide +kernel
theorem dL_law_773 : decode cL_law 773 = .ok (.aload_n 0, 1) := by decide +kernel
theorem dL_law_774 : decode cL_law 774 = .ok (.iload_n 3, 1) := by decide +kernel
theorem dL_law_775 : decode cL_law 775 = .ok (.iconst 2, 1) := by decide +kernel
theorem dL_law_776 : decode cL_law 776 = .ok (.iadd, 1) := by decide +kernel
theorem dL_law_777 : decode cL_law 777 = .ok (.iaload, 1) := by decide +kernel
theorem dL_law_778 : decode cL_law 778 = .ok (.aload_n 0, 1) := by decide +kernel
theorem dL_law_779 : decode cL_law 779 = .ok (.iload_n 3, 1) := by decide +kernel
theorem dL_law_780 : decode cL_law 780 = .ok (.iconst 3, 1) := by decide +kernel
theorem dL_law_781 : decode cL_law 781 = .ok (.iadd, 1) := by decide +kernel
theorem dL_law_782 : decode cL_law 782 = .ok (.iaload, 1) := by decide +kernel
theorem dL_law_783 : decode cL_law 783 = .ok (.invokevirtual 82, 3) := by decide +kernel
theorem dL_law_786 : decode cL_law 786 = .ok (.aload_n 2, 1) := by decide +kernel
theorem dL_law_787 : decode cL_law 787 = .ok (.aload_n 0, 1) := by decide +kernel
theorem dL_law_788 : decode cL_law 788 = .ok (.iload_n 3, 1) := by decide +kernel
theorem dL_law_789 : decode cL_law 789 = .ok (.iconst 1, 1) := by decide +kernel
theorem dL_law_790 : decode cL_law 790 = .ok (.iadd, 1) := by decide +kernel
theorem dL_law_791 : decode cL_law 791 = .ok (.iaload, 1) := by decide +kernel
theorem dL_law_792 : decode cL_law 792 = .ok (.aload_n 0, 1) := by decide +kernel
theorem dL_law_793 : decode cL_law 793 = .ok (.iload_n 3, 1) := by decide +kernel
theorem dL_law_794 : decode cL_law 794 = .ok (.iconst 2, 1) := by decide +kernel
theorem dL_law_795 : decode cL_law 795 = .ok (.iadd, 1) := by decide +kernel
theorem dL_law_796 : decode cL_law 796 = .ok (.iaload, 1) := by decide +kernel
theorem dL_law_797 : decode cL_law 797 = .ok (.aload_n 0, 1) := by decide +kernel
theorem dL_law_798 : decode cL_law 798 = .ok (.iload_n 3, 1) := by decide +kernel
theorem dL_law_799 : decode cL_law 799 = .ok (.iconst 3, 1) := by decide +kernel
theorem dL_law_800 : decode cL_law 800 = .ok (.iadd, 1) := by decide +kernel
theorem dL_law_801 : decode cL_law 801 = .ok (.iaload, 1) := by decide +kernel
theorem dL_law_802 : decode cL_law 802 = .ok (.invokevirtual 85, 3) := by decide +kernel
theorem dL_law_805 : decode cL_law 805 = .ok (.if_icmp .eq 137, 3) := by decide +kernel
theorem dL_law_808 : decode cL_law 808 = .ok (.iconst 0, 1) := by decide +kernel
theorem dL_law_809 : decode cL_law 809 = .ok (.ireturn, 1) := by decide +kernel
theorem dL_law_810 : decode cL_law 810 = .ok (.aload_n 1, 1) := by decide +kernel
theorem dL_law_811 : decode cL_law 811 = .ok (.aload_n 0, 1) := by decide +kernel
theorem dL_law_812 : decode cL_law 812 = .ok (.iload_n 3, 1) := by decide +kernel
theorem dL_law_813 : decode cL_law 813 = .ok (.iconst 1, 1) := by decide +kernel
theorem dL_law_814 : decode cL_law 814 = .ok (.iadd, 1) := by decide +kernel
theorem dL_law_815 : decode cL_law 815 = .ok (.iaload, 1) := by decide +kernel
theorem dL_law_816 : decode cL_law 816 = .ok (.aload_n 0, 1) := by decide +kernel
theorem dL_law_817 : decode cL_law 817 = .ok (.iload_n 3, 1) := by decide +kernel
theorem dL_law_818 : decode cL_law 818 = .ok (.iconst 2, 1) := by decide +kernel
theorem dL_law_819 : decode cL_law 819 = .ok (.iadd, 1) := by decide +kernel
theorem dL_law_820 : decode cL_law 820 = .ok (.iaload, 1) := by decide +kernel
theorem dL_law_821 : decode cL_law 821 = .ok (.aload_n 0, 1) := by decide +kernel
theorem dL_law_822 : decode cL_law 822 = .ok (.iload_n 3, 1) := by decide +kernel
theorem dL_law_823 : decode cL_law 823 = .ok (.iconst 3, 1) := by decide +kernel
theorem dL_law_824 : decode cL_law 824 = .ok (.iadd, 1) := by decide +kernel
theorem dL_law_825 : decode cL_law 825 = .ok (.iaload, 1) := by decide +kernel
theorem dL_law_826 : decode cL_law 826 = .ok (.aload_n 0, 1) := by decide +kernel
theorem dL_law_827 : decode cL_law 827 = .ok (.iload_n 3, 1) := by decide +kernel
theorem dL_law_828 : decode cL_law 828 = .ok (.iconst 4, 1) := by decide +kernel
theorem dL_law_829 : decode cL_law 829 = .ok (.iadd, 1) := by decide +kernel
theorem dL_law_830 : decode cL_law 830 = .ok (.iaload, 1) := by decide +kernel
theorem dL_law_831 : decode cL_law 831 = .ok (.aload_n 0, 1) := by decide +kernel
theorem dL_law_832 : decode cL_law 832 = .ok (.iload_n 3, 1) := by decide +kernel
theorem dL_law_833 : decode cL_law 833 = .ok (.iconst 5, 1) := by decide +kernel
theorem dL_law_834 : decode cL_law 834 = .ok (.iadd, 1) := by decide +kernel
theorem dL_law_835 : decode cL_law 835 = .ok (.iaload, 1) := by decide +kernel
theorem dL_law_836 : decode cL_law 836 = .ok (.invokevirtual 86, 3) := by decide +kernel
theorem dL_law_839 : decode cL_law 839 = .ok (.aload_n 2, 1) := by decide +kernel
theorem dL_law_840 : decode cL_law 840 = .ok (.aload_n 0, 1) := by decide +kernel
theorem dL_law_841 : decode cL_law 841 = .ok (.iload_n 3, 1) := by decide +kernel
theorem dL_law_842 : decode cL_law 842 = .ok (.iconst 1, 1) := by decide +kernel
theorem dL_law_843 : decode cL_law 843 = .ok (.iadd, 1) := by decide +kernel
theorem dL_law_844 : decode cL_law 844 = .ok (.iaload, 1) := by decide +kernel
theorem dL_law_845 : decode cL_law 845 = .ok (.aload_n 0, 1) := by decide +kernel
theorem dL_law_846 : decode cL_law 846 = .ok (.iload_n 3, 1) := by decide +kernel
theorem dL_law_847 : decode cL_law 847 = .ok (.iconst 2, 1) := by decide +kernel
theorem dL_law_848 : decode cL_law 848 = .ok (.iadd, 1) := by decide +kernel
theorem dL_law_849 : decode cL_law 849 = .ok (.iaload, 1) := by decide +kernel
theorem dL_law_850 : decode cL_law 850 = .ok (.aload_n 0, 1) := by decide +kernel
theorem dL_law_851 : decode cL_law 851 = .ok (.iload_n 3, 1) := by decide +kernel
theorem dL_law_852 : decode cL_law 852 = .ok (.iconst 3, 1) := by decide +kernel
theorem dL_law_853 : decode cL_law 853 = .ok (.iadd, 1) := by decide +kernel
theorem dL_law_854 : decode cL_law 854 = .ok (.iaload, 1) := by decide +kernel
theorem dL_law_855 : decode cL_law 855 = .ok (.aload_n 0, 1) := by decide +kernel
theorem dL_law_856 : decode cL_law 856 = .ok (.iload_n 3, 1) := by decide +kernel
theorem dL_law_857 : decode cL_law 857 = .ok (.iconst 4, 1) := by decide +kernel
theorem dL_law_858 : decode cL_law 858 = .ok (.iadd, 1) := by decide +kernel
theorem dL_law_859 : decode cL_law 859 = .ok (.iaload, 1) := by decide +kernel
theorem dL_law_860 : decode cL_law 860 = .ok (.aload_n 0, 1) := by decide +kernel
theorem dL_law_861 : decode cL_law 861 = .ok (.iload_n 3, 1) := by decide +kernel
theorem dL_law_862 : decode cL_law 862 = .ok (.iconst 5, 1) := by decide +kernel
theorem dL_law_863 : decode cL_law 863 = .ok (.iadd, 1) := by decide +kernel
theorem dL_law_864 : decode cL_law 864 = .ok (.iaload, 1) := by decide +kernel
theorem dL_law_865 : decode cL_law 865 = .ok (.invokevirtual 89, 3) := by decide +kernel
theorem dL_law_868 : decode cL_law 868 = .ok (.if_icmp .eq 74, 3) := by decide +kernel
theorem dL_law_871 : decode cL_law 871 = .ok (.iconst 0, 1) := by decide +kernel
theorem dL_law_872 : decode cL_law 872 = .ok (.ireturn, 1) := by decide +kernel
theorem dL_law_873 : decode cL_law 873 = .ok (.aload_n 1, 1) := by decide +kernel
theorem dL_law_874 : decode cL_law 874 = .ok (.invokevirtual 90, 3) := by decide +kernel
theorem dL_law_877 : decode cL_law 877 = .ok (.aload_n 2, 1) := by decide +kernel
theorem dL_law_878 : decode cL_law 878 = .ok (.invokevirtual 93, 3) := by decide +kernel
theorem dL_law_881 : decode cL_law 881 = .ok (.if_icmp .eq 61, 3) := by decide +kernel
theorem dL_law_884 : decode cL_law 884 = .ok (.iconst 0, 1) := by decide +kernel
theorem dL_law_885 : decode cL_law 885 = .ok (.ireturn, 1) := by decide +kernel
theorem dL_law_886 : decode cL_law 886 = .ok (.aload_n 1, 1) := by decide +kernel
theorem dL_law_887 : decode cL_law 887 = .ok (.aload_n 0, 1) := by decide +kernel
theorem dL_law_888 : decode cL_law 888 = .ok (.iload_n 3, 1) := by decide +kernel
theorem dL_law_889 : decode cL_law 889 = .ok (.iconst 1, 1) := by decide +kernel
theorem dL_law_890 : decode cL_law 890 = .ok (.iadd, 1) := by decide +kernel
theorem dL_law_891 : decode cL_law 891 = .ok (.iaload, 1) := by decide +kernel
theorem dL_law_892 : decode cL_law 892 = .ok (.invokevirtual 94, 3) := by decide +kernel
theorem dL_law_895 : decode cL_law 895 = .ok (.aload_n 2, 1) := by decide +kernel
theorem dL_law_896 : decode cL_law 896 = .ok (.aload_n 0, 1) := by decide +kernel
theorem dL_law_897 : decode cL_law 897 = .ok (.iload_n 3, 1) := by decide +kernel
theorem dL_law_898 : decode cL_law 898 = .ok (.iconst 1, 1) := by decide +kernel
theorem dL_law_899 : decode cL_law 899 = .ok (.iadd, 1) := by decide +kernel
theorem dL_law_900 : decode cL_law 900 = .ok (.iaload, 1) := by decide +kernel
theorem dL_law_901 : decode cL_law 901 = .ok (.invokevirtual 97, 3) := by decide +kernel
theorem dL_law_904 : decode cL_law 904 = .ok (.if_icmp .eq 38, 3) := by decide +kernel
theorem dL_law_907 : decode cL_law 907 = .ok (.iconst 0, 1) := by decide +kernel
theorem dL_law_908 : decode cL_law 908 = .ok (.ireturn, 1) := by decide +kernel
theorem dL_law_909 : decode cL_law 909 = .ok (.aload_n 1, 1) := by decide +kernel
theorem dL_law_910 : decode cL_law 910 = .ok (.aload_n 0, 1) := by decide +kernel
theorem dL_law_911 : decode cL_law 911 = .ok (.iload_n 3, 1) := by decide +kernel
theorem dL_law_912 : decode cL_law 912 = .ok (.iconst 1, 1) := by decide +kernel
theorem dL_law_913 : decode cL_law 913 = .ok (.iadd, 1) := by decide +kernel
theorem dL_law_914 : decode cL_law 914 = .ok (.iaload, 1) := by decide +kernel
theorem dL_law_915 : decode cL_law 915 = .ok (.aload_n 0, 1) := by decide +kernel
theorem dL_law_916 : decode cL_law 916 = .ok (.iload_n 3, 1) := by decide +kernel
theorem dL_law_917 : decode cL_law 917 = .ok (.iconst 2, 1) := by decide +kernel
theorem dL_law_918 : decode cL_law 918 = .ok (.iadd, 1) := by decide +kernel
theorem dL_law_919 : decode cL_law 919 = .ok (.iaload, 1) := by decide +kernel
theorem dL_law_920 : decode cL_law 920 = .ok (.invokevirtual 98, 3) := by decide +kernel
theorem dL_law_923 : decode cL_law 923 = .ok (.aload_n 2, 1) := by decide +kernel
theorem dL_law_924 : decode cL_law 924 = .ok (.aload_n 0, 1) := by decide +kernel
theorem dL_law_925 : decode cL_law 925 = .ok (.iload_n 3, 1) := by decide +kernel
theorem dL_law_926 : decode cL_law 926 = .ok (.iconst 1, 1) := by decide +kernel
theorem dL_law_927 : decode cL_law 927 = .ok (.iadd, 1) := by decide +kernel
theorem dL_law_928 : decode cL_law 928 = .ok (.iaload, 1) := by decide +kernel
theorem dL_law_929 : decode cL_law 929 = .ok (.aload_n 0, 1) := by decide +kernel
theorem dL_law_930 : decode cL_law 930 = .ok (.iload_n 3, 1) := by decide +kernel
theorem dL_law_931 : decode cL_law 931 = .ok (.iconst 2, 1) := by decide +kernel
theorem dL_law_932 : decode cL_law 932 = .ok (.iadd, 1) := by decide +kernel
theorem dL_law_933 : decode cL_law 933 = .ok (.iaload, 1) := by decide +kernel
theorem dL_law_934 : decode cL_law 934 = .ok (.invokevirtual 101, 3) := by decide +kernel
theorem dL_law_937 : decode cL_law 937 = .ok (.if_icmp .eq 5, 3) := by decide +kernel
theorem dL_law_940 : decode cL_law 940 = .ok (.iconst 0, 1) := by decide +kernel
theorem dL_law_941 : decode cL_law 941 = .ok (.ireturn, 1) := by decide +kernel
theorem dL_law_942 : decode cL_law 942 = .ok (.iinc 3 7, 3) := by decide +kernel
theorem dL_law_945 : decode cL_law 945 = .ok (.goto (-927), 3) := by decide +kernel
theorem dL_law_948 : decode cL_law 948 = .ok (.iconst 1, 1) := by decide +kernel
theorem dL_law_949 : decode cL_law 949 = .ok (.ireturn, 1) := by decide +kernel
end
section
/-! LAYER: what all contracts share: one list of words (wsL_law), one knowledge of the tables (KK), contracts over the heap alone -/
def bI (b : Bool) : Int32 := if b then 1 else 0
theorem bI_t : bI true = 1 := rfl
theorem bI_f : bI false = 0 := rfl
theorem bI_nar (b : Bool) : narrow .boolean (.int (bI b)) = .int (bI b) := by cases b <;> rfl
theorem bI_or (b : Bool) : bI b = 0 ∨ bI b = 1 := by cases b <;> simp [bI]
def nwL : List Cond := [.methodLinkNest RX4 21 yX3_init "TrialBook", .methodLinkNest RX2 11 yX1_init "TrialBook", .methodLinkNest RX2 95 yX4_settingOf "TrialBook", .methodLinkNest RX2 75 yX4_remainder "TrialBook", .methodLinkNest RX1 29 yX4_isIn "TrialBook", .methodLinkNest RX2 140 yX4_isIn "TrialBook"]
theorem nwL_of {P : Cond → Prop} (h : ∀ a i x b, P (.methodLinkNest a i x b)) : ∀ w ∈ nwL, P w := by
  intro w hw
  simp only [nwL, List.mem_cons, List.not_mem_nil, or_false] at hw
  rcases hw with rfl | rfl | rfl | rfl | rfl | rfl <;> exact h _ _ _ _
abbrev GG : Type := va_G × ClassId × ClassId × ClassId × ClassId
abbrev tyG (g : GG) : List (ClassId × FieldType) := [(g.2.1, .int), (g.2.2.1, .boolean), (g.2.2.2.1, .object "TrialBook$Code"), (g.2.2.2.2, .object "TrialBook$Run")]
abbrev aI (g : GG) (n : Nat) (f : Nat → Int32) : va_E := .inl (g.2.1, n, .inl f)
abbrev aZ (g : GG) (n : Nat) (f : Nat → Int32) : va_E := .inl (g.2.2.1, n, .inl f)
abbrev aC (g : GG) (n : Nat) (f : Nat → Option Nat) : va_E := .inl (g.2.2.2.1, n, .inr (.inr (.inr (.inr f))))
abbrev aR (g : GG) (n : Nat) (f : Nat → Option Nat) : va_E := .inl (g.2.2.2.2, n, .inr (.inr (.inr (.inr f))))
def KK (g : GG) (U : State) : Prop := va_K g.1 vwCl (tyG g) U ∧ ∀ w ∈ nwL, va_Nw w U
theorem KK.warm {g : GG} {s U : State} (hW : s.WarmedH U.vm) (h : KK g s) : KK g U :=
  ⟨va_K.moved hW.alike h.1, fun w hw => nwL_of (P := fun w => va_Nw w s → va_Nw w U) (fun _ _ _ _ q => va_Nw.warmM hW q) w hw (h.2 w hw)⟩
theorem KK.call {g : GG} {U : State} {fr : JFrame} {mk : MethodId} {a : Array Value} (h : KK g U) : KK g (U.calling fr mk a) :=
  ⟨va_K.moved (u := U) (U := U.calling fr mk a) (Vm.Alike.refl U.vm) h.1, fun w hw => nwL_of (P := fun w => va_Nw w U → va_Nw w (U.calling fr mk a)) (fun _ _ _ _ q => va_Nw.same rfl rfl q) w hw (h.2 w hw)⟩
/-- a contract's start: these arguments, the heap so, the tables known -/
def mP (g : GG) (av : List Value) (P : Heap → Prop) : Array Value → State → Prop := fun v U => v = av.toArray ∧ P U.heap ∧ KK g U
theorem mP_blind {g : GG} {av : List Value} {P : Heap → Prop} : FrameBlind (mP g av P) := fun _ _ _ _ q => ⟨q.1, q.2.1, q.2.2.call⟩
/-- a contract's end: its answer and its heap, and what it may change -/
def mQ (A : Nat → Prop) (X : Option Value → Heap → Prop) : Array Value → State → Outcome → State → Prop := fun _ st o t => (∃ v, o = .returned v ∧ X v t.heap) ∧ va_F A st t
theorem gSelf : GoodIn wsL_law wsL_law := goodIn_sub (fun _ h => h) (by decide +kernel)
/-- what holds in a method's body from its entry to its end -/
def Cx (p : Program) (m : MethodId) (c : Code) (cc : ByteArray) (nL : Nat) (s : State) (args : Array Value) (own : String) (g : GG) : Prop := CallFix p m c cc nL s args wsL_law own ∧ KK g s
theorem mMet {l : Launch} {y : MethodName} {cc : ByteArray} {maxL : Nat} {ret : Option FieldType} {rm : Room} {g : GG} {av : List Value} {P : Heap → Prop} {Qc : Array Value → State → Outcome → State → Prop} {mc ms : Nat} {free : Addr → Prop}
    (hy : plainName y.cls = true) (hav : (lg_sl av).length ≤ maxL)
    (body : ∀ (p : Program) (e : Env) (s : State) (m : MethodId) (below : List Frame) (meth : Method) (c : Code), Cx p m c cc maxL s av.toArray y.cls g → meth.sig.returnType = ret → meth.locks = false → meth.name = y.name → P s.heap → ∀ ls : Array Slot, lv_has ls maxL (lv_args 0 av) →
      W p l e rm s m av.toArray below meth c s.heap [] 0 0 (MQ below Qc av.toArray s mc ms free) (F0 m 0 ls [])) : Met l y (.code y cc maxL ret :: wsL_law) rm (mP g av P) Qc mc ms free := by
  refine Met.ofW (cc := cc) (maxL := maxL) (ret := ret) hy rfl ?_
  intro p e s m args below meth c s₁ B hml hv
  obtain ⟨rfl, hP, hK⟩ := hv
  have hts := atoms_spec (ws := .code y cc maxL ret :: wsL_law) B.pre
  have hown : s.vm.findClass y.cls = some m.cls := findClass_of_methodNamed B.named
  rw [lg_entry_eq]
  exact body p e s m below meth c ⟨⟨B.exec, B.bytes, hml, hown, fun w h => hts w (List.mem_cons_of_mem _ h)⟩, hK⟩ B.returns B.notSynchronized (name_of_methodNamed B.named B.method).1 hP _ (lv_entry av hav)
/-- a call of an instance method, by its link in class own -/
def VOK (own : String) (idx : Nat) (y : MethodName) (b : ByteArray) (maxL : Nat) (ret : Option FieldType) (n : Nat) : Prop :=
  GoodIn wsL_law (wsV own idx y.cls y (.code y b maxL ret :: wsL_law)) ∧ y.cls ≠ "java/lang/invoke/MethodHandle" ∧ y.cls ≠ "java/lang/invoke/VarHandle" ∧ (parseMethodDescriptor y.desc).map (fun d => d.parameters.length) = some n
theorem VOK.of {own : String} {idx : Nat} {y : MethodName} {b : ByteArray} {maxL : Nat} {ret : Option FieldType} {n : Nat} (h1 : Cond.methodLink own idx y ∈ wsL_law) (h2 : Cond.instanceMethod y ∈ wsL_law) (h3 : Cond.selects y.cls y y ∈ wsL_law) (h4 : Cond.initialized y.cls ∈ wsL_law) (h5 : Cond.code y b maxL ret ∈ wsL_law)
    (h6 : y.cls ≠ "java/lang/invoke/MethodHandle" ∧ y.cls ≠ "java/lang/invoke/VarHandle" ∧ (parseMethodDescriptor y.desc).map (fun d => d.parameters.length) = some n) : VOK own idx y b maxL ret n := by
  refine ⟨fun w hw => ?_, h6⟩
  unfold wsV at hw
  rcases List.mem_append.mp hw with h | h
  · simp only [List.mem_cons, List.not_mem_nil, or_false] at h
    rcases h with rfl | rfl | rfl | rfl
    · exact gSelf _ h1
    · exact gSelf _ h2
    · exact gSelf _ h3
    · exact gSelf _ h4
  · rcases List.mem_cons.mp h with rfl | h
    · exact gSelf _ h5
    · exact gSelf _ h
def SOK (own : String) (idx : Nat) (y : MethodName) (b : ByteArray) (maxL : Nat) (ret : Option FieldType) (n : Nat) : Prop :=
  GoodIn wsL_law (va_wsS own idx y (.code y b maxL ret :: wsL_law)) ∧ y.cls ≠ "java/lang/invoke/MethodHandle" ∧ y.cls ≠ "java/lang/invoke/VarHandle" ∧ (parseMethodDescriptor y.desc).map (fun d => d.parameters.length) = some n
theorem SOK.of {own : String} {idx : Nat} {y : MethodName} {b : ByteArray} {maxL : Nat} {ret : Option FieldType} {n : Nat} (h1 : Cond.methodLink own idx y ∈ wsL_law) (h2 : Cond.static y ∈ wsL_law) (h4 : Cond.initialized y.cls ∈ wsL_law) (h5 : Cond.code y b maxL ret ∈ wsL_law)
    (h6 : y.cls ≠ "java/lang/invoke/MethodHandle" ∧ y.cls ≠ "java/lang/invoke/VarHandle" ∧ (parseMethodDescriptor y.desc).map (fun d => d.parameters.length) = some n) : SOK own idx y b maxL ret n := by
  refine ⟨fun w hw => ?_, h6⟩
  unfold va_wsS at hw
  rcases List.mem_append.mp hw with h | h
  · simp only [List.mem_cons, List.not_mem_nil, or_false] at h
    rcases h with rfl | rfl | rfl
    · exact gSelf _ h1
    · exact gSelf _ h2
    · exact gSelf _ h4
  · rcases List.mem_cons.mp h with rfl | h
    · exact gSelf _ h5
    · exact gSelf _ h
/-- a call of a nest mate's private static method or constructor -/
def NOK (own : String) (idx : Nat) (y : MethodName) (b : ByteArray) (maxL : Nat) (ret : Option FieldType) (n : Nat) : Prop :=
  Cond.methodLinkNest own idx y "TrialBook" ∈ nwL ∧ Cond.initialized y.cls ∈ wsL_law ∧ Cond.code y b maxL ret ∈ wsL_law ∧ y.cls ≠ "java/lang/invoke/MethodHandle" ∧ y.cls ≠ "java/lang/invoke/VarHandle" ∧ (parseMethodDescriptor y.desc).map (fun d => d.parameters.length) = some n
theorem NOK.good {own : String} {idx : Nat} {y : MethodName} {b : ByteArray} {maxL : Nat} {ret : Option FieldType} {n : Nat} (h : NOK own idx y b maxL ret n) : GoodIn wsL_law (.code y b maxL ret :: wsL_law) := by
  intro w hw
  rcases List.mem_cons.mp hw with rfl | hw
  · exact gSelf _ h.2.2.1
  · exact gSelf _ hw
section LY
variable {p : Program} {l : Launch} {e : Env} {R : Room} {s : State} {m : MethodId} {args : Array Value} {below : List Frame} {meth : Method} {c : Code} {H : Heap} {locs : List Loc} {cells slots : Nat} {Q : State → Prop}
variable {cc : ByteArray} {nL pc : Nat} {ls : Array Slot} {rest st0 : List Value} {g : GG} {own : String}
theorem w_topi {x y : Int32} (h : x = y) (k : W p l e R s m args below meth c H locs cells slots Q (F0 m pc ls (.int y :: rest))) : W p l e R s m args below meth c H locs cells slots Q (F0 m pc ls (.int x :: rest)) := by rw [h]; exact k
theorem w_topl {x y : Int64} (h : x = y) (k : W p l e R s m args below meth c H locs cells slots Q (F0 m pc ls (.long y :: rest))) : W p l e R s m args below meth c H locs cells slots Q (F0 m pc ls (.long x :: rest)) := by rw [h]; exact k
theorem n_iadd (C : Cx p m c cc nL s args own g) {a b : Nat} (hdg : decode cc pc = .ok (.iadd, 1)) (k : W p l e R s m args below meth c H locs cells slots Q (F0 m (pc + 1) ls (.int (nI (a + b)) :: rest))) : W p l e R s m args below meth c H locs cells slots Q (F0 m pc ls (.int (nI b) :: .int (nI a) :: rest)) :=
  lv_iadd C.1.1 C.1.2.1 hdg (by rw [nI_add]; exact k)
theorem n_imul (C : Cx p m c cc nL s args own g) {a b : Nat} (hdg : decode cc pc = .ok (.imul, 1)) (k : W p l e R s m args below meth c H locs cells slots Q (F0 m (pc + 1) ls (.int (nI (a * b)) :: rest))) : W p l e R s m args below meth c H locs cells slots Q (F0 m pc ls (.int (nI b) :: .int (nI a) :: rest)) :=
  lv_imul C.1.1 C.1.2.1 hdg (by rw [pk_mul]; exact k)
theorem n_isub (C : Cx p m c cc nL s args own g) {a b : Nat} (h : b ≤ a) (hdg : decode cc pc = .ok (.isub, 1)) (k : W p l e R s m args below meth c H locs cells slots Q (F0 m (pc + 1) ls (.int (nI (a - b)) :: rest))) : W p l e R s m args below meth c H locs cells slots Q (F0 m pc ls (.int (nI b) :: .int (nI a) :: rest)) :=
  lv_isub C.1.1 C.1.2.1 hdg (by rw [pk_sub h]; exact k)
theorem n_irem (C : Cx p m c cc nL s args own g) {a b : Nat} (ha : a < 2 ^ 31) (h0 : 0 < b) (hb : b < 2 ^ 31) (hdg : decode cc pc = .ok (.irem, 1)) (k : W p l e R s m args below meth c H locs cells slots Q (F0 m (pc + 1) ls (.int (nI (a % b)) :: rest))) : W p l e R s m args below meth c H locs cells slots Q (F0 m pc ls (.int (nI b) :: .int (nI a) :: rest)) :=
  lv_irem C.1.1 C.1.2.1 hdg (nI_ne0 h0 hb) (by rw [pk_rem ha h0 hb]; exact k)
theorem n_idiv (C : Cx p m c cc nL s args own g) {a b : Nat} (ha : a < 2 ^ 31) (h0 : 0 < b) (hb : b < 2 ^ 31) (hdg : decode cc pc = .ok (.idiv, 1)) (k : W p l e R s m args below meth c H locs cells slots Q (F0 m (pc + 1) ls (.int (nI (a / b)) :: rest))) : W p l e R s m args below meth c H locs cells slots Q (F0 m pc ls (.int (nI b) :: .int (nI a) :: rest)) :=
  lv_idiv C.1.1 C.1.2.1 hdg (nI_ne0 h0 hb) (by rw [pk_div ha h0 hb]; exact k)
theorem n_iinc (C : Cx p m c cc nL s args own g) {i k d : Nat} {x : Nat} {n : Int} {lv lv' : List (Nat × Value)} (hdg : decode cc pc = .ok (.iinc i n, 3)) (hd : Int32.ofInt n = nI d) (h : lv_has ls nL lv) (hk : lv[k]? = some (i, .int (nI x))) (hn : i < nL) (hl : (i, Value.int (nI (x + d))) :: lv.filter (fun q => !(q.1 == i) && !(q.1 + 1 == i && q.2.category == 2)) = lv')
    (kk : ∀ ls' : Array Slot, lv_has ls' nL lv' → W p l e R s m args below meth c H locs cells slots Q (F0 m (pc + 3) ls' rest)) : W p l e R s m args below meth c H locs cells slots Q (F0 m pc ls rest) :=
  lv_iinc C.1.1 C.1.2.1 hdg h hk (by rw [hd, nI_add]) hn hl kk
theorem n_icmp_ge (C : Cx p m c cc nL s args own g) {a b : Nat} {off : Int} {tgt : Nat} (ha : a < 2 ^ 31) (hb : b < 2 ^ 31) (hdg : decode cc pc = .ok (.if_icmp .ge off, 3)) (ht : (pc : Int) + off = (tgt : Int)) (kt : b ≤ a → W p l e R s m args below meth c H locs cells slots Q (F0 m tgt ls rest)) (kf : a < b → W p l e R s m args below meth c H locs cells slots Q (F0 m (pc + 3) ls rest)) : W p l e R s m args below meth c H locs cells slots Q (F0 m pc ls (.int (nI b) :: .int (nI a) :: rest)) :=
  lv_icmp_ge C.1.1 C.1.2.1 hdg ht (fun h => kt ((nI_leI hb ha).mp h)) (fun h => kf (Nat.not_le.mp fun q => h ((nI_leI hb ha).mpr q)))
theorem n_icmp_lt (C : Cx p m c cc nL s args own g) {a b : Nat} {off : Int} {tgt : Nat} (ha : a < 2 ^ 31) (hb : b < 2 ^ 31) (hdg : decode cc pc = .ok (.if_icmp .lt off, 3)) (ht : (pc : Int) + off = (tgt : Int)) (kt : a < b → W p l e R s m args below meth c H locs cells slots Q (F0 m tgt ls rest)) (kf : b ≤ a → W p l e R s m args below meth c H locs cells slots Q (F0 m (pc + 3) ls rest)) : W p l e R s m args below meth c H locs cells slots Q (F0 m pc ls (.int (nI b) :: .int (nI a) :: rest)) :=
  lv_icmp_lt C.1.1 C.1.2.1 hdg ht (fun h => kt ((nI_ltI ha hb).mp h)) (fun h => kf (Nat.not_lt.mp fun q => h ((nI_ltI ha hb).mpr q)))
theorem n_icmp_gt (C : Cx p m c cc nL s args own g) {a b : Nat} {off : Int} {tgt : Nat} (ha : a < 2 ^ 31) (hb : b < 2 ^ 31) (hdg : decode cc pc = .ok (.if_icmp .gt off, 3)) (ht : (pc : Int) + off = (tgt : Int)) (kt : b < a → W p l e R s m args below meth c H locs cells slots Q (F0 m tgt ls rest)) (kf : a ≤ b → W p l e R s m args below meth c H locs cells slots Q (F0 m (pc + 3) ls rest)) : W p l e R s m args below meth c H locs cells slots Q (F0 m pc ls (.int (nI b) :: .int (nI a) :: rest)) :=
  lv_icmp_gt C.1.1 C.1.2.1 hdg ht (fun h => kt ((nI_ltI hb ha).mp h)) (fun h => kf (Nat.not_lt.mp fun q => h ((nI_ltI hb ha).mpr q)))
theorem n_icmp_le (C : Cx p m c cc nL s args own g) {a b : Nat} {off : Int} {tgt : Nat} (ha : a < 2 ^ 31) (hb : b < 2 ^ 31) (hdg : decode cc pc = .ok (.if_icmp .le off, 3)) (ht : (pc : Int) + off = (tgt : Int)) (kt : a ≤ b → W p l e R s m args below meth c H locs cells slots Q (F0 m tgt ls rest)) (kf : b < a → W p l e R s m args below meth c H locs cells slots Q (F0 m (pc + 3) ls rest)) : W p l e R s m args below meth c H locs cells slots Q (F0 m pc ls (.int (nI b) :: .int (nI a) :: rest)) :=
  lv_icmp_le C.1.1 C.1.2.1 hdg ht (fun h => kt ((nI_leI ha hb).mp h)) (fun h => kf (Nat.not_le.mp fun q => h ((nI_leI ha hb).mpr q)))
theorem n_icmp_eq (C : Cx p m c cc nL s args own g) {a b : Nat} {off : Int} {tgt : Nat} (ha : a < 2 ^ 31) (hb : b < 2 ^ 31) (hdg : decode cc pc = .ok (.if_icmp .eq off, 3)) (ht : (pc : Int) + off = (tgt : Int)) (kt : a = b → W p l e R s m args below meth c H locs cells slots Q (F0 m tgt ls rest)) (kf : ¬ a = b → W p l e R s m args below meth c H locs cells slots Q (F0 m (pc + 3) ls rest)) : W p l e R s m args below meth c H locs cells slots Q (F0 m pc ls (.int (nI b) :: .int (nI a) :: rest)) :=
  lv_icmp_eq C.1.1 C.1.2.1 hdg ht (fun h => kt ((nI_eq ha hb).mp h)) (fun h => kf (fun q => h ((nI_eq ha hb).mpr q)))
theorem n_icmp_ne (C : Cx p m c cc nL s args own g) {a b : Nat} {off : Int} {tgt : Nat} (ha : a < 2 ^ 31) (hb : b < 2 ^ 31) (hdg : decode cc pc = .ok (.if_icmp .ne off, 3)) (ht : (pc : Int) + off = (tgt : Int)) (kt : ¬ a = b → W p l e R s m args below meth c H locs cells slots Q (F0 m tgt ls rest)) (kf : a = b → W p l e R s m args below meth c H locs cells slots Q (F0 m (pc + 3) ls rest)) : W p l e R s m args below meth c H locs cells slots Q (F0 m pc ls (.int (nI b) :: .int (nI a) :: rest)) :=
  lv_icmp_ne C.1.1 C.1.2.1 hdg ht (fun h => kt (fun q => h ((nI_eq ha hb).mpr q))) (fun h => kf ((nI_eq ha hb).mp h))
theorem b_ifeq (C : Cx p m c cc nL s args own g) {b : Bool} {off : Int} {tgt : Nat} (hdg : decode cc pc = .ok (.ifCond .eq off, 3)) (ht : (pc : Int) + off = (tgt : Int)) (kt : b = false → W p l e R s m args below meth c H locs cells slots Q (F0 m tgt ls rest)) (kf : b = true → W p l e R s m args below meth c H locs cells slots Q (F0 m (pc + 3) ls rest)) : W p l e R s m args below meth c H locs cells slots Q (F0 m pc ls (.int (bI b) :: rest)) :=
  lv_if_eq C.1.1 C.1.2.1 hdg ht (fun h => kt (by cases b <;> simp_all [bI])) (fun h => kf (by cases b <;> simp_all [bI]))
theorem b_ifne (C : Cx p m c cc nL s args own g) {b : Bool} {off : Int} {tgt : Nat} (hdg : decode cc pc = .ok (.ifCond .ne off, 3)) (ht : (pc : Int) + off = (tgt : Int)) (kt : b = true → W p l e R s m args below meth c H locs cells slots Q (F0 m tgt ls rest)) (kf : b = false → W p l e R s m args below meth c H locs cells slots Q (F0 m (pc + 3) ls rest)) : W p l e R s m args below meth c H locs cells slots Q (F0 m pc ls (.int (bI b) :: rest)) :=
  lv_if_ne C.1.1 C.1.2.1 hdg ht (fun h => kt (by cases b <;> simp_all [bI])) (fun h => kf (by cases b <;> simp_all [bI]))
theorem n_iald (C : Cx p m c cc nL s args own g) {ws : va_W} (hP : va_P g.1 vwCl ws H) (q0 : Nat) {a n j : Nat} {f : Nat → Int32} (ha : ws[q0]? = some (a, aI g n f)) (hj : j < n) (hn : n < 2 ^ 31) (hdg : decode cc pc = .ok (.iaload, 1)) (kk : W p l e R s m args below meth c H locs cells slots Q (F0 m (pc + 1) ls (.int (f j) :: rest))) : W p l e R s m args below meth c H locs cells slots Q (F0 m pc ls (.int (nI j) :: .ref a :: rest)) :=
  va_iald C.1.1 C.1.2.1 C.2.1 hP q0 0 ha rfl (vp_in_nI hj hn) hdg (by rw [nI_clamp (Nat.lt_trans hj hn)]; exact kk)
theorem n_zald (C : Cx p m c cc nL s args own g) {ws : va_W} (hP : va_P g.1 vwCl ws H) (q0 : Nat) {a n j : Nat} {f : Nat → Int32} (ha : ws[q0]? = some (a, aZ g n f)) (hj : j < n) (hn : n < 2 ^ 31) (hdg : decode cc pc = .ok (.baload, 1)) (kk : W p l e R s m args below meth c H locs cells slots Q (F0 m (pc + 1) ls (.int (f j) :: rest))) : W p l e R s m args below meth c H locs cells slots Q (F0 m pc ls (.int (nI j) :: .ref a :: rest)) :=
  va_zald C.1.1 C.1.2.1 C.2.1 hP q0 1 ha rfl (vp_in_nI hj hn) hdg (by rw [nI_clamp (Nat.lt_trans hj hn)]; exact kk)
theorem n_cald (C : Cx p m c cc nL s args own g) {ws : va_W} (hP : va_P g.1 vwCl ws H) (q0 : Nat) {a n j : Nat} {f : Nat → Option Nat} (ha : ws[q0]? = some (a, aC g n f)) (hj : j < n) (hn : n < 2 ^ 31) (hdg : decode cc pc = .ok (.aaload, 1)) (kk : W p l e R s m args below meth c H locs cells slots Q (F0 m (pc + 1) ls (va_rf (f j) :: rest))) : W p l e R s m args below meth c H locs cells slots Q (F0 m pc ls (.int (nI j) :: .ref a :: rest)) :=
  va_aldq C.1.1 C.1.2.1 C.2.1 hP q0 2 ha rfl (vp_in_nI hj hn) hdg (by rw [nI_clamp (Nat.lt_trans hj hn)]; exact kk)
theorem n_rald (C : Cx p m c cc nL s args own g) {ws : va_W} (hP : va_P g.1 vwCl ws H) (q0 : Nat) {a n j : Nat} {f : Nat → Option Nat} (ha : ws[q0]? = some (a, aR g n f)) (hj : j < n) (hn : n < 2 ^ 31) (hdg : decode cc pc = .ok (.aaload, 1)) (kk : W p l e R s m args below meth c H locs cells slots Q (F0 m (pc + 1) ls (va_rf (f j) :: rest))) : W p l e R s m args below meth c H locs cells slots Q (F0 m pc ls (.int (nI j) :: .ref a :: rest)) :=
  va_aldq C.1.1 C.1.2.1 C.2.1 hP q0 3 ha rfl (vp_in_nI hj hn) hdg (by rw [nI_clamp (Nat.lt_trans hj hn)]; exact kk)
/-- a field of class ci, number k, by its link in class own -/
def FF (own : String) (idx ci k : Nat) : Prop := ∃ q : vw_C, vwCl[ci]? = some q ∧ k < q.2.2 ∧ (∀ w ∈ u_ws q.1 q.2.1 q.2.2, w ∈ wsL_law) ∧ Cond.fieldLink own idx (q.2.1 k).1 (q.2.1 k).2.1 (q.2.1 k).2.2.1 ∈ wsL_law
/-- .. that may be written: its type -/
def FP (own : String) (idx ci k : Nat) (fin : Bool) (ty : FieldType) : Prop := ∃ q : vw_C, vwCl[ci]? = some q ∧ k < q.2.2 ∧ (∀ w ∈ u_ws q.1 q.2.1 q.2.2, w ∈ wsL_law) ∧ Cond.fieldLink own idx (q.2.1 k).1 (q.2.1 k).2.1 (q.2.1 k).2.2.1 ∈ wsL_law ∧ (∃ ty0 : Nat → FieldType, ∀ k, k < q.2.2 → parseFieldDescriptor (q.2.1 k).2.2.1 = some (ty0 k)) ∧ (∀ a, a < q.2.2 → ∀ b, b < q.2.2 → a ≠ b → (q.2.1 a).2.1 ≠ (q.2.1 b).2.1) ∧ (q.2.1 k).2.2.2 = fin ∧ (fin = true → (q.2.1 k).1 = own) ∧ parseFieldDescriptor (q.2.1 k).2.2.1 = some ty
theorem q_get (C : Cx p m c cc nL s args own g) {idx ci k : Nat} (F : FF own idx ci k) {ws : va_W} (hP : va_P g.1 vwCl ws H) (q0 : Nat) {a : Nat} {fs : List Value} (he : ws[q0]? = some (a, .inr (ci, fs))) {v : Value} (hv : fs[k]? = some v) (hdg : decode cc pc = .ok (.getfield idx, 3))
    (kk : W p l e R s m args below meth c H locs cells slots Q (F0 m (pc + 3) ls (v :: rest))) : W p l e R s m args below meth c H locs cells slots Q (F0 m pc ls (.ref a :: rest)) := by
  obtain ⟨⟨Cn, T, N⟩, hc, hk, hin, hl⟩ := F
  exact va_get (D := g.1) (tys := tyG g) C.1.1 C.1.2.1 C.1.2.2.2.2 hin C.1.2.2.2.1 C.2.1 hP q0 he hc k hk (C.1.2.2.2.2 _ hl) (fun _ h => h) hv hdg kk
theorem q_put (C : Cx p m c cc nL s args own g) {idx ci k : Nat} {ty : FieldType} (F : FP own idx ci k false ty) {A : Nat → Prop} {H0 : Heap} {ws : va_W} (hP : va_P g.1 vwCl ws H) (hD : va_D A ws) (hS : va_S A H0 H locs) (q0 : Nat) {a : Nat} {fs : List Value} (he : ws[q0]? = some (a, .inr (ci, fs))) {v : Value} (hn : narrow ty v = v) (hfit : fits ty v = true) (hl : k < fs.length) (hdg : decode cc pc = .ok (.putfield idx, 3))
    (kk : ∀ (H1 : Heap) (locs1 : List Loc), va_P g.1 vwCl (ws.set q0 (a, .inr (ci, fs.set k v))) H1 → va_D A (ws.set q0 (a, .inr (ci, fs.set k v))) → va_S A H0 H1 locs1 → W p l e R s m args below meth c H1 locs1 cells slots Q (F0 m (pc + 3) ls rest)) : W p l e R s m args below meth c H locs cells slots Q (F0 m pc ls (v :: .ref a :: rest)) := by
  obtain ⟨⟨Cn, T, N⟩, hc, hk, hin, hlk, ⟨ty0, hty⟩, hnm, hfin, -, hd⟩ := F
  exact va_put (D := g.1) (tys := tyG g) C.1.1 C.1.2.1 C.1.2.2.2.2 hin ty0 hty hnm C.1.2.2.2.1 C.2.1 hP hD hS q0 he hc k hk (C.1.2.2.2.2 _ hlk) (fun _ h => h) hfin hd hn hfit hl hdg kk
theorem q_putF (C : Cx p m c cc nL s args own g) (hnm0 : meth.name = "<init>") {idx ci k : Nat} {ty : FieldType} (F : FP own idx ci k true ty) {A : Nat → Prop} {H0 : Heap} {ws : va_W} (hP : va_P g.1 vwCl ws H) (hD : va_D A ws) (hS : va_S A H0 H locs) (q0 : Nat) {a : Nat} {fs : List Value} (he : ws[q0]? = some (a, .inr (ci, fs))) {v : Value} (hn : narrow ty v = v) (hfit : fits ty v = true) (hl : k < fs.length) (hdg : decode cc pc = .ok (.putfield idx, 3))
    (kk : ∀ (H1 : Heap) (locs1 : List Loc), va_P g.1 vwCl (ws.set q0 (a, .inr (ci, fs.set k v))) H1 → va_D A (ws.set q0 (a, .inr (ci, fs.set k v))) → va_S A H0 H1 locs1 → W p l e R s m args below meth c H1 locs1 cells slots Q (F0 m (pc + 3) ls rest)) : W p l e R s m args below meth c H locs cells slots Q (F0 m pc ls (v :: .ref a :: rest)) := by
  obtain ⟨⟨Cn, T, N⟩, hc, hk, hin, hlk, ⟨ty0, hty⟩, hnm, hfin, hdc, hd⟩ := F
  exact va_putF (D := g.1) (tys := tyG g) C.1.1 C.1.2.1 C.1.2.2.2.2 hin ty0 hty hnm C.1.2.2.2.1 C.2.1 hP hD hS q0 he hc k hk (C.1.2.2.2.2 _ hlk) (fun _ h => h) hfin hnm0 (hdc rfl) hd hn hfit hl hdg kk
/-- the receiver of a call is there -/
theorem q_recv (C : Cx p m c cc nL s args own g) {ws : va_W} (hP : va_P g.1 vwCl ws H) (q0 : Nat) {a ci : Nat} {q : vw_C} {fs : List Value} (he : ws[q0]? = some (a, .inr (ci, fs))) (hc : vwCl[ci]? = some q) : ∃ cell : Cell, H[a]? = some cell ∧ cell.vm.isStatics = false ∧ s.vm.findClass q.1 = some cell.cls := va_recv C.2.1 hP hc he
variable {idx maxL n : Nat} {y : MethodName} {bytes : ByteArray} {ret : Option FieldType} {rm : Room} {b : Nat} {As : List Value} {P : Heap → Prop}
/-- the call itself, instance method, any contract -/
theorem c_V (C : Cx p m c cc nL s args own g) (ok : VOK own idx y bytes maxL ret n) {Qc : Array Value → State → Outcome → State → Prop} {free : Addr → Prop} (hM : Met l y (.code y bytes maxL ret :: wsL_law) rm (mP g (.ref b :: As) P) Qc rm.cells rm.slots free) (hR : rm.frames + 1 ≤ R.frames ∧ 8 + (maxL + 11) + rm.locals ≤ R.locals)
    (hrec : ∃ cell : Cell, H[b]? = some cell ∧ cell.vm.isStatics = false ∧ s.vm.findClass y.cls = some cell.cls) (hp : P H) (hls : ls.size = nL) (hn : As.length = n) (hst : st0 = As.reverse ++ .ref b :: rest) (hroom : (rest.map fun v => v.category).sum ≤ 8) (hdg : decode cc pc = .ok (.invokevirtual idx, 3)) (hf : cells + rm.cells ≤ R.cells ∧ slots + rm.slots ≤ R.slots) :
    va_Run p l e R s m args below meth c H locs cells slots rm.cells rm.slots (F0 m pc ls st0) rest (Qc (Value.ref b :: As).toArray) free :=
  va_runV (As := As) (rest := rest) C.1 hM (cwV n C.1.2.2.2.2 ok.1 rfl rfl rfl ⟨rfl, ok.2⟩ hR) ⟨mP_blind, hrec, fun U hU hW => ⟨rfl, by rw [hU]; exact hp, C.2.warm hW⟩⟩ rfl hn hls hst (lv_room hroom) hdg hf
theorem c_S (C : Cx p m c cc nL s args own g) (ok : SOK own idx y bytes maxL ret n) {Qc : Array Value → State → Outcome → State → Prop} {free : Addr → Prop} (hM : Met l y (.code y bytes maxL ret :: wsL_law) rm (mP g As P) Qc rm.cells rm.slots free) (hR : rm.frames + 1 ≤ R.frames ∧ 8 + (maxL + 11) + rm.locals ≤ R.locals)
    (hp : P H) (hls : ls.size = nL) (hn : As.length = n) (hst : st0 = As.reverse ++ rest) (hroom : (rest.map fun v => v.category).sum ≤ 8) (hdg : decode cc pc = .ok (.invokestatic idx, 3)) (hf : cells + rm.cells ≤ R.cells ∧ slots + rm.slots ≤ R.slots) :
    va_Run p l e R s m args below meth c H locs cells slots rm.cells rm.slots (F0 m pc ls st0) rest (Qc As.toArray) free :=
  va_runS (As := As) (rest := rest) C.1 hM (va_cwS n C.1.2.2.2.2 ok.1 rfl rfl rfl ok.2 hR) ⟨mP_blind, fun U hU hW => ⟨rfl, by rw [hU]; exact hp, C.2.warm hW⟩⟩ rfl hn hls hst (lv_room hroom) hdg hf
theorem c_SN (C : Cx p m c cc nL s args own g) (ok : NOK own idx y bytes maxL ret n) (hs : Cond.static y ∈ wsL_law) {Qc : Array Value → State → Outcome → State → Prop} {free : Addr → Prop} (hM : Met l y (.code y bytes maxL ret :: wsL_law) rm (mP g As P) Qc rm.cells rm.slots free) (hR : rm.frames + 1 ≤ R.frames ∧ 8 + (maxL + 11) + rm.locals ≤ R.locals)
    (hp : P H) (hls : ls.size = nL) (hn : As.length = n) (hst : st0 = As.reverse ++ rest) (hroom : (rest.map fun v => v.category).sum ≤ 8) (hdg : decode cc pc = .ok (.invokestatic idx, 3)) (hf : cells + rm.cells ≤ R.cells ∧ slots + rm.slots ≤ R.slots) :
    va_Run p l e R s m args below meth c H locs cells slots rm.cells rm.slots (F0 m pc ls st0) rest (Qc As.toArray) free :=
  va_runSN (As := As) (rest := rest) (host := "TrialBook") C.1 hM ⟨va_cnB n C.1.2.2.2.2 ok.good rfl rfl rfl (C.2.2 _ ok.1) (C.1.2.2.2.2 _ ok.2.1) ok.2.2.2 hR, C.1.2.2.2.2 _ hs, trivial⟩ ⟨mP_blind, fun U hU hW => ⟨rfl, by rw [hU]; exact hp, C.2.warm hW⟩⟩ rfl hn hls hst (lv_room hroom) hdg hf
theorem c_IN (C : Cx p m c cc nL s args own g) (ok : NOK own idx y bytes maxL none n) (hy1 : y.name = "<init>") (hs : Cond.instanceMethod y ∈ wsL_law) {Qc : Array Value → State → Outcome → State → Prop} {free : Addr → Prop} (hM : Met l y (.code y bytes maxL none :: wsL_law) rm (mP g (.ref b :: As) P) Qc rm.cells rm.slots free) (hR : rm.frames + 1 ≤ R.frames ∧ 8 + (maxL + 11) + rm.locals ≤ R.locals)
    (hp : P H) (hls : ls.size = nL) (hn : As.length = n) (hst : st0 = As.reverse ++ .ref b :: rest) (hroom : (rest.map fun v => v.category).sum ≤ 8) (hdg : decode cc pc = .ok (.invokespecial idx, 3)) (hf : cells + rm.cells ≤ R.cells ∧ slots + rm.slots ≤ R.slots) :
    va_Run p l e R s m args below meth c H locs cells slots rm.cells rm.slots (F0 m pc ls st0) rest (Qc (Value.ref b :: As).toArray) free :=
  va_runIN (As := As) (rest := rest) (host := "TrialBook") C.1 hM ⟨va_cnB n C.1.2.2.2.2 ok.good rfl rfl rfl (C.2.2 _ ok.1) (C.1.2.2.2.2 _ ok.2.1) ok.2.2.2 hR, hy1, C.1.2.2.2.2 _ hs⟩ ⟨mP_blind, fun U hU hW => ⟨rfl, by rw [hU]; exact hp, C.2.warm hW⟩⟩ rfl hn hls hst (lv_room hroom) hdg hf
/-- a constructor's call, public link -/
def IOK (own : String) (idx : Nat) (y : MethodName) (b : ByteArray) (maxL : Nat) (n : Nat) : Prop :=
  Cond.methodLink own idx y ∈ wsL_law ∧ Cond.instanceMethod y ∈ wsL_law ∧ Cond.initialized y.cls ∈ wsL_law ∧ Cond.code y b maxL none ∈ wsL_law ∧ y.name = "<init>" ∧ y.cls ≠ "java/lang/invoke/MethodHandle" ∧ y.cls ≠ "java/lang/invoke/VarHandle" ∧ (parseMethodDescriptor y.desc).map (fun d => d.parameters.length) = some n
theorem c_I (C : Cx p m c cc nL s args own g) (ok : IOK own idx y bytes maxL n) {Qc : Array Value → State → Outcome → State → Prop} {free : Addr → Prop} (hM : Met l y (.code y bytes maxL none :: wsL_law) rm (mP g (.ref b :: As) P) Qc rm.cells rm.slots free) (hR : rm.frames + 1 ≤ R.frames ∧ 8 + (maxL + 11) + rm.locals ≤ R.locals)
    (hp : P H) (hls : ls.size = nL) (hn : As.length = n) (hst : st0 = As.reverse ++ .ref b :: rest) (hroom : (rest.map fun v => v.category).sum ≤ 8) (hdg : decode cc pc = .ok (.invokespecial idx, 3)) (hf : cells + rm.cells ≤ R.cells ∧ slots + rm.slots ≤ R.slots) :
    va_Run p l e R s m args below meth c H locs cells slots rm.cells rm.slots (F0 m pc ls st0) rest (Qc (Value.ref b :: As).toArray) free :=
  va_runI (As := As) (rest := rest) C.1 hM (cwI n C.1.2.2.2.2 (fun w hw => by
    rcases List.mem_cons.mp hw with rfl | hw
    · exact gSelf _ ok.2.2.2.1
    · exact gSelf _ hw) rfl rfl rfl (C.1.2.2.2.2 _ ok.2.2.1) (C.1.2.2.2.2 _ ok.1) (C.1.2.2.2.2 _ ok.2.1) ok.2.2.2.2.1 ok.2.2.2.2.2 hR) ⟨mP_blind, fun U hU hW => ⟨rfl, by rw [hU]; exact hp, C.2.warm hW⟩⟩ rfl hn hls hst (lv_room hroom) hdg hf
/-- behind a call that changes nothing -/
theorem k_i {post : Int32 → Prop} {a : Array Value} (hr : va_Run p l e R s m args below meth c H locs cells slots 0 0 (F0 m pc ls st0) rest (vp_Si post a) (fun _ => False))
    (kk : ∀ r : Int32, post r → W p l e R s m args below meth c H locs cells slots Q (F0 m (pc + 3) ls (.int r :: rest))) : W p l e R s m args below meth c H locs cells slots Q (F0 m pc ls st0) := by
  intro T hT X
  obtain ⟨v, st₀, t, T', L, h0, X', hL, e1, -, ⟨r, hv, hp, hh⟩, st⟩ := hr T hT X
  cases hv
  obtain ⟨t2, a1, b1⟩ := kk r hp T' (by rw [e1, hh, h0]) (Stand.forget X' (fun q h => (hL q h).elim))
  exact ⟨t2, st t2 a1, b1⟩
theorem k_l {post : Int64 → Prop} {a : Array Value} (hr : va_Run p l e R s m args below meth c H locs cells slots 0 0 (F0 m pc ls st0) rest (vp_Sl post a) (fun _ => False))
    (kk : ∀ r : Int64, post r → W p l e R s m args below meth c H locs cells slots Q (F0 m (pc + 3) ls (.long r :: rest))) : W p l e R s m args below meth c H locs cells slots Q (F0 m pc ls st0) := by
  intro T hT X
  obtain ⟨v, st₀, t, T', L, h0, X', hL, e1, -, ⟨r, hv, hp, hh⟩, st⟩ := hr T hT X
  cases hv
  obtain ⟨t2, a1, b1⟩ := kk r hp T' (by rw [e1, hh, h0]) (Stand.forget X' (fun q h => (hL q h).elim))
  exact ⟨t2, st t2 a1, b1⟩
theorem k_q {post : Option Nat → Prop} {a : Array Value} (hr : va_Run p l e R s m args below meth c H locs cells slots 0 0 (F0 m pc ls st0) rest (va_Sq post a) (fun _ => False))
    (kk : ∀ r : Option Nat, post r → W p l e R s m args below meth c H locs cells slots Q (F0 m (pc + 3) ls (va_rf r :: rest))) : W p l e R s m args below meth c H locs cells slots Q (F0 m pc ls st0) := by
  intro T hT X
  obtain ⟨v, st₀, t, T', L, h0, X', hL, e1, -, ⟨r, hv, hp, hh⟩, st⟩ := hr T hT X
  cases hv
  obtain ⟨t2, a1, b1⟩ := kk r hp T' (by rw [e1, hh, h0]) (Stand.forget X' (fun q h => (hL q h).elim))
  exact ⟨t2, st t2 a1, b1⟩
/-- behind a call that changes cells of A alone -/
theorem k_w {A A0 : Nat → Prop} {H0 : Heap} {X : Option Value → Heap → Prop} {a : Array Value} {mc ms : Nat} (hr : va_Run p l e R s m args below meth c H locs cells slots mc ms (F0 m pc ls st0) rest (mQ A X a) A) (hS : va_S A0 H0 H locs) (hA : ∀ q, A q → A0 q)
    (kk : ∀ (v : Option Value) (H1 : Heap) (locs1 : List Loc), X v H1 → H.size ≤ H1.size → (∀ q : Nat, q < H.size → ¬ A q → H1[q]? = H[q]?) → va_S A0 H0 H1 locs1 → W p l e R s m args below meth c H1 locs1 (cells + mc) (slots + ms) Q (F0 m (pc + 3) ls (v.toList ++ rest))) : W p l e R s m args below meth c H locs cells slots Q (F0 m pc ls st0) := by
  intro T hT Xs
  obtain ⟨v, st₀, t, T', L, h0, X', hL, e1, -, ⟨⟨v', hv, hx⟩, hz, hk⟩, st⟩ := hr T hT Xs
  cases hv
  rw [h0] at hz hk
  obtain ⟨t2, a1, b1⟩ := kk v T'.heap (locs ++ L) (by rw [e1]; exact hx) (by rw [e1]; exact hz) (fun q h1 h2 => by rw [e1]; exact hk q h1 h2)
    ⟨Nat.le_trans hS.1 (by rw [e1]; exact hz), fun q h1 h2 => by rw [e1, hk q (Nat.lt_of_lt_of_le h1 hS.1) (fun z => h2 (hA q z))]; exact hS.2.1 q h1 h2, fun q hq => by
      rcases List.mem_append.mp hq with h | h
      · exact hS.2.2 q h
      · exact hA _ (hL q h)⟩ T' rfl X'
  exact ⟨t2, st t2 a1, b1⟩
/-- the ends of methods that change nothing -/
theorem r_i (C : Cx p m c cc nL s args own g) (hr : meth.sig.returnType = some .int) (hlk : meth.locks = false) {post : Int32 → Prop} {v : Int32} (hp : post v) (hdg : decode cc pc = .ok (.ireturn, 1)) : W p l e R s m args below meth c s.heap [] 0 0 (MQ below (vp_Si post) args s 0 0 (fun _ => False)) (F0 m pc ls [.int v]) :=
  W.iret C.1.1 C.1.2.1 hr (fun _ ht _ => ⟨v, rfl, hp, ht⟩) (fun _ h => by cases h) hdg hlk
theorem r_z (C : Cx p m c cc nL s args own g) (hr : meth.sig.returnType = some .boolean) (hlk : meth.locks = false) {post : Int32 → Prop} {v : Int32} (hv : v = 0 ∨ v = 1) (hp : post v) (hdg : decode cc pc = .ok (.ireturn, 1)) : W p l e R s m args below meth c s.heap [] 0 0 (MQ below (vp_Si post) args s 0 0 (fun _ => False)) (F0 m pc ls [.int v]) :=
  W.zret C.1.1 C.1.2.1 hr (by rcases hv with rfl | rfl <;> rfl) (fun _ ht _ => ⟨v, rfl, hp, ht⟩) (fun _ h => by cases h) hdg hlk
theorem r_l (C : Cx p m c cc nL s args own g) (hr : meth.sig.returnType = some .long) (hlk : meth.locks = false) {post : Int64 → Prop} {v : Int64} (hp : post v) (hdg : decode cc pc = .ok (.lreturn, 1)) : W p l e R s m args below meth c s.heap [] 0 0 (MQ below (vp_Sl post) args s 0 0 (fun _ => False)) (F0 m pc ls [.long v]) :=
  W.lret C.1.1 C.1.2.1 hr (fun _ ht _ => ⟨v, rfl, hp, ht⟩) (fun _ h => by cases h) hdg hlk
theorem r_q (C : Cx p m c cc nL s args own g) {cn : String} (hr : meth.sig.returnType = some (.object cn)) (hlk : meth.locks = false) {post : Option Nat → Prop} {v : Option Nat} (hp : post v) (hdg : decode cc pc = .ok (.areturn, 1)) : W p l e R s m args below meth c s.heap [] 0 0 (MQ below (va_Sq post) args s 0 0 (fun _ => False)) (F0 m pc ls [va_rf v]) :=
  W.aret C.1.1 C.1.2.1 hr (Or.inl ⟨cn, rfl⟩) (va_rf_or v) (fun _ ht _ => ⟨v, rfl, hp, ht⟩) (fun _ h => by cases h) hdg hlk
/-- the ends of methods that change cells of A -/
theorem r_wi (C : Cx p m c cc nL s args own g) (hr : meth.sig.returnType = some .int) (hlk : meth.locks = false) {A : Nat → Prop} {X : Option Value → Heap → Prop} {v : Int32} (hS : va_S A s.heap H locs) (hp : X (some (.int v)) H) (hdg : decode cc pc = .ok (.ireturn, 1)) : W p l e R s m args below meth c H locs cells slots (MQ below (mQ A X) args s cells slots A) (F0 m pc ls [.int v]) :=
  W.iret C.1.1 C.1.2.1 hr (fun _ ht _ => ⟨⟨_, rfl, by rw [ht]; exact hp⟩, hS.F ht⟩) hS.2.2 hdg hlk
theorem r_wz (C : Cx p m c cc nL s args own g) (hr : meth.sig.returnType = some .boolean) (hlk : meth.locks = false) {A : Nat → Prop} {X : Option Value → Heap → Prop} {v : Int32} (hv : v = 0 ∨ v = 1) (hS : va_S A s.heap H locs) (hp : X (some (.int v)) H) (hdg : decode cc pc = .ok (.ireturn, 1)) : W p l e R s m args below meth c H locs cells slots (MQ below (mQ A X) args s cells slots A) (F0 m pc ls [.int v]) :=
  W.zret C.1.1 C.1.2.1 hr (by rcases hv with rfl | rfl <;> rfl) (fun _ ht _ => ⟨⟨_, rfl, by rw [ht]; exact hp⟩, hS.F ht⟩) hS.2.2 hdg hlk
theorem r_wv (C : Cx p m c cc nL s args own g) (hr : meth.sig.returnType = none) (hlk : meth.locks = false) {A : Nat → Prop} {X : Option Value → Heap → Prop} (hS : va_S A s.heap H locs) (hp : X none H) (hdg : decode cc pc = .ok (.return_, 1)) : W p l e R s m args below meth c H locs cells slots (MQ below (mQ A X) args s cells slots A) (F0 m pc ls []) :=
  W.vret C.1.1 C.1.2.1 hr (fun _ ht _ => ⟨⟨_, rfl, by rw [ht]; exact hp⟩, hS.F ht⟩) hS.2.2 hdg hlk
end LY
end
section
/-! FACTS: a row a field link, a row a method link -/
theorem inr_1 : ∀ w ∈ wsL_law_r1, w ∈ wsL_law := fun _ h => (List.mem_append_left _ (List.mem_append_left _ (List.mem_append_left _ (List.mem_append_left _ (List.mem_append_left _ (List.mem_append_left _ (List.mem_append_left _ (List.mem_append_left _ h))))))))
theorem inr_2 : ∀ w ∈ wsL_law_r2, w ∈ wsL_law := fun _ h => (List.mem_append_left _ (List.mem_append_left _ (List.mem_append_left _ (List.mem_append_left _ (List.mem_append_left _ (List.mem_append_left _ (List.mem_append_left _ (List.mem_append_right _ (List.mem_append_left _ h)))))))))
theorem inr_3 : ∀ w ∈ wsL_law_r3, w ∈ wsL_law := fun _ h => (List.mem_append_left _ (List.mem_append_left _ (List.mem_append_left _ (List.mem_append_left _ (List.mem_append_left _ (List.mem_append_left _ (List.mem_append_left _ (List.mem_append_right _ (List.mem_append_right _ (List.mem_append_left _ h))))))))))
theorem inr_4 : ∀ w ∈ wsL_law_r4, w ∈ wsL_law := fun _ h => (List.mem_append_left _ (List.mem_append_left _ (List.mem_append_left _ (List.mem_append_left _ (List.mem_append_left _ (List.mem_append_left _ (List.mem_append_left _ (List.mem_append_right _ (List.mem_append_right _ (List.mem_append_right _ (List.mem_append_left _ h)))))))))))
theorem inr_5 : ∀ w ∈ wsL_law_r5, w ∈ wsL_law := fun _ h => (List.mem_append_left _ (List.mem_append_left _ (List.mem_append_left _ (List.mem_append_left _ (List.mem_append_left _ (List.mem_append_left _ (List.mem_append_left _ (List.mem_append_right _ (List.mem_append_right _ (List.mem_append_right _ (List.mem_append_right _ (List.mem_append_left _ h))))))))))))
theorem inr_6 : ∀ w ∈ wsL_law_r6, w ∈ wsL_law := fun _ h => (List.mem_append_left _ (List.mem_append_left _ (List.mem_append_left _ (List.mem_append_left _ (List.mem_append_left _ (List.mem_append_left _ (List.mem_append_left _ (List.mem_append_right _ (List.mem_append_right _ (List.mem_append_right _ (List.mem_append_right _ (List.mem_append_right _ (List.mem_append_left _ h)))))))))))))
theorem inr_7 : ∀ w ∈ wsL_law_r7, w ∈ wsL_law := fun _ h => (List.mem_append_left _ (List.mem_append_left _ (List.mem_append_left _ (List.mem_append_left _ (List.mem_append_left _ (List.mem_append_left _ (List.mem_append_left _ (List.mem_append_right _ (List.mem_append_right _ (List.mem_append_right _ (List.mem_append_right _ (List.mem_append_right _ (List.mem_append_right _ (List.mem_append_left _ h))))))))))))))
theorem inr_8 : ∀ w ∈ wsL_law_r8, w ∈ wsL_law := fun _ h => (List.mem_append_left _ (List.mem_append_left _ (List.mem_append_left _ (List.mem_append_left _ (List.mem_append_left _ (List.mem_append_left _ (List.mem_append_left _ (List.mem_append_right _ (List.mem_append_right _ (List.mem_append_right _ (List.mem_append_right _ (List.mem_append_right _ (List.mem_append_right _ (List.mem_append_right _ (List.mem_append_left _ h)))))))))))))))
theorem inr_9 : ∀ w ∈ wsL_law_r9, w ∈ wsL_law := fun _ h => (List.mem_append_left _ (List.mem_append_left _ (List.mem_append_left _ (List.mem_append_left _ (List.mem_append_left _ (List.mem_append_left _ (List.mem_append_left _ (List.mem_append_right _ (List.mem_append_right _ (List.mem_append_right _ (List.mem_append_right _ (List.mem_append_right _ (List.mem_append_right _ (List.mem_append_right _ (List.mem_append_right _ (List.mem_append_left _ h))))))))))))))))
theorem inr_10 : ∀ w ∈ wsL_law_r10, w ∈ wsL_law := fun _ h => (List.mem_append_left _ (List.mem_append_left _ (List.mem_append_left _ (List.mem_append_left _ (List.mem_append_left _ (List.mem_append_left _ (List.mem_append_left _ (List.mem_append_right _ (List.mem_append_right _ (List.mem_append_right _ (List.mem_append_right _ (List.mem_append_right _ (List.mem_append_right _ (List.mem_append_right _ (List.mem_append_right _ (List.mem_append_right _ (List.mem_append_left _ h)))))))))))))))))
theorem inr_11 : ∀ w ∈ wsL_law_r11, w ∈ wsL_law := fun _ h => (List.mem_append_left _ (List.mem_append_left _ (List.mem_append_left _ (List.mem_append_left _ (List.mem_append_left _ (List.mem_append_left _ (List.mem_append_left _ (List.mem_append_right _ (List.mem_append_right _ (List.mem_append_right _ (List.mem_append_right _ (List.mem_append_right _ (List.mem_append_right _ (List.mem_append_right _ (List.mem_append_right _ (List.mem_append_right _ (List.mem_append_right _ (List.mem_append_left _ h))))))))))))))))))
theorem inr_12 : ∀ w ∈ wsL_law_r12, w ∈ wsL_law := fun _ h => (List.mem_append_left _ (List.mem_append_left _ (List.mem_append_left _ (List.mem_append_left _ (List.mem_append_left _ (List.mem_append_left _ (List.mem_append_left _ (List.mem_append_right _ (List.mem_append_right _ (List.mem_append_right _ (List.mem_append_right _ (List.mem_append_right _ (List.mem_append_right _ (List.mem_append_right _ (List.mem_append_right _ (List.mem_append_right _ (List.mem_append_right _ (List.mem_append_right _ (List.mem_append_left _ h)))))))))))))))))))
theorem inr_13 : ∀ w ∈ wsL_law_r13, w ∈ wsL_law := fun _ h => (List.mem_append_left _ (List.mem_append_left _ (List.mem_append_left _ (List.mem_append_left _ (List.mem_append_left _ (List.mem_append_left _ (List.mem_append_left _ (List.mem_append_right _ (List.mem_append_right _ (List.mem_append_right _ (List.mem_append_right _ (List.mem_append_right _ (List.mem_append_right _ (List.mem_append_right _ (List.mem_append_right _ (List.mem_append_right _ (List.mem_append_right _ (List.mem_append_right _ (List.mem_append_right _ (List.mem_append_left _ h))))))))))))))))))))
theorem inr_14 : ∀ w ∈ wsL_law_r14, w ∈ wsL_law := fun _ h => (List.mem_append_left _ (List.mem_append_left _ (List.mem_append_left _ (List.mem_append_left _ (List.mem_append_left _ (List.mem_append_left _ (List.mem_append_left _ (List.mem_append_right _ (List.mem_append_right _ (List.mem_append_right _ (List.mem_append_right _ (List.mem_append_right _ (List.mem_append_right _ (List.mem_append_right _ (List.mem_append_right _ (List.mem_append_right _ (List.mem_append_right _ (List.mem_append_right _ (List.mem_append_right _ (List.mem_append_right _ (List.mem_append_left _ h)))))))))))))))))))))
theorem inr_15 : ∀ w ∈ wsL_law_r15, w ∈ wsL_law := fun _ h => (List.mem_append_left _ (List.mem_append_left _ (List.mem_append_left _ (List.mem_append_left _ (List.mem_append_left _ (List.mem_append_left _ (List.mem_append_left _ (List.mem_append_right _ (List.mem_append_right _ (List.mem_append_right _ (List.mem_append_right _ (List.mem_append_right _ (List.mem_append_right _ (List.mem_append_right _ (List.mem_append_right _ (List.mem_append_right _ (List.mem_append_right _ (List.mem_append_right _ (List.mem_append_right _ (List.mem_append_right _ (List.mem_append_right _ (List.mem_append_left _ h))))))))))))))))))))))
theorem inr_16 : ∀ w ∈ wsL_law_r16, w ∈ wsL_law := fun _ h => (List.mem_append_left _ (List.mem_append_left _ (List.mem_append_left _ (List.mem_append_left _ (List.mem_append_left _ (List.mem_append_left _ (List.mem_append_left _ (List.mem_append_right _ (List.mem_append_right _ (List.mem_append_right _ (List.mem_append_right _ (List.mem_append_right _ (List.mem_append_right _ (List.mem_append_right _ (List.mem_append_right _ (List.mem_append_right _ (List.mem_append_right _ (List.mem_append_right _ (List.mem_append_right _ (List.mem_append_right _ (List.mem_append_right _ (List.mem_append_right _ (List.mem_append_left _ h)))))))))))))))))))))))
theorem inr_17 : ∀ w ∈ wsL_law_r17, w ∈ wsL_law := fun _ h => (List.mem_append_left _ (List.mem_append_left _ (List.mem_append_left _ (List.mem_append_left _ (List.mem_append_left _ (List.mem_append_left _ (List.mem_append_left _ (List.mem_append_right _ (List.mem_append_right _ (List.mem_append_right _ (List.mem_append_right _ (List.mem_append_right _ (List.mem_append_right _ (List.mem_append_right _ (List.mem_append_right _ (List.mem_append_right _ (List.mem_append_right _ (List.mem_append_right _ (List.mem_append_right _ (List.mem_append_right _ (List.mem_append_right _ (List.mem_append_right _ (List.mem_append_right _ (List.mem_append_left _ h))))))))))))))))))))))))
theorem inr_18 : ∀ w ∈ wsL_law_r18, w ∈ wsL_law := fun _ h => (List.mem_append_left _ (List.mem_append_left _ (List.mem_append_left _ (List.mem_append_left _ (List.mem_append_left _ (List.mem_append_left _ (List.mem_append_left _ (List.mem_append_right _ (List.mem_append_right _ (List.mem_append_right _ (List.mem_append_right _ (List.mem_append_right _ (List.mem_append_right _ (List.mem_append_right _ (List.mem_append_right _ (List.mem_append_right _ (List.mem_append_right _ (List.mem_append_right _ (List.mem_append_right _ (List.mem_append_right _ (List.mem_append_right _ (List.mem_append_right _ (List.mem_append_right _ (List.mem_append_right _ (List.mem_append_left _ h)))))))))))))))))))))))))
theorem inr_19 : ∀ w ∈ wsL_law_r19, w ∈ wsL_law := fun _ h => (List.mem_append_left _ (List.mem_append_left _ (List.mem_append_left _ (List.mem_append_left _ (List.mem_append_left _ (List.mem_append_left _ (List.mem_append_left _ (List.mem_append_right _ (List.mem_append_right _ (List.mem_append_right _ (List.mem_append_right _ (List.mem_append_right _ (List.mem_append_right _ (List.mem_append_right _ (List.mem_append_right _ (List.mem_append_right _ (List.mem_append_right _ (List.mem_append_right _ (List.mem_append_right _ (List.mem_append_right _ (List.mem_append_right _ (List.mem_append_right _ (List.mem_append_right _ (List.mem_append_right _ (List.mem_append_right _ (List.mem_append_left _ h))))))))))))))))))))))))))
theorem inr_20 : ∀ w ∈ wsL_law_r20, w ∈ wsL_law := fun _ h => (List.mem_append_left _ (List.mem_append_left _ (List.mem_append_left _ (List.mem_append_left _ (List.mem_append_left _ (List.mem_append_left _ (List.mem_append_left _ (List.mem_append_right _ (List.mem_append_right _ (List.mem_append_right _ (List.mem_append_right _ (List.mem_append_right _ (List.mem_append_right _ (List.mem_append_right _ (List.mem_append_right _ (List.mem_append_right _ (List.mem_append_right _ (List.mem_append_right _ (List.mem_append_right _ (List.mem_append_right _ (List.mem_append_right _ (List.mem_append_right _ (List.mem_append_right _ (List.mem_append_right _ (List.mem_append_right _ (List.mem_append_right _ (List.mem_append_left _ h)))))))))))))))))))))))))))
theorem inr_21 : ∀ w ∈ wsL_law_r21, w ∈ wsL_law := fun _ h => (List.mem_append_left _ (List.mem_append_left _ (List.mem_append_left _ (List.mem_append_left _ (List.mem_append_left _ (List.mem_append_left _ (List.mem_append_left _ (List.mem_append_right _ (List.mem_append_right _ (List.mem_append_right _ (List.mem_append_right _ (List.mem_append_right _ (List.mem_append_right _ (List.mem_append_right _ (List.mem_append_right _ (List.mem_append_right _ (List.mem_append_right _ (List.mem_append_right _ (List.mem_append_right _ (List.mem_append_right _ (List.mem_append_right _ (List.mem_append_right _ (List.mem_append_right _ (List.mem_append_right _ (List.mem_append_right _ (List.mem_append_right _ (List.mem_append_right _ (List.mem_append_left _ h))))))))))))))))))))))))))))
theorem inr_22 : ∀ w ∈ wsL_law_r22, w ∈ wsL_law := fun _ h => (List.mem_append_left _ (List.mem_append_left _ (List.mem_append_left _ (List.mem_append_left _ (List.mem_append_left _ (List.mem_append_left _ (List.mem_append_left _ (List.mem_append_right _ (List.mem_append_right _ (List.mem_append_right _ (List.mem_append_right _ (List.mem_append_right _ (List.mem_append_right _ (List.mem_append_right _ (List.mem_append_right _ (List.mem_append_right _ (List.mem_append_right _ (List.mem_append_right _ (List.mem_append_right _ (List.mem_append_right _ (List.mem_append_right _ (List.mem_append_right _ (List.mem_append_right _ (List.mem_append_right _ (List.mem_append_right _ (List.mem_append_right _ (List.mem_append_right _ (List.mem_append_right _ (List.mem_append_left _ h)))))))))))))))))))))))))))))
theorem inr_23 : ∀ w ∈ wsL_law_r23, w ∈ wsL_law := fun _ h => (List.mem_append_left _ (List.mem_append_left _ (List.mem_append_left _ (List.mem_append_left _ (List.mem_append_left _ (List.mem_append_left _ (List.mem_append_left _ (List.mem_append_right _ (List.mem_append_right _ (List.mem_append_right _ (List.mem_append_right _ (List.mem_append_right _ (List.mem_append_right _ (List.mem_append_right _ (List.mem_append_right _ (List.mem_append_right _ (List.mem_append_right _ (List.mem_append_right _ (List.mem_append_right _ (List.mem_append_right _ (List.mem_append_right _ (List.mem_append_right _ (List.mem_append_right _ (List.mem_append_right _ (List.mem_append_right _ (List.mem_append_right _ (List.mem_append_right _ (List.mem_append_right _ (List.mem_append_right _ (List.mem_append_left _ h))))))))))))))))))))))))))))))
theorem inr_24 : ∀ w ∈ wsL_law_r24, w ∈ wsL_law := fun _ h => (List.mem_append_left _ (List.mem_append_left _ (List.mem_append_left _ (List.mem_append_left _ (List.mem_append_left _ (List.mem_append_left _ (List.mem_append_left _ (List.mem_append_right _ (List.mem_append_right _ (List.mem_append_right _ (List.mem_append_right _ (List.mem_append_right _ (List.mem_append_right _ (List.mem_append_right _ (List.mem_append_right _ (List.mem_append_right _ (List.mem_append_right _ (List.mem_append_right _ (List.mem_append_right _ (List.mem_append_right _ (List.mem_append_right _ (List.mem_append_right _ (List.mem_append_right _ (List.mem_append_right _ (List.mem_append_right _ (List.mem_append_right _ (List.mem_append_right _ (List.mem_append_right _ (List.mem_append_right _ (List.mem_append_right _ (List.mem_append_left _ h)))))))))))))))))))))))))))))))
theorem inr_25 : ∀ w ∈ wsL_law_r25, w ∈ wsL_law := fun _ h => (List.mem_append_left _ (List.mem_append_left _ (List.mem_append_left _ (List.mem_append_left _ (List.mem_append_left _ (List.mem_append_left _ (List.mem_append_left _ (List.mem_append_right _ (List.mem_append_right _ (List.mem_append_right _ (List.mem_append_right _ (List.mem_append_right _ (List.mem_append_right _ (List.mem_append_right _ (List.mem_append_right _ (List.mem_append_right _ (List.mem_append_right _ (List.mem_append_right _ (List.mem_append_right _ (List.mem_append_right _ (List.mem_append_right _ (List.mem_append_right _ (List.mem_append_right _ (List.mem_append_right _ (List.mem_append_right _ (List.mem_append_right _ (List.mem_append_right _ (List.mem_append_right _ (List.mem_append_right _ (List.mem_append_right _ (List.mem_append_right _ (List.mem_append_left _ h))))))))))))))))))))))))))))))))
theorem inr_26 : ∀ w ∈ wsL_law_r26, w ∈ wsL_law := fun _ h => (List.mem_append_left _ (List.mem_append_left _ (List.mem_append_left _ (List.mem_append_left _ (List.mem_append_left _ (List.mem_append_left _ (List.mem_append_left _ (List.mem_append_right _ (List.mem_append_right _ (List.mem_append_right _ (List.mem_append_right _ (List.mem_append_right _ (List.mem_append_right _ (List.mem_append_right _ (List.mem_append_right _ (List.mem_append_right _ (List.mem_append_right _ (List.mem_append_right _ (List.mem_append_right _ (List.mem_append_right _ (List.mem_append_right _ (List.mem_append_right _ (List.mem_append_right _ (List.mem_append_right _ (List.mem_append_right _ (List.mem_append_right _ (List.mem_append_right _ (List.mem_append_right _ (List.mem_append_right _ (List.mem_append_right _ (List.mem_append_right _ (List.mem_append_right _ h))))))))))))))))))))))))))))))))
theorem f_X0_11 : FF RX0 11 0 0 := ⟨_, rfl, by decide, inlX0, inr_2 _ (List.mem_of_getElem? (i := 12) rfl)⟩
theorem fp_X0_11 : FP RX0 11 0 0 true .int := ⟨_, rfl, by decide, inlX0, inr_2 _ (List.mem_of_getElem? (i := 12) rfl), ⟨tyX0, tyX0_ok⟩, nmX0, rfl, fun _ => rfl, by decide +kernel⟩
theorem f_X0_17 : FF RX0 17 0 1 := ⟨_, rfl, by decide, inlX0, inr_2 _ (List.mem_of_getElem? (i := 13) rfl)⟩
theorem fp_X0_17 : FP RX0 17 0 1 true .long := ⟨_, rfl, by decide, inlX0, inr_2 _ (List.mem_of_getElem? (i := 13) rfl), ⟨tyX0, tyX0_ok⟩, nmX0, rfl, fun _ => rfl, by decide +kernel⟩
theorem f_X1_9 : FF RX1 9 1 4 := ⟨_, rfl, by decide, inlX1, inr_6 _ (List.mem_of_getElem? (i := 23) rfl)⟩
theorem fp_X1_9 : FP RX1 9 1 4 true (.array .int) := ⟨_, rfl, by decide, inlX1, inr_6 _ (List.mem_of_getElem? (i := 23) rfl), ⟨tyX1, tyX1_ok⟩, nmX1, rfl, fun _ => rfl, by decide +kernel⟩
theorem f_X1_15 : FF RX1 15 1 1 := ⟨_, rfl, by decide, inlX1, inr_9 _ (List.mem_of_getElem? (i := 10) rfl)⟩
theorem fp_X1_15 : FP RX1 15 1 1 false .int := ⟨_, rfl, by decide, inlX1, inr_9 _ (List.mem_of_getElem? (i := 10) rfl), ⟨tyX1, tyX1_ok⟩, nmX1, rfl, by decide, by decide +kernel⟩
theorem f_X1_19 : FF RX1 19 1 0 := ⟨_, rfl, by decide, inlX1, inr_13 _ (List.mem_of_getElem? (i := 17) rfl)⟩
theorem fp_X1_19 : FP RX1 19 1 0 false .int := ⟨_, rfl, by decide, inlX1, inr_13 _ (List.mem_of_getElem? (i := 17) rfl), ⟨tyX1, tyX1_ok⟩, nmX1, rfl, by decide, by decide +kernel⟩
theorem f_X1_22 : FF RX1 22 1 2 := ⟨_, rfl, by decide, inlX1, inr_13 _ (List.mem_of_getElem? (i := 18) rfl)⟩
theorem fp_X1_22 : FP RX1 22 1 2 false .boolean := ⟨_, rfl, by decide, inlX1, inr_13 _ (List.mem_of_getElem? (i := 18) rfl), ⟨tyX1, tyX1_ok⟩, nmX1, rfl, by decide, by decide +kernel⟩
theorem f_X1_26 : FF RX1 26 1 3 := ⟨_, rfl, by decide, inlX1, inr_13 _ (List.mem_of_getElem? (i := 19) rfl)⟩
theorem fp_X1_26 : FP RX1 26 1 3 false .boolean := ⟨_, rfl, by decide, inlX1, inr_13 _ (List.mem_of_getElem? (i := 19) rfl), ⟨tyX1, tyX1_ok⟩, nmX1, rfl, by decide, by decide +kernel⟩
theorem f_X2_12 : FF RX2 12 2 5 := ⟨_, rfl, by decide, inlX2, inr_6 _ (List.mem_of_getElem? (i := 11) rfl)⟩
theorem fp_X2_12 : FP RX2 12 2 5 true (.object "TrialBook$Notes") := ⟨_, rfl, by decide, inlX2, inr_6 _ (List.mem_of_getElem? (i := 11) rfl), ⟨tyX2, tyX2_ok⟩, nmX2, rfl, fun _ => rfl, by decide +kernel⟩
theorem f_X2_18 : FF RX2 18 2 6 := ⟨_, rfl, by decide, inlX2, inr_6 _ (List.mem_of_getElem? (i := 12) rfl)⟩
theorem fp_X2_18 : FP RX2 18 2 6 true (.array .int) := ⟨_, rfl, by decide, inlX2, inr_6 _ (List.mem_of_getElem? (i := 12) rfl), ⟨tyX2, tyX2_ok⟩, nmX2, rfl, fun _ => rfl, by decide +kernel⟩
theorem f_X2_22 : FF RX2 22 2 10 := ⟨_, rfl, by decide, inlX2, inr_6 _ (List.mem_of_getElem? (i := 13) rfl)⟩
theorem fp_X2_22 : FP RX2 22 2 10 false .int := ⟨_, rfl, by decide, inlX2, inr_6 _ (List.mem_of_getElem? (i := 13) rfl), ⟨tyX2, tyX2_ok⟩, nmX2, rfl, by decide, by decide +kernel⟩
theorem f_X2_26 : FF RX2 26 2 11 := ⟨_, rfl, by decide, inlX2, inr_6 _ (List.mem_of_getElem? (i := 14) rfl)⟩
theorem fp_X2_26 : FP RX2 26 2 11 false .int := ⟨_, rfl, by decide, inlX2, inr_6 _ (List.mem_of_getElem? (i := 14) rfl), ⟨tyX2, tyX2_ok⟩, nmX2, rfl, by decide, by decide +kernel⟩
theorem f_X2_29 : FF RX2 29 2 0 := ⟨_, rfl, by decide, inlX2, inr_6 _ (List.mem_of_getElem? (i := 15) rfl)⟩
theorem fp_X2_29 : FP RX2 29 2 0 true .int := ⟨_, rfl, by decide, inlX2, inr_6 _ (List.mem_of_getElem? (i := 15) rfl), ⟨tyX2, tyX2_ok⟩, nmX2, rfl, fun _ => rfl, by decide +kernel⟩
theorem f_X2_32 : FF RX2 32 2 1 := ⟨_, rfl, by decide, inlX2, inr_6 _ (List.mem_of_getElem? (i := 16) rfl)⟩
theorem fp_X2_32 : FP RX2 32 2 1 true (.object "TrialBook$Code") := ⟨_, rfl, by decide, inlX2, inr_6 _ (List.mem_of_getElem? (i := 16) rfl), ⟨tyX2, tyX2_ok⟩, nmX2, rfl, fun _ => rfl, by decide +kernel⟩
theorem f_X2_36 : FF RX2 36 2 2 := ⟨_, rfl, by decide, inlX2, inr_6 _ (List.mem_of_getElem? (i := 17) rfl)⟩
theorem fp_X2_36 : FP RX2 36 2 2 true .int := ⟨_, rfl, by decide, inlX2, inr_6 _ (List.mem_of_getElem? (i := 17) rfl), ⟨tyX2, tyX2_ok⟩, nmX2, rfl, fun _ => rfl, by decide +kernel⟩
theorem f_X2_39 : FF RX2 39 2 3 := ⟨_, rfl, by decide, inlX2, inr_6 _ (List.mem_of_getElem? (i := 18) rfl)⟩
theorem fp_X2_39 : FP RX2 39 2 3 true .int := ⟨_, rfl, by decide, inlX2, inr_6 _ (List.mem_of_getElem? (i := 18) rfl), ⟨tyX2, tyX2_ok⟩, nmX2, rfl, fun _ => rfl, by decide +kernel⟩
theorem f_X2_42 : FF RX2 42 2 4 := ⟨_, rfl, by decide, inlX2, inr_6 _ (List.mem_of_getElem? (i := 19) rfl)⟩
theorem fp_X2_42 : FP RX2 42 2 4 true .int := ⟨_, rfl, by decide, inlX2, inr_6 _ (List.mem_of_getElem? (i := 19) rfl), ⟨tyX2, tyX2_ok⟩, nmX2, rfl, fun _ => rfl, by decide +kernel⟩
theorem f_X2_49 : FF RX2 49 2 7 := ⟨_, rfl, by decide, inlX2, inr_7 _ (List.mem_of_getElem? (i := 11) rfl)⟩
theorem fp_X2_49 : FP RX2 49 2 7 false .int := ⟨_, rfl, by decide, inlX2, inr_7 _ (List.mem_of_getElem? (i := 11) rfl), ⟨tyX2, tyX2_ok⟩, nmX2, rfl, by decide, by decide +kernel⟩
theorem f_X2_60 : FF RX2 60 2 8 := ⟨_, rfl, by decide, inlX2, inr_7 _ (List.mem_of_getElem? (i := 12) rfl)⟩
theorem fp_X2_60 : FP RX2 60 2 8 false .boolean := ⟨_, rfl, by decide, inlX2, inr_7 _ (List.mem_of_getElem? (i := 12) rfl), ⟨tyX2, tyX2_ok⟩, nmX2, rfl, by decide, by decide +kernel⟩
theorem f_X2_64 : FF RX2 64 0 0 := ⟨_, rfl, by decide, inlX0, inr_8 _ (List.mem_of_getElem? (i := 1) rfl)⟩
theorem f_X2_94 : FF RX2 94 1 0 := ⟨_, rfl, by decide, inlX1, inr_8 _ (List.mem_of_getElem? (i := 10) rfl)⟩
theorem fp_X2_94 : FP RX2 94 1 0 false .int := ⟨_, rfl, by decide, inlX1, inr_8 _ (List.mem_of_getElem? (i := 10) rfl), ⟨tyX1, tyX1_ok⟩, nmX1, rfl, by decide, by decide +kernel⟩
theorem f_X2_98 : FF RX2 98 1 2 := ⟨_, rfl, by decide, inlX1, inr_8 _ (List.mem_of_getElem? (i := 21) rfl)⟩
theorem fp_X2_98 : FP RX2 98 1 2 false .boolean := ⟨_, rfl, by decide, inlX1, inr_8 _ (List.mem_of_getElem? (i := 21) rfl), ⟨tyX1, tyX1_ok⟩, nmX1, rfl, by decide, by decide +kernel⟩
theorem f_X2_109 : FF RX2 109 1 3 := ⟨_, rfl, by decide, inlX1, inr_9 _ (List.mem_of_getElem? (i := 15) rfl)⟩
theorem fp_X2_109 : FP RX2 109 1 3 false .boolean := ⟨_, rfl, by decide, inlX1, inr_9 _ (List.mem_of_getElem? (i := 15) rfl), ⟨tyX1, tyX1_ok⟩, nmX1, rfl, by decide, by decide +kernel⟩
theorem f_X2_112 : FF RX2 112 3 1 := ⟨_, rfl, by decide, inlX3, inr_9 _ (List.mem_of_getElem? (i := 16) rfl)⟩
theorem fp_X2_112 : FP RX2 112 3 1 false .int := ⟨_, rfl, by decide, inlX3, inr_9 _ (List.mem_of_getElem? (i := 16) rfl), ⟨tyX3, tyX3_ok⟩, nmX3, rfl, by decide, by decide +kernel⟩
theorem f_X2_127 : FF RX2 127 1 1 := ⟨_, rfl, by decide, inlX1, inr_10 _ (List.mem_of_getElem? (i := 13) rfl)⟩
theorem fp_X2_127 : FP RX2 127 1 1 false .int := ⟨_, rfl, by decide, inlX1, inr_10 _ (List.mem_of_getElem? (i := 13) rfl), ⟨tyX1, tyX1_ok⟩, nmX1, rfl, by decide, by decide +kernel⟩
theorem f_X3_9 : FF RX3 9 3 0 := ⟨_, rfl, by decide, inlX3, inr_2 _ (List.mem_of_getElem? (i := 6) rfl)⟩
theorem fp_X3_9 : FP RX3 9 3 0 true (.array .int) := ⟨_, rfl, by decide, inlX3, inr_2 _ (List.mem_of_getElem? (i := 6) rfl), ⟨tyX3, tyX3_ok⟩, nmX3, rfl, fun _ => rfl, by decide +kernel⟩
theorem f_X4_11 : FF RX4 11 4 0 := ⟨_, rfl, by decide, inlX4, inr_1 _ (List.mem_of_getElem? (i := 13) rfl)⟩
theorem fp_X4_11 : FP RX4 11 4 0 true (.array (.object "TrialBook$Code")) := ⟨_, rfl, by decide, inlX4, inr_1 _ (List.mem_of_getElem? (i := 13) rfl), ⟨tyX4, tyX4_ok⟩, nmX4, rfl, fun _ => rfl, by decide +kernel⟩
theorem f_X4_15 : FF RX4 15 4 1 := ⟨_, rfl, by decide, inlX4, inr_1 _ (List.mem_of_getElem? (i := 15) rfl)⟩
theorem fp_X4_15 : FP RX4 15 4 1 true (.array .int) := ⟨_, rfl, by decide, inlX4, inr_1 _ (List.mem_of_getElem? (i := 15) rfl), ⟨tyX4, tyX4_ok⟩, nmX4, rfl, fun _ => rfl, by decide +kernel⟩
theorem f_X4_22 : FF RX4 22 4 2 := ⟨_, rfl, by decide, inlX4, inr_1 _ (List.mem_of_getElem? (i := 19) rfl)⟩
theorem fp_X4_22 : FP RX4 22 4 2 true (.object "TrialBook$World") := ⟨_, rfl, by decide, inlX4, inr_1 _ (List.mem_of_getElem? (i := 19) rfl), ⟨tyX4, tyX4_ok⟩, nmX4, rfl, fun _ => rfl, by decide +kernel⟩
theorem f_X4_28 : FF RX4 28 4 3 := ⟨_, rfl, by decide, inlX4, inr_1 _ (List.mem_of_getElem? (i := 21) rfl)⟩
theorem fp_X4_28 : FP RX4 28 4 3 true (.array (.object "TrialBook$Run")) := ⟨_, rfl, by decide, inlX4, inr_1 _ (List.mem_of_getElem? (i := 21) rfl), ⟨tyX4, tyX4_ok⟩, nmX4, rfl, fun _ => rfl, by decide +kernel⟩
theorem f_X4_32 : FF RX4 32 4 5 := ⟨_, rfl, by decide, inlX4, inr_1 _ (List.mem_of_getElem? (i := 22) rfl)⟩
theorem fp_X4_32 : FP RX4 32 4 5 true (.array .int) := ⟨_, rfl, by decide, inlX4, inr_1 _ (List.mem_of_getElem? (i := 22) rfl), ⟨tyX4, tyX4_ok⟩, nmX4, rfl, fun _ => rfl, by decide +kernel⟩
theorem f_X4_35 : FF RX4 35 4 6 := ⟨_, rfl, by decide, inlX4, inr_1 _ (List.mem_of_getElem? (i := 23) rfl)⟩
theorem fp_X4_35 : FP RX4 35 4 6 true (.array .int) := ⟨_, rfl, by decide, inlX4, inr_1 _ (List.mem_of_getElem? (i := 23) rfl), ⟨tyX4, tyX4_ok⟩, nmX4, rfl, fun _ => rfl, by decide +kernel⟩
theorem f_X4_38 : FF RX4 38 4 8 := ⟨_, rfl, by decide, inlX4, inr_2 _ (List.mem_of_getElem? (i := 0) rfl)⟩
theorem fp_X4_38 : FP RX4 38 4 8 true (.array (.object "TrialBook$Run")) := ⟨_, rfl, by decide, inlX4, inr_2 _ (List.mem_of_getElem? (i := 0) rfl), ⟨tyX4, tyX4_ok⟩, nmX4, rfl, fun _ => rfl, by decide +kernel⟩
theorem f_X4_73 : FF RX4 73 2 8 := ⟨_, rfl, by decide, inlX2, inr_12 _ (List.mem_of_getElem? (i := 23) rfl)⟩
theorem fp_X4_73 : FP RX4 73 2 8 false .boolean := ⟨_, rfl, by decide, inlX2, inr_12 _ (List.mem_of_getElem? (i := 23) rfl), ⟨tyX2, tyX2_ok⟩, nmX2, rfl, by decide, by decide +kernel⟩
theorem f_X4_77 : FF RX4 77 2 7 := ⟨_, rfl, by decide, inlX2, inr_13 _ (List.mem_of_getElem? (i := 0) rfl)⟩
theorem fp_X4_77 : FP RX4 77 2 7 false .int := ⟨_, rfl, by decide, inlX2, inr_13 _ (List.mem_of_getElem? (i := 0) rfl), ⟨tyX2, tyX2_ok⟩, nmX2, rfl, by decide, by decide +kernel⟩
theorem f_X4_81 : FF RX4 81 2 0 := ⟨_, rfl, by decide, inlX2, inr_13 _ (List.mem_of_getElem? (i := 1) rfl)⟩
theorem f_X4_84 : FF RX4 84 2 1 := ⟨_, rfl, by decide, inlX2, inr_13 _ (List.mem_of_getElem? (i := 2) rfl)⟩
theorem f_X4_88 : FF RX4 88 2 4 := ⟨_, rfl, by decide, inlX2, inr_13 _ (List.mem_of_getElem? (i := 3) rfl)⟩
theorem f_X4_99 : FF RX4 99 2 5 := ⟨_, rfl, by decide, inlX2, inr_13 _ (List.mem_of_getElem? (i := 4) rfl)⟩
theorem f_X4_113 : FF RX4 113 2 2 := ⟨_, rfl, by decide, inlX2, inr_14 _ (List.mem_of_getElem? (i := 9) rfl)⟩
theorem f_X4_116 : FF RX4 116 2 3 := ⟨_, rfl, by decide, inlX2, inr_14 _ (List.mem_of_getElem? (i := 10) rfl)⟩
theorem f_X4_123 : FF RX4 123 2 10 := ⟨_, rfl, by decide, inlX2, inr_14 _ (List.mem_of_getElem? (i := 11) rfl)⟩
theorem fp_X4_123 : FP RX4 123 2 10 false .int := ⟨_, rfl, by decide, inlX2, inr_14 _ (List.mem_of_getElem? (i := 11) rfl), ⟨tyX2, tyX2_ok⟩, nmX2, rfl, by decide, by decide +kernel⟩
theorem f_X4_126 : FF RX4 126 2 11 := ⟨_, rfl, by decide, inlX2, inr_14 _ (List.mem_of_getElem? (i := 12) rfl)⟩
theorem fp_X4_126 : FP RX4 126 2 11 false .int := ⟨_, rfl, by decide, inlX2, inr_14 _ (List.mem_of_getElem? (i := 12) rfl), ⟨tyX2, tyX2_ok⟩, nmX2, rfl, by decide, by decide +kernel⟩
theorem f_X4_129 : FF RX4 129 1 0 := ⟨_, rfl, by decide, inlX1, inr_14 _ (List.mem_of_getElem? (i := 13) rfl)⟩
theorem fp_X4_129 : FP RX4 129 1 0 false .int := ⟨_, rfl, by decide, inlX1, inr_14 _ (List.mem_of_getElem? (i := 13) rfl), ⟨tyX1, tyX1_ok⟩, nmX1, rfl, by decide, by decide +kernel⟩
theorem f_X4_130 : FF RX4 130 1 1 := ⟨_, rfl, by decide, inlX1, inr_14 _ (List.mem_of_getElem? (i := 14) rfl)⟩
theorem fp_X4_130 : FP RX4 130 1 1 false .int := ⟨_, rfl, by decide, inlX1, inr_14 _ (List.mem_of_getElem? (i := 14) rfl), ⟨tyX1, tyX1_ok⟩, nmX1, rfl, by decide, by decide +kernel⟩
theorem f_X4_133 : FF RX4 133 1 2 := ⟨_, rfl, by decide, inlX1, inr_14 _ (List.mem_of_getElem? (i := 15) rfl)⟩
theorem fp_X4_133 : FP RX4 133 1 2 false .boolean := ⟨_, rfl, by decide, inlX1, inr_14 _ (List.mem_of_getElem? (i := 15) rfl), ⟨tyX1, tyX1_ok⟩, nmX1, rfl, by decide, by decide +kernel⟩
theorem f_X4_135 : FF RX4 135 1 3 := ⟨_, rfl, by decide, inlX1, inr_14 _ (List.mem_of_getElem? (i := 16) rfl)⟩
theorem fp_X4_135 : FP RX4 135 1 3 false .boolean := ⟨_, rfl, by decide, inlX1, inr_14 _ (List.mem_of_getElem? (i := 16) rfl), ⟨tyX1, tyX1_ok⟩, nmX1, rfl, by decide, by decide +kernel⟩
theorem f_X4_142 : FF RX4 142 3 1 := ⟨_, rfl, by decide, inlX3, inr_7 _ (List.mem_of_getElem? (i := 5) rfl)⟩
theorem fp_X4_142 : FP RX4 142 3 1 false .int := ⟨_, rfl, by decide, inlX3, inr_7 _ (List.mem_of_getElem? (i := 5) rfl), ⟨tyX3, tyX3_ok⟩, nmX3, rfl, by decide, by decide +kernel⟩
theorem f_X4_144 : FF RX4 144 4 4 := ⟨_, rfl, by decide, inlX4, inr_7 _ (List.mem_of_getElem? (i := 4) rfl)⟩
theorem fp_X4_144 : FP RX4 144 4 4 false .int := ⟨_, rfl, by decide, inlX4, inr_7 _ (List.mem_of_getElem? (i := 4) rfl), ⟨tyX4, tyX4_ok⟩, nmX4, rfl, by decide, by decide +kernel⟩
theorem f_X4_227 : FF RX4 227 4 7 := ⟨_, rfl, by decide, inlX4, inr_26 _ (List.mem_of_getElem? (i := 9) rfl)⟩
theorem fp_X4_227 : FP RX4 227 4 7 false .int := ⟨_, rfl, by decide, inlX4, inr_26 _ (List.mem_of_getElem? (i := 9) rfl), ⟨tyX4, tyX4_ok⟩, nmX4, rfl, by decide, by decide +kernel⟩
theorem f_X4_240 : FF RX4 240 2 9 := ⟨_, rfl, by decide, inlX2, inr_7 _ (List.mem_of_getElem? (i := 6) rfl)⟩
theorem fp_X4_240 : FP RX4 240 2 9 false .boolean := ⟨_, rfl, by decide, inlX2, inr_7 _ (List.mem_of_getElem? (i := 6) rfl), ⟨tyX2, tyX2_ok⟩, nmX2, rfl, by decide, by decide +kernel⟩
theorem f_X4_263 : FF RX4 263 4 9 := ⟨_, rfl, by decide, inlX4, inr_23 _ (List.mem_of_getElem? (i := 21) rfl)⟩
theorem fp_X4_263 : FP RX4 263 4 9 false .int := ⟨_, rfl, by decide, inlX4, inr_23 _ (List.mem_of_getElem? (i := 21) rfl), ⟨tyX4, tyX4_ok⟩, nmX4, rfl, by decide, by decide +kernel⟩
theorem f_X5_7 : FF RX5 7 5 1 := ⟨_, rfl, by decide, inlX5, inr_2 _ (List.mem_of_getElem? (i := 18) rfl)⟩
theorem fp_X5_7 : FP RX5 7 5 1 true (.array .int) := ⟨_, rfl, by decide, inlX5, inr_2 _ (List.mem_of_getElem? (i := 18) rfl), ⟨tyX5, tyX5_ok⟩, nmX5, rfl, fun _ => rfl, by decide +kernel⟩
theorem f_X5_13 : FF RX5 13 5 2 := ⟨_, rfl, by decide, inlX5, inr_2 _ (List.mem_of_getElem? (i := 19) rfl)⟩
theorem fp_X5_13 : FP RX5 13 5 2 true (.array .int) := ⟨_, rfl, by decide, inlX5, inr_2 _ (List.mem_of_getElem? (i := 19) rfl), ⟨tyX5, tyX5_ok⟩, nmX5, rfl, fun _ => rfl, by decide +kernel⟩
theorem f_X5_16 : FF RX5 16 5 3 := ⟨_, rfl, by decide, inlX5, inr_2 _ (List.mem_of_getElem? (i := 20) rfl)⟩
theorem fp_X5_16 : FP RX5 16 5 3 true (.array .int) := ⟨_, rfl, by decide, inlX5, inr_2 _ (List.mem_of_getElem? (i := 20) rfl), ⟨tyX5, tyX5_ok⟩, nmX5, rfl, fun _ => rfl, by decide +kernel⟩
theorem f_X5_19 : FF RX5 19 5 4 := ⟨_, rfl, by decide, inlX5, inr_2 _ (List.mem_of_getElem? (i := 21) rfl)⟩
theorem fp_X5_19 : FP RX5 19 5 4 true (.array .int) := ⟨_, rfl, by decide, inlX5, inr_2 _ (List.mem_of_getElem? (i := 21) rfl), ⟨tyX5, tyX5_ok⟩, nmX5, rfl, fun _ => rfl, by decide +kernel⟩
theorem f_X5_22 : FF RX5 22 5 7 := ⟨_, rfl, by decide, inlX5, inr_2 _ (List.mem_of_getElem? (i := 22) rfl)⟩
theorem fp_X5_22 : FP RX5 22 5 7 true (.array .int) := ⟨_, rfl, by decide, inlX5, inr_2 _ (List.mem_of_getElem? (i := 22) rfl), ⟨tyX5, tyX5_ok⟩, nmX5, rfl, fun _ => rfl, by decide +kernel⟩
theorem f_X5_25 : FF RX5 25 5 8 := ⟨_, rfl, by decide, inlX5, inr_2 _ (List.mem_of_getElem? (i := 23) rfl)⟩
theorem fp_X5_25 : FP RX5 25 5 8 true (.array .int) := ⟨_, rfl, by decide, inlX5, inr_2 _ (List.mem_of_getElem? (i := 23) rfl), ⟨tyX5, tyX5_ok⟩, nmX5, rfl, fun _ => rfl, by decide +kernel⟩
theorem f_X5_28 : FF RX5 28 5 9 := ⟨_, rfl, by decide, inlX5, inr_3 _ (List.mem_of_getElem? (i := 0) rfl)⟩
theorem fp_X5_28 : FP RX5 28 5 9 true (.array .int) := ⟨_, rfl, by decide, inlX5, inr_3 _ (List.mem_of_getElem? (i := 0) rfl), ⟨tyX5, tyX5_ok⟩, nmX5, rfl, fun _ => rfl, by decide +kernel⟩
theorem f_X5_31 : FF RX5 31 5 10 := ⟨_, rfl, by decide, inlX5, inr_3 _ (List.mem_of_getElem? (i := 1) rfl)⟩
theorem fp_X5_31 : FP RX5 31 5 10 true (.array .int) := ⟨_, rfl, by decide, inlX5, inr_3 _ (List.mem_of_getElem? (i := 1) rfl), ⟨tyX5, tyX5_ok⟩, nmX5, rfl, fun _ => rfl, by decide +kernel⟩
theorem f_X5_34 : FF RX5 34 5 11 := ⟨_, rfl, by decide, inlX5, inr_3 _ (List.mem_of_getElem? (i := 2) rfl)⟩
theorem fp_X5_34 : FP RX5 34 5 11 true (.array .int) := ⟨_, rfl, by decide, inlX5, inr_3 _ (List.mem_of_getElem? (i := 2) rfl), ⟨tyX5, tyX5_ok⟩, nmX5, rfl, fun _ => rfl, by decide +kernel⟩
theorem f_X5_37 : FF RX5 37 5 12 := ⟨_, rfl, by decide, inlX5, inr_3 _ (List.mem_of_getElem? (i := 3) rfl)⟩
theorem fp_X5_37 : FP RX5 37 5 12 true (.array .int) := ⟨_, rfl, by decide, inlX5, inr_3 _ (List.mem_of_getElem? (i := 3) rfl), ⟨tyX5, tyX5_ok⟩, nmX5, rfl, fun _ => rfl, by decide +kernel⟩
theorem f_X5_40 : FF RX5 40 5 13 := ⟨_, rfl, by decide, inlX5, inr_3 _ (List.mem_of_getElem? (i := 4) rfl)⟩
theorem fp_X5_40 : FP RX5 40 5 13 true (.array .int) := ⟨_, rfl, by decide, inlX5, inr_3 _ (List.mem_of_getElem? (i := 4) rfl), ⟨tyX5, tyX5_ok⟩, nmX5, rfl, fun _ => rfl, by decide +kernel⟩
theorem f_X5_43 : FF RX5 43 5 14 := ⟨_, rfl, by decide, inlX5, inr_3 _ (List.mem_of_getElem? (i := 5) rfl)⟩
theorem fp_X5_43 : FP RX5 43 5 14 true (.array .int) := ⟨_, rfl, by decide, inlX5, inr_3 _ (List.mem_of_getElem? (i := 5) rfl), ⟨tyX5, tyX5_ok⟩, nmX5, rfl, fun _ => rfl, by decide +kernel⟩
theorem f_X5_46 : FF RX5 46 5 15 := ⟨_, rfl, by decide, inlX5, inr_3 _ (List.mem_of_getElem? (i := 7) rfl)⟩
theorem fp_X5_46 : FP RX5 46 5 15 true (.array .boolean) := ⟨_, rfl, by decide, inlX5, inr_3 _ (List.mem_of_getElem? (i := 7) rfl), ⟨tyX5, tyX5_ok⟩, nmX5, rfl, fun _ => rfl, by decide +kernel⟩
theorem f_X5_50 : FF RX5 50 5 16 := ⟨_, rfl, by decide, inlX5, inr_3 _ (List.mem_of_getElem? (i := 8) rfl)⟩
theorem fp_X5_50 : FP RX5 50 5 16 true (.array .int) := ⟨_, rfl, by decide, inlX5, inr_3 _ (List.mem_of_getElem? (i := 8) rfl), ⟨tyX5, tyX5_ok⟩, nmX5, rfl, fun _ => rfl, by decide +kernel⟩
theorem f_X5_53 : FF RX5 53 5 17 := ⟨_, rfl, by decide, inlX5, inr_3 _ (List.mem_of_getElem? (i := 9) rfl)⟩
theorem fp_X5_53 : FP RX5 53 5 17 true (.array .int) := ⟨_, rfl, by decide, inlX5, inr_3 _ (List.mem_of_getElem? (i := 9) rfl), ⟨tyX5, tyX5_ok⟩, nmX5, rfl, fun _ => rfl, by decide +kernel⟩
theorem f_X5_56 : FF RX5 56 5 18 := ⟨_, rfl, by decide, inlX5, inr_3 _ (List.mem_of_getElem? (i := 10) rfl)⟩
theorem fp_X5_56 : FP RX5 56 5 18 true (.array .int) := ⟨_, rfl, by decide, inlX5, inr_3 _ (List.mem_of_getElem? (i := 10) rfl), ⟨tyX5, tyX5_ok⟩, nmX5, rfl, fun _ => rfl, by decide +kernel⟩
theorem f_X5_59 : FF RX5 59 5 19 := ⟨_, rfl, by decide, inlX5, inr_3 _ (List.mem_of_getElem? (i := 11) rfl)⟩
theorem fp_X5_59 : FP RX5 59 5 19 true (.array .int) := ⟨_, rfl, by decide, inlX5, inr_3 _ (List.mem_of_getElem? (i := 11) rfl), ⟨tyX5, tyX5_ok⟩, nmX5, rfl, fun _ => rfl, by decide +kernel⟩
theorem f_X5_62 : FF RX5 62 5 20 := ⟨_, rfl, by decide, inlX5, inr_3 _ (List.mem_of_getElem? (i := 12) rfl)⟩
theorem fp_X5_62 : FP RX5 62 5 20 true (.array .int) := ⟨_, rfl, by decide, inlX5, inr_3 _ (List.mem_of_getElem? (i := 12) rfl), ⟨tyX5, tyX5_ok⟩, nmX5, rfl, fun _ => rfl, by decide +kernel⟩
theorem f_X5_65 : FF RX5 65 5 21 := ⟨_, rfl, by decide, inlX5, inr_3 _ (List.mem_of_getElem? (i := 13) rfl)⟩
theorem fp_X5_65 : FP RX5 65 5 21 true (.array .boolean) := ⟨_, rfl, by decide, inlX5, inr_3 _ (List.mem_of_getElem? (i := 13) rfl), ⟨tyX5, tyX5_ok⟩, nmX5, rfl, fun _ => rfl, by decide +kernel⟩
theorem f_X5_68 : FF RX5 68 5 22 := ⟨_, rfl, by decide, inlX5, inr_3 _ (List.mem_of_getElem? (i := 14) rfl)⟩
theorem fp_X5_68 : FP RX5 68 5 22 true (.array .boolean) := ⟨_, rfl, by decide, inlX5, inr_3 _ (List.mem_of_getElem? (i := 14) rfl), ⟨tyX5, tyX5_ok⟩, nmX5, rfl, fun _ => rfl, by decide +kernel⟩
theorem f_X5_71 : FF RX5 71 5 23 := ⟨_, rfl, by decide, inlX5, inr_3 _ (List.mem_of_getElem? (i := 15) rfl)⟩
theorem fp_X5_71 : FP RX5 71 5 23 true (.array .int) := ⟨_, rfl, by decide, inlX5, inr_3 _ (List.mem_of_getElem? (i := 15) rfl), ⟨tyX5, tyX5_ok⟩, nmX5, rfl, fun _ => rfl, by decide +kernel⟩
theorem f_X5_74 : FF RX5 74 5 36 := ⟨_, rfl, by decide, inlX5, inr_3 _ (List.mem_of_getElem? (i := 16) rfl)⟩
theorem fp_X5_74 : FP RX5 74 5 36 true (.array .int) := ⟨_, rfl, by decide, inlX5, inr_3 _ (List.mem_of_getElem? (i := 16) rfl), ⟨tyX5, tyX5_ok⟩, nmX5, rfl, fun _ => rfl, by decide +kernel⟩
theorem f_X5_77 : FF RX5 77 5 0 := ⟨_, rfl, by decide, inlX5, inr_4 _ (List.mem_of_getElem? (i := 1) rfl)⟩
theorem fp_X5_77 : FP RX5 77 5 0 false .int := ⟨_, rfl, by decide, inlX5, inr_4 _ (List.mem_of_getElem? (i := 1) rfl), ⟨tyX5, tyX5_ok⟩, nmX5, rfl, by decide, by decide +kernel⟩
theorem f_X5_90 : FF RX5 90 5 6 := ⟨_, rfl, by decide, inlX5, inr_11 _ (List.mem_of_getElem? (i := 4) rfl)⟩
theorem fp_X5_90 : FP RX5 90 5 6 false .int := ⟨_, rfl, by decide, inlX5, inr_11 _ (List.mem_of_getElem? (i := 4) rfl), ⟨tyX5, tyX5_ok⟩, nmX5, rfl, by decide, by decide +kernel⟩
theorem f_X5_93 : FF RX5 93 5 26 := ⟨_, rfl, by decide, inlX5, inr_12 _ (List.mem_of_getElem? (i := 5) rfl)⟩
theorem fp_X5_93 : FP RX5 93 5 26 false .int := ⟨_, rfl, by decide, inlX5, inr_12 _ (List.mem_of_getElem? (i := 5) rfl), ⟨tyX5, tyX5_ok⟩, nmX5, rfl, by decide, by decide +kernel⟩
theorem f_X5_96 : FF RX5 96 5 31 := ⟨_, rfl, by decide, inlX5, inr_12 _ (List.mem_of_getElem? (i := 10) rfl)⟩
theorem fp_X5_96 : FP RX5 96 5 31 false .boolean := ⟨_, rfl, by decide, inlX5, inr_12 _ (List.mem_of_getElem? (i := 10) rfl), ⟨tyX5, tyX5_ok⟩, nmX5, rfl, by decide, by decide +kernel⟩
theorem f_X5_100 : FF RX5 100 5 28 := ⟨_, rfl, by decide, inlX5, inr_12 _ (List.mem_of_getElem? (i := 7) rfl)⟩
theorem fp_X5_100 : FP RX5 100 5 28 false .boolean := ⟨_, rfl, by decide, inlX5, inr_12 _ (List.mem_of_getElem? (i := 7) rfl), ⟨tyX5, tyX5_ok⟩, nmX5, rfl, by decide, by decide +kernel⟩
theorem f_X5_103 : FF RX5 103 5 27 := ⟨_, rfl, by decide, inlX5, inr_12 _ (List.mem_of_getElem? (i := 6) rfl)⟩
theorem fp_X5_103 : FP RX5 103 5 27 false .int := ⟨_, rfl, by decide, inlX5, inr_12 _ (List.mem_of_getElem? (i := 6) rfl), ⟨tyX5, tyX5_ok⟩, nmX5, rfl, by decide, by decide +kernel⟩
theorem f_X5_106 : FF RX5 106 5 29 := ⟨_, rfl, by decide, inlX5, inr_12 _ (List.mem_of_getElem? (i := 8) rfl)⟩
theorem fp_X5_106 : FP RX5 106 5 29 false .boolean := ⟨_, rfl, by decide, inlX5, inr_12 _ (List.mem_of_getElem? (i := 8) rfl), ⟨tyX5, tyX5_ok⟩, nmX5, rfl, by decide, by decide +kernel⟩
theorem f_X5_109 : FF RX5 109 5 5 := ⟨_, rfl, by decide, inlX5, inr_11 _ (List.mem_of_getElem? (i := 5) rfl)⟩
theorem fp_X5_109 : FP RX5 109 5 5 false .int := ⟨_, rfl, by decide, inlX5, inr_11 _ (List.mem_of_getElem? (i := 5) rfl), ⟨tyX5, tyX5_ok⟩, nmX5, rfl, by decide, by decide +kernel⟩
theorem f_X5_112 : FF RX5 112 5 30 := ⟨_, rfl, by decide, inlX5, inr_12 _ (List.mem_of_getElem? (i := 9) rfl)⟩
theorem fp_X5_112 : FP RX5 112 5 30 false .boolean := ⟨_, rfl, by decide, inlX5, inr_12 _ (List.mem_of_getElem? (i := 9) rfl), ⟨tyX5, tyX5_ok⟩, nmX5, rfl, by decide, by decide +kernel⟩
theorem f_X5_115 : FF RX5 115 5 24 := ⟨_, rfl, by decide, inlX5, inr_12 _ (List.mem_of_getElem? (i := 3) rfl)⟩
theorem fp_X5_115 : FP RX5 115 5 24 false .int := ⟨_, rfl, by decide, inlX5, inr_12 _ (List.mem_of_getElem? (i := 3) rfl), ⟨tyX5, tyX5_ok⟩, nmX5, rfl, by decide, by decide +kernel⟩
theorem f_X5_118 : FF RX5 118 5 25 := ⟨_, rfl, by decide, inlX5, inr_12 _ (List.mem_of_getElem? (i := 4) rfl)⟩
theorem fp_X5_118 : FP RX5 118 5 25 false .boolean := ⟨_, rfl, by decide, inlX5, inr_12 _ (List.mem_of_getElem? (i := 4) rfl), ⟨tyX5, tyX5_ok⟩, nmX5, rfl, by decide, by decide +kernel⟩
theorem f_X5_171 : FF RX5 171 5 32 := ⟨_, rfl, by decide, inlX5, inr_19 _ (List.mem_of_getElem? (i := 23) rfl)⟩
theorem fp_X5_171 : FP RX5 171 5 32 false .int := ⟨_, rfl, by decide, inlX5, inr_19 _ (List.mem_of_getElem? (i := 23) rfl), ⟨tyX5, tyX5_ok⟩, nmX5, rfl, by decide, by decide +kernel⟩
theorem f_X5_174 : FF RX5 174 5 33 := ⟨_, rfl, by decide, inlX5, inr_20 _ (List.mem_of_getElem? (i := 0) rfl)⟩
theorem fp_X5_174 : FP RX5 174 5 33 false .int := ⟨_, rfl, by decide, inlX5, inr_20 _ (List.mem_of_getElem? (i := 0) rfl), ⟨tyX5, tyX5_ok⟩, nmX5, rfl, by decide, by decide +kernel⟩
theorem f_X5_177 : FF RX5 177 5 34 := ⟨_, rfl, by decide, inlX5, inr_20 _ (List.mem_of_getElem? (i := 1) rfl)⟩
theorem fp_X5_177 : FP RX5 177 5 34 false .int := ⟨_, rfl, by decide, inlX5, inr_20 _ (List.mem_of_getElem? (i := 1) rfl), ⟨tyX5, tyX5_ok⟩, nmX5, rfl, by decide, by decide +kernel⟩
theorem f_X5_213 : FF RX5 213 5 35 := ⟨_, rfl, by decide, inlX5, inr_26 _ (List.mem_of_getElem? (i := 14) rfl)⟩
theorem fp_X5_213 : FP RX5 213 5 35 false .int := ⟨_, rfl, by decide, inlX5, inr_26 _ (List.mem_of_getElem? (i := 14) rfl), ⟨tyX5, tyX5_ok⟩, nmX5, rfl, by decide, by decide +kernel⟩
theorem v_L_9 : IOK RL 9 yX4_init cX4_init 2 0 := ⟨inr_1 _ (List.mem_of_getElem? (i := 6) rfl), inr_1 _ (List.mem_of_getElem? (i := 7) rfl), inr_1 _ (List.mem_of_getElem? (i := 2) rfl), inr_1 _ (List.mem_of_getElem? (i := 8) rfl), by decide +kernel⟩
theorem v_L_12 : IOK RL 12 yX5_init cX5_init 1 0 := ⟨inr_2 _ (List.mem_of_getElem? (i := 14) rfl), inr_2 _ (List.mem_of_getElem? (i := 15) rfl), inr_1 _ (List.mem_of_getElem? (i := 5) rfl), inr_2 _ (List.mem_of_getElem? (i := 16) rfl), by decide +kernel⟩
theorem v_L_13 : VOK RL 13 yX4_code cX4_code 5 (some .boolean) 4 := VOK.of (inr_3 _ (List.mem_of_getElem? (i := 17) rfl)) (inr_3 _ (List.mem_of_getElem? (i := 18) rfl)) (inr_3 _ (List.mem_of_getElem? (i := 19) rfl)) (inr_1 _ (List.mem_of_getElem? (i := 2) rfl)) (inr_3 _ (List.mem_of_getElem? (i := 20) rfl)) (by decide +kernel)
theorem v_L_17 : VOK RL 17 yX5_code cX5_code 6 (some .boolean) 4 := VOK.of (inr_3 _ (List.mem_of_getElem? (i := 21) rfl)) (inr_3 _ (List.mem_of_getElem? (i := 22) rfl)) (inr_3 _ (List.mem_of_getElem? (i := 23) rfl)) (inr_1 _ (List.mem_of_getElem? (i := 5) rfl)) (inr_4 _ (List.mem_of_getElem? (i := 0) rfl)) (by decide +kernel)
theorem v_L_18 : VOK RL 18 yX4_data cX4_data 3 (some .boolean) 2 := VOK.of (inr_4 _ (List.mem_of_getElem? (i := 6) rfl)) (inr_4 _ (List.mem_of_getElem? (i := 7) rfl)) (inr_4 _ (List.mem_of_getElem? (i := 8) rfl)) (inr_1 _ (List.mem_of_getElem? (i := 2) rfl)) (inr_4 _ (List.mem_of_getElem? (i := 9) rfl)) (by decide +kernel)
theorem v_L_22 : VOK RL 22 yX5_data cX5_data 3 (some .boolean) 2 := VOK.of (inr_4 _ (List.mem_of_getElem? (i := 14) rfl)) (inr_4 _ (List.mem_of_getElem? (i := 15) rfl)) (inr_4 _ (List.mem_of_getElem? (i := 16) rfl)) (inr_1 _ (List.mem_of_getElem? (i := 5) rfl)) (inr_4 _ (List.mem_of_getElem? (i := 17) rfl)) (by decide +kernel)
theorem v_L_23 : VOK RL 23 yX4_bound cX4_bound 3 (some .boolean) 2 := VOK.of (inr_4 _ (List.mem_of_getElem? (i := 18) rfl)) (inr_4 _ (List.mem_of_getElem? (i := 19) rfl)) (inr_4 _ (List.mem_of_getElem? (i := 20) rfl)) (inr_1 _ (List.mem_of_getElem? (i := 2) rfl)) (inr_4 _ (List.mem_of_getElem? (i := 21) rfl)) (by decide +kernel)
theorem v_L_26 : VOK RL 26 yX5_bound cX5_bound 3 (some .boolean) 2 := VOK.of (inr_4 _ (List.mem_of_getElem? (i := 22) rfl)) (inr_4 _ (List.mem_of_getElem? (i := 23) rfl)) (inr_5 _ (List.mem_of_getElem? (i := 0) rfl)) (inr_1 _ (List.mem_of_getElem? (i := 5) rfl)) (inr_5 _ (List.mem_of_getElem? (i := 1) rfl)) (by decide +kernel)
theorem v_L_27 : VOK RL 27 yX4_run cX4_run 6 (some .int) 4 := VOK.of (inr_5 _ (List.mem_of_getElem? (i := 2) rfl)) (inr_5 _ (List.mem_of_getElem? (i := 3) rfl)) (inr_5 _ (List.mem_of_getElem? (i := 4) rfl)) (inr_1 _ (List.mem_of_getElem? (i := 2) rfl)) (inr_5 _ (List.mem_of_getElem? (i := 5) rfl)) (by decide +kernel)
theorem v_L_31 : VOK RL 31 yX5_run cX5_run 7 (some .int) 4 := VOK.of (inr_11 _ (List.mem_of_getElem? (i := 0) rfl)) (inr_11 _ (List.mem_of_getElem? (i := 1) rfl)) (inr_11 _ (List.mem_of_getElem? (i := 2) rfl)) (inr_1 _ (List.mem_of_getElem? (i := 5) rfl)) (inr_11 _ (List.mem_of_getElem? (i := 3) rfl)) (by decide +kernel)
theorem v_L_32 : VOK RL 32 yX4_fork cX4_fork 7 (some .int) 4 := VOK.of (inr_12 _ (List.mem_of_getElem? (i := 19) rfl)) (inr_12 _ (List.mem_of_getElem? (i := 20) rfl)) (inr_12 _ (List.mem_of_getElem? (i := 21) rfl)) (inr_1 _ (List.mem_of_getElem? (i := 2) rfl)) (inr_12 _ (List.mem_of_getElem? (i := 22) rfl)) (by decide +kernel)
theorem v_L_35 : VOK RL 35 yX5_fork cX5_fork 7 (some .int) 4 := VOK.of (inr_13 _ (List.mem_of_getElem? (i := 21) rfl)) (inr_13 _ (List.mem_of_getElem? (i := 22) rfl)) (inr_13 _ (List.mem_of_getElem? (i := 23) rfl)) (inr_1 _ (List.mem_of_getElem? (i := 5) rfl)) (inr_14 _ (List.mem_of_getElem? (i := 0) rfl)) (by decide +kernel)
theorem v_L_36 : VOK RL 36 yX4_of cX4_of 4 (some .int) 2 := VOK.of (inr_14 _ (List.mem_of_getElem? (i := 5) rfl)) (inr_14 _ (List.mem_of_getElem? (i := 6) rfl)) (inr_14 _ (List.mem_of_getElem? (i := 7) rfl)) (inr_1 _ (List.mem_of_getElem? (i := 2) rfl)) (inr_14 _ (List.mem_of_getElem? (i := 8) rfl)) (by decide +kernel)
theorem v_L_40 : VOK RL 40 yX5_of cX5_of 3 (some .int) 2 := VOK.of (inr_15 _ (List.mem_of_getElem? (i := 7) rfl)) (inr_15 _ (List.mem_of_getElem? (i := 8) rfl)) (inr_15 _ (List.mem_of_getElem? (i := 9) rfl)) (inr_1 _ (List.mem_of_getElem? (i := 5) rfl)) (inr_15 _ (List.mem_of_getElem? (i := 10) rfl)) (by decide +kernel)
theorem v_L_41 : VOK RL 41 yX4_clock cX4_clock 1 (some .int) 0 := VOK.of (inr_15 _ (List.mem_of_getElem? (i := 23) rfl)) (inr_16 _ (List.mem_of_getElem? (i := 0) rfl)) (inr_16 _ (List.mem_of_getElem? (i := 1) rfl)) (inr_1 _ (List.mem_of_getElem? (i := 2) rfl)) (inr_16 _ (List.mem_of_getElem? (i := 2) rfl)) (by decide +kernel)
theorem v_L_45 : VOK RL 45 yX5_clock cX5_clock 1 (some .int) 0 := VOK.of (inr_16 _ (List.mem_of_getElem? (i := 3) rfl)) (inr_16 _ (List.mem_of_getElem? (i := 4) rfl)) (inr_16 _ (List.mem_of_getElem? (i := 5) rfl)) (inr_1 _ (List.mem_of_getElem? (i := 5) rfl)) (inr_16 _ (List.mem_of_getElem? (i := 6) rfl)) (by decide +kernel)
theorem v_L_46 : VOK RL 46 yX4_runs cX4_runs 1 (some .int) 0 := VOK.of (inr_16 _ (List.mem_of_getElem? (i := 7) rfl)) (inr_16 _ (List.mem_of_getElem? (i := 8) rfl)) (inr_16 _ (List.mem_of_getElem? (i := 9) rfl)) (inr_1 _ (List.mem_of_getElem? (i := 2) rfl)) (inr_16 _ (List.mem_of_getElem? (i := 10) rfl)) (by decide +kernel)
theorem v_L_49 : VOK RL 49 yX5_runs cX5_runs 1 (some .int) 0 := VOK.of (inr_16 _ (List.mem_of_getElem? (i := 11) rfl)) (inr_16 _ (List.mem_of_getElem? (i := 12) rfl)) (inr_16 _ (List.mem_of_getElem? (i := 13) rfl)) (inr_1 _ (List.mem_of_getElem? (i := 5) rfl)) (inr_16 _ (List.mem_of_getElem? (i := 14) rfl)) (by decide +kernel)
theorem v_L_50 : VOK RL 50 yX4_again cX4_again 4 (some .int) 1 := VOK.of (inr_16 _ (List.mem_of_getElem? (i := 15) rfl)) (inr_16 _ (List.mem_of_getElem? (i := 16) rfl)) (inr_16 _ (List.mem_of_getElem? (i := 17) rfl)) (inr_1 _ (List.mem_of_getElem? (i := 2) rfl)) (inr_16 _ (List.mem_of_getElem? (i := 18) rfl)) (by decide +kernel)
theorem v_L_54 : VOK RL 54 yX5_again cX5_again 6 (some .int) 1 := VOK.of (inr_17 _ (List.mem_of_getElem? (i := 4) rfl)) (inr_17 _ (List.mem_of_getElem? (i := 5) rfl)) (inr_17 _ (List.mem_of_getElem? (i := 6) rfl)) (inr_1 _ (List.mem_of_getElem? (i := 5) rfl)) (inr_17 _ (List.mem_of_getElem? (i := 7) rfl)) (by decide +kernel)
theorem v_L_55 : VOK RL 55 yX4_loose cX4_loose 3 (some .int) 1 := VOK.of (inr_17 _ (List.mem_of_getElem? (i := 8) rfl)) (inr_17 _ (List.mem_of_getElem? (i := 9) rfl)) (inr_17 _ (List.mem_of_getElem? (i := 10) rfl)) (inr_1 _ (List.mem_of_getElem? (i := 2) rfl)) (inr_17 _ (List.mem_of_getElem? (i := 11) rfl)) (by decide +kernel)
theorem v_L_58 : VOK RL 58 yX5_loose cX5_loose 4 (some .int) 1 := VOK.of (inr_17 _ (List.mem_of_getElem? (i := 12) rfl)) (inr_17 _ (List.mem_of_getElem? (i := 13) rfl)) (inr_17 _ (List.mem_of_getElem? (i := 14) rfl)) (inr_1 _ (List.mem_of_getElem? (i := 5) rfl)) (inr_17 _ (List.mem_of_getElem? (i := 15) rfl)) (by decide +kernel)
theorem v_L_59 : VOK RL 59 yX4_saved cX4_saved 8 (some .int) 4 := VOK.of (inr_17 _ (List.mem_of_getElem? (i := 16) rfl)) (inr_17 _ (List.mem_of_getElem? (i := 17) rfl)) (inr_17 _ (List.mem_of_getElem? (i := 18) rfl)) (inr_1 _ (List.mem_of_getElem? (i := 2) rfl)) (inr_17 _ (List.mem_of_getElem? (i := 19) rfl)) (by decide +kernel)
theorem v_L_62 : VOK RL 62 yX5_saved cX5_saved 5 (some .int) 4 := VOK.of (inr_18 _ (List.mem_of_getElem? (i := 10) rfl)) (inr_18 _ (List.mem_of_getElem? (i := 11) rfl)) (inr_18 _ (List.mem_of_getElem? (i := 12) rfl)) (inr_1 _ (List.mem_of_getElem? (i := 5) rfl)) (inr_18 _ (List.mem_of_getElem? (i := 13) rfl)) (by decide +kernel)
theorem v_L_63 : VOK RL 63 yX4_pairs cX4_pairs 6 (some .int) 5 := VOK.of (inr_18 _ (List.mem_of_getElem? (i := 18) rfl)) (inr_18 _ (List.mem_of_getElem? (i := 19) rfl)) (inr_18 _ (List.mem_of_getElem? (i := 20) rfl)) (inr_1 _ (List.mem_of_getElem? (i := 2) rfl)) (inr_18 _ (List.mem_of_getElem? (i := 21) rfl)) (by decide +kernel)
theorem v_L_67 : VOK RL 67 yX5_pairs cX5_pairs 6 (some .int) 5 := VOK.of (inr_19 _ (List.mem_of_getElem? (i := 19) rfl)) (inr_19 _ (List.mem_of_getElem? (i := 20) rfl)) (inr_19 _ (List.mem_of_getElem? (i := 21) rfl)) (inr_1 _ (List.mem_of_getElem? (i := 5) rfl)) (inr_19 _ (List.mem_of_getElem? (i := 22) rfl)) (by decide +kernel)
theorem v_L_68 : VOK RL 68 yX4_pair cX4_pair 12 (some .int) 6 := VOK.of (inr_21 _ (List.mem_of_getElem? (i := 6) rfl)) (inr_21 _ (List.mem_of_getElem? (i := 7) rfl)) (inr_21 _ (List.mem_of_getElem? (i := 8) rfl)) (inr_1 _ (List.mem_of_getElem? (i := 2) rfl)) (inr_21 _ (List.mem_of_getElem? (i := 9) rfl)) (by decide +kernel)
theorem v_L_72 : VOK RL 72 yX5_pair cX5_pair 10 (some .int) 6 := VOK.of (inr_21 _ (List.mem_of_getElem? (i := 10) rfl)) (inr_21 _ (List.mem_of_getElem? (i := 11) rfl)) (inr_21 _ (List.mem_of_getElem? (i := 12) rfl)) (inr_1 _ (List.mem_of_getElem? (i := 5) rfl)) (inr_21 _ (List.mem_of_getElem? (i := 13) rfl)) (by decide +kernel)
theorem v_L_73 : VOK RL 73 yX4_sure cX4_sure 7 (some .int) 6 := VOK.of (inr_21 _ (List.mem_of_getElem? (i := 14) rfl)) (inr_21 _ (List.mem_of_getElem? (i := 15) rfl)) (inr_21 _ (List.mem_of_getElem? (i := 16) rfl)) (inr_1 _ (List.mem_of_getElem? (i := 2) rfl)) (inr_21 _ (List.mem_of_getElem? (i := 17) rfl)) (by decide +kernel)
theorem v_L_76 : VOK RL 76 yX5_sure cX5_sure 7 (some .int) 6 := VOK.of (inr_22 _ (List.mem_of_getElem? (i := 5) rfl)) (inr_22 _ (List.mem_of_getElem? (i := 6) rfl)) (inr_22 _ (List.mem_of_getElem? (i := 7) rfl)) (inr_1 _ (List.mem_of_getElem? (i := 5) rfl)) (inr_22 _ (List.mem_of_getElem? (i := 8) rfl)) (by decide +kernel)
theorem v_L_77 : VOK RL 77 yX4_best cX4_best 8 (some .int) 3 := VOK.of (inr_22 _ (List.mem_of_getElem? (i := 18) rfl)) (inr_22 _ (List.mem_of_getElem? (i := 19) rfl)) (inr_22 _ (List.mem_of_getElem? (i := 20) rfl)) (inr_1 _ (List.mem_of_getElem? (i := 2) rfl)) (inr_22 _ (List.mem_of_getElem? (i := 21) rfl)) (by decide +kernel)
theorem v_L_81 : VOK RL 81 yX5_best cX5_best 7 (some .int) 3 := VOK.of (inr_23 _ (List.mem_of_getElem? (i := 6) rfl)) (inr_23 _ (List.mem_of_getElem? (i := 7) rfl)) (inr_23 _ (List.mem_of_getElem? (i := 8) rfl)) (inr_1 _ (List.mem_of_getElem? (i := 5) rfl)) (inr_23 _ (List.mem_of_getElem? (i := 9) rfl)) (by decide +kernel)
theorem v_L_82 : VOK RL 82 yX4_holes cX4_holes 8 (some .int) 3 := VOK.of (inr_23 _ (List.mem_of_getElem? (i := 10) rfl)) (inr_23 _ (List.mem_of_getElem? (i := 11) rfl)) (inr_23 _ (List.mem_of_getElem? (i := 12) rfl)) (inr_1 _ (List.mem_of_getElem? (i := 2) rfl)) (inr_23 _ (List.mem_of_getElem? (i := 13) rfl)) (by decide +kernel)
theorem v_L_85 : VOK RL 85 yX5_holes cX5_holes 7 (some .int) 3 := VOK.of (inr_24 _ (List.mem_of_getElem? (i := 17) rfl)) (inr_24 _ (List.mem_of_getElem? (i := 18) rfl)) (inr_24 _ (List.mem_of_getElem? (i := 19) rfl)) (inr_1 _ (List.mem_of_getElem? (i := 5) rfl)) (inr_24 _ (List.mem_of_getElem? (i := 20) rfl)) (by decide +kernel)
theorem v_L_86 : VOK RL 86 yX4_hole cX4_hole 12 (some .int) 5 := VOK.of (inr_25 _ (List.mem_of_getElem? (i := 9) rfl)) (inr_25 _ (List.mem_of_getElem? (i := 10) rfl)) (inr_25 _ (List.mem_of_getElem? (i := 11) rfl)) (inr_1 _ (List.mem_of_getElem? (i := 2) rfl)) (inr_25 _ (List.mem_of_getElem? (i := 12) rfl)) (by decide +kernel)
theorem v_L_89 : VOK RL 89 yX5_hole cX5_hole 9 (some .int) 5 := VOK.of (inr_25 _ (List.mem_of_getElem? (i := 17) rfl)) (inr_25 _ (List.mem_of_getElem? (i := 18) rfl)) (inr_25 _ (List.mem_of_getElem? (i := 19) rfl)) (inr_1 _ (List.mem_of_getElem? (i := 5) rfl)) (inr_25 _ (List.mem_of_getElem? (i := 20) rfl)) (by decide +kernel)
theorem v_L_90 : VOK RL 90 yX4_idle cX4_idle 4 (some .int) 0 := VOK.of (inr_25 _ (List.mem_of_getElem? (i := 21) rfl)) (inr_25 _ (List.mem_of_getElem? (i := 22) rfl)) (inr_25 _ (List.mem_of_getElem? (i := 23) rfl)) (inr_1 _ (List.mem_of_getElem? (i := 2) rfl)) (inr_26 _ (List.mem_of_getElem? (i := 0) rfl)) (by decide +kernel)
theorem v_L_93 : VOK RL 93 yX5_idle cX5_idle 3 (some .int) 0 := VOK.of (inr_26 _ (List.mem_of_getElem? (i := 1) rfl)) (inr_26 _ (List.mem_of_getElem? (i := 2) rfl)) (inr_26 _ (List.mem_of_getElem? (i := 3) rfl)) (inr_1 _ (List.mem_of_getElem? (i := 5) rfl)) (inr_26 _ (List.mem_of_getElem? (i := 4) rfl)) (by decide +kernel)
theorem v_L_94 : VOK RL 94 yX4_claim cX4_claim 3 (some .int) 1 := VOK.of (inr_26 _ (List.mem_of_getElem? (i := 5) rfl)) (inr_26 _ (List.mem_of_getElem? (i := 6) rfl)) (inr_26 _ (List.mem_of_getElem? (i := 7) rfl)) (inr_1 _ (List.mem_of_getElem? (i := 2) rfl)) (inr_26 _ (List.mem_of_getElem? (i := 8) rfl)) (by decide +kernel)
theorem v_L_97 : VOK RL 97 yX5_claim cX5_claim 2 (some .int) 1 := VOK.of (inr_26 _ (List.mem_of_getElem? (i := 10) rfl)) (inr_26 _ (List.mem_of_getElem? (i := 11) rfl)) (inr_26 _ (List.mem_of_getElem? (i := 12) rfl)) (inr_1 _ (List.mem_of_getElem? (i := 5) rfl)) (inr_26 _ (List.mem_of_getElem? (i := 13) rfl)) (by decide +kernel)
theorem v_L_98 : VOK RL 98 yX4_claimed cX4_claimed 3 (some .int) 2 := VOK.of (inr_26 _ (List.mem_of_getElem? (i := 15) rfl)) (inr_26 _ (List.mem_of_getElem? (i := 16) rfl)) (inr_26 _ (List.mem_of_getElem? (i := 17) rfl)) (inr_1 _ (List.mem_of_getElem? (i := 2) rfl)) (inr_26 _ (List.mem_of_getElem? (i := 18) rfl)) (by decide +kernel)
theorem v_L_101 : VOK RL 101 yX5_claimed cX5_claimed 4 (some .int) 2 := VOK.of (inr_26 _ (List.mem_of_getElem? (i := 19) rfl)) (inr_26 _ (List.mem_of_getElem? (i := 20) rfl)) (inr_26 _ (List.mem_of_getElem? (i := 21) rfl)) (inr_1 _ (List.mem_of_getElem? (i := 5) rfl)) (inr_26 _ (List.mem_of_getElem? (i := 22) rfl)) (by decide +kernel)
theorem v_X1_33 : VOK RX1 33 yX1_addWord cX1_addWord 3 none 2 := VOK.of (inr_13 _ (List.mem_of_getElem? (i := 20) rfl)) (inr_9 _ (List.mem_of_getElem? (i := 7) rfl)) (inr_9 _ (List.mem_of_getElem? (i := 8) rfl)) (inr_6 _ (List.mem_of_getElem? (i := 10) rfl)) (inr_9 _ (List.mem_of_getElem? (i := 9) rfl)) (by decide +kernel)
theorem v_X1_37 : VOK RX1 37 yX3_wordAt cX3_wordAt 2 (some .int) 1 := VOK.of (inr_15 _ (List.mem_of_getElem? (i := 6) rfl)) (inr_9 _ (List.mem_of_getElem? (i := 3) rfl)) (inr_9 _ (List.mem_of_getElem? (i := 4) rfl)) (inr_1 _ (List.mem_of_getElem? (i := 18) rfl)) (inr_9 _ (List.mem_of_getElem? (i := 5) rfl)) (by decide +kernel)
theorem v_X2_45 : VOK RX2 45 yX2_rowAt cX2_rowAt 2 (some .int) 1 := VOK.of (inr_7 _ (List.mem_of_getElem? (i := 17) rfl)) (inr_7 _ (List.mem_of_getElem? (i := 18) rfl)) (inr_7 _ (List.mem_of_getElem? (i := 19) rfl)) (inr_5 _ (List.mem_of_getElem? (i := 7) rfl)) (inr_7 _ (List.mem_of_getElem? (i := 20) rfl)) (by decide +kernel)
theorem v_X2_52 : VOK RX2 52 yX2_lastRow cX2_lastRow 1 (some .int) 0 := VOK.of (inr_7 _ (List.mem_of_getElem? (i := 13) rfl)) (inr_7 _ (List.mem_of_getElem? (i := 14) rfl)) (inr_7 _ (List.mem_of_getElem? (i := 15) rfl)) (inr_5 _ (List.mem_of_getElem? (i := 7) rfl)) (inr_7 _ (List.mem_of_getElem? (i := 16) rfl)) (by decide +kernel)
theorem v_X2_56 : VOK RX2 56 yX2_afterTick cX2_afterTick 9 (some .int) 3 := VOK.of (inr_7 _ (List.mem_of_getElem? (i := 21) rfl)) (inr_7 _ (List.mem_of_getElem? (i := 22) rfl)) (inr_7 _ (List.mem_of_getElem? (i := 23) rfl)) (inr_5 _ (List.mem_of_getElem? (i := 7) rfl)) (inr_8 _ (List.mem_of_getElem? (i := 0) rfl)) (by decide +kernel)
theorem v_X2_69 : VOK RX2 69 yX0_stepAt cX0_stepAt 2 (some .int) 1 := VOK.of (inr_8 _ (List.mem_of_getElem? (i := 2) rfl)) (inr_8 _ (List.mem_of_getElem? (i := 3) rfl)) (inr_8 _ (List.mem_of_getElem? (i := 4) rfl)) (inr_2 _ (List.mem_of_getElem? (i := 2) rfl)) (inr_8 _ (List.mem_of_getElem? (i := 5) rfl)) (by decide +kernel)
theorem v_X2_72 : VOK RX2 72 yX2_readSetting cX2_readSetting 3 (some .int) 1 := VOK.of (inr_8 _ (List.mem_of_getElem? (i := 6) rfl)) (inr_8 _ (List.mem_of_getElem? (i := 7) rfl)) (inr_8 _ (List.mem_of_getElem? (i := 8) rfl)) (inr_5 _ (List.mem_of_getElem? (i := 7) rfl)) (inr_8 _ (List.mem_of_getElem? (i := 9) rfl)) (by decide +kernel)
theorem v_X2_79 : VOK RX2 79 yX2_afterStep cX2_afterStep 6 (some .int) 5 := VOK.of (inr_8 _ (List.mem_of_getElem? (i := 13) rfl)) (inr_8 _ (List.mem_of_getElem? (i := 14) rfl)) (inr_8 _ (List.mem_of_getElem? (i := 15) rfl)) (inr_5 _ (List.mem_of_getElem? (i := 7) rfl)) (inr_8 _ (List.mem_of_getElem? (i := 16) rfl)) (by decide +kernel)
theorem v_X2_83 : VOK RX2 83 yX2_readSeed cX2_readSeed 1 (some .int) 0 := VOK.of (inr_8 _ (List.mem_of_getElem? (i := 17) rfl)) (inr_8 _ (List.mem_of_getElem? (i := 18) rfl)) (inr_8 _ (List.mem_of_getElem? (i := 19) rfl)) (inr_5 _ (List.mem_of_getElem? (i := 7) rfl)) (inr_8 _ (List.mem_of_getElem? (i := 20) rfl)) (by decide +kernel)
theorem v_X2_86 : VOK RX2 86 yX2_readWord cX2_readWord 4 (some .int) 2 := VOK.of (inr_8 _ (List.mem_of_getElem? (i := 22) rfl)) (inr_8 _ (List.mem_of_getElem? (i := 23) rfl)) (inr_9 _ (List.mem_of_getElem? (i := 0) rfl)) (inr_5 _ (List.mem_of_getElem? (i := 7) rfl)) (inr_9 _ (List.mem_of_getElem? (i := 1) rfl)) (by decide +kernel)
theorem v_X2_90 : VOK RX2 90 yX2_readClock cX2_readClock 2 (some .int) 1 := VOK.of (inr_9 _ (List.mem_of_getElem? (i := 11) rfl)) (inr_9 _ (List.mem_of_getElem? (i := 12) rfl)) (inr_9 _ (List.mem_of_getElem? (i := 13) rfl)) (inr_5 _ (List.mem_of_getElem? (i := 7) rfl)) (inr_9 _ (List.mem_of_getElem? (i := 14) rfl)) (by decide +kernel)
theorem v_X2_100 : VOK RX2 100 yX3_wordAt cX3_wordAt 2 (some .int) 1 := VOK.of (inr_9 _ (List.mem_of_getElem? (i := 2) rfl)) (inr_9 _ (List.mem_of_getElem? (i := 3) rfl)) (inr_9 _ (List.mem_of_getElem? (i := 4) rfl)) (inr_1 _ (List.mem_of_getElem? (i := 18) rfl)) (inr_9 _ (List.mem_of_getElem? (i := 5) rfl)) (by decide +kernel)
theorem v_X2_105 : VOK RX2 105 yX1_addWord cX1_addWord 3 none 2 := VOK.of (inr_9 _ (List.mem_of_getElem? (i := 6) rfl)) (inr_9 _ (List.mem_of_getElem? (i := 7) rfl)) (inr_9 _ (List.mem_of_getElem? (i := 8) rfl)) (inr_6 _ (List.mem_of_getElem? (i := 10) rfl)) (inr_9 _ (List.mem_of_getElem? (i := 9) rfl)) (by decide +kernel)
theorem v_X2_119 : VOK RX2 119 yX2_isFork cX2_isFork 1 (some .boolean) 0 := VOK.of (inr_9 _ (List.mem_of_getElem? (i := 21) rfl)) (inr_9 _ (List.mem_of_getElem? (i := 22) rfl)) (inr_9 _ (List.mem_of_getElem? (i := 23) rfl)) (inr_5 _ (List.mem_of_getElem? (i := 7) rfl)) (inr_10 _ (List.mem_of_getElem? (i := 0) rfl)) (by decide +kernel)
theorem v_X2_123 : VOK RX2 123 yX0_isLike cX0_isLike 2 (some .boolean) 1 := VOK.of (inr_10 _ (List.mem_of_getElem? (i := 14) rfl)) (inr_10 _ (List.mem_of_getElem? (i := 15) rfl)) (inr_10 _ (List.mem_of_getElem? (i := 16) rfl)) (inr_2 _ (List.mem_of_getElem? (i := 2) rfl)) (inr_10 _ (List.mem_of_getElem? (i := 17) rfl)) (by decide +kernel)
theorem v_X2_130 : VOK RX2 130 yX1_agreesOnSharedWords cX1_agreesOnSharedWords 4 (some .boolean) 1 := VOK.of (inr_10 _ (List.mem_of_getElem? (i := 18) rfl)) (inr_10 _ (List.mem_of_getElem? (i := 19) rfl)) (inr_10 _ (List.mem_of_getElem? (i := 20) rfl)) (inr_6 _ (List.mem_of_getElem? (i := 10) rfl)) (inr_10 _ (List.mem_of_getElem? (i := 21) rfl)) (by decide +kernel)
theorem v_X2_134 : VOK RX2 134 yX2_isComparable cX2_isComparable 1 (some .boolean) 0 := VOK.of (inr_18 _ (List.mem_of_getElem? (i := 8) rfl)) (inr_9 _ (List.mem_of_getElem? (i := 18) rfl)) (inr_9 _ (List.mem_of_getElem? (i := 19) rfl)) (inr_5 _ (List.mem_of_getElem? (i := 7) rfl)) (inr_9 _ (List.mem_of_getElem? (i := 20) rfl)) (by decide +kernel)
theorem v_X2_137 : VOK RX2 137 yX1_changedWords cX1_changedWords 4 (some .int) 1 := VOK.of (inr_18 _ (List.mem_of_getElem? (i := 9) rfl)) (inr_15 _ (List.mem_of_getElem? (i := 3) rfl)) (inr_15 _ (List.mem_of_getElem? (i := 4) rfl)) (inr_6 _ (List.mem_of_getElem? (i := 10) rfl)) (inr_15 _ (List.mem_of_getElem? (i := 5) rfl)) (by decide +kernel)
theorem v_X4_41 : IOK RX4 41 yX0_init cX0_init 6 3 := ⟨inr_2 _ (List.mem_of_getElem? (i := 7) rfl), inr_2 _ (List.mem_of_getElem? (i := 8) rfl), inr_2 _ (List.mem_of_getElem? (i := 2) rfl), inr_2 _ (List.mem_of_getElem? (i := 9) rfl), by decide +kernel⟩
theorem v_X4_44 : VOK RX4 44 yX3_setWord cX3_setWord 3 (some .boolean) 2 := VOK.of (inr_4 _ (List.mem_of_getElem? (i := 10) rfl)) (inr_4 _ (List.mem_of_getElem? (i := 11) rfl)) (inr_4 _ (List.mem_of_getElem? (i := 12) rfl)) (inr_1 _ (List.mem_of_getElem? (i := 18) rfl)) (inr_4 _ (List.mem_of_getElem? (i := 13) rfl)) (by decide +kernel)
theorem v_X4_48 : VOK RX4 48 yX4_codeAt cX4_codeAt 2 (some (.object "TrialBook$Code")) 1 := VOK.of (inr_5 _ (List.mem_of_getElem? (i := 8) rfl)) (inr_5 _ (List.mem_of_getElem? (i := 9) rfl)) (inr_5 _ (List.mem_of_getElem? (i := 10) rfl)) (inr_1 _ (List.mem_of_getElem? (i := 2) rfl)) (inr_5 _ (List.mem_of_getElem? (i := 11) rfl)) (by decide +kernel)
theorem v_X4_52 : SOK RX4 52 yX4_areSettings cX4_areSettings 2 (some .boolean) 1 := SOK.of (inr_5 _ (List.mem_of_getElem? (i := 12) rfl)) (inr_5 _ (List.mem_of_getElem? (i := 13) rfl)) (inr_1 _ (List.mem_of_getElem? (i := 2) rfl)) (inr_5 _ (List.mem_of_getElem? (i := 14) rfl)) (by decide +kernel)
theorem v_X4_56 : SOK RX4 56 yX4_isSeed cX4_isSeed 1 (some .boolean) 1 := SOK.of (inr_5 _ (List.mem_of_getElem? (i := 22) rfl)) (inr_5 _ (List.mem_of_getElem? (i := 23) rfl)) (inr_1 _ (List.mem_of_getElem? (i := 2) rfl)) (inr_6 _ (List.mem_of_getElem? (i := 0) rfl)) (by decide +kernel)
theorem v_X4_59 : SOK RX4 59 yX4_areTicks cX4_areTicks 1 (some .boolean) 1 := SOK.of (inr_6 _ (List.mem_of_getElem? (i := 1) rfl)) (inr_6 _ (List.mem_of_getElem? (i := 2) rfl)) (inr_1 _ (List.mem_of_getElem? (i := 2) rfl)) (inr_6 _ (List.mem_of_getElem? (i := 3) rfl)) (by decide +kernel)
theorem v_X4_62 : IOK RX4 62 yX2_init cX2_init 6 5 := ⟨inr_6 _ (List.mem_of_getElem? (i := 4) rfl), inr_6 _ (List.mem_of_getElem? (i := 5) rfl), inr_5 _ (List.mem_of_getElem? (i := 7) rfl), inr_6 _ (List.mem_of_getElem? (i := 6) rfl), by decide +kernel⟩
theorem v_X4_65 : VOK RX4 65 yX4_enter cX4_enter 2 (some .int) 1 := VOK.of (inr_7 _ (List.mem_of_getElem? (i := 0) rfl)) (inr_7 _ (List.mem_of_getElem? (i := 1) rfl)) (inr_7 _ (List.mem_of_getElem? (i := 2) rfl)) (inr_1 _ (List.mem_of_getElem? (i := 2) rfl)) (inr_7 _ (List.mem_of_getElem? (i := 3) rfl)) (by decide +kernel)
theorem v_X4_69 : VOK RX4 69 yX4_runAt cX4_runAt 2 (some (.object "TrialBook$Run")) 1 := VOK.of (inr_10 _ (List.mem_of_getElem? (i := 5) rfl)) (inr_10 _ (List.mem_of_getElem? (i := 6) rfl)) (inr_10 _ (List.mem_of_getElem? (i := 7) rfl)) (inr_1 _ (List.mem_of_getElem? (i := 2) rfl)) (inr_10 _ (List.mem_of_getElem? (i := 8) rfl)) (by decide +kernel)
theorem v_X4_91 : VOK RX4 91 yX2_comeOf cX2_comeOf 3 none 2 := VOK.of (inr_13 _ (List.mem_of_getElem? (i := 5) rfl)) (inr_13 _ (List.mem_of_getElem? (i := 6) rfl)) (inr_13 _ (List.mem_of_getElem? (i := 7) rfl)) (inr_5 _ (List.mem_of_getElem? (i := 7) rfl)) (inr_13 _ (List.mem_of_getElem? (i := 8) rfl)) (by decide +kernel)
theorem v_X4_95 : VOK RX4 95 yX2_takeRows cX2_takeRows 4 none 2 := VOK.of (inr_13 _ (List.mem_of_getElem? (i := 9) rfl)) (inr_13 _ (List.mem_of_getElem? (i := 10) rfl)) (inr_13 _ (List.mem_of_getElem? (i := 11) rfl)) (inr_5 _ (List.mem_of_getElem? (i := 7) rfl)) (inr_13 _ (List.mem_of_getElem? (i := 12) rfl)) (by decide +kernel)
theorem v_X4_103 : VOK RX4 103 yX1_addAll cX1_addAll 3 none 1 := VOK.of (inr_13 _ (List.mem_of_getElem? (i := 13) rfl)) (inr_13 _ (List.mem_of_getElem? (i := 14) rfl)) (inr_13 _ (List.mem_of_getElem? (i := 15) rfl)) (inr_6 _ (List.mem_of_getElem? (i := 10) rfl)) (inr_13 _ (List.mem_of_getElem? (i := 16) rfl)) (by decide +kernel)
theorem v_X4_109 : VOK RX4 109 yX2_rowAt cX2_rowAt 2 (some .int) 1 := VOK.of (inr_14 _ (List.mem_of_getElem? (i := 17) rfl)) (inr_7 _ (List.mem_of_getElem? (i := 18) rfl)) (inr_7 _ (List.mem_of_getElem? (i := 19) rfl)) (inr_5 _ (List.mem_of_getElem? (i := 7) rfl)) (inr_7 _ (List.mem_of_getElem? (i := 20) rfl)) (by decide +kernel)
theorem v_X4_119 : SOK RX4 119 yX4_asNumber cX4_asNumber 1 (some .int) 1 := SOK.of (inr_14 _ (List.mem_of_getElem? (i := 18) rfl)) (inr_14 _ (List.mem_of_getElem? (i := 19) rfl)) (inr_1 _ (List.mem_of_getElem? (i := 2) rfl)) (inr_14 _ (List.mem_of_getElem? (i := 20) rfl)) (by decide +kernel)
theorem v_X4_138 : VOK RX4 138 yX4_isStale cX4_isStale 2 (some .boolean) 1 := VOK.of (inr_14 _ (List.mem_of_getElem? (i := 21) rfl)) (inr_14 _ (List.mem_of_getElem? (i := 22) rfl)) (inr_14 _ (List.mem_of_getElem? (i := 23) rfl)) (inr_1 _ (List.mem_of_getElem? (i := 2) rfl)) (inr_15 _ (List.mem_of_getElem? (i := 0) rfl)) (by decide +kernel)
theorem v_X4_147 : VOK RX4 147 yX2_isFork cX2_isFork 1 (some .boolean) 0 := VOK.of (inr_16 _ (List.mem_of_getElem? (i := 19) rfl)) (inr_9 _ (List.mem_of_getElem? (i := 22) rfl)) (inr_9 _ (List.mem_of_getElem? (i := 23) rfl)) (inr_5 _ (List.mem_of_getElem? (i := 7) rfl)) (inr_10 _ (List.mem_of_getElem? (i := 0) rfl)) (by decide +kernel)
theorem v_X4_151 : VOK RX4 151 yX2_doTicks cX2_doTicks 4 none 1 := VOK.of (inr_7 _ (List.mem_of_getElem? (i := 7) rfl)) (inr_7 _ (List.mem_of_getElem? (i := 8) rfl)) (inr_7 _ (List.mem_of_getElem? (i := 9) rfl)) (inr_5 _ (List.mem_of_getElem? (i := 7) rfl)) (inr_7 _ (List.mem_of_getElem? (i := 10) rfl)) (by decide +kernel)
theorem v_X4_155 : VOK RX4 155 yX2_firstOtherTick cX2_firstOtherTick 4 (some .int) 1 := VOK.of (inr_16 _ (List.mem_of_getElem? (i := 20) rfl)) (inr_16 _ (List.mem_of_getElem? (i := 21) rfl)) (inr_16 _ (List.mem_of_getElem? (i := 22) rfl)) (inr_5 _ (List.mem_of_getElem? (i := 7) rfl)) (inr_16 _ (List.mem_of_getElem? (i := 23) rfl)) (by decide +kernel)
theorem v_X4_158 : VOK RX4 158 yX1_changedWords cX1_changedWords 4 (some .int) 1 := VOK.of (inr_15 _ (List.mem_of_getElem? (i := 2) rfl)) (inr_15 _ (List.mem_of_getElem? (i := 3) rfl)) (inr_15 _ (List.mem_of_getElem? (i := 4) rfl)) (inr_6 _ (List.mem_of_getElem? (i := 10) rfl)) (inr_15 _ (List.mem_of_getElem? (i := 5) rfl)) (by decide +kernel)
theorem v_X4_162 : VOK RX4 162 yX2_fitsSettings cX2_fitsSettings 3 (some .boolean) 1 := VOK.of (inr_17 _ (List.mem_of_getElem? (i := 20) rfl)) (inr_17 _ (List.mem_of_getElem? (i := 21) rfl)) (inr_17 _ (List.mem_of_getElem? (i := 22) rfl)) (inr_5 _ (List.mem_of_getElem? (i := 7) rfl)) (inr_17 _ (List.mem_of_getElem? (i := 23) rfl)) (by decide +kernel)
theorem v_X4_165 : VOK RX4 165 yX2_fitsSeed cX2_fitsSeed 2 (some .boolean) 1 := VOK.of (inr_18 _ (List.mem_of_getElem? (i := 0) rfl)) (inr_18 _ (List.mem_of_getElem? (i := 1) rfl)) (inr_18 _ (List.mem_of_getElem? (i := 2) rfl)) (inr_5 _ (List.mem_of_getElem? (i := 7) rfl)) (inr_18 _ (List.mem_of_getElem? (i := 3) rfl)) (by decide +kernel)
theorem v_X4_168 : VOK RX4 168 yX2_isUsable cX2_isUsable 4 (some .boolean) 3 := VOK.of (inr_18 _ (List.mem_of_getElem? (i := 4) rfl)) (inr_18 _ (List.mem_of_getElem? (i := 5) rfl)) (inr_18 _ (List.mem_of_getElem? (i := 6) rfl)) (inr_5 _ (List.mem_of_getElem? (i := 7) rfl)) (inr_18 _ (List.mem_of_getElem? (i := 7) rfl)) (by decide +kernel)
theorem v_X4_172 : SOK RX4 172 yX4_canCompare cX4_canCompare 4 (some .boolean) 4 := SOK.of (inr_18 _ (List.mem_of_getElem? (i := 22) rfl)) (inr_18 _ (List.mem_of_getElem? (i := 23) rfl)) (inr_1 _ (List.mem_of_getElem? (i := 2) rfl)) (inr_19 _ (List.mem_of_getElem? (i := 0) rfl)) (by decide +kernel)
theorem v_X4_176 : VOK RX4 176 yX4_countPairs cX4_countPairs 11 (some .int) 5 := VOK.of (inr_19 _ (List.mem_of_getElem? (i := 4) rfl)) (inr_19 _ (List.mem_of_getElem? (i := 5) rfl)) (inr_19 _ (List.mem_of_getElem? (i := 6) rfl)) (inr_1 _ (List.mem_of_getElem? (i := 2) rfl)) (inr_19 _ (List.mem_of_getElem? (i := 7) rfl)) (by decide +kernel)
theorem v_X4_180 : SOK RX4 180 yX4_standsFor cX4_standsFor 4 (some .boolean) 4 := SOK.of (inr_19 _ (List.mem_of_getElem? (i := 8) rfl)) (inr_19 _ (List.mem_of_getElem? (i := 9) rfl)) (inr_1 _ (List.mem_of_getElem? (i := 2) rfl)) (inr_19 _ (List.mem_of_getElem? (i := 10) rfl)) (by decide +kernel)
theorem v_X4_184 : VOK RX4 184 yX2_pairsWith cX2_pairsWith 4 (some .boolean) 2 := VOK.of (inr_19 _ (List.mem_of_getElem? (i := 11) rfl)) (inr_19 _ (List.mem_of_getElem? (i := 12) rfl)) (inr_19 _ (List.mem_of_getElem? (i := 13) rfl)) (inr_5 _ (List.mem_of_getElem? (i := 7) rfl)) (inr_19 _ (List.mem_of_getElem? (i := 14) rfl)) (by decide +kernel)
theorem v_X4_188 : SOK RX4 188 yX4_areOdds cX4_areOdds 1 (some .boolean) 1 := SOK.of (inr_21 _ (List.mem_of_getElem? (i := 18) rfl)) (inr_21 _ (List.mem_of_getElem? (i := 19) rfl)) (inr_1 _ (List.mem_of_getElem? (i := 2) rfl)) (inr_21 _ (List.mem_of_getElem? (i := 20) rfl)) (by decide +kernel)
theorem v_X4_191 : VOK RX4 191 yX4_judge cX4_judge 9 (some .int) 5 := VOK.of (inr_21 _ (List.mem_of_getElem? (i := 22) rfl)) (inr_21 _ (List.mem_of_getElem? (i := 23) rfl)) (inr_22 _ (List.mem_of_getElem? (i := 0) rfl)) (inr_1 _ (List.mem_of_getElem? (i := 2) rfl)) (inr_22 _ (List.mem_of_getElem? (i := 1) rfl)) (by decide +kernel)
theorem v_X4_195 : SOK RX4 195 yX4_isSetting cX4_isSetting 1 (some .boolean) 1 := SOK.of (inr_19 _ (List.mem_of_getElem? (i := 1) rfl)) (inr_19 _ (List.mem_of_getElem? (i := 2) rfl)) (inr_1 _ (List.mem_of_getElem? (i := 2) rfl)) (inr_19 _ (List.mem_of_getElem? (i := 3) rfl)) (by decide +kernel)
theorem v_X4_198 : VOK RX4 198 yX4_boundOf cX4_boundOf 2 (some .int) 1 := VOK.of (inr_22 _ (List.mem_of_getElem? (i := 22) rfl)) (inr_22 _ (List.mem_of_getElem? (i := 23) rfl)) (inr_23 _ (List.mem_of_getElem? (i := 0) rfl)) (inr_1 _ (List.mem_of_getElem? (i := 2) rfl)) (inr_23 _ (List.mem_of_getElem? (i := 1) rfl)) (by decide +kernel)
theorem v_X4_201 : VOK RX4 201 yX4_beatsOthers cX4_beatsOthers 8 (some .boolean) 4 := VOK.of (inr_23 _ (List.mem_of_getElem? (i := 2) rfl)) (inr_23 _ (List.mem_of_getElem? (i := 3) rfl)) (inr_23 _ (List.mem_of_getElem? (i := 4) rfl)) (inr_1 _ (List.mem_of_getElem? (i := 2) rfl)) (inr_23 _ (List.mem_of_getElem? (i := 5) rfl)) (by decide +kernel)
theorem v_X4_205 : SOK RX4 205 yX4_areGridSeeds cX4_areGridSeeds 1 (some .boolean) 1 := SOK.of (inr_23 _ (List.mem_of_getElem? (i := 14) rfl)) (inr_23 _ (List.mem_of_getElem? (i := 15) rfl)) (inr_1 _ (List.mem_of_getElem? (i := 2) rfl)) (inr_23 _ (List.mem_of_getElem? (i := 16) rfl)) (by decide +kernel)
theorem v_X4_208 : VOK RX4 208 yX4_gatherFillers cX4_gatherFillers 5 none 2 := VOK.of (inr_23 _ (List.mem_of_getElem? (i := 17) rfl)) (inr_23 _ (List.mem_of_getElem? (i := 18) rfl)) (inr_23 _ (List.mem_of_getElem? (i := 19) rfl)) (inr_1 _ (List.mem_of_getElem? (i := 2) rfl)) (inr_23 _ (List.mem_of_getElem? (i := 20) rfl)) (by decide +kernel)
theorem v_X4_212 : VOK RX4 212 yX4_openSeeds cX4_openSeeds 6 (some .int) 2 := VOK.of (inr_23 _ (List.mem_of_getElem? (i := 22) rfl)) (inr_23 _ (List.mem_of_getElem? (i := 23) rfl)) (inr_24 _ (List.mem_of_getElem? (i := 0) rfl)) (inr_1 _ (List.mem_of_getElem? (i := 2) rfl)) (inr_24 _ (List.mem_of_getElem? (i := 1) rfl)) (by decide +kernel)
theorem v_X4_216 : SOK RX4 216 yJ6_bitCount_0f7a4 cJ6_bitCount_0f7a4 1 (some .int) 1 := SOK.of (inr_24 _ (List.mem_of_getElem? (i := 6) rfl)) (inr_24 _ (List.mem_of_getElem? (i := 7) rfl)) (inr_24 _ (List.mem_of_getElem? (i := 8) rfl)) (inr_24 _ (List.mem_of_getElem? (i := 9) rfl)) (by decide +kernel)
theorem v_X4_221 : VOK RX4 221 yX4_nextSettings cX4_nextSettings 5 (some .int) 1 := VOK.of (inr_24 _ (List.mem_of_getElem? (i := 13) rfl)) (inr_24 _ (List.mem_of_getElem? (i := 14) rfl)) (inr_24 _ (List.mem_of_getElem? (i := 15) rfl)) (inr_1 _ (List.mem_of_getElem? (i := 2) rfl)) (inr_24 _ (List.mem_of_getElem? (i := 16) rfl)) (by decide +kernel)
theorem v_X4_224 : SOK RX4 224 yX4_memberAt cX4_memberAt 4 (some .int) 2 := SOK.of (inr_25 _ (List.mem_of_getElem? (i := 13) rfl)) (inr_25 _ (List.mem_of_getElem? (i := 14) rfl)) (inr_1 _ (List.mem_of_getElem? (i := 2) rfl)) (inr_25 _ (List.mem_of_getElem? (i := 15) rfl)) (by decide +kernel)
theorem v_X4_230 : VOK RX4 230 yX2_lastRow cX2_lastRow 1 (some .int) 0 := VOK.of (inr_19 _ (List.mem_of_getElem? (i := 15) rfl)) (inr_7 _ (List.mem_of_getElem? (i := 14) rfl)) (inr_7 _ (List.mem_of_getElem? (i := 15) rfl)) (inr_5 _ (List.mem_of_getElem? (i := 7) rfl)) (inr_7 _ (List.mem_of_getElem? (i := 16) rfl)) (by decide +kernel)
theorem v_X4_234 : VOK RX4 234 yX2_isComparable cX2_isComparable 1 (some .boolean) 0 := VOK.of (inr_9 _ (List.mem_of_getElem? (i := 17) rfl)) (inr_9 _ (List.mem_of_getElem? (i := 18) rfl)) (inr_9 _ (List.mem_of_getElem? (i := 19) rfl)) (inr_5 _ (List.mem_of_getElem? (i := 7) rfl)) (inr_9 _ (List.mem_of_getElem? (i := 20) rfl)) (by decide +kernel)
theorem v_X4_237 : VOK RX4 237 yX4_isCountedAlready cX4_isCountedAlready 4 (some .boolean) 1 := VOK.of (inr_10 _ (List.mem_of_getElem? (i := 1) rfl)) (inr_10 _ (List.mem_of_getElem? (i := 2) rfl)) (inr_10 _ (List.mem_of_getElem? (i := 3) rfl)) (inr_1 _ (List.mem_of_getElem? (i := 2) rfl)) (inr_10 _ (List.mem_of_getElem? (i := 4) rfl)) (by decide +kernel)
theorem v_X4_243 : VOK RX4 243 yX2_isLike cX2_isLike 2 (some .boolean) 1 := VOK.of (inr_10 _ (List.mem_of_getElem? (i := 9) rfl)) (inr_10 _ (List.mem_of_getElem? (i := 10) rfl)) (inr_10 _ (List.mem_of_getElem? (i := 11) rfl)) (inr_5 _ (List.mem_of_getElem? (i := 7) rfl)) (inr_10 _ (List.mem_of_getElem? (i := 12) rfl)) (by decide +kernel)
theorem v_X4_246 : VOK RX4 246 yX0_isLike cX0_isLike 2 (some .boolean) 1 := VOK.of (inr_15 _ (List.mem_of_getElem? (i := 1) rfl)) (inr_10 _ (List.mem_of_getElem? (i := 15) rfl)) (inr_10 _ (List.mem_of_getElem? (i := 16) rfl)) (inr_2 _ (List.mem_of_getElem? (i := 2) rfl)) (inr_10 _ (List.mem_of_getElem? (i := 17) rfl)) (by decide +kernel)
theorem v_X4_249 : SOK RX4 249 yX4_isValue cX4_isValue 1 (some .boolean) 1 := SOK.of (inr_5 _ (List.mem_of_getElem? (i := 19) rfl)) (inr_5 _ (List.mem_of_getElem? (i := 20) rfl)) (inr_1 _ (List.mem_of_getElem? (i := 2) rfl)) (inr_5 _ (List.mem_of_getElem? (i := 21) rfl)) (by decide +kernel)
theorem v_X4_252 : SOK RX4 252 yX4_settingOf cX4_settingOf 2 (some .int) 2 := SOK.of (inr_5 _ (List.mem_of_getElem? (i := 16) rfl)) (inr_5 _ (List.mem_of_getElem? (i := 17) rfl)) (inr_1 _ (List.mem_of_getElem? (i := 2) rfl)) (inr_5 _ (List.mem_of_getElem? (i := 18) rfl)) (by decide +kernel)
theorem v_X4_255 : SOK RX4 255 yX4_endsAsAsked cX4_endsAsAsked 3 (some .boolean) 3 := SOK.of (inr_19 _ (List.mem_of_getElem? (i := 16) rfl)) (inr_19 _ (List.mem_of_getElem? (i := 17) rfl)) (inr_1 _ (List.mem_of_getElem? (i := 2) rfl)) (inr_19 _ (List.mem_of_getElem? (i := 18) rfl)) (by decide +kernel)
theorem v_X4_259 : SOK RX4 259 yX4_waysToWin cX4_waysToWin 7 (some .long) 2 := SOK.of (inr_22 _ (List.mem_of_getElem? (i := 2) rfl)) (inr_22 _ (List.mem_of_getElem? (i := 3) rfl)) (inr_1 _ (List.mem_of_getElem? (i := 2) rfl)) (inr_22 _ (List.mem_of_getElem? (i := 4) rfl)) (by decide +kernel)
theorem v_X4_266 : VOK RX4 266 yX2_gridSeeds cX2_gridSeeds 1 (some .int) 0 := VOK.of (inr_24 _ (List.mem_of_getElem? (i := 2) rfl)) (inr_24 _ (List.mem_of_getElem? (i := 3) rfl)) (inr_24 _ (List.mem_of_getElem? (i := 4) rfl)) (inr_5 _ (List.mem_of_getElem? (i := 7) rfl)) (inr_24 _ (List.mem_of_getElem? (i := 5) rfl)) (by decide +kernel)
theorem v_X4_269 : SOK RX4 269 yX4_isIn cX4_isIn 2 (some .boolean) 2 := SOK.of (inr_25 _ (List.mem_of_getElem? (i := 16) rfl)) (inr_10 _ (List.mem_of_getElem? (i := 22) rfl)) (inr_1 _ (List.mem_of_getElem? (i := 2) rfl)) (inr_10 _ (List.mem_of_getElem? (i := 23) rfl)) (by decide +kernel)
theorem v_X5_81 : VOK RX5 81 yX5_isCode cX5_isCode 2 (some .boolean) 1 := VOK.of (inr_4 _ (List.mem_of_getElem? (i := 2) rfl)) (inr_4 _ (List.mem_of_getElem? (i := 3) rfl)) (inr_4 _ (List.mem_of_getElem? (i := 4) rfl)) (inr_1 _ (List.mem_of_getElem? (i := 5) rfl)) (inr_4 _ (List.mem_of_getElem? (i := 5) rfl)) (by decide +kernel)
theorem v_X5_86 : VOK RX5 86 yX5_setting cX5_setting 3 (some .int) 2 := VOK.of (inr_11 _ (List.mem_of_getElem? (i := 11) rfl)) (inr_11 _ (List.mem_of_getElem? (i := 12) rfl)) (inr_11 _ (List.mem_of_getElem? (i := 13) rfl)) (inr_1 _ (List.mem_of_getElem? (i := 5) rfl)) (inr_11 _ (List.mem_of_getElem? (i := 14) rfl)) (by decide +kernel)
theorem v_X5_121 : VOK RX5 121 yX5_step cX5_step 8 (some .int) 5 := VOK.of (inr_12 _ (List.mem_of_getElem? (i := 11) rfl)) (inr_12 _ (List.mem_of_getElem? (i := 12) rfl)) (inr_12 _ (List.mem_of_getElem? (i := 13) rfl)) (inr_1 _ (List.mem_of_getElem? (i := 5) rfl)) (inr_12 _ (List.mem_of_getElem? (i := 14) rfl)) (by decide +kernel)
theorem v_X5_125 : VOK RX5 125 yX5_areSettings cX5_areSettings 3 (some .boolean) 1 := VOK.of (inr_11 _ (List.mem_of_getElem? (i := 6) rfl)) (inr_11 _ (List.mem_of_getElem? (i := 7) rfl)) (inr_11 _ (List.mem_of_getElem? (i := 8) rfl)) (inr_1 _ (List.mem_of_getElem? (i := 5) rfl)) (inr_11 _ (List.mem_of_getElem? (i := 9) rfl)) (by decide +kernel)
theorem v_X5_128 : VOK RX5 128 yX5_isSeed cX5_isSeed 2 (some .boolean) 1 := VOK.of (inr_11 _ (List.mem_of_getElem? (i := 15) rfl)) (inr_11 _ (List.mem_of_getElem? (i := 16) rfl)) (inr_11 _ (List.mem_of_getElem? (i := 17) rfl)) (inr_1 _ (List.mem_of_getElem? (i := 5) rfl)) (inr_11 _ (List.mem_of_getElem? (i := 18) rfl)) (by decide +kernel)
theorem v_X5_131 : VOK RX5 131 yX5_areTicks cX5_areTicks 2 (some .boolean) 1 := VOK.of (inr_11 _ (List.mem_of_getElem? (i := 19) rfl)) (inr_11 _ (List.mem_of_getElem? (i := 20) rfl)) (inr_11 _ (List.mem_of_getElem? (i := 21) rfl)) (inr_1 _ (List.mem_of_getElem? (i := 5) rfl)) (inr_11 _ (List.mem_of_getElem? (i := 22) rfl)) (by decide +kernel)
theorem v_X5_134 : VOK RX5 134 yX5_goes cX5_goes 10 none 6 := VOK.of (inr_11 _ (List.mem_of_getElem? (i := 23) rfl)) (inr_12 _ (List.mem_of_getElem? (i := 0) rfl)) (inr_12 _ (List.mem_of_getElem? (i := 1) rfl)) (inr_1 _ (List.mem_of_getElem? (i := 5) rfl)) (inr_12 _ (List.mem_of_getElem? (i := 2) rfl)) (by decide +kernel)
theorem v_X5_138 : VOK RX5 138 yX5_takes cX5_takes 4 none 2 := VOK.of (inr_12 _ (List.mem_of_getElem? (i := 15) rfl)) (inr_12 _ (List.mem_of_getElem? (i := 16) rfl)) (inr_12 _ (List.mem_of_getElem? (i := 17) rfl)) (inr_1 _ (List.mem_of_getElem? (i := 5) rfl)) (inr_12 _ (List.mem_of_getElem? (i := 18) rfl)) (by decide +kernel)
theorem v_X5_142 : VOK RX5 142 yX5_isRun cX5_isRun 2 (some .boolean) 1 := VOK.of (inr_14 _ (List.mem_of_getElem? (i := 1) rfl)) (inr_14 _ (List.mem_of_getElem? (i := 2) rfl)) (inr_14 _ (List.mem_of_getElem? (i := 3) rfl)) (inr_1 _ (List.mem_of_getElem? (i := 5) rfl)) (inr_14 _ (List.mem_of_getElem? (i := 4) rfl)) (by decide +kernel)
theorem v_X5_145 : VOK RX5 145 yX5_isCodeOf cX5_isCodeOf 4 (some .boolean) 2 := VOK.of (inr_15 _ (List.mem_of_getElem? (i := 15) rfl)) (inr_15 _ (List.mem_of_getElem? (i := 16) rfl)) (inr_15 _ (List.mem_of_getElem? (i := 17) rfl)) (inr_1 _ (List.mem_of_getElem? (i := 5) rfl)) (inr_15 _ (List.mem_of_getElem? (i := 18) rfl)) (by decide +kernel)
theorem v_X5_149 : VOK RX5 149 yX5_isOtherWord cX5_isOtherWord 3 (some .boolean) 2 := VOK.of (inr_15 _ (List.mem_of_getElem? (i := 19) rfl)) (inr_15 _ (List.mem_of_getElem? (i := 20) rfl)) (inr_15 _ (List.mem_of_getElem? (i := 21) rfl)) (inr_1 _ (List.mem_of_getElem? (i := 5) rfl)) (inr_15 _ (List.mem_of_getElem? (i := 22) rfl)) (by decide +kernel)
theorem v_X5_152 : VOK RX5 152 yX5_isStale cX5_isStale 3 (some .boolean) 1 := VOK.of (inr_15 _ (List.mem_of_getElem? (i := 11) rfl)) (inr_15 _ (List.mem_of_getElem? (i := 12) rfl)) (inr_15 _ (List.mem_of_getElem? (i := 13) rfl)) (inr_1 _ (List.mem_of_getElem? (i := 5) rfl)) (inr_15 _ (List.mem_of_getElem? (i := 14) rfl)) (by decide +kernel)
theorem v_X5_155 : VOK RX5 155 yX5_savedBy cX5_savedBy 8 (some .int) 4 := VOK.of (inr_18 _ (List.mem_of_getElem? (i := 14) rfl)) (inr_18 _ (List.mem_of_getElem? (i := 15) rfl)) (inr_18 _ (List.mem_of_getElem? (i := 16) rfl)) (inr_1 _ (List.mem_of_getElem? (i := 5) rfl)) (inr_18 _ (List.mem_of_getElem? (i := 17) rfl)) (by decide +kernel)
theorem v_X5_159 : VOK RX5 159 yX5_isLikeCode cX5_isLikeCode 4 (some .boolean) 2 := VOK.of (inr_20 _ (List.mem_of_getElem? (i := 22) rfl)) (inr_20 _ (List.mem_of_getElem? (i := 23) rfl)) (inr_21 _ (List.mem_of_getElem? (i := 0) rfl)) (inr_1 _ (List.mem_of_getElem? (i := 5) rfl)) (inr_21 _ (List.mem_of_getElem? (i := 1) rfl)) (by decide +kernel)
theorem v_X5_162 : VOK RX5 162 yX5_mayBe cX5_mayBe 3 (some .boolean) 2 := VOK.of (inr_20 _ (List.mem_of_getElem? (i := 14) rfl)) (inr_20 _ (List.mem_of_getElem? (i := 15) rfl)) (inr_20 _ (List.mem_of_getElem? (i := 16) rfl)) (inr_1 _ (List.mem_of_getElem? (i := 5) rfl)) (inr_20 _ (List.mem_of_getElem? (i := 17) rfl)) (by decide +kernel)
theorem v_X5_165 : VOK RX5 165 yX5_isLike cX5_isLike 4 (some .boolean) 2 := VOK.of (inr_20 _ (List.mem_of_getElem? (i := 18) rfl)) (inr_20 _ (List.mem_of_getElem? (i := 19) rfl)) (inr_20 _ (List.mem_of_getElem? (i := 20) rfl)) (inr_1 _ (List.mem_of_getElem? (i := 5) rfl)) (inr_20 _ (List.mem_of_getElem? (i := 21) rfl)) (by decide +kernel)
theorem v_X5_168 : VOK RX5 168 yX5_isLeast cX5_isLeast 4 (some .boolean) 2 := VOK.of (inr_21 _ (List.mem_of_getElem? (i := 2) rfl)) (inr_21 _ (List.mem_of_getElem? (i := 3) rfl)) (inr_21 _ (List.mem_of_getElem? (i := 4) rfl)) (inr_1 _ (List.mem_of_getElem? (i := 5) rfl)) (inr_21 _ (List.mem_of_getElem? (i := 5) rfl)) (by decide +kernel)
theorem v_X5_180 : VOK RX5 180 yX5_isPair cX5_isPair 7 (some .boolean) 6 := VOK.of (inr_20 _ (List.mem_of_getElem? (i := 10) rfl)) (inr_20 _ (List.mem_of_getElem? (i := 11) rfl)) (inr_20 _ (List.mem_of_getElem? (i := 12) rfl)) (inr_1 _ (List.mem_of_getElem? (i := 5) rfl)) (inr_20 _ (List.mem_of_getElem? (i := 13) rfl)) (by decide +kernel)
theorem v_X5_184 : VOK RX5 184 yX5_canPair cX5_canPair 5 (some .boolean) 4 := VOK.of (inr_20 _ (List.mem_of_getElem? (i := 2) rfl)) (inr_20 _ (List.mem_of_getElem? (i := 3) rfl)) (inr_20 _ (List.mem_of_getElem? (i := 4) rfl)) (inr_1 _ (List.mem_of_getElem? (i := 5) rfl)) (inr_20 _ (List.mem_of_getElem? (i := 5) rfl)) (by decide +kernel)
theorem v_X5_188 : VOK RX5 188 yX5_findPairs cX5_findPairs 9 none 4 := VOK.of (inr_20 _ (List.mem_of_getElem? (i := 6) rfl)) (inr_20 _ (List.mem_of_getElem? (i := 7) rfl)) (inr_20 _ (List.mem_of_getElem? (i := 8) rfl)) (inr_1 _ (List.mem_of_getElem? (i := 5) rfl)) (inr_20 _ (List.mem_of_getElem? (i := 9) rfl)) (by decide +kernel)
theorem v_X5_192 : VOK RX5 192 yX5_overs cX5_overs 8 (some .long) 2 := VOK.of (inr_22 _ (List.mem_of_getElem? (i := 14) rfl)) (inr_22 _ (List.mem_of_getElem? (i := 15) rfl)) (inr_22 _ (List.mem_of_getElem? (i := 16) rfl)) (inr_1 _ (List.mem_of_getElem? (i := 5) rfl)) (inr_22 _ (List.mem_of_getElem? (i := 17) rfl)) (by decide +kernel)
theorem v_X5_197 : VOK RX5 197 yX5_sureOf cX5_sureOf 8 (some .int) 5 := VOK.of (inr_22 _ (List.mem_of_getElem? (i := 10) rfl)) (inr_22 _ (List.mem_of_getElem? (i := 11) rfl)) (inr_22 _ (List.mem_of_getElem? (i := 12) rfl)) (inr_1 _ (List.mem_of_getElem? (i := 5) rfl)) (inr_22 _ (List.mem_of_getElem? (i := 13) rfl)) (by decide +kernel)
theorem v_X5_201 : VOK RX5 201 yX5_canHole cX5_canHole 4 (some .boolean) 3 := VOK.of (inr_24 _ (List.mem_of_getElem? (i := 21) rfl)) (inr_24 _ (List.mem_of_getElem? (i := 22) rfl)) (inr_24 _ (List.mem_of_getElem? (i := 23) rfl)) (inr_1 _ (List.mem_of_getElem? (i := 5) rfl)) (inr_25 _ (List.mem_of_getElem? (i := 0) rfl)) (by decide +kernel)
theorem v_X5_205 : VOK RX5 205 yX5_grid cX5_grid 1 (some .int) 0 := VOK.of (inr_25 _ (List.mem_of_getElem? (i := 1) rfl)) (inr_25 _ (List.mem_of_getElem? (i := 2) rfl)) (inr_25 _ (List.mem_of_getElem? (i := 3) rfl)) (inr_1 _ (List.mem_of_getElem? (i := 5) rfl)) (inr_25 _ (List.mem_of_getElem? (i := 4) rfl)) (by decide +kernel)
theorem v_X5_209 : VOK RX5 209 yX5_settingsAt cX5_settingsAt 5 (some .int) 1 := VOK.of (inr_25 _ (List.mem_of_getElem? (i := 5) rfl)) (inr_25 _ (List.mem_of_getElem? (i := 6) rfl)) (inr_25 _ (List.mem_of_getElem? (i := 7) rfl)) (inr_1 _ (List.mem_of_getElem? (i := 5) rfl)) (inr_25 _ (List.mem_of_getElem? (i := 8) rfl)) (by decide +kernel)
theorem v_X1_29 : NOK RX1 29 yX4_isIn cX4_isIn 2 (some .boolean) 2 := ⟨by decide +kernel, inr_1 _ (List.mem_of_getElem? (i := 2) rfl), inr_10 _ (List.mem_of_getElem? (i := 23) rfl), by decide +kernel⟩
theorem v_X2_11 : NOK RX2 11 yX1_init cX1_init 1 none 0 := ⟨by decide +kernel, inr_6 _ (List.mem_of_getElem? (i := 10) rfl), inr_6 _ (List.mem_of_getElem? (i := 21) rfl), by decide +kernel⟩
theorem v_X2_75 : NOK RX2 75 yX4_remainder cX4_remainder 2 (some .int) 2 := ⟨by decide +kernel, inr_1 _ (List.mem_of_getElem? (i := 2) rfl), inr_8 _ (List.mem_of_getElem? (i := 12) rfl), by decide +kernel⟩
theorem v_X2_95 : NOK RX2 95 yX4_settingOf cX4_settingOf 2 (some .int) 2 := ⟨by decide +kernel, inr_1 _ (List.mem_of_getElem? (i := 2) rfl), inr_5 _ (List.mem_of_getElem? (i := 18) rfl), by decide +kernel⟩
theorem v_X2_140 : NOK RX2 140 yX4_isIn cX4_isIn 2 (some .boolean) 2 := ⟨by decide +kernel, inr_1 _ (List.mem_of_getElem? (i := 2) rfl), inr_10 _ (List.mem_of_getElem? (i := 23) rfl), by decide +kernel⟩
theorem v_X4_21 : NOK RX4 21 yX3_init cX3_init 1 none 0 := ⟨by decide +kernel, inr_1 _ (List.mem_of_getElem? (i := 18) rfl), inr_2 _ (List.mem_of_getElem? (i := 4) rfl), by decide +kernel⟩
end
section
/-! THE REFERENCE'S WORLD: its object, fields φ, arrays α at the addresses ad -/
def rObj (ad : Nat → Nat) (φ : Nat → Int32) : List Value := [.int (φ 0), .ref (ad 1), .ref (ad 2), .ref (ad 3), .ref (ad 4), .int (φ 5), .int (φ 6), .ref (ad 7), .ref (ad 8), .ref (ad 9), .ref (ad 10), .ref (ad 11), .ref (ad 12), .ref (ad 13), .ref (ad 14), .ref (ad 15), .ref (ad 16), .ref (ad 17), .ref (ad 18), .ref (ad 19), .ref (ad 20), .ref (ad 21), .ref (ad 22), .ref (ad 23), .int (φ 24), .int (φ 25), .int (φ 26), .int (φ 27), .int (φ 28), .int (φ 29), .int (φ 30), .int (φ 31), .int (φ 32), .int (φ 33), .int (φ 34), .int (φ 35), .ref (ad 36)]
def wM (g : GG) (h : Nat) (ad : Nat → Nat) (φ : Nat → Int32) (α : Nat → Nat → Int32) : va_W := [(h, .inr (5, rObj ad φ)), (ad 1, aI g 4 (α 1)), (ad 2, aI g 32 (α 2)), (ad 3, aI g 8 (α 3)), (ad 4, aI g 4 (α 4)), (ad 7, aI g 40 (α 7)), (ad 8, aI g 40 (α 8)), (ad 9, aI g 320 (α 9)), (ad 10, aI g 40 (α 10)), (ad 11, aI g 40 (α 11)), (ad 12, aI g 40 (α 12)), (ad 13, aI g 40 (α 13)), (ad 14, aI g 640 (α 14)), (ad 15, aZ g 40 (α 15)), (ad 16, aI g 40 (α 16)), (ad 17, aI g 40 (α 17)), (ad 18, aI g 40 (α 18)), (ad 19, aI g 40 (α 19)), (ad 20, aI g 320 (α 20)), (ad 21, aZ g 40 (α 21)), (ad 22, aZ g 40 (α 22)), (ad 23, aI g 16 (α 23)), (ad 36, aI g 20 (α 36))]
def aset (α : Nat → Nat → Int32) (k j : Nat) (x : Int32) : Nat → Nat → Int32 := fun q => if q = k then upd (α k) j x else α q
theorem va_D_addr {A : Nat → Prop} {ws ws' : va_W} (e : ws.map Prod.fst = ws'.map Prod.fst) (h : va_D A ws) : va_D A ws' := by
  have key : ∀ (k : Nat) (q : Nat × va_E), ws'[k]? = some q → ∃ q0 : Nat × va_E, ws[k]? = some q0 ∧ q0.1 = q.1 := by
    intro k q hk
    have h1 : (ws'.map Prod.fst)[k]? = some q.1 := by rw [List.getElem?_map, hk]; rfl
    rw [← e, List.getElem?_map] at h1
    cases hq : ws[k]? with
    | none => rw [hq] at h1; cases h1
    | some q0 => rw [hq] at h1; exact ⟨q0, rfl, Option.some.inj h1⟩
  refine ⟨fun i j x y hi hj hxy => ?_, fun k q hk => ?_⟩
  · obtain ⟨x0, h1, h2⟩ := key i x hi
    obtain ⟨y0, h3, h4⟩ := key j y hj
    exact h.1 i j x0 y0 h1 h3 (h2.trans (hxy.trans h4.symm))
  · obtain ⟨q0, h1, h2⟩ := key k q hk
    rw [← h2]
    exact h.2 k q0 h1
def wD (A : Nat → Prop) (g : GG) (h : Nat) (ad : Nat → Nat) : Prop := va_D A (wM g h ad (fun _ => 0) (fun _ _ => 0))
theorem wD.of {A : Nat → Prop} {g : GG} {h : Nat} {ad : Nat → Nat} (φ : Nat → Int32) (α : Nat → Nat → Int32) (hD : wD A g h ad) : va_D A (wM g h ad φ α) := va_D_addr (ws := wM g h ad (fun _ => 0) (fun _ _ => 0)) rfl hD
theorem rw_0 {g : GG} {h : Nat} {ad : Nat → Nat} {φ : Nat → Int32} {α : Nat → Nat → Int32} : (wM g h ad φ α)[0]? = some (h, .inr (5, rObj ad φ)) := rfl
theorem rw_1 {g : GG} {h : Nat} {ad : Nat → Nat} {φ : Nat → Int32} {α : Nat → Nat → Int32} : (wM g h ad φ α)[1]? = some (ad 1, aI g 4 (α 1)) := rfl
theorem rw_2 {g : GG} {h : Nat} {ad : Nat → Nat} {φ : Nat → Int32} {α : Nat → Nat → Int32} : (wM g h ad φ α)[2]? = some (ad 2, aI g 32 (α 2)) := rfl
theorem rw_3 {g : GG} {h : Nat} {ad : Nat → Nat} {φ : Nat → Int32} {α : Nat → Nat → Int32} : (wM g h ad φ α)[3]? = some (ad 3, aI g 8 (α 3)) := rfl
theorem rw_4 {g : GG} {h : Nat} {ad : Nat → Nat} {φ : Nat → Int32} {α : Nat → Nat → Int32} : (wM g h ad φ α)[4]? = some (ad 4, aI g 4 (α 4)) := rfl
theorem rw_7 {g : GG} {h : Nat} {ad : Nat → Nat} {φ : Nat → Int32} {α : Nat → Nat → Int32} : (wM g h ad φ α)[5]? = some (ad 7, aI g 40 (α 7)) := rfl
theorem rw_8 {g : GG} {h : Nat} {ad : Nat → Nat} {φ : Nat → Int32} {α : Nat → Nat → Int32} : (wM g h ad φ α)[6]? = some (ad 8, aI g 40 (α 8)) := rfl
theorem rw_9 {g : GG} {h : Nat} {ad : Nat → Nat} {φ : Nat → Int32} {α : Nat → Nat → Int32} : (wM g h ad φ α)[7]? = some (ad 9, aI g 320 (α 9)) := rfl
theorem rw_10 {g : GG} {h : Nat} {ad : Nat → Nat} {φ : Nat → Int32} {α : Nat → Nat → Int32} : (wM g h ad φ α)[8]? = some (ad 10, aI g 40 (α 10)) := rfl
theorem rw_11 {g : GG} {h : Nat} {ad : Nat → Nat} {φ : Nat → Int32} {α : Nat → Nat → Int32} : (wM g h ad φ α)[9]? = some (ad 11, aI g 40 (α 11)) := rfl
theorem rw_12 {g : GG} {h : Nat} {ad : Nat → Nat} {φ : Nat → Int32} {α : Nat → Nat → Int32} : (wM g h ad φ α)[10]? = some (ad 12, aI g 40 (α 12)) := rfl
theorem rw_13 {g : GG} {h : Nat} {ad : Nat → Nat} {φ : Nat → Int32} {α : Nat → Nat → Int32} : (wM g h ad φ α)[11]? = some (ad 13, aI g 40 (α 13)) := rfl
theorem rw_14 {g : GG} {h : Nat} {ad : Nat → Nat} {φ : Nat → Int32} {α : Nat → Nat → Int32} : (wM g h ad φ α)[12]? = some (ad 14, aI g 640 (α 14)) := rfl
theorem rw_15 {g : GG} {h : Nat} {ad : Nat → Nat} {φ : Nat → Int32} {α : Nat → Nat → Int32} : (wM g h ad φ α)[13]? = some (ad 15, aZ g 40 (α 15)) := rfl
theorem rw_16 {g : GG} {h : Nat} {ad : Nat → Nat} {φ : Nat → Int32} {α : Nat → Nat → Int32} : (wM g h ad φ α)[14]? = some (ad 16, aI g 40 (α 16)) := rfl
theorem rw_17 {g : GG} {h : Nat} {ad : Nat → Nat} {φ : Nat → Int32} {α : Nat → Nat → Int32} : (wM g h ad φ α)[15]? = some (ad 17, aI g 40 (α 17)) := rfl
theorem rw_18 {g : GG} {h : Nat} {ad : Nat → Nat} {φ : Nat → Int32} {α : Nat → Nat → Int32} : (wM g h ad φ α)[16]? = some (ad 18, aI g 40 (α 18)) := rfl
theorem rw_19 {g : GG} {h : Nat} {ad : Nat → Nat} {φ : Nat → Int32} {α : Nat → Nat → Int32} : (wM g h ad φ α)[17]? = some (ad 19, aI g 40 (α 19)) := rfl
theorem rw_20 {g : GG} {h : Nat} {ad : Nat → Nat} {φ : Nat → Int32} {α : Nat → Nat → Int32} : (wM g h ad φ α)[18]? = some (ad 20, aI g 320 (α 20)) := rfl
theorem rw_21 {g : GG} {h : Nat} {ad : Nat → Nat} {φ : Nat → Int32} {α : Nat → Nat → Int32} : (wM g h ad φ α)[19]? = some (ad 21, aZ g 40 (α 21)) := rfl
theorem rw_22 {g : GG} {h : Nat} {ad : Nat → Nat} {φ : Nat → Int32} {α : Nat → Nat → Int32} : (wM g h ad φ α)[20]? = some (ad 22, aZ g 40 (α 22)) := rfl
theorem rw_23 {g : GG} {h : Nat} {ad : Nat → Nat} {φ : Nat → Int32} {α : Nat → Nat → Int32} : (wM g h ad φ α)[21]? = some (ad 23, aI g 16 (α 23)) := rfl
theorem rw_36 {g : GG} {h : Nat} {ad : Nat → Nat} {φ : Nat → Int32} {α : Nat → Nat → Int32} : (wM g h ad φ α)[22]? = some (ad 36, aI g 20 (α 36)) := rfl
theorem ro_0 {ad : Nat → Nat} {φ : Nat → Int32} : (rObj ad φ)[0]? = some (.int (φ 0)) := rfl
theorem ro_1 {ad : Nat → Nat} {φ : Nat → Int32} : (rObj ad φ)[1]? = some (.ref (ad 1)) := rfl
theorem ro_2 {ad : Nat → Nat} {φ : Nat → Int32} : (rObj ad φ)[2]? = some (.ref (ad 2)) := rfl
theorem ro_3 {ad : Nat → Nat} {φ : Nat → Int32} : (rObj ad φ)[3]? = some (.ref (ad 3)) := rfl
theorem ro_4 {ad : Nat → Nat} {φ : Nat → Int32} : (rObj ad φ)[4]? = some (.ref (ad 4)) := rfl
theorem ro_5 {ad : Nat → Nat} {φ : Nat → Int32} : (rObj ad φ)[5]? = some (.int (φ 5)) := rfl
theorem ro_6 {ad : Nat → Nat} {φ : Nat → Int32} : (rObj ad φ)[6]? = some (.int (φ 6)) := rfl
theorem ro_7 {ad : Nat → Nat} {φ : Nat → Int32} : (rObj ad φ)[7]? = some (.ref (ad 7)) := rfl
theorem ro_8 {ad : Nat → Nat} {φ : Nat → Int32} : (rObj ad φ)[8]? = some (.ref (ad 8)) := rfl
theorem ro_9 {ad : Nat → Nat} {φ : Nat → Int32} : (rObj ad φ)[9]? = some (.ref (ad 9)) := rfl
theorem ro_10 {ad : Nat → Nat} {φ : Nat → Int32} : (rObj ad φ)[10]? = some (.ref (ad 10)) := rfl
theorem ro_11 {ad : Nat → Nat} {φ : Nat → Int32} : (rObj ad φ)[11]? = some (.ref (ad 11)) := rfl
theorem ro_12 {ad : Nat → Nat} {φ : Nat → Int32} : (rObj ad φ)[12]? = some (.ref (ad 12)) := rfl
theorem ro_13 {ad : Nat → Nat} {φ : Nat → Int32} : (rObj ad φ)[13]? = some (.ref (ad 13)) := rfl
theorem ro_14 {ad : Nat → Nat} {φ : Nat → Int32} : (rObj ad φ)[14]? = some (.ref (ad 14)) := rfl
theorem ro_15 {ad : Nat → Nat} {φ : Nat → Int32} : (rObj ad φ)[15]? = some (.ref (ad 15)) := rfl
theorem ro_16 {ad : Nat → Nat} {φ : Nat → Int32} : (rObj ad φ)[16]? = some (.ref (ad 16)) := rfl
theorem ro_17 {ad : Nat → Nat} {φ : Nat → Int32} : (rObj ad φ)[17]? = some (.ref (ad 17)) := rfl
theorem ro_18 {ad : Nat → Nat} {φ : Nat → Int32} : (rObj ad φ)[18]? = some (.ref (ad 18)) := rfl
theorem ro_19 {ad : Nat → Nat} {φ : Nat → Int32} : (rObj ad φ)[19]? = some (.ref (ad 19)) := rfl
theorem ro_20 {ad : Nat → Nat} {φ : Nat → Int32} : (rObj ad φ)[20]? = some (.ref (ad 20)) := rfl
theorem ro_21 {ad : Nat → Nat} {φ : Nat → Int32} : (rObj ad φ)[21]? = some (.ref (ad 21)) := rfl
theorem ro_22 {ad : Nat → Nat} {φ : Nat → Int32} : (rObj ad φ)[22]? = some (.ref (ad 22)) := rfl
theorem ro_23 {ad : Nat → Nat} {φ : Nat → Int32} : (rObj ad φ)[23]? = some (.ref (ad 23)) := rfl
theorem ro_24 {ad : Nat → Nat} {φ : Nat → Int32} : (rObj ad φ)[24]? = some (.int (φ 24)) := rfl
theorem ro_25 {ad : Nat → Nat} {φ : Nat → Int32} : (rObj ad φ)[25]? = some (.int (φ 25)) := rfl
theorem ro_26 {ad : Nat → Nat} {φ : Nat → Int32} : (rObj ad φ)[26]? = some (.int (φ 26)) := rfl
theorem ro_27 {ad : Nat → Nat} {φ : Nat → Int32} : (rObj ad φ)[27]? = some (.int (φ 27)) := rfl
theorem ro_28 {ad : Nat → Nat} {φ : Nat → Int32} : (rObj ad φ)[28]? = some (.int (φ 28)) := rfl
theorem ro_29 {ad : Nat → Nat} {φ : Nat → Int32} : (rObj ad φ)[29]? = some (.int (φ 29)) := rfl
theorem ro_30 {ad : Nat → Nat} {φ : Nat → Int32} : (rObj ad φ)[30]? = some (.int (φ 30)) := rfl
theorem ro_31 {ad : Nat → Nat} {φ : Nat → Int32} : (rObj ad φ)[31]? = some (.int (φ 31)) := rfl
theorem ro_32 {ad : Nat → Nat} {φ : Nat → Int32} : (rObj ad φ)[32]? = some (.int (φ 32)) := rfl
theorem ro_33 {ad : Nat → Nat} {φ : Nat → Int32} : (rObj ad φ)[33]? = some (.int (φ 33)) := rfl
theorem ro_34 {ad : Nat → Nat} {φ : Nat → Int32} : (rObj ad φ)[34]? = some (.int (φ 34)) := rfl
theorem ro_35 {ad : Nat → Nat} {φ : Nat → Int32} : (rObj ad φ)[35]? = some (.int (φ 35)) := rfl
theorem ro_36 {ad : Nat → Nat} {φ : Nat → Int32} : (rObj ad φ)[36]? = some (.ref (ad 36)) := rfl
section RW
variable {p : Program} {l : Launch} {e : Env} {R : Room} {s : State} {m : MethodId} {args : Array Value} {below : List Frame} {meth : Method} {c : Code} {H : Heap} {locs : List Loc} {cells slots : Nat} {Q : State → Prop}
variable {cc : ByteArray} {nL pc : Nat} {ls : Array Slot} {rest : List Value} {g : GG} {h : Nat} {ad : Nat → Nat} {φ : Nat → Int32} {α : Nat → Nat → Int32} {A : Nat → Prop} {H0 : Heap}
theorem fits01 {x : Int32} (hx : x = 0 ∨ x = 1) : narrow .boolean (.int x) = .int x ∧ fits .boolean (.int x) = true ∧ vp_nar .boolean x = x := by rcases hx with rfl | rfl <;> decide
theorem rp_0 (C : Cx p m c cc nL s args RX5 g) (hM : va_P g.1 vwCl (wM g h ad φ α) H) (hD : wD A g h ad) (hS : va_S A H0 H locs) {x : Int32} (hdg : decode cc pc = .ok (.putfield 77, 3)) (kk : ∀ (H1 : Heap) (locs1 : List Loc), va_P g.1 vwCl (wM g h ad (upd φ 0 x) α) H1 → va_S A H0 H1 locs1 → W p l e R s m args below meth c H1 locs1 cells slots Q (F0 m (pc + 3) ls rest)) : W p l e R s m args below meth c H locs cells slots Q (F0 m pc ls (.int x :: .ref h :: rest)) :=
  q_put C fp_X5_77 hM (hD.of φ α) hS 0 rw_0 rfl rfl (by show _ < 37; decide) hdg (fun H1 locs1 h1 _ h3 => kk H1 locs1 h1 h3)
theorem rp_5 (C : Cx p m c cc nL s args RX5 g) (hM : va_P g.1 vwCl (wM g h ad φ α) H) (hD : wD A g h ad) (hS : va_S A H0 H locs) {x : Int32} (hdg : decode cc pc = .ok (.putfield 109, 3)) (kk : ∀ (H1 : Heap) (locs1 : List Loc), va_P g.1 vwCl (wM g h ad (upd φ 5 x) α) H1 → va_S A H0 H1 locs1 → W p l e R s m args below meth c H1 locs1 cells slots Q (F0 m (pc + 3) ls rest)) : W p l e R s m args below meth c H locs cells slots Q (F0 m pc ls (.int x :: .ref h :: rest)) :=
  q_put C fp_X5_109 hM (hD.of φ α) hS 0 rw_0 rfl rfl (by show _ < 37; decide) hdg (fun H1 locs1 h1 _ h3 => kk H1 locs1 h1 h3)
theorem rp_6 (C : Cx p m c cc nL s args RX5 g) (hM : va_P g.1 vwCl (wM g h ad φ α) H) (hD : wD A g h ad) (hS : va_S A H0 H locs) {x : Int32} (hdg : decode cc pc = .ok (.putfield 90, 3)) (kk : ∀ (H1 : Heap) (locs1 : List Loc), va_P g.1 vwCl (wM g h ad (upd φ 6 x) α) H1 → va_S A H0 H1 locs1 → W p l e R s m args below meth c H1 locs1 cells slots Q (F0 m (pc + 3) ls rest)) : W p l e R s m args below meth c H locs cells slots Q (F0 m pc ls (.int x :: .ref h :: rest)) :=
  q_put C fp_X5_90 hM (hD.of φ α) hS 0 rw_0 rfl rfl (by show _ < 37; decide) hdg (fun H1 locs1 h1 _ h3 => kk H1 locs1 h1 h3)
theorem rp_24 (C : Cx p m c cc nL s args RX5 g) (hM : va_P g.1 vwCl (wM g h ad φ α) H) (hD : wD A g h ad) (hS : va_S A H0 H locs) {x : Int32} (hdg : decode cc pc = .ok (.putfield 115, 3)) (kk : ∀ (H1 : Heap) (locs1 : List Loc), va_P g.1 vwCl (wM g h ad (upd φ 24 x) α) H1 → va_S A H0 H1 locs1 → W p l e R s m args below meth c H1 locs1 cells slots Q (F0 m (pc + 3) ls rest)) : W p l e R s m args below meth c H locs cells slots Q (F0 m pc ls (.int x :: .ref h :: rest)) :=
  q_put C fp_X5_115 hM (hD.of φ α) hS 0 rw_0 rfl rfl (by show _ < 37; decide) hdg (fun H1 locs1 h1 _ h3 => kk H1 locs1 h1 h3)
theorem rp_25 (C : Cx p m c cc nL s args RX5 g) (hM : va_P g.1 vwCl (wM g h ad φ α) H) (hD : wD A g h ad) (hS : va_S A H0 H locs) {x : Int32} (hx : x = 0 ∨ x = 1) (hdg : decode cc pc = .ok (.putfield 118, 3)) (kk : ∀ (H1 : Heap) (locs1 : List Loc), va_P g.1 vwCl (wM g h ad (upd φ 25 x) α) H1 → va_S A H0 H1 locs1 → W p l e R s m args below meth c H1 locs1 cells slots Q (F0 m (pc + 3) ls rest)) : W p l e R s m args below meth c H locs cells slots Q (F0 m pc ls (.int x :: .ref h :: rest)) :=
  q_put C fp_X5_118 hM (hD.of φ α) hS 0 rw_0 (fits01 hx).1 (fits01 hx).2.1 (by show _ < 37; decide) hdg (fun H1 locs1 h1 _ h3 => kk H1 locs1 h1 h3)
theorem rp_26 (C : Cx p m c cc nL s args RX5 g) (hM : va_P g.1 vwCl (wM g h ad φ α) H) (hD : wD A g h ad) (hS : va_S A H0 H locs) {x : Int32} (hdg : decode cc pc = .ok (.putfield 93, 3)) (kk : ∀ (H1 : Heap) (locs1 : List Loc), va_P g.1 vwCl (wM g h ad (upd φ 26 x) α) H1 → va_S A H0 H1 locs1 → W p l e R s m args below meth c H1 locs1 cells slots Q (F0 m (pc + 3) ls rest)) : W p l e R s m args below meth c H locs cells slots Q (F0 m pc ls (.int x :: .ref h :: rest)) :=
  q_put C fp_X5_93 hM (hD.of φ α) hS 0 rw_0 rfl rfl (by show _ < 37; decide) hdg (fun H1 locs1 h1 _ h3 => kk H1 locs1 h1 h3)
theorem rp_27 (C : Cx p m c cc nL s args RX5 g) (hM : va_P g.1 vwCl (wM g h ad φ α) H) (hD : wD A g h ad) (hS : va_S A H0 H locs) {x : Int32} (hdg : decode cc pc = .ok (.putfield 103, 3)) (kk : ∀ (H1 : Heap) (locs1 : List Loc), va_P g.1 vwCl (wM g h ad (upd φ 27 x) α) H1 → va_S A H0 H1 locs1 → W p l e R s m args below meth c H1 locs1 cells slots Q (F0 m (pc + 3) ls rest)) : W p l e R s m args below meth c H locs cells slots Q (F0 m pc ls (.int x :: .ref h :: rest)) :=
  q_put C fp_X5_103 hM (hD.of φ α) hS 0 rw_0 rfl rfl (by show _ < 37; decide) hdg (fun H1 locs1 h1 _ h3 => kk H1 locs1 h1 h3)
theorem rp_28 (C : Cx p m c cc nL s args RX5 g) (hM : va_P g.1 vwCl (wM g h ad φ α) H) (hD : wD A g h ad) (hS : va_S A H0 H locs) {x : Int32} (hx : x = 0 ∨ x = 1) (hdg : decode cc pc = .ok (.putfield 100, 3)) (kk : ∀ (H1 : Heap) (locs1 : List Loc), va_P g.1 vwCl (wM g h ad (upd φ 28 x) α) H1 → va_S A H0 H1 locs1 → W p l e R s m args below meth c H1 locs1 cells slots Q (F0 m (pc + 3) ls rest)) : W p l e R s m args below meth c H locs cells slots Q (F0 m pc ls (.int x :: .ref h :: rest)) :=
  q_put C fp_X5_100 hM (hD.of φ α) hS 0 rw_0 (fits01 hx).1 (fits01 hx).2.1 (by show _ < 37; decide) hdg (fun H1 locs1 h1 _ h3 => kk H1 locs1 h1 h3)
theorem rp_29 (C : Cx p m c cc nL s args RX5 g) (hM : va_P g.1 vwCl (wM g h ad φ α) H) (hD : wD A g h ad) (hS : va_S A H0 H locs) {x : Int32} (hx : x = 0 ∨ x = 1) (hdg : decode cc pc = .ok (.putfield 106, 3)) (kk : ∀ (H1 : Heap) (locs1 : List Loc), va_P g.1 vwCl (wM g h ad (upd φ 29 x) α) H1 → va_S A H0 H1 locs1 → W p l e R s m args below meth c H1 locs1 cells slots Q (F0 m (pc + 3) ls rest)) : W p l e R s m args below meth c H locs cells slots Q (F0 m pc ls (.int x :: .ref h :: rest)) :=
  q_put C fp_X5_106 hM (hD.of φ α) hS 0 rw_0 (fits01 hx).1 (fits01 hx).2.1 (by show _ < 37; decide) hdg (fun H1 locs1 h1 _ h3 => kk H1 locs1 h1 h3)
theorem rp_30 (C : Cx p m c cc nL s args RX5 g) (hM : va_P g.1 vwCl (wM g h ad φ α) H) (hD : wD A g h ad) (hS : va_S A H0 H locs) {x : Int32} (hx : x = 0 ∨ x = 1) (hdg : decode cc pc = .ok (.putfield 112, 3)) (kk : ∀ (H1 : Heap) (locs1 : List Loc), va_P g.1 vwCl (wM g h ad (upd φ 30 x) α) H1 → va_S A H0 H1 locs1 → W p l e R s m args below meth c H1 locs1 cells slots Q (F0 m (pc + 3) ls rest)) : W p l e R s m args below meth c H locs cells slots Q (F0 m pc ls (.int x :: .ref h :: rest)) :=
  q_put C fp_X5_112 hM (hD.of φ α) hS 0 rw_0 (fits01 hx).1 (fits01 hx).2.1 (by show _ < 37; decide) hdg (fun H1 locs1 h1 _ h3 => kk H1 locs1 h1 h3)
theorem rp_31 (C : Cx p m c cc nL s args RX5 g) (hM : va_P g.1 vwCl (wM g h ad φ α) H) (hD : wD A g h ad) (hS : va_S A H0 H locs) {x : Int32} (hx : x = 0 ∨ x = 1) (hdg : decode cc pc = .ok (.putfield 96, 3)) (kk : ∀ (H1 : Heap) (locs1 : List Loc), va_P g.1 vwCl (wM g h ad (upd φ 31 x) α) H1 → va_S A H0 H1 locs1 → W p l e R s m args below meth c H1 locs1 cells slots Q (F0 m (pc + 3) ls rest)) : W p l e R s m args below meth c H locs cells slots Q (F0 m pc ls (.int x :: .ref h :: rest)) :=
  q_put C fp_X5_96 hM (hD.of φ α) hS 0 rw_0 (fits01 hx).1 (fits01 hx).2.1 (by show _ < 37; decide) hdg (fun H1 locs1 h1 _ h3 => kk H1 locs1 h1 h3)
theorem rp_32 (C : Cx p m c cc nL s args RX5 g) (hM : va_P g.1 vwCl (wM g h ad φ α) H) (hD : wD A g h ad) (hS : va_S A H0 H locs) {x : Int32} (hdg : decode cc pc = .ok (.putfield 171, 3)) (kk : ∀ (H1 : Heap) (locs1 : List Loc), va_P g.1 vwCl (wM g h ad (upd φ 32 x) α) H1 → va_S A H0 H1 locs1 → W p l e R s m args below meth c H1 locs1 cells slots Q (F0 m (pc + 3) ls rest)) : W p l e R s m args below meth c H locs cells slots Q (F0 m pc ls (.int x :: .ref h :: rest)) :=
  q_put C fp_X5_171 hM (hD.of φ α) hS 0 rw_0 rfl rfl (by show _ < 37; decide) hdg (fun H1 locs1 h1 _ h3 => kk H1 locs1 h1 h3)
theorem rp_33 (C : Cx p m c cc nL s args RX5 g) (hM : va_P g.1 vwCl (wM g h ad φ α) H) (hD : wD A g h ad) (hS : va_S A H0 H locs) {x : Int32} (hdg : decode cc pc = .ok (.putfield 174, 3)) (kk : ∀ (H1 : Heap) (locs1 : List Loc), va_P g.1 vwCl (wM g h ad (upd φ 33 x) α) H1 → va_S A H0 H1 locs1 → W p l e R s m args below meth c H1 locs1 cells slots Q (F0 m (pc + 3) ls rest)) : W p l e R s m args below meth c H locs cells slots Q (F0 m pc ls (.int x :: .ref h :: rest)) :=
  q_put C fp_X5_174 hM (hD.of φ α) hS 0 rw_0 rfl rfl (by show _ < 37; decide) hdg (fun H1 locs1 h1 _ h3 => kk H1 locs1 h1 h3)
theorem rp_34 (C : Cx p m c cc nL s args RX5 g) (hM : va_P g.1 vwCl (wM g h ad φ α) H) (hD : wD A g h ad) (hS : va_S A H0 H locs) {x : Int32} (hdg : decode cc pc = .ok (.putfield 177, 3)) (kk : ∀ (H1 : Heap) (locs1 : List Loc), va_P g.1 vwCl (wM g h ad (upd φ 34 x) α) H1 → va_S A H0 H1 locs1 → W p l e R s m args below meth c H1 locs1 cells slots Q (F0 m (pc + 3) ls rest)) : W p l e R s m args below meth c H locs cells slots Q (F0 m pc ls (.int x :: .ref h :: rest)) :=
  q_put C fp_X5_177 hM (hD.of φ α) hS 0 rw_0 rfl rfl (by show _ < 37; decide) hdg (fun H1 locs1 h1 _ h3 => kk H1 locs1 h1 h3)
theorem rp_35 (C : Cx p m c cc nL s args RX5 g) (hM : va_P g.1 vwCl (wM g h ad φ α) H) (hD : wD A g h ad) (hS : va_S A H0 H locs) {x : Int32} (hdg : decode cc pc = .ok (.putfield 213, 3)) (kk : ∀ (H1 : Heap) (locs1 : List Loc), va_P g.1 vwCl (wM g h ad (upd φ 35 x) α) H1 → va_S A H0 H1 locs1 → W p l e R s m args below meth c H1 locs1 cells slots Q (F0 m (pc + 3) ls rest)) : W p l e R s m args below meth c H locs cells slots Q (F0 m pc ls (.int x :: .ref h :: rest)) :=
  q_put C fp_X5_213 hM (hD.of φ α) hS 0 rw_0 rfl rfl (by show _ < 37; decide) hdg (fun H1 locs1 h1 _ h3 => kk H1 locs1 h1 h3)
theorem ra_1 (C : Cx p m c cc nL s args RX5 g) (hM : va_P g.1 vwCl (wM g h ad φ α) H) (hD : wD A g h ad) (hS : va_S A H0 H locs) {j : Nat} (hj : j < 4) {x : Int32} (hdg : decode cc pc = .ok (.iastore, 1)) (kk : ∀ (H1 : Heap) (locs1 : List Loc), va_P g.1 vwCl (wM g h ad φ (aset α 1 j x)) H1 → va_S A H0 H1 locs1 → W p l e R s m args below meth c H1 locs1 cells slots Q (F0 m (pc + 1) ls rest)) : W p l e R s m args below meth c H locs cells slots Q (F0 m pc ls (.int x :: .int (nI j) :: .ref (ad 1) :: rest)) := by
  refine va_iast C.1.1 C.1.2.1 C.2.1 hM (hD.of φ α) hS 1 0 rw_1 rfl (vp_in_nI hj (by decide)) hdg (fun H1 locs1 h1 _ h3 => ?_)
  rw [nI_clamp (Nat.lt_trans hj (by decide))] at h1
  exact kk H1 locs1 h1 h3
theorem ra_2 (C : Cx p m c cc nL s args RX5 g) (hM : va_P g.1 vwCl (wM g h ad φ α) H) (hD : wD A g h ad) (hS : va_S A H0 H locs) {j : Nat} (hj : j < 32) {x : Int32} (hdg : decode cc pc = .ok (.iastore, 1)) (kk : ∀ (H1 : Heap) (locs1 : List Loc), va_P g.1 vwCl (wM g h ad φ (aset α 2 j x)) H1 → va_S A H0 H1 locs1 → W p l e R s m args below meth c H1 locs1 cells slots Q (F0 m (pc + 1) ls rest)) : W p l e R s m args below meth c H locs cells slots Q (F0 m pc ls (.int x :: .int (nI j) :: .ref (ad 2) :: rest)) := by
  refine va_iast C.1.1 C.1.2.1 C.2.1 hM (hD.of φ α) hS 2 0 rw_2 rfl (vp_in_nI hj (by decide)) hdg (fun H1 locs1 h1 _ h3 => ?_)
  rw [nI_clamp (Nat.lt_trans hj (by decide))] at h1
  exact kk H1 locs1 h1 h3
theorem ra_3 (C : Cx p m c cc nL s args RX5 g) (hM : va_P g.1 vwCl (wM g h ad φ α) H) (hD : wD A g h ad) (hS : va_S A H0 H locs) {j : Nat} (hj : j < 8) {x : Int32} (hdg : decode cc pc = .ok (.iastore, 1)) (kk : ∀ (H1 : Heap) (locs1 : List Loc), va_P g.1 vwCl (wM g h ad φ (aset α 3 j x)) H1 → va_S A H0 H1 locs1 → W p l e R s m args below meth c H1 locs1 cells slots Q (F0 m (pc + 1) ls rest)) : W p l e R s m args below meth c H locs cells slots Q (F0 m pc ls (.int x :: .int (nI j) :: .ref (ad 3) :: rest)) := by
  refine va_iast C.1.1 C.1.2.1 C.2.1 hM (hD.of φ α) hS 3 0 rw_3 rfl (vp_in_nI hj (by decide)) hdg (fun H1 locs1 h1 _ h3 => ?_)
  rw [nI_clamp (Nat.lt_trans hj (by decide))] at h1
  exact kk H1 locs1 h1 h3
theorem ra_4 (C : Cx p m c cc nL s args RX5 g) (hM : va_P g.1 vwCl (wM g h ad φ α) H) (hD : wD A g h ad) (hS : va_S A H0 H locs) {j : Nat} (hj : j < 4) {x : Int32} (hdg : decode cc pc = .ok (.iastore, 1)) (kk : ∀ (H1 : Heap) (locs1 : List Loc), va_P g.1 vwCl (wM g h ad φ (aset α 4 j x)) H1 → va_S A H0 H1 locs1 → W p l e R s m args below meth c H1 locs1 cells slots Q (F0 m (pc + 1) ls rest)) : W p l e R s m args below meth c H locs cells slots Q (F0 m pc ls (.int x :: .int (nI j) :: .ref (ad 4) :: rest)) := by
  refine va_iast C.1.1 C.1.2.1 C.2.1 hM (hD.of φ α) hS 4 0 rw_4 rfl (vp_in_nI hj (by decide)) hdg (fun H1 locs1 h1 _ h3 => ?_)
  rw [nI_clamp (Nat.lt_trans hj (by decide))] at h1
  exact kk H1 locs1 h1 h3
theorem ra_7 (C : Cx p m c cc nL s args RX5 g) (hM : va_P g.1 vwCl (wM g h ad φ α) H) (hD : wD A g h ad) (hS : va_S A H0 H locs) {j : Nat} (hj : j < 40) {x : Int32} (hdg : decode cc pc = .ok (.iastore, 1)) (kk : ∀ (H1 : Heap) (locs1 : List Loc), va_P g.1 vwCl (wM g h ad φ (aset α 7 j x)) H1 → va_S A H0 H1 locs1 → W p l e R s m args below meth c H1 locs1 cells slots Q (F0 m (pc + 1) ls rest)) : W p l e R s m args below meth c H locs cells slots Q (F0 m pc ls (.int x :: .int (nI j) :: .ref (ad 7) :: rest)) := by
  refine va_iast C.1.1 C.1.2.1 C.2.1 hM (hD.of φ α) hS 5 0 rw_7 rfl (vp_in_nI hj (by decide)) hdg (fun H1 locs1 h1 _ h3 => ?_)
  rw [nI_clamp (Nat.lt_trans hj (by decide))] at h1
  exact kk H1 locs1 h1 h3
theorem ra_8 (C : Cx p m c cc nL s args RX5 g) (hM : va_P g.1 vwCl (wM g h ad φ α) H) (hD : wD A g h ad) (hS : va_S A H0 H locs) {j : Nat} (hj : j < 40) {x : Int32} (hdg : decode cc pc = .ok (.iastore, 1)) (kk : ∀ (H1 : Heap) (locs1 : List Loc), va_P g.1 vwCl (wM g h ad φ (aset α 8 j x)) H1 → va_S A H0 H1 locs1 → W p l e R s m args below meth c H1 locs1 cells slots Q (F0 m (pc + 1) ls rest)) : W p l e R s m args below meth c H locs cells slots Q (F0 m pc ls (.int x :: .int (nI j) :: .ref (ad 8) :: rest)) := by
  refine va_iast C.1.1 C.1.2.1 C.2.1 hM (hD.of φ α) hS 6 0 rw_8 rfl (vp_in_nI hj (by decide)) hdg (fun H1 locs1 h1 _ h3 => ?_)
  rw [nI_clamp (Nat.lt_trans hj (by decide))] at h1
  exact kk H1 locs1 h1 h3
theorem ra_9 (C : Cx p m c cc nL s args RX5 g) (hM : va_P g.1 vwCl (wM g h ad φ α) H) (hD : wD A g h ad) (hS : va_S A H0 H locs) {j : Nat} (hj : j < 320) {x : Int32} (hdg : decode cc pc = .ok (.iastore, 1)) (kk : ∀ (H1 : Heap) (locs1 : List Loc), va_P g.1 vwCl (wM g h ad φ (aset α 9 j x)) H1 → va_S A H0 H1 locs1 → W p l e R s m args below meth c H1 locs1 cells slots Q (F0 m (pc + 1) ls rest)) : W p l e R s m args below meth c H locs cells slots Q (F0 m pc ls (.int x :: .int (nI j) :: .ref (ad 9) :: rest)) := by
  refine va_iast C.1.1 C.1.2.1 C.2.1 hM (hD.of φ α) hS 7 0 rw_9 rfl (vp_in_nI hj (by decide)) hdg (fun H1 locs1 h1 _ h3 => ?_)
  rw [nI_clamp (Nat.lt_trans hj (by decide))] at h1
  exact kk H1 locs1 h1 h3
theorem ra_10 (C : Cx p m c cc nL s args RX5 g) (hM : va_P g.1 vwCl (wM g h ad φ α) H) (hD : wD A g h ad) (hS : va_S A H0 H locs) {j : Nat} (hj : j < 40) {x : Int32} (hdg : decode cc pc = .ok (.iastore, 1)) (kk : ∀ (H1 : Heap) (locs1 : List Loc), va_P g.1 vwCl (wM g h ad φ (aset α 10 j x)) H1 → va_S A H0 H1 locs1 → W p l e R s m args below meth c H1 locs1 cells slots Q (F0 m (pc + 1) ls rest)) : W p l e R s m args below meth c H locs cells slots Q (F0 m pc ls (.int x :: .int (nI j) :: .ref (ad 10) :: rest)) := by
  refine va_iast C.1.1 C.1.2.1 C.2.1 hM (hD.of φ α) hS 8 0 rw_10 rfl (vp_in_nI hj (by decide)) hdg (fun H1 locs1 h1 _ h3 => ?_)
  rw [nI_clamp (Nat.lt_trans hj (by decide))] at h1
  exact kk H1 locs1 h1 h3
theorem ra_11 (C : Cx p m c cc nL s args RX5 g) (hM : va_P g.1 vwCl (wM g h ad φ α) H) (hD : wD A g h ad) (hS : va_S A H0 H locs) {j : Nat} (hj : j < 40) {x : Int32} (hdg : decode cc pc = .ok (.iastore, 1)) (kk : ∀ (H1 : Heap) (locs1 : List Loc), va_P g.1 vwCl (wM g h ad φ (aset α 11 j x)) H1 → va_S A H0 H1 locs1 → W p l e R s m args below meth c H1 locs1 cells slots Q (F0 m (pc + 1) ls rest)) : W p l e R s m args below meth c H locs cells slots Q (F0 m pc ls (.int x :: .int (nI j) :: .ref (ad 11) :: rest)) := by
  refine va_iast C.1.1 C.1.2.1 C.2.1 hM (hD.of φ α) hS 9 0 rw_11 rfl (vp_in_nI hj (by decide)) hdg (fun H1 locs1 h1 _ h3 => ?_)
  rw [nI_clamp (Nat.lt_trans hj (by decide))] at h1
  exact kk H1 locs1 h1 h3
theorem ra_12 (C : Cx p m c cc nL s args RX5 g) (hM : va_P g.1 vwCl (wM g h ad φ α) H) (hD : wD A g h ad) (hS : va_S A H0 H locs) {j : Nat} (hj : j < 40) {x : Int32} (hdg : decode cc pc = .ok (.iastore, 1)) (kk : ∀ (H1 : Heap) (locs1 : List Loc), va_P g.1 vwCl (wM g h ad φ (aset α 12 j x)) H1 → va_S A H0 H1 locs1 → W p l e R s m args below meth c H1 locs1 cells slots Q (F0 m (pc + 1) ls rest)) : W p l e R s m args below meth c H locs cells slots Q (F0 m pc ls (.int x :: .int (nI j) :: .ref (ad 12) :: rest)) := by
  refine va_iast C.1.1 C.1.2.1 C.2.1 hM (hD.of φ α) hS 10 0 rw_12 rfl (vp_in_nI hj (by decide)) hdg (fun H1 locs1 h1 _ h3 => ?_)
  rw [nI_clamp (Nat.lt_trans hj (by decide))] at h1
  exact kk H1 locs1 h1 h3
theorem ra_13 (C : Cx p m c cc nL s args RX5 g) (hM : va_P g.1 vwCl (wM g h ad φ α) H) (hD : wD A g h ad) (hS : va_S A H0 H locs) {j : Nat} (hj : j < 40) {x : Int32} (hdg : decode cc pc = .ok (.iastore, 1)) (kk : ∀ (H1 : Heap) (locs1 : List Loc), va_P g.1 vwCl (wM g h ad φ (aset α 13 j x)) H1 → va_S A H0 H1 locs1 → W p l e R s m args below meth c H1 locs1 cells slots Q (F0 m (pc + 1) ls rest)) : W p l e R s m args below meth c H locs cells slots Q (F0 m pc ls (.int x :: .int (nI j) :: .ref (ad 13) :: rest)) := by
  refine va_iast C.1.1 C.1.2.1 C.2.1 hM (hD.of φ α) hS 11 0 rw_13 rfl (vp_in_nI hj (by decide)) hdg (fun H1 locs1 h1 _ h3 => ?_)
  rw [nI_clamp (Nat.lt_trans hj (by decide))] at h1
  exact kk H1 locs1 h1 h3
theorem ra_14 (C : Cx p m c cc nL s args RX5 g) (hM : va_P g.1 vwCl (wM g h ad φ α) H) (hD : wD A g h ad) (hS : va_S A H0 H locs) {j : Nat} (hj : j < 640) {x : Int32} (hdg : decode cc pc = .ok (.iastore, 1)) (kk : ∀ (H1 : Heap) (locs1 : List Loc), va_P g.1 vwCl (wM g h ad φ (aset α 14 j x)) H1 → va_S A H0 H1 locs1 → W p l e R s m args below meth c H1 locs1 cells slots Q (F0 m (pc + 1) ls rest)) : W p l e R s m args below meth c H locs cells slots Q (F0 m pc ls (.int x :: .int (nI j) :: .ref (ad 14) :: rest)) := by
  refine va_iast C.1.1 C.1.2.1 C.2.1 hM (hD.of φ α) hS 12 0 rw_14 rfl (vp_in_nI hj (by decide)) hdg (fun H1 locs1 h1 _ h3 => ?_)
  rw [nI_clamp (Nat.lt_trans hj (by decide))] at h1
  exact kk H1 locs1 h1 h3
theorem ra_15 (C : Cx p m c cc nL s args RX5 g) (hM : va_P g.1 vwCl (wM g h ad φ α) H) (hD : wD A g h ad) (hS : va_S A H0 H locs) {j : Nat} (hj : j < 40) {x : Int32} (hx : x = 0 ∨ x = 1) (hdg : decode cc pc = .ok (.bastore, 1)) (kk : ∀ (H1 : Heap) (locs1 : List Loc), va_P g.1 vwCl (wM g h ad φ (aset α 15 j x)) H1 → va_S A H0 H1 locs1 → W p l e R s m args below meth c H1 locs1 cells slots Q (F0 m (pc + 1) ls rest)) : W p l e R s m args below meth c H locs cells slots Q (F0 m pc ls (.int x :: .int (nI j) :: .ref (ad 15) :: rest)) := by
  refine va_zast C.1.1 C.1.2.1 C.2.1 hM (hD.of φ α) hS 13 1 rw_15 rfl (vp_in_nI hj (by decide)) hdg (fun H1 locs1 h1 _ h3 => ?_)
  rw [nI_clamp (Nat.lt_trans hj (by decide)), (fits01 hx).2.2] at h1
  exact kk H1 locs1 h1 h3
theorem ra_16 (C : Cx p m c cc nL s args RX5 g) (hM : va_P g.1 vwCl (wM g h ad φ α) H) (hD : wD A g h ad) (hS : va_S A H0 H locs) {j : Nat} (hj : j < 40) {x : Int32} (hdg : decode cc pc = .ok (.iastore, 1)) (kk : ∀ (H1 : Heap) (locs1 : List Loc), va_P g.1 vwCl (wM g h ad φ (aset α 16 j x)) H1 → va_S A H0 H1 locs1 → W p l e R s m args below meth c H1 locs1 cells slots Q (F0 m (pc + 1) ls rest)) : W p l e R s m args below meth c H locs cells slots Q (F0 m pc ls (.int x :: .int (nI j) :: .ref (ad 16) :: rest)) := by
  refine va_iast C.1.1 C.1.2.1 C.2.1 hM (hD.of φ α) hS 14 0 rw_16 rfl (vp_in_nI hj (by decide)) hdg (fun H1 locs1 h1 _ h3 => ?_)
  rw [nI_clamp (Nat.lt_trans hj (by decide))] at h1
  exact kk H1 locs1 h1 h3
theorem ra_17 (C : Cx p m c cc nL s args RX5 g) (hM : va_P g.1 vwCl (wM g h ad φ α) H) (hD : wD A g h ad) (hS : va_S A H0 H locs) {j : Nat} (hj : j < 40) {x : Int32} (hdg : decode cc pc = .ok (.iastore, 1)) (kk : ∀ (H1 : Heap) (locs1 : List Loc), va_P g.1 vwCl (wM g h ad φ (aset α 17 j x)) H1 → va_S A H0 H1 locs1 → W p l e R s m args below meth c H1 locs1 cells slots Q (F0 m (pc + 1) ls rest)) : W p l e R s m args below meth c H locs cells slots Q (F0 m pc ls (.int x :: .int (nI j) :: .ref (ad 17) :: rest)) := by
  refine va_iast C.1.1 C.1.2.1 C.2.1 hM (hD.of φ α) hS 15 0 rw_17 rfl (vp_in_nI hj (by decide)) hdg (fun H1 locs1 h1 _ h3 => ?_)
  rw [nI_clamp (Nat.lt_trans hj (by decide))] at h1
  exact kk H1 locs1 h1 h3
theorem ra_18 (C : Cx p m c cc nL s args RX5 g) (hM : va_P g.1 vwCl (wM g h ad φ α) H) (hD : wD A g h ad) (hS : va_S A H0 H locs) {j : Nat} (hj : j < 40) {x : Int32} (hdg : decode cc pc = .ok (.iastore, 1)) (kk : ∀ (H1 : Heap) (locs1 : List Loc), va_P g.1 vwCl (wM g h ad φ (aset α 18 j x)) H1 → va_S A H0 H1 locs1 → W p l e R s m args below meth c H1 locs1 cells slots Q (F0 m (pc + 1) ls rest)) : W p l e R s m args below meth c H locs cells slots Q (F0 m pc ls (.int x :: .int (nI j) :: .ref (ad 18) :: rest)) := by
  refine va_iast C.1.1 C.1.2.1 C.2.1 hM (hD.of φ α) hS 16 0 rw_18 rfl (vp_in_nI hj (by decide)) hdg (fun H1 locs1 h1 _ h3 => ?_)
  rw [nI_clamp (Nat.lt_trans hj (by decide))] at h1
  exact kk H1 locs1 h1 h3
theorem ra_19 (C : Cx p m c cc nL s args RX5 g) (hM : va_P g.1 vwCl (wM g h ad φ α) H) (hD : wD A g h ad) (hS : va_S A H0 H locs) {j : Nat} (hj : j < 40) {x : Int32} (hdg : decode cc pc = .ok (.iastore, 1)) (kk : ∀ (H1 : Heap) (locs1 : List Loc), va_P g.1 vwCl (wM g h ad φ (aset α 19 j x)) H1 → va_S A H0 H1 locs1 → W p l e R s m args below meth c H1 locs1 cells slots Q (F0 m (pc + 1) ls rest)) : W p l e R s m args below meth c H locs cells slots Q (F0 m pc ls (.int x :: .int (nI j) :: .ref (ad 19) :: rest)) := by
  refine va_iast C.1.1 C.1.2.1 C.2.1 hM (hD.of φ α) hS 17 0 rw_19 rfl (vp_in_nI hj (by decide)) hdg (fun H1 locs1 h1 _ h3 => ?_)
  rw [nI_clamp (Nat.lt_trans hj (by decide))] at h1
  exact kk H1 locs1 h1 h3
theorem ra_20 (C : Cx p m c cc nL s args RX5 g) (hM : va_P g.1 vwCl (wM g h ad φ α) H) (hD : wD A g h ad) (hS : va_S A H0 H locs) {j : Nat} (hj : j < 320) {x : Int32} (hdg : decode cc pc = .ok (.iastore, 1)) (kk : ∀ (H1 : Heap) (locs1 : List Loc), va_P g.1 vwCl (wM g h ad φ (aset α 20 j x)) H1 → va_S A H0 H1 locs1 → W p l e R s m args below meth c H1 locs1 cells slots Q (F0 m (pc + 1) ls rest)) : W p l e R s m args below meth c H locs cells slots Q (F0 m pc ls (.int x :: .int (nI j) :: .ref (ad 20) :: rest)) := by
  refine va_iast C.1.1 C.1.2.1 C.2.1 hM (hD.of φ α) hS 18 0 rw_20 rfl (vp_in_nI hj (by decide)) hdg (fun H1 locs1 h1 _ h3 => ?_)
  rw [nI_clamp (Nat.lt_trans hj (by decide))] at h1
  exact kk H1 locs1 h1 h3
theorem ra_21 (C : Cx p m c cc nL s args RX5 g) (hM : va_P g.1 vwCl (wM g h ad φ α) H) (hD : wD A g h ad) (hS : va_S A H0 H locs) {j : Nat} (hj : j < 40) {x : Int32} (hx : x = 0 ∨ x = 1) (hdg : decode cc pc = .ok (.bastore, 1)) (kk : ∀ (H1 : Heap) (locs1 : List Loc), va_P g.1 vwCl (wM g h ad φ (aset α 21 j x)) H1 → va_S A H0 H1 locs1 → W p l e R s m args below meth c H1 locs1 cells slots Q (F0 m (pc + 1) ls rest)) : W p l e R s m args below meth c H locs cells slots Q (F0 m pc ls (.int x :: .int (nI j) :: .ref (ad 21) :: rest)) := by
  refine va_zast C.1.1 C.1.2.1 C.2.1 hM (hD.of φ α) hS 19 1 rw_21 rfl (vp_in_nI hj (by decide)) hdg (fun H1 locs1 h1 _ h3 => ?_)
  rw [nI_clamp (Nat.lt_trans hj (by decide)), (fits01 hx).2.2] at h1
  exact kk H1 locs1 h1 h3
theorem ra_22 (C : Cx p m c cc nL s args RX5 g) (hM : va_P g.1 vwCl (wM g h ad φ α) H) (hD : wD A g h ad) (hS : va_S A H0 H locs) {j : Nat} (hj : j < 40) {x : Int32} (hx : x = 0 ∨ x = 1) (hdg : decode cc pc = .ok (.bastore, 1)) (kk : ∀ (H1 : Heap) (locs1 : List Loc), va_P g.1 vwCl (wM g h ad φ (aset α 22 j x)) H1 → va_S A H0 H1 locs1 → W p l e R s m args below meth c H1 locs1 cells slots Q (F0 m (pc + 1) ls rest)) : W p l e R s m args below meth c H locs cells slots Q (F0 m pc ls (.int x :: .int (nI j) :: .ref (ad 22) :: rest)) := by
  refine va_zast C.1.1 C.1.2.1 C.2.1 hM (hD.of φ α) hS 20 1 rw_22 rfl (vp_in_nI hj (by decide)) hdg (fun H1 locs1 h1 _ h3 => ?_)
  rw [nI_clamp (Nat.lt_trans hj (by decide)), (fits01 hx).2.2] at h1
  exact kk H1 locs1 h1 h3
theorem ra_23 (C : Cx p m c cc nL s args RX5 g) (hM : va_P g.1 vwCl (wM g h ad φ α) H) (hD : wD A g h ad) (hS : va_S A H0 H locs) {j : Nat} (hj : j < 16) {x : Int32} (hdg : decode cc pc = .ok (.iastore, 1)) (kk : ∀ (H1 : Heap) (locs1 : List Loc), va_P g.1 vwCl (wM g h ad φ (aset α 23 j x)) H1 → va_S A H0 H1 locs1 → W p l e R s m args below meth c H1 locs1 cells slots Q (F0 m (pc + 1) ls rest)) : W p l e R s m args below meth c H locs cells slots Q (F0 m pc ls (.int x :: .int (nI j) :: .ref (ad 23) :: rest)) := by
  refine va_iast C.1.1 C.1.2.1 C.2.1 hM (hD.of φ α) hS 21 0 rw_23 rfl (vp_in_nI hj (by decide)) hdg (fun H1 locs1 h1 _ h3 => ?_)
  rw [nI_clamp (Nat.lt_trans hj (by decide))] at h1
  exact kk H1 locs1 h1 h3
theorem ra_36 (C : Cx p m c cc nL s args RX5 g) (hM : va_P g.1 vwCl (wM g h ad φ α) H) (hD : wD A g h ad) (hS : va_S A H0 H locs) {j : Nat} (hj : j < 20) {x : Int32} (hdg : decode cc pc = .ok (.iastore, 1)) (kk : ∀ (H1 : Heap) (locs1 : List Loc), va_P g.1 vwCl (wM g h ad φ (aset α 36 j x)) H1 → va_S A H0 H1 locs1 → W p l e R s m args below meth c H1 locs1 cells slots Q (F0 m (pc + 1) ls rest)) : W p l e R s m args below meth c H locs cells slots Q (F0 m pc ls (.int x :: .int (nI j) :: .ref (ad 36) :: rest)) := by
  refine va_iast C.1.1 C.1.2.1 C.2.1 hM (hD.of φ α) hS 22 0 rw_36 rfl (vp_in_nI hj (by decide)) hdg (fun H1 locs1 h1 _ h3 => ?_)
  rw [nI_clamp (Nat.lt_trans hj (by decide))] at h1
  exact kk H1 locs1 h1 h3
end RW
end
section
/-! plain facts on numbers and arrays, to paste: each family by itself; over the kit's rows on nI and upd -/
/-! ===== order of ints, in all its forms, and through longs ===== -/
theorem fa_lt (a b : Int32) : a < b ↔ a.toInt < b.toInt := Int32.lt_iff_toInt_lt
theorem fa_le (a b : Int32) : a ≤ b ↔ a.toInt ≤ b.toInt := Int32.le_iff_toInt_le
theorem fa_eq (a b : Int32) : a = b ↔ a.toInt = b.toInt := Int32.toInt_inj.symm
theorem fa_lt64 (a b : Int64) : a < b ↔ a.toInt < b.toInt := Int64.lt_iff_toInt_lt
theorem fa_le64 (a b : Int64) : a ≤ b ↔ a.toInt ≤ b.toInt := Int64.le_iff_toInt_le
theorem fa_eq64 (a b : Int64) : a = b ↔ a.toInt = b.toInt := Int64.toInt_inj.symm
/-- a comparison of two ints taken as longs -/
theorem fa_wide_lt (a b : Int32) : a.toInt64 < b.toInt64 ↔ a < b := by rw [fa_lt64, fa_lt, Int32.toInt_toInt64, Int32.toInt_toInt64]
theorem fa_wide_le (a b : Int32) : a.toInt64 ≤ b.toInt64 ↔ a ≤ b := by rw [fa_le64, fa_le, Int32.toInt_toInt64, Int32.toInt_toInt64]
theorem fa_wide_eq (a b : Int32) : a.toInt64 = b.toInt64 ↔ a = b := by rw [fa_eq64, fa_eq, Int32.toInt_toInt64, Int32.toInt_toInt64]
/-- one strict comparison gives all the others -/
theorem fa_of_lt {a b : Int32} (h : a < b) : a ≤ b ∧ ¬ b ≤ a ∧ ¬ b < a ∧ a ≠ b ∧ b ≠ a := by
  rw [fa_lt] at h
  refine ⟨?_, ?_, ?_, ?_, ?_⟩
  · rw [fa_le]; omega
  · rw [fa_le]; omega
  · rw [fa_lt]; omega
  · intro e; rw [fa_eq] at e; omega
  · intro e; rw [fa_eq] at e; omega
theorem fa_of_nlt {a b : Int32} (h : ¬ a < b) : b ≤ a := by
  rw [fa_lt] at h
  rw [fa_le]
  omega
theorem fa_of_nle {a b : Int32} (h : ¬ a ≤ b) : b < a := by
  rw [fa_le] at h
  rw [fa_lt]
  omega
theorem fa_le_ne {a b : Int32} (h : a ≤ b) (h2 : a ≠ b) : a < b := by
  rw [fa_le] at h
  rw [fa_lt]
  have h3 : a.toInt ≠ b.toInt := fun e => h2 ((fa_eq a b).mpr e)
  omega
theorem fa_three (a b : Int32) : a < b ∨ a = b ∨ b < a := by
  rw [fa_lt, fa_lt, fa_eq]
  omega
theorem fa_trans {a b c : Int32} (h : a < b) (h2 : b ≤ c) : a < c := by
  rw [fa_lt] at *
  rw [fa_le] at h2
  omega
/-! ===== small literals as numbers ===== -/
theorem fa_lit (n : Nat) : (OfNat.ofNat n : Int32) = nI n := rfl
theorem fa_litL (n : Nat) : (OfNat.ofNat n : Int64) = lN n := rfl
/-! ===== bits of a number: 'or', masks, one bit ===== -/
theorem fa_and (a b : Nat) : nI a &&& nI b = nI (a &&& b) := by
  apply Int32.toBitVec_inj.1
  show BitVec.ofNat 32 a &&& BitVec.ofNat 32 b = BitVec.ofNat 32 (a &&& b)
  apply BitVec.eq_of_getLsbD_eq
  intro i hi
  simp [hi]
theorem fa_or (a b : Nat) : nI a ||| nI b = nI (a ||| b) := by
  apply Int32.toBitVec_inj.1
  show BitVec.ofNat 32 a ||| BitVec.ofNat 32 b = BitVec.ofNat 32 (a ||| b)
  apply BitVec.eq_of_getLsbD_eq
  intro i hi
  simp [hi]
/-- a remainder by a power of two, as a mask -/
theorem fa_mask (n k : Nat) : nI n &&& nI (2 ^ k - 1) = nI (n % 2 ^ k) := by rw [fa_and, Nat.and_two_pow_sub_one_eq_mod]
/-- 'or' of a high part and a low one that don't meet is their sum -/
theorem fa_or_sum {a k : Nat} (b : Nat) (h : a < 2 ^ k) : nI (2 ^ k * b) ||| nI a = nI (2 ^ k * b + a) := by rw [fa_or, Nat.two_pow_add_eq_or_of_lt h]
/-- one bit, by 'and' with a power of two -/
theorem fa_bit {n j : Nat} (hj : j < 31) : nI n &&& nI (2 ^ j) = 0 ↔ n.testBit j = false := by
  have h2 : (2 : Nat) ^ j < 2 ^ 31 := Nat.pow_lt_pow_right (by decide) hj
  have hle : n &&& 2 ^ j ≤ 2 ^ j := Nat.and_le_right
  have e : n &&& 2 ^ j = 0 ↔ n.testBit j = false := by
    constructor
    · intro h
      have h1 : (n &&& 2 ^ j).testBit j = false := by rw [h]; simp
      rw [Nat.testBit_and] at h1
      first | simpa using h1 | simpa [Nat.testBit_two_pow_self] using h1 | simpa [Nat.testBit_two_pow] using h1
    · intro h
      apply Nat.eq_of_testBit_eq
      intro i
      rw [Nat.testBit_and]
      by_cases hi : j = i
      · subst hi; simp [h]
      · first | (simp [Nat.testBit_two_pow, hi]; done) | (simp [Nat.testBit_two_pow_of_ne hi]; done)
  rw [fa_and]
  constructor
  · intro h
    apply e.mp
    rcases Nat.eq_zero_or_pos (n &&& 2 ^ j) with z | z
    · exact z
    · exact absurd h (nI_ne0 z (Nat.lt_of_le_of_lt hle h2))
  · intro h
    rw [e.mpr h]; exact nI_0
/-- a remainder by a power of two of a number that isn't negative, as Java divides -/
theorem fa_rem {a k : Nat} (ha : a < 2 ^ 31) (hk : k < 31) : nI a - nI a / nI (2 ^ k) * nI (2 ^ k) = nI (a % 2 ^ k) := pk_rem ha (Nat.two_pow_pos k) (Nat.pow_lt_pow_right (by decide) hk)
/-! ===== cuts to a byte, a short ===== -/
theorem fa_byte_xor (x y : Int32) : (x ^^^ y).toInt8 = x.toInt8 ^^^ y.toInt8 := by
  apply Int8.toBitVec_inj.1
  apply BitVec.eq_of_getLsbD_eq
  intro i hi
  first | (simp [hi]; done) | (simp [hi, BitVec.getLsbD_setWidth, BitVec.getLsbD_signExtend]; done)
theorem fa_short_xor (x y : Int32) : (x ^^^ y).toInt16 = x.toInt16 ^^^ y.toInt16 := by
  apply Int16.toBitVec_inj.1
  apply BitVec.eq_of_getLsbD_eq
  intro i hi
  first | (simp [hi]; done) | (simp [hi, BitVec.getLsbD_setWidth, BitVec.getLsbD_signExtend]; done)
/-- the cut to a byte sees the low byte alone -/
theorem fa_byte_low (x : Int32) : (x &&& 255).toInt8 = x.toInt8 := by
  apply Int8.toBitVec_inj.1
  apply BitVec.eq_of_getLsbD_eq
  intro i hi
  have h2 : (255 : Int32).toBitVec.getLsbD i = true := by
    have : ∀ j : Fin 8, (255 : Int32).toBitVec.getLsbD j.val = true := by decide +kernel
    exact this ⟨i, hi⟩
  have h4 : (x &&& 255).toBitVec.getLsbD i = x.toBitVec.getLsbD i := by
    show (x.toBitVec &&& (255 : Int32).toBitVec).getLsbD i = _
    rw [BitVec.getLsbD_and, h2, Bool.and_true]
  have h3 : i < 32 := by omega
  first
    | (show (((x &&& 255).toBitVec).signExtend 8).getLsbD i = (x.toBitVec.signExtend 8).getLsbD i; rw [BitVec.getLsbD_signExtend, BitVec.getLsbD_signExtend, if_pos h3, if_pos h3, h4])
    | (show (((x &&& 255).toBitVec).setWidth 8).getLsbD i = (x.toBitVec.setWidth 8).getLsbD i; rw [BitVec.getLsbD_setWidth, BitVec.getLsbD_setWidth, h4])
    | (simp [hi, h3, h4]; done)
theorem fa_short_low (x : Int32) : (x &&& 65535).toInt16 = x.toInt16 := by
  apply Int16.toBitVec_inj.1
  apply BitVec.eq_of_getLsbD_eq
  intro i hi
  have h2 : (65535 : Int32).toBitVec.getLsbD i = true := by
    have : ∀ j : Fin 16, (65535 : Int32).toBitVec.getLsbD j.val = true := by decide +kernel
    exact this ⟨i, hi⟩
  have h4 : (x &&& 65535).toBitVec.getLsbD i = x.toBitVec.getLsbD i := by
    show (x.toBitVec &&& (65535 : Int32).toBitVec).getLsbD i = _
    rw [BitVec.getLsbD_and, h2, Bool.and_true]
  have h3 : i < 32 := by omega
  first
    | (show (((x &&& 65535).toBitVec).signExtend 16).getLsbD i = (x.toBitVec.signExtend 16).getLsbD i; rw [BitVec.getLsbD_signExtend, BitVec.getLsbD_signExtend, if_pos h3, if_pos h3, h4])
    | (show (((x &&& 65535).toBitVec).setWidth 16).getLsbD i = (x.toBitVec.setWidth 16).getLsbD i; rw [BitVec.getLsbD_setWidth, BitVec.getLsbD_setWidth, h4])
    | (simp [hi, h3, h4]; done)
/-- a small number is its own byte, its own short -/
theorem fa_byte_small {n : Nat} (h : n < 128) : (nI n).toInt8.toInt32 = nI n := by
  have : ∀ j : Fin 128, (nI j.val).toInt8.toInt32 = nI j.val := by decide +kernel
  exact this ⟨n, h⟩
/-! ===== absolute difference ===== -/
theorem fa_absdiff {a b : Nat} (ha : a < 2 ^ 31) (hb : b < 2 ^ 31) : (if nI a < nI b then nI b - nI a else nI a - nI b) = nI (if a < b then b - a else a - b) := by
  by_cases h : a < b
  · rw [if_pos (nI_lt h hb), if_pos h]
    exact pk_sub (Nat.le_of_lt h)
  · rw [if_neg (nI_nlt (Nat.le_of_not_lt h) ha), if_neg h]
    exact pk_sub (Nat.le_of_not_lt h)
/-! ===== an array behind i stores, a conditional store, a row copied ===== -/
/-- f where k < i, what stood there else -/
def fa_fill {α : Type} (f g : Nat → α) (i : Nat) : Nat → α := fun k => if k < i then f k else g k
theorem fa_fill_0 {α : Type} (f g : Nat → α) : fa_fill f g 0 = g := funext fun k => if_neg (Nat.not_lt_zero k)
theorem fa_fill_in {α : Type} {f g : Nat → α} {i k : Nat} (h : k < i) : fa_fill f g i k = f k := if_pos h
theorem fa_fill_out {α : Type} {f g : Nat → α} {i k : Nat} (h : i ≤ k) : fa_fill f g i k = g k := if_neg (Nat.not_lt.mpr h)
theorem fa_fill_succ (f g : Nat → Int32) (i : Nat) : upd (fa_fill f g i) i (f i) = fa_fill f g (i + 1) := by
  funext k
  by_cases e : k = i
  · subst e
    rw [pk_us]
    exact (if_pos (Nat.lt_succ_self k)).symm
  · rw [pk_un e]
    by_cases h : k < i
    · rw [fa_fill_in h, fa_fill_in (Nat.lt_succ_of_lt h)]
    · rw [fa_fill_out (Nat.le_of_not_lt h), fa_fill_out (by omega)]
/-- a store that changes nothing -/
theorem fa_upd_same {f : Nat → Int32} {i : Nat} {x : Int32} (h : f i = x) : upd f i x = f := by
  funext k
  by_cases e : k = i
  · subst e
    rw [pk_us, h]
  · rw [pk_un e]
/-- a store under a condition, told as one -/
theorem fa_upd_if (c : Prop) [Decidable c] (f : Nat → Int32) (i : Nat) (x : Int32) : (if c then upd f i x else f) = upd f i (if c then x else f i) := by
  by_cases h : c
  · rw [if_pos h, if_pos h]
  · rw [if_neg h, if_neg h, fa_upd_same rfl]
/-- two stores at one place, at two -/
theorem fa_upd_twice (f : Nat → Int32) (i : Nat) (x y : Int32) : upd (upd f i x) i y = upd f i y := by
  funext k
  by_cases e : k = i
  · subst e
    rw [pk_us, pk_us]
  · rw [pk_un e, pk_un e, pk_un e]
theorem fa_upd_swap (f : Nat → Int32) {i j : Nat} (h : i ≠ j) (x y : Int32) : upd (upd f i x) j y = upd (upd f j y) i x := by
  funext k
  by_cases e : k = i
  · subst e
    rw [pk_un h, pk_us, pk_us]
  · by_cases e2 : k = j
    · subst e2
      rw [pk_us, pk_un e, pk_us]
    · rw [pk_un e2, pk_un e, pk_un e, pk_un e2]
/-! ===== the first index with a property; a count ===== -/
/-- the first k < n with p k, n if there is none -/
def fa_first (p : Nat → Bool) : Nat → Nat
  | 0 => 0
  | n + 1 => if fa_first p n < n then fa_first p n else if p n then n else n + 1
theorem fa_first_le (p : Nat → Bool) : ∀ n, fa_first p n ≤ n
  | 0 => Nat.le_refl 0
  | n + 1 => by
    have ih := fa_first_le p n
    unfold fa_first
    split
    · omega
    · split
      · omega
      · omega
theorem fa_first_no (p : Nat → Bool) : ∀ n k, k < fa_first p n → p k = false
  | 0, k, h => absurd h (Nat.not_lt_zero k)
  | n + 1, k, h => by
    have ih := fa_first_no p n
    have hl := fa_first_le p n
    unfold fa_first at h
    split at h
    · exact ih k h
    · rename_i h1
      split at h
      · exact ih k (by omega)
      · rename_i h2
        by_cases e : k = n
        · subst e
          exact Bool.eq_false_iff.mpr h2
        · exact ih k (by omega)
theorem fa_first_yes (p : Nat → Bool) : ∀ n, fa_first p n < n → p (fa_first p n) = true
  | 0, h => absurd h (Nat.not_lt_zero _)
  | n + 1, h => by
    have ih := fa_first_yes p n
    have hl := fa_first_le p n
    unfold fa_first at h ⊢
    split at h
    · rename_i h1
      rw [if_pos h1]
      exact ih h1
    · rename_i h1
      rw [if_neg h1]
      split at h
      · rename_i h2
        rw [if_pos h2]
        exact h2
      · omega
/-- how many k < n have p k -/
def fa_cnt (p : Nat → Bool) : Nat → Nat
  | 0 => 0
  | n + 1 => fa_cnt p n + if p n then 1 else 0
theorem fa_cnt_le (p : Nat → Bool) : ∀ n, fa_cnt p n ≤ n
  | 0 => Nat.le_refl 0
  | n + 1 => by
    have ih := fa_cnt_le p n
    unfold fa_cnt
    split
    · omega
    · omega
theorem fa_cnt_yes {p : Nat → Bool} {n : Nat} (h : p n = true) : fa_cnt p (n + 1) = fa_cnt p n + 1 := by rw [fa_cnt, if_pos h]
theorem fa_cnt_no {p : Nat → Bool} {n : Nat} (h : p n = false) : fa_cnt p (n + 1) = fa_cnt p n := by rw [fa_cnt, if_neg (by rw [h]; decide)]; rfl
theorem fa_cnt_cong {p q : Nat → Bool} : ∀ {n : Nat}, (∀ k, k < n → p k = q k) → fa_cnt p n = fa_cnt q n
  | 0, _ => rfl
  | n + 1, h => by rw [fa_cnt, fa_cnt, fa_cnt_cong (fun k hk => h k (Nat.lt_succ_of_lt hk)), h n (Nat.lt_succ_self n)]
/-! ===== an answer carried into a post; a branch on a boolean answer ===== -/
theorem fa_post {α : Type} {P : α → Prop} {x y : α} (h : x = y) (hp : P y) : P x := h ▸ hp
theorem fa_post2 {α β : Type} {P : α → β → Prop} {x y : α} {u v : β} (h : x = y) (h2 : u = v) (hp : P y v) : P x u := h ▸ h2 ▸ hp
theorem fa_bool {r : Int32} {b : Bool} (h : r = if b then 1 else 0) : (r = 0 ↔ b = false) ∧ (¬ r = 0 ↔ b = true) := by
  subst h
  cases b
  · exact ⟨⟨fun _ => rfl, fun _ => rfl⟩, ⟨fun h => absurd rfl h, fun h => absurd h (by decide)⟩⟩
  · exact ⟨⟨fun h => absurd h (by decide), fun h => absurd h (by decide)⟩, ⟨fun _ => rfl, fun _ => by decide⟩⟩
/-- a boolean's narrowing changes nothing -/
theorem fa_bool_and {r : Int32} (h : r = 0 ∨ r = 1) : r &&& 1 = r := by
  rcases h with rfl | rfl
  · decide
  · decide
theorem fa_bool_prop {c : Prop} [Decidable c] {r : Int32} (h : r = if c then 1 else 0) : (r = 0 ↔ ¬ c) ∧ (¬ r = 0 ↔ c) := by
  subst h
  by_cases hc : c
  · rw [if_pos hc]
    exact ⟨⟨fun h => absurd h (by decide), fun h => absurd hc h⟩, ⟨fun _ => hc, fun _ => by decide⟩⟩
  · rw [if_neg hc]
    exact ⟨⟨fun _ => hc, fun _ => rfl⟩, ⟨fun h => absurd rfl h, fun h => absurd h hc⟩⟩
end
section
/-! plain facts to paste, each family by itself; over the kit's nI, lN and upd -/
/-! ===== drawers: more things than places ===== -/
theorem fb_holes : ∀ (m n : Nat) (f : Nat → Nat), (∀ i, i < n → f i < m) → (∀ i j, i < j → j < n → f i ≠ f j) → n ≤ m := by
  intro m
  induction m with
  | zero =>
    intro n f h1 _
    rcases Nat.eq_zero_or_pos n with h | h
    · omega
    · exact absurd (h1 0 h) (Nat.not_lt_zero _)
  | succ m ih =>
    intro n f h1 h2
    by_cases hx : ∃ i, i < n ∧ f i = m
    · obtain ⟨a, ha, hfa⟩ := hx
      have hg := ih (n - 1) (fun i => if i < a then f i else f (i + 1)) (by
        intro i hi
        by_cases q : i < a
        · simp only [if_pos q]
          have b1 := h1 i (by omega)
          have b2 := h2 i a q ha
          omega
        · simp only [if_neg q]
          have b1 := h1 (i + 1) (by omega)
          have b2 := h2 a (i + 1) (by omega) (by omega)
          omega) (by
        intro i j hij hj
        by_cases q : i < a
        · by_cases r : j < a
          · simp only [if_pos q, if_pos r]
            exact h2 i j hij (by omega)
          · simp only [if_pos q, if_neg r]
            exact h2 i (j + 1) (by omega) (by omega)
        · have r : ¬ j < a := by omega
          simp only [if_neg q, if_neg r]
          exact h2 (i + 1) (j + 1) (by omega) (by omega))
      omega
    · have hg := ih n f (fun i hi => by
        have b1 := h1 i hi
        have b2 : f i ≠ m := fun e => hx ⟨i, hi, e⟩
        omega) h2
      omega
/-- two of them in one place -/
theorem fb_twice {m n : Nat} {f : Nat → Nat} (h : ∀ i, i < n → f i < m) (hm : m < n) : ∃ i j, i < j ∧ j < n ∧ f i = f j := by
  refine Classical.byContradiction fun hx => ?_
  have := fb_holes m n f h (fun i j hij hj e => hx ⟨i, j, hij, hj, e⟩)
  omega
/-- as many as places, none twice: each place is taken -/
theorem fb_onto {n : Nat} {f : Nat → Nat} (h : ∀ i, i < n → f i < n) (h2 : ∀ i j, i < j → j < n → f i ≠ f j) {y : Nat} (hy : y < n) : ∃ i, i < n ∧ f i = y := by
  refine Classical.byContradiction fun hx => ?_
  have hne : ∀ i, i < n → f i ≠ y := fun i hi e => hx ⟨i, hi, e⟩
  have := fb_holes (n - 1) n (fun i => if f i < y then f i else f i - 1) (by
    intro i hi
    have b1 := h i hi
    have b2 := hne i hi
    by_cases q : f i < y
    · simp only [if_pos q]; omega
    · simp only [if_neg q]; omega) (by
    intro i j hij hj
    have b1 := hne i (by omega)
    have b2 := hne j hj
    have b3 := h2 i j hij hj
    by_cases q : f i < y
    · by_cases r : f j < y
      · simp only [if_pos q, if_pos r]; exact b3
      · simp only [if_pos q, if_neg r]; omega
    · by_cases r : f j < y
      · simp only [if_neg q, if_pos r]; omega
      · simp only [if_neg q, if_neg r]; omega)
  omega
/-! ===== how many places have a property ===== -/
def fb_ct (p : Nat → Bool) : Nat → Nat
  | 0 => 0
  | n + 1 => fb_ct p n + (if p n then 1 else 0)
theorem fb_ct_succ (p : Nat → Bool) (n : Nat) : fb_ct p (n + 1) = fb_ct p n + (if p n then 1 else 0) := rfl
theorem fb_ct_le (p : Nat → Bool) : ∀ n, fb_ct p n ≤ n
  | 0 => Nat.le_refl _
  | n + 1 => by
    have h := fb_ct_le p n
    rw [fb_ct_succ]
    split <;> omega
theorem fb_ct_step (p : Nat → Bool) (m : Nat) : ∀ n, fb_ct p m ≤ fb_ct p (m + n)
  | 0 => Nat.le_refl _
  | n + 1 => by
    have h := fb_ct_step p m n
    show fb_ct p m ≤ fb_ct p (m + n + 1)
    rw [fb_ct_succ]
    omega
theorem fb_ct_mono (p : Nat → Bool) {m n : Nat} (h : m ≤ n) : fb_ct p m ≤ fb_ct p n := by
  have := fb_ct_step p m (n - m)
  rwa [Nat.add_sub_cancel' h] at this
theorem fb_ct_cong {p q : Nat → Bool} : ∀ {n : Nat}, (∀ k, k < n → p k = q k) → fb_ct p n = fb_ct q n
  | 0, _ => rfl
  | n + 1, h => by
    rw [fb_ct_succ, fb_ct_succ, fb_ct_cong (fun k hk => h k (by omega)), h n (by omega)]
/-- one place changed -/
theorem fb_ct_out (p : Nat → Bool) (b : Bool) {i n : Nat} (h : n ≤ i) : fb_ct (fun k => if k = i then b else p k) n = fb_ct p n :=
  fb_ct_cong fun k hk => if_neg (by omega)
theorem fb_ct_upd (p : Nat → Bool) (b : Bool) {i : Nat} : ∀ {n : Nat}, i < n → fb_ct (fun k => if k = i then b else p k) n + (if p i then 1 else 0) = fb_ct p n + (if b then 1 else 0)
  | 0, h => absurd h (Nat.not_lt_zero i)
  | n + 1, h => by
    rw [fb_ct_succ, fb_ct_succ]
    rcases Nat.lt_or_ge i n with q | q
    · have := fb_ct_upd p b q
      have e : (if n = i then b else p n) = p n := if_neg (by omega)
      rw [e]
      omega
    · have e : i = n := by omega
      subst e
      rw [fb_ct_out p b (Nat.le_refl _)]
      simp only [if_true]
      omega
theorem fb_ct_sub {p q : Nat → Bool} : ∀ {n : Nat}, (∀ k, k < n → p k = true → q k = true) → fb_ct p n ≤ fb_ct q n
  | 0, _ => Nat.le_refl _
  | n + 1, h => by
    have h1 := fb_ct_sub (n := n) (p := p) (q := q) (fun k hk => h k (by omega))
    have h2 := h n (by omega)
    rw [fb_ct_succ, fb_ct_succ]
    cases hp : p n <;> cases hq : q n <;> simp_all <;> omega
theorem fb_ct_or {p q : Nat → Bool} : ∀ {n : Nat}, (∀ k, k < n → ¬ (p k = true ∧ q k = true)) → fb_ct (fun k => p k || q k) n = fb_ct p n + fb_ct q n
  | 0, _ => rfl
  | n + 1, h => by
    have h1 := fb_ct_or (n := n) (p := p) (q := q) (fun k hk => h k (by omega))
    have h2 := h n (by omega)
    rw [fb_ct_succ, fb_ct_succ, fb_ct_succ, h1]
    cases hp : p n <;> cases hq : q n <;> simp_all <;> omega
theorem fb_ct_not (p : Nat → Bool) : ∀ n, fb_ct p n + fb_ct (fun k => !p k) n = n
  | 0 => rfl
  | n + 1 => by
    have h := fb_ct_not p n
    rw [fb_ct_succ, fb_ct_succ]
    cases p n <;> simp <;> omega
theorem fb_ct_split (p : Nat → Bool) (m : Nat) : ∀ n, fb_ct p (m + n) = fb_ct p m + fb_ct (fun k => p (m + k)) n
  | 0 => rfl
  | n + 1 => by
    have h := fb_ct_split p m n
    show fb_ct p (m + n + 1) = _
    rw [fb_ct_succ, fb_ct_succ, h, Nat.add_assoc]
theorem fb_ct_zero {p : Nat → Bool} : ∀ {n : Nat}, fb_ct p n = 0 ↔ ∀ k, k < n → p k = false
  | 0 => ⟨fun _ k hk => absurd hk (Nat.not_lt_zero k), fun _ => rfl⟩
  | n + 1 => by
    have h := fb_ct_zero (p := p) (n := n)
    rw [fb_ct_succ]
    constructor
    · intro e k hk
      have e1 : fb_ct p n = 0 := by omega
      rcases Nat.lt_or_ge k n with q | q
      · exact h.mp e1 k q
      · have ek : k = n := by omega
        subst ek
        cases hp : p k
        · rfl
        · simp [hp] at e
    · intro a
      rw [h.mpr (fun k hk => a k (by omega)), a n (by omega)]
      rfl
theorem fb_ct_pos {p : Nat → Bool} {n : Nat} : 0 < fb_ct p n ↔ ∃ k, k < n ∧ p k = true := by
  constructor
  · intro h
    refine Classical.byContradiction fun hx => ?_
    have := fb_ct_zero.mpr (fun k hk => by
      cases hp : p k
      · rfl
      · exact absurd ⟨k, hk, hp⟩ hx : ∀ k, k < n → p k = false)
    omega
  · rintro ⟨k, hk, hp⟩
    rcases Nat.eq_zero_or_pos (fb_ct p n) with e | e
    · have := fb_ct_zero.mp e k hk
      rw [this] at hp
      cases hp
    · exact e
theorem fb_ct_all {p : Nat → Bool} {n : Nat} : fb_ct p n = n ↔ ∀ k, k < n → p k = true := by
  have h := fb_ct_not p n
  constructor
  · intro e k hk
    have z : fb_ct (fun k => !p k) n = 0 := by omega
    have := fb_ct_zero.mp z k hk
    cases hp : p k
    · simp [hp] at this
    · rfl
  · intro a
    have z : fb_ct (fun k => !p k) n = 0 := fb_ct_zero.mpr (fun k hk => by simp [a k hk])
    omega
/-- the k-th place with the property -/
theorem fb_ct_kth {p : Nat → Bool} {k : Nat} : ∀ {n : Nat}, k < fb_ct p n → ∃ i, i < n ∧ p i = true ∧ fb_ct p i = k
  | 0, h => absurd h (Nat.not_lt_zero k)
  | n + 1, h => by
    rcases Nat.lt_or_ge k (fb_ct p n) with q | q
    · obtain ⟨i, h1, h2⟩ := fb_ct_kth q
      exact ⟨i, by omega, h2⟩
    · rw [fb_ct_succ] at h
      cases hp : p n
      · simp [hp] at h; omega
      · simp [hp] at h
        exact ⟨n, by omega, hp, by omega⟩
theorem fb_ct_kth_one {p : Nat → Bool} {i j : Nat} (hi : p i = true) (hj : p j = true) (e : fb_ct p i = fb_ct p j) : i = j := by
  have key : ∀ a b : Nat, a < b → p a = true → fb_ct p a < fb_ct p b := by
    intro a b hab ha
    have h := fb_ct_mono p (show a + 1 ≤ b from hab)
    rw [fb_ct_succ, ha] at h
    simp at h
    omega
  rcases Nat.lt_trichotomy i j with q | q | q
  · have := key i j q hi; omega
  · exact q
  · have := key j i q hj; omega
/-! ===== sums over a range: one place changed, parts, bounds ===== -/
def fb_sm (f : Nat → Nat) : Nat → Nat
  | 0 => 0
  | n + 1 => fb_sm f n + f n
theorem fb_sm_succ (f : Nat → Nat) (n : Nat) : fb_sm f (n + 1) = fb_sm f n + f n := rfl
theorem fb_sm_cong {f g : Nat → Nat} : ∀ {n : Nat}, (∀ k, k < n → f k = g k) → fb_sm f n = fb_sm g n
  | 0, _ => rfl
  | n + 1, h => by rw [fb_sm_succ, fb_sm_succ, fb_sm_cong (fun k hk => h k (by omega)), h n (by omega)]
theorem fb_sm_out (f : Nat → Nat) (v : Nat) {i n : Nat} (h : n ≤ i) : fb_sm (fun k => if k = i then v else f k) n = fb_sm f n :=
  fb_sm_cong fun k hk => if_neg (by omega)
theorem fb_sm_upd (f : Nat → Nat) (v : Nat) {i : Nat} : ∀ {n : Nat}, i < n → fb_sm (fun k => if k = i then v else f k) n + f i = fb_sm f n + v
  | 0, h => absurd h (Nat.not_lt_zero i)
  | n + 1, h => by
    rw [fb_sm_succ, fb_sm_succ]
    rcases Nat.lt_or_ge i n with q | q
    · have := fb_sm_upd f v q
      have e : (if n = i then v else f n) = f n := if_neg (by omega)
      rw [e]
      omega
    · have e : i = n := by omega
      subst e
      rw [fb_sm_out f v (Nat.le_refl _)]
      simp only [if_true]
      omega
theorem fb_sm_add (f g : Nat → Nat) : ∀ n, fb_sm (fun k => f k + g k) n = fb_sm f n + fb_sm g n
  | 0 => rfl
  | n + 1 => by
    have h := fb_sm_add f g n
    rw [fb_sm_succ, fb_sm_succ, fb_sm_succ, h]
    omega
theorem fb_sm_le {f g : Nat → Nat} : ∀ {n : Nat}, (∀ k, k < n → f k ≤ g k) → fb_sm f n ≤ fb_sm g n
  | 0, _ => Nat.le_refl _
  | n + 1, h => by
    have h1 := fb_sm_le (n := n) (f := f) (g := g) (fun k hk => h k (by omega))
    have h2 := h n (by omega)
    rw [fb_sm_succ, fb_sm_succ]
    omega
theorem fb_sm_const (c : Nat) : ∀ n, fb_sm (fun _ => c) n = n * c
  | 0 => by rw [Nat.zero_mul]; rfl
  | n + 1 => by rw [fb_sm_succ, fb_sm_const c n, Nat.succ_mul]
theorem fb_sm_bound {f : Nat → Nat} {c n : Nat} (h : ∀ k, k < n → f k ≤ c) : fb_sm f n ≤ n * c := by
  rw [← fb_sm_const c n]
  exact fb_sm_le h
theorem fb_sm_mono (f : Nat → Nat) (m : Nat) : ∀ n, fb_sm f m ≤ fb_sm f (m + n)
  | 0 => Nat.le_refl _
  | n + 1 => by
    have h := fb_sm_mono f m n
    show fb_sm f m ≤ fb_sm f (m + n + 1)
    rw [fb_sm_succ]
    omega
theorem fb_sm_part (f : Nat → Nat) {i n : Nat} (h : i < n) : fb_sm f i + f i ≤ fb_sm f n := by
  have := fb_sm_mono f (i + 1) (n - (i + 1))
  rw [fb_sm_succ, show i + 1 + (n - (i + 1)) = n by omega] at this
  exact this
theorem fb_sm_split (f : Nat → Nat) (m : Nat) : ∀ n, fb_sm f (m + n) = fb_sm f m + fb_sm (fun k => f (m + k)) n
  | 0 => rfl
  | n + 1 => by
    have h := fb_sm_split f m n
    show fb_sm f (m + n + 1) = _
    rw [fb_sm_succ, fb_sm_succ, h, Nat.add_assoc]
theorem fb_sm_zero {f : Nat → Nat} {n : Nat} (h : fb_sm f n = 0) : ∀ k, k < n → f k = 0 := fun k hk => by
  have := fb_sm_part f hk
  omega
/-- the same over whole numbers -/
def fb_si (f : Nat → Int) : Nat → Int
  | 0 => 0
  | n + 1 => fb_si f n + f n
theorem fb_si_succ (f : Nat → Int) (n : Nat) : fb_si f (n + 1) = fb_si f n + f n := rfl
theorem fb_si_cong {f g : Nat → Int} : ∀ {n : Nat}, (∀ k, k < n → f k = g k) → fb_si f n = fb_si g n
  | 0, _ => rfl
  | n + 1, h => by rw [fb_si_succ, fb_si_succ, fb_si_cong (fun k hk => h k (by omega)), h n (by omega)]
theorem fb_si_out (f : Nat → Int) (v : Int) {i n : Nat} (h : n ≤ i) : fb_si (fun k => if k = i then v else f k) n = fb_si f n :=
  fb_si_cong fun k hk => if_neg (by omega)
theorem fb_si_upd (f : Nat → Int) (v : Int) {i : Nat} : ∀ {n : Nat}, i < n → fb_si (fun k => if k = i then v else f k) n = fb_si f n - f i + v
  | 0, h => absurd h (Nat.not_lt_zero i)
  | n + 1, h => by
    rw [fb_si_succ, fb_si_succ]
    rcases Nat.lt_or_ge i n with q | q
    · have := fb_si_upd f v q
      have e : (if n = i then v else f n) = f n := if_neg (by omega)
      rw [e]
      omega
    · have e : i = n := by omega
      subst e
      rw [fb_si_out f v (Nat.le_refl _)]
      simp only [if_true]
      omega
theorem fb_si_add (f g : Nat → Int) : ∀ n, fb_si (fun k => f k + g k) n = fb_si f n + fb_si g n
  | 0 => rfl
  | n + 1 => by
    have h := fb_si_add f g n
    rw [fb_si_succ, fb_si_succ, fb_si_succ, h]
    omega
theorem fb_si_sub (f g : Nat → Int) : ∀ n, fb_si (fun k => f k - g k) n = fb_si f n - fb_si g n
  | 0 => rfl
  | n + 1 => by
    have h := fb_si_sub f g n
    rw [fb_si_succ, fb_si_succ, fb_si_succ, h]
    omega
theorem fb_si_mul (c : Int) (f : Nat → Int) : ∀ n, fb_si (fun k => c * f k) n = c * fb_si f n
  | 0 => (Int.mul_zero c).symm
  | n + 1 => by
    have h := fb_si_mul c f n
    rw [fb_si_succ, fb_si_succ, h, Int.mul_add]
theorem fb_si_split (f : Nat → Int) (m : Nat) : ∀ n, fb_si f (m + n) = fb_si f m + fb_si (fun k => f (m + k)) n
  | 0 => (Int.add_zero _).symm
  | n + 1 => by
    have h := fb_si_split f m n
    show fb_si f (m + n + 1) = _
    rw [fb_si_succ, fb_si_succ, h, Int.add_assoc]
theorem fb_si_nat (f : Nat → Nat) : ∀ n, fb_si (fun k => (f k : Int)) n = (fb_sm f n : Int)
  | 0 => rfl
  | n + 1 => by
    have h := fb_si_nat f n
    rw [fb_si_succ, fb_sm_succ, h]
    omega
theorem fb_si_bound {f : Nat → Int} {c : Int} (hc : 0 ≤ c) : ∀ {n : Nat}, (∀ k, k < n → -c ≤ f k ∧ f k ≤ c) → -(n * c) ≤ fb_si f n ∧ fb_si f n ≤ n * c
  | 0, _ => by simp [fb_si]
  | n + 1, h => by
    have h1 := fb_si_bound (n := n) (f := f) hc (fun k hk => h k (by omega))
    have h2 := h n (by omega)
    have e : ((n + 1 : Nat) : Int) * c = n * c + c := by rw [Int.natCast_add, Int.add_mul]; simp
    rw [fb_si_succ, e]
    omega
/-! ===== bits of a long that isn't negative ===== -/
theorem fb_andL (a b : Nat) : lN a &&& lN b = lN (a &&& b) := by
  apply Int64.toBitVec_inj.1
  show BitVec.ofNat 64 a &&& BitVec.ofNat 64 b = BitVec.ofNat 64 (a &&& b)
  apply BitVec.eq_of_getLsbD_eq
  intro i hi
  simp [hi]
theorem fb_orL (a b : Nat) : lN a ||| lN b = lN (a ||| b) := by
  apply Int64.toBitVec_inj.1
  show BitVec.ofNat 64 a ||| BitVec.ofNat 64 b = BitVec.ofNat 64 (a ||| b)
  apply BitVec.eq_of_getLsbD_eq
  intro i hi
  simp [hi]
theorem fb_xorL (a b : Nat) : lN a ^^^ lN b = lN (a ^^^ b) := by
  apply Int64.toBitVec_inj.1
  show BitVec.ofNat 64 a ^^^ BitVec.ofNat 64 b = BitVec.ofNat 64 (a ^^^ b)
  apply BitVec.eq_of_getLsbD_eq
  intro i hi
  simp [hi]
theorem fb_xorI (a b : Nat) : nI a ^^^ nI b = nI (a ^^^ b) := by
  apply Int32.toBitVec_inj.1
  show BitVec.ofNat 32 a ^^^ BitVec.ofNat 32 b = BitVec.ofNat 32 (a ^^^ b)
  apply BitVec.eq_of_getLsbD_eq
  intro i hi
  simp [hi]
theorem fb_maskL (n k : Nat) : lN n &&& lN (2 ^ k - 1) = lN (n % 2 ^ k) := by rw [fb_andL, Nat.and_two_pow_sub_one_eq_mod]
theorem fb_or_sumL {a k : Nat} (b : Nat) (h : a < 2 ^ k) : lN (2 ^ k * b) ||| lN a = lN (2 ^ k * b + a) := by rw [fb_orL, Nat.two_pow_add_eq_or_of_lt h]
theorem fb_lN_inj {a b : Nat} (ha : a < 2 ^ 63) (hb : b < 2 ^ 63) : lN a = lN b ↔ a = b := by
  constructor
  · intro h
    have h1 : (BitVec.ofNat 64 a).toNat = (BitVec.ofNat 64 b).toNat := congrArg (fun x : Int64 => x.toBitVec.toNat) h
    rw [BitVec.toNat_ofNat, BitVec.toNat_ofNat, Nat.mod_eq_of_lt (by omega), Nat.mod_eq_of_lt (by omega)] at h1
    exact h1
  · rintro rfl; rfl
theorem fb_bit_nat (n j : Nat) : n &&& 2 ^ j = 0 ↔ n.testBit j = false := by
  constructor
  · intro h
    have h1 : (n &&& 2 ^ j).testBit j = false := by rw [h]; simp
    rw [Nat.testBit_and] at h1
    simpa using h1
  · intro h
    apply Nat.eq_of_testBit_eq
    intro i
    rw [Nat.testBit_and]
    by_cases hi : j = i
    · subst hi; simp [h]
    · first | (simp [Nat.testBit_two_pow, hi]; done) | (simp [Nat.testBit_two_pow_of_ne hi]; done)
/-- one bit of a long -/
theorem fb_bitL {n j : Nat} (hj : j < 63) : lN n &&& lN (2 ^ j) = 0 ↔ n.testBit j = false := by
  have h2 : (2 : Nat) ^ j < 2 ^ 63 := Nat.pow_lt_pow_right (by decide) hj
  have hle : n &&& 2 ^ j ≤ 2 ^ j := Nat.and_le_right
  rw [fb_andL, ← fb_bit_nat, show (0 : Int64) = lN 0 from rfl]
  exact fb_lN_inj (by omega) (by decide)
/-- a bit set, a bit taken off -/
theorem fb_bit_set (n j i : Nat) : (n ||| 2 ^ j).testBit i = (n.testBit i || decide (i = j)) := by
  rw [Nat.testBit_or]
  by_cases h : j = i
  · subst h; simp
  · have h2 : ¬ i = j := fun e => h e.symm
    first | (simp [Nat.testBit_two_pow, h, h2]; done) | (simp [Nat.testBit_two_pow_of_ne h, h2]; done)
theorem fb_bit_flip (n j i : Nat) : (n ^^^ 2 ^ j).testBit i = (n.testBit i ^^ decide (i = j)) := by
  rw [Nat.testBit_xor]
  by_cases h : j = i
  · subst h; simp
  · have h2 : ¬ i = j := fun e => h e.symm
    first | (simp [Nat.testBit_two_pow, h, h2]; done) | (simp [Nat.testBit_two_pow_of_ne h, h2]; done)
/-! ===== a stretch of an array written over by a function ===== -/
def fb_put {α : Type} (f g : Nat → α) (a n : Nat) : Nat → α := fun k => if a ≤ k ∧ k < a + n then g (k - a) else f k
theorem fb_put_0 {α : Type} (f g : Nat → α) (a : Nat) : fb_put f g a 0 = f := funext fun k => if_neg (by omega)
theorem fb_put_in {α : Type} {f g : Nat → α} {a n k : Nat} (h1 : a ≤ k) (h2 : k < a + n) : fb_put f g a n k = g (k - a) := if_pos ⟨h1, h2⟩
theorem fb_put_out {α : Type} {f g : Nat → α} {a n k : Nat} (h : k < a ∨ a + n ≤ k) : fb_put f g a n k = f k := if_neg (by omega)
theorem fb_put_succ (f g : Nat → Int32) (a n : Nat) : upd (fb_put f g a n) (a + n) (g n) = fb_put f g a (n + 1) := by
  funext k
  by_cases h : k = a + n
  · subst h
    simp [upd, fb_put]
  · by_cases h1 : a ≤ k ∧ k < a + n
    · have h2 : a ≤ k ∧ k < a + (n + 1) := by omega
      simp only [upd, fb_put, if_neg h, if_pos h1, if_pos h2]
    · have h2 : ¬ (a ≤ k ∧ k < a + (n + 1)) := by omega
      simp only [upd, fb_put, if_neg h, if_neg h1, if_neg h2]
/-- .. from the far end down -/
theorem fb_put_down (f g : Nat → Int32) {a n m : Nat} (h : m < n) : upd (fb_put f (fun k => g (k + (m + 1))) (a + (m + 1)) (n - (m + 1))) (a + m) (g m) = fb_put f (fun k => g (k + m)) (a + m) (n - m) := by
  funext k
  by_cases h0 : k = a + m
  · subst h0
    simp only [upd, if_true]
    rw [fb_put_in (by omega) (by omega)]
    exact congrArg g (by omega)
  · simp only [upd, if_neg h0]
    by_cases h1 : a + (m + 1) ≤ k ∧ k < a + (m + 1) + (n - (m + 1))
    · rw [fb_put_in h1.1 h1.2, fb_put_in (by omega) (by omega)]
      exact congrArg g (by omega)
    · rw [fb_put_out (by omega), fb_put_out (by omega)]
theorem fb_put_cong {α : Type} {f f2 g g2 : Nat → α} {a n : Nat} (hf : ∀ k, (k < a ∨ a + n ≤ k) → f k = f2 k) (hg : ∀ k, k < n → g k = g2 k) : fb_put f g a n = fb_put f2 g2 a n := by
  funext k
  by_cases h : a ≤ k ∧ k < a + n
  · rw [fb_put_in h.1 h.2, fb_put_in h.1 h.2, hg _ (by omega)]
  · rw [fb_put_out (by omega), fb_put_out (by omega), hf _ (by omega)]
/-! ===== the least, the first, the best so far; that there is one alone ===== -/
theorem fb_first {p : Nat → Prop} [DecidablePred p] : ∀ {n : Nat}, (∃ i, i < n ∧ p i) → ∃ i, i < n ∧ p i ∧ ∀ j, j < i → ¬ p j
  | 0, h => by obtain ⟨i, hi, -⟩ := h; exact absurd hi (Nat.not_lt_zero i)
  | n + 1, h => by
    by_cases q : ∃ i, i < n ∧ p i
    · obtain ⟨i, h1, h2⟩ := fb_first q
      exact ⟨i, by omega, h2⟩
    · obtain ⟨i, h1, h2⟩ := h
      have e : i = n := by
        rcases Nat.lt_or_ge i n with r | r
        · exact absurd ⟨i, r, h2⟩ q
        · omega
      subst e
      exact ⟨i, by omega, h2, fun j hj hp => q ⟨j, hj, hp⟩⟩
theorem fb_first_one {p : Nat → Prop} {i j : Nat} (hi : p i) (hi2 : ∀ k, k < i → ¬ p k) (hj : p j) (hj2 : ∀ k, k < j → ¬ p k) : i = j := by
  rcases Nat.lt_trichotomy i j with q | q | q
  · exact absurd hi (hj2 i q)
  · exact q
  · exact absurd hj (hi2 j q)
theorem fb_last {p : Nat → Prop} [DecidablePred p] : ∀ {n : Nat}, (∃ i, i < n ∧ p i) → ∃ i, i < n ∧ p i ∧ ∀ j, i < j → j < n → ¬ p j
  | 0, h => by obtain ⟨i, hi, -⟩ := h; exact absurd hi (Nat.not_lt_zero i)
  | n + 1, h => by
    by_cases q : p n
    · exact ⟨n, by omega, q, fun j h1 h2 => by omega⟩
    · obtain ⟨i, h1, h2⟩ := h
      have hi : i < n := by
        rcases Nat.lt_or_ge i n with r | r
        · exact r
        · have e : i = n := by omega
          subst e
          exact absurd h2 q
      obtain ⟨i2, a1, a2, a3⟩ := fb_last (n := n) ⟨i, hi, h2⟩
      refine ⟨i2, by omega, a2, fun j b1 b2 => ?_⟩
      rcases Nat.lt_or_ge j n with r | r
      · exact a3 j b1 r
      · have e : j = n := by omega
        subst e
        exact q
/-- the first greatest -/
theorem fb_best (f : Nat → Int) : ∀ {n : Nat}, 0 < n → ∃ i, i < n ∧ (∀ j, j < n → f j ≤ f i) ∧ ∀ j, j < i → f j < f i
  | 0, h => absurd h (Nat.lt_irrefl 0)
  | 1, _ => ⟨0, by omega, fun j hj => by have e : j = 0 := by omega
                                         subst e; exact Int.le_refl _, fun j hj => absurd hj (Nat.not_lt_zero j)⟩
  | n + 2, _ => by
    obtain ⟨i, h1, h2, h3⟩ := fb_best f (n := n + 1) (by omega)
    by_cases q : f i < f (n + 1)
    · refine ⟨n + 1, by omega, fun j hj => ?_, fun j hj => ?_⟩
      · rcases Nat.lt_or_ge j (n + 1) with r | r
        · have := h2 j r; omega
        · have e : j = n + 1 := by omega
          subst e; exact Int.le_refl _
      · have := h2 j hj; omega
    · refine ⟨i, by omega, fun j hj => ?_, h3⟩
      rcases Nat.lt_or_ge j (n + 1) with r | r
      · exact h2 j r
      · have e : j = n + 1 := by omega
        subst e; omega
theorem fb_best_one {f : Nat → Int} {n i j : Nat} (hi : i < n) (hi2 : ∀ k, k < n → f k ≤ f i) (hi3 : ∀ k, k < i → f k < f i) (hj : j < n) (hj2 : ∀ k, k < n → f k ≤ f j) (hj3 : ∀ k, k < j → f k < f j) : i = j := by
  rcases Nat.lt_trichotomy i j with q | q | q
  · have a := hj3 i q
    have b := hi2 j hj
    omega
  · exact q
  · have a := hi3 j q
    have b := hj2 i hi
    omega
/-- the first least -/
theorem fb_low (f : Nat → Int) {n : Nat} (h : 0 < n) : ∃ i, i < n ∧ (∀ j, j < n → f i ≤ f j) ∧ ∀ j, j < i → f i < f j := by
  obtain ⟨i, h1, h2, h3⟩ := fb_best (fun k => -f k) h
  exact ⟨i, h1, fun j hj => by have := h2 j hj; omega, fun j hj => by have := h3 j hj; omega⟩
/-! ===== signed ints as whole numbers, within bounds ===== -/
theorem fb_rng (x : Int32) : -2147483648 ≤ x.toInt ∧ x.toInt < 2147483648 := by
  have h1 := Int32.le_toInt x
  have h2 := Int32.toInt_lt x
  omega
theorem fb_bmod {z : Int} (h1 : -2147483648 ≤ z) (h2 : z < 2147483648) : z.bmod (2 ^ 32) = z := by
  rw [Int.bmod_eq_of_le (by omega) (by omega)]
theorem fb_addI {x y : Int32} (h1 : -2147483648 ≤ x.toInt + y.toInt) (h2 : x.toInt + y.toInt < 2147483648) : (x + y).toInt = x.toInt + y.toInt := by
  rw [Int32.toInt_add, fb_bmod h1 h2]
theorem fb_subI {x y : Int32} (h1 : -2147483648 ≤ x.toInt - y.toInt) (h2 : x.toInt - y.toInt < 2147483648) : (x - y).toInt = x.toInt - y.toInt := by
  rw [Int32.toInt_sub, fb_bmod h1 h2]
theorem fb_mulI {x y : Int32} (h1 : -2147483648 ≤ x.toInt * y.toInt) (h2 : x.toInt * y.toInt < 2147483648) : (x * y).toInt = x.toInt * y.toInt := by
  rw [Int32.toInt_mul, fb_bmod h1 h2]
theorem fb_negI {x : Int32} (h : x.toInt ≠ -2147483648) : (-x).toInt = -x.toInt := by
  have := fb_rng x
  rw [Int32.toInt_neg, fb_bmod (by omega) (by omega)]
theorem fb_ofI {z : Int} (h1 : -2147483648 ≤ z) (h2 : z < 2147483648) : (Int32.ofInt z).toInt = z := by
  rw [Int32.toInt_ofInt, fb_bmod h1 h2]
theorem fb_asI (x : Int32) : Int32.ofInt x.toInt = x := Int32.ofInt_toInt x
theorem fb_rngL (x : Int64) : -9223372036854775808 ≤ x.toInt ∧ x.toInt < 9223372036854775808 := by
  have h1 := Int64.le_toInt x
  have h2 := Int64.toInt_lt x
  omega
theorem fb_bmodL {z : Int} (h1 : -9223372036854775808 ≤ z) (h2 : z < 9223372036854775808) : z.bmod (2 ^ 64) = z := by
  rw [Int.bmod_eq_of_le (by omega) (by omega)]
theorem fb_addL {x y : Int64} (h1 : -9223372036854775808 ≤ x.toInt + y.toInt) (h2 : x.toInt + y.toInt < 9223372036854775808) : (x + y).toInt = x.toInt + y.toInt := by
  rw [Int64.toInt_add, fb_bmodL h1 h2]
theorem fb_subL {x y : Int64} (h1 : -9223372036854775808 ≤ x.toInt - y.toInt) (h2 : x.toInt - y.toInt < 9223372036854775808) : (x - y).toInt = x.toInt - y.toInt := by
  rw [Int64.toInt_sub, fb_bmodL h1 h2]
theorem fb_mulL {x y : Int64} (h1 : -9223372036854775808 ≤ x.toInt * y.toInt) (h2 : x.toInt * y.toInt < 9223372036854775808) : (x * y).toInt = x.toInt * y.toInt := by
  rw [Int64.toInt_mul, fb_bmodL h1 h2]
/-! ===== cuts of what is narrow already ===== -/
theorem fb_byte {x : Int32} (h1 : -128 ≤ x.toInt) (h2 : x.toInt < 128) : x.toInt8.toInt32 = x := by
  apply Int32.toInt_inj.1
  rw [Int8.toInt_toInt32, Int32.toInt_toInt8, Int.bmod_eq_of_le (by omega) (by omega)]
theorem fb_short {x : Int32} (h1 : -32768 ≤ x.toInt) (h2 : x.toInt < 32768) : x.toInt16.toInt32 = x := by
  apply Int32.toInt_inj.1
  rw [Int16.toInt_toInt32, Int32.toInt_toInt16, Int.bmod_eq_of_le (by omega) (by omega)]
theorem fb_byte_rng (x : Int32) : -128 ≤ x.toInt8.toInt32.toInt ∧ x.toInt8.toInt32.toInt < 128 := by
  rw [Int8.toInt_toInt32]
  have h1 := Int8.le_toInt x.toInt8
  have h2 := Int8.toInt_lt x.toInt8
  omega
theorem fb_short_rng (x : Int32) : -32768 ≤ x.toInt16.toInt32.toInt ∧ x.toInt16.toInt32.toInt < 32768 := by
  rw [Int16.toInt_toInt32]
  have h1 := Int16.le_toInt x.toInt16
  have h2 := Int16.toInt_lt x.toInt16
  omega
theorem fb_byte_twice (x : Int32) : x.toInt8.toInt32.toInt8.toInt32 = x.toInt8.toInt32 := fb_byte (fb_byte_rng x).1 (fb_byte_rng x).2
theorem fb_short_twice (x : Int32) : x.toInt16.toInt32.toInt16.toInt32 = x.toInt16.toInt32 := fb_short (fb_short_rng x).1 (fb_short_rng x).2
theorem fb_char {n : Nat} (h : n < 65536) : (nI n).toUInt32.toUInt16.toUInt32.toInt32 = nI n := by
  apply Int32.toBitVec_inj.1
  apply BitVec.eq_of_toNat_eq
  have e1 : (nI n).toBitVec.toNat = n := by
    show (BitVec.ofNat 32 n).toNat = n
    rw [BitVec.toNat_ofNat, Nat.mod_eq_of_lt (by omega)]
  have e2 : ((nI n).toUInt32.toUInt16.toUInt32).toNat = n := by
    rw [UInt16.toNat_toUInt32, UInt32.toNat_toUInt16]
    show (nI n).toBitVec.toNat % 2 ^ 16 = n
    rw [e1, Nat.mod_eq_of_lt (by omega)]
  rw [e1]
  exact e2
end
section
/-! THE BOOK AS A VALUE: what both classes hold, and what each call answers -/
abbrev RunT : Type := (Nat × List Nat) × (Int32 × Int32 × Nat) × (List Int32 × Bool) × (Int32 × Int32) × (Int32 × Int32 × Bool × Bool × (Nat → Int32))
def rCode (ρ : RunT) : Nat := ρ.1.1
def rStp (ρ : RunT) : List Nat := ρ.1.2
def rSet (ρ : RunT) : Int32 := ρ.2.1.1
def rSeed (ρ : RunT) : Int32 := ρ.2.1.2.1
def rTk (ρ : RunT) : Nat := ρ.2.1.2.2
def rRow (ρ : RunT) : List Int32 := ρ.2.2.1.1
def rBr (ρ : RunT) : Bool := ρ.2.2.1.2
def rOrg (ρ : RunT) : Int32 := ρ.2.2.2.1.1
def rAt (ρ : RunT) : Int32 := ρ.2.2.2.1.2
def rRS (ρ : RunT) : Int32 := ρ.2.2.2.2.1
def rRW (ρ : RunT) : Int32 := ρ.2.2.2.2.2.1
def rSd (ρ : RunT) : Bool := ρ.2.2.2.2.2.2.1
def rCk (ρ : RunT) : Bool := ρ.2.2.2.2.2.2.2.1
def rWas (ρ : RunT) : Nat → Int32 := ρ.2.2.2.2.2.2.2.2
abbrev TB : Type := (Nat → List Nat) × (Nat → Int32) × (Nat → Nat) × Int32 × List RunT × List Nat
def tCode (τ : TB) : Nat → List Nat := τ.1
def tDat (τ : TB) : Nat → Int32 := τ.2.1
def tBnd (τ : TB) : Nat → Nat := τ.2.2.1
def tClk (τ : TB) : Int32 := τ.2.2.2.1
def tRuns (τ : TB) : List RunT := τ.2.2.2.2.1
def tClm (τ : TB) : List Nat := τ.2.2.2.2.2
def r0 : RunT := ((0, []), (0, 0, 0), ([], false), (0, 0), (0, 0, false, false, fun _ => 0))
def tRun (τ : TB) (r : Nat) : RunT := (tRuns τ).getD r r0
def tN (τ : TB) : Nat := (tRuns τ).length
/-- bits, settings, left-over -/
def sett (st : Int32) (i : Nat) : Int32 := (st >>> ((nI (4 * i)) &&& 31)) &&& 15
def hasB (x : Int32) (i : Nat) : Bool := decide (((x >>> ((nI i) &&& 31)) &&& 1) = 1)
def bitI (i : Nat) : Int32 := (1 : Int32) <<< ((nI i) &&& 31)
def jrem (x y : Int32) : Int32 := x - x / y * y
def jrot (x : Int32) (o : Nat) : Int32 := if o = 0 then x else (x <<< ((nI o) &&& 31)) ||| (x.toUInt32 >>> ((nI (32 - o)).toUInt32 &&& Int32.toUInt32 31)).toInt32
/-- what can be -/
def inR (x : Int32) (lo hi : Int) : Bool := decide (lo ≤ x.toInt ∧ x.toInt ≤ hi)
def sOK (st : Int32) : Bool := inR st 0 65535 && (List.range 4).all (fun i => decide (sett st i ≤ 5))
/-- one step: x, settings read, words read, seed read, clock read, stopped; and whether the next is left out -/
abbrev XS : Type := Int32 × Int32 × Int32 × Bool × Bool × Bool
def xV (X : XS) : Int32 := X.1
def xRS (X : XS) : Int32 := X.2.1
def xRW (X : XS) : Int32 := X.2.2.1
def xSd (X : XS) : Bool := X.2.2.2.1
def xCk (X : XS) : Bool := X.2.2.2.2.1
def xSt (X : XS) : Bool := X.2.2.2.2.2
def xStep (dat : Nat → Int32) (clk all own : Int32) (t q : Nat) (X : XS) : XS :=
  match q / 16 with
  | 0 => (xV X + nI (q % 16), xRS X, xRW X, xSd X, xCk X, xSt X)
  | 1 => (xV X * nI (q % 16), xRS X, xRW X, xSd X, xCk X, xSt X)
  | 2 => (xV X + sett all (q % 16 % 4), xRS X ||| bitI (q % 16 % 4), xRW X, xSd X, xCk X, xSt X)
  | 3 => (xV X, xRS X ||| bitI (q % 16 % 4), xRW X, xSd X, xCk X, xSt X)
  | 4 => (xV X ^^^ own * nI (q % 16 + 1), xRS X, xRW X, true, xCk X, xSt X)
  | 5 => (xV X + dat ((t + q % 16) % 8), xRS X, xRW X ||| bitI ((t + q % 16) % 8), xSd X, xCk X, xSt X)
  | 6 => (xV X + clk, xRS X, xRW X, xSd X, true, xSt X)
  | 7 => (jrot (xV X) (q % 16), xRS X, xRW X, xSd X, xCk X, xSt X)
  | 8 => (jrem (xV X) (nI (q % 16 + 2)), xRS X, xRW X, xSd X, xCk X, xSt X)
  | 9 => (xV X, xRS X, xRW X, xSd X, xCk X, decide (jrem (xV X) (nI (q % 16 + 1)) = 0))
  | _ => X
def xSkip (all : Int32) (q : Nat) : Bool := decide (q / 16 = 3) && decide (nI (q % 16 / 4) < sett all (q % 16 % 4))
def xTick (dat : Nat → Int32) (clk all own : Int32) (t : Nat) : List Nat → XS → Bool → XS
  | [], X, _ => X
  | q :: qs, X, sk => if xSt X then X else if sk then xTick dat clk all own t qs X false else xTick dat clk all own t qs (xStep dat clk all own t q X) (xSkip all q)
def xGo (dat : Nat → Int32) (clk all own : Int32) (qs : List Nat) : Nat → Nat → XS → List Int32 → XS × List Int32
  | 0, _, X, rows => (X, rows)
  | n + 1, t, X, rows => if xSt (xTick dat clk all own t qs X false) then (xTick dat clk all own t qs X false, rows) else xGo dat clk all own qs n (t + 1) (xTick dat clk all own t qs X false) (rows ++ [xV (xTick dat clk all own t qs X false)])
def lastR (rows : List Int32) : Int32 := rows.getLastD 0
def xRun (dat : Nat → Int32) (clk all own : Int32) (qs : List Nat) (tk : Nat) (rows : List Int32) : XS × List Int32 := xGo dat clk all own qs (tk - rows.length) rows.length (lastR rows, 0, 0, false, false, false) rows
def mkRun (dat : Nat → Int32) (clk : Int32) (k : Nat) (qs : List Nat) (st sd : Int32) (tk : Nat) (rows : List Int32) (og at' rs rw : Int32) (bs bc : Bool) (was : Nat → Int32) : RunT :=
  ((k, qs), (st, sd, tk), ((xRun dat clk st sd qs tk rows).2, xSt (xRun dat clk st sd qs tk rows).1), (og, at'), (rs ||| xRS (xRun dat clk st sd qs tk rows).1, rw ||| xRW (xRun dat clk st sd qs tk rows).1, bs || xSd (xRun dat clk st sd qs tk rows).1, bc || xCk (xRun dat clk st sd qs tk rows).1, fun i => if hasB (xRW (xRun dat clk st sd qs tk rows).1) i then dat i else was i))
/-- a state that can be -/
def RunOK (ρ : RunT) : Prop := rCode ρ < 4 ∧ (rStp ρ).length ≤ 8 ∧ (∀ q ∈ rStp ρ, q < 256) ∧ sOK (rSet ρ) = true ∧ inR (rSeed ρ) 0 99 = true ∧ 1 ≤ rTk ρ ∧ rTk ρ ≤ 16 ∧ (rRow ρ).length ≤ rTk ρ ∧ (rBr ρ = false → (rRow ρ).length = rTk ρ) ∧ ((rOrg ρ = (-1) ∧ rAt ρ = (-1)) ∨ (inR (rOrg ρ) 0 39 = true ∧ ∃ a : Nat, a ≤ (rRow ρ).length ∧ rAt ρ = nI a))
def TOK (τ : TB) : Prop := (∀ k, k < 4 → (tCode τ k).length ≤ 8 ∧ ∀ q ∈ tCode τ k, q < 256) ∧ (∀ i, i < 4 → 1 ≤ tBnd τ i ∧ tBnd τ i ≤ 6) ∧ tN τ ≤ 40 ∧ (∀ r, r < tN τ → RunOK (tRun τ r)) ∧ (tClm τ).length ≤ 20 ∧ (∀ r ∈ tClm τ, r < tN τ ∧ rBr (tRun τ r) = false)
/-- comparisons -/
def chgB (dat : Nat → Int32) (ρ : RunT) (i : Nat) : Bool := hasB (rRW ρ) i && decide (¬ rWas ρ i = dat i)
def staleB (τ : TB) (ρ : RunT) : Bool := !decide (rStp ρ = tCode τ (rCode ρ)) || (List.range 8).any (fun i => chgB (tDat τ) ρ i)
def likeB (ρ σ : RunT) : Bool := decide (rStp ρ = rStp σ) && decide (rSeed ρ = rSeed σ) && decide (rTk ρ = rTk σ) && (List.range 8).all (fun i => !(hasB (rRW ρ &&& rRW σ) i && decide (¬ rWas ρ i = rWas σ i)))
def mayB (ρ : RunT) (tk : Nat) : Bool := decide (rOrg ρ = (-1)) && !rBr ρ && !rCk ρ && decide (rTk ρ = tk)
def leastB (τ : TB) (p tk : Nat) : Bool := (List.range p).all (fun o => !(mayB (tRun τ o) tk && decide (rSet (tRun τ o) = rSet (tRun τ p)) && likeB (tRun τ o) (tRun τ p)))
def pairB (τ : TB) (i : Nat) (u v : Int32) (tk p q : Nat) : Bool := mayB (tRun τ p) tk && mayB (tRun τ q) tk && decide (sett (rSet (tRun τ p)) i = u) && decide (sett (rSet (tRun τ q)) i = v) && decide ((rSet (tRun τ p) ^^^ rSet (tRun τ q)) = (u ^^^ v) <<< ((nI (4 * i)) &&& 31)) && likeB (tRun τ p) (tRun τ q) && leastB τ p tk && leastB τ q tk
def savB (τ : TB) (qs : List Nat) (all own : Int32) (tk : Nat) (ρ : RunT) : Bool := decide (rOrg ρ = (-1)) && !rBr ρ && !rCk ρ && decide (tk ≤ rTk ρ) && decide (rStp ρ = qs) && (!rSd ρ || decide (rSeed ρ = own)) && (List.range 4).all (fun i => !hasB (rRS ρ) i || decide (sett (rSet ρ) i = sett all i)) && (List.range 8).all (fun i => !chgB (tDat τ) ρ i)
/-- the first of n places from i on, or NONE -/
def fstI (p : Nat → Bool) : Nat → Nat → Int32
  | 0, _ => -1
  | n + 1, i => if p i then nI i else fstI p n (i + 1)
def savedI (τ : TB) (k : Nat) (all own : Int32) (tk : Nat) : Int32 := fstI (fun r => savB τ (tCode τ k) all own tk (tRun τ r)) (tN τ) 0
end
section
/-! THE REFERENCE'S MEMORY AND THE BOOK; rows on small ints and answers -/
def RunR (α : Nat → Nat → Int32) (r : Nat) (ρ : RunT) : Prop := α 7 r = nI (rCode ρ) ∧ α 8 r = nI (rStp ρ).length ∧ (∀ j, j < (rStp ρ).length → α 9 (8 * r + j) = nI ((rStp ρ).getD j 0)) ∧ α 10 r = rSet ρ ∧ α 11 r = rSeed ρ ∧ α 12 r = nI (rTk ρ) ∧ α 13 r = nI (rRow ρ).length ∧ (∀ t, t < (rRow ρ).length → α 14 (16 * r + t) = (rRow ρ).getD t 0) ∧ α 15 r = bI (rBr ρ) ∧ α 16 r = rOrg ρ ∧ α 17 r = rAt ρ ∧ α 18 r = rRS ρ ∧ α 19 r = rRW ρ ∧ (∀ i, i < 8 → hasB (rRW ρ) i = true → α 20 (8 * r + i) = rWas ρ i) ∧ α 21 r = bI (rSd ρ) ∧ α 22 r = bI (rCk ρ)
def MdR (φ : Nat → Int32) (α : Nat → Nat → Int32) (τ : TB) : Prop := φ 5 = tClk τ ∧ φ 6 = nI (tN τ) ∧ φ 35 = nI (tClm τ).length ∧ (∀ k, k < 4 → α 1 k = nI (tCode τ k).length) ∧ (∀ k, k < 4 → ∀ j, j < (tCode τ k).length → α 2 (8 * k + j) = nI ((tCode τ k).getD j 0)) ∧ (∀ i, i < 8 → α 3 i = tDat τ i) ∧ (∀ i, i < 4 → α 4 i = nI (tBnd τ i)) ∧ (∀ r, r < tN τ → RunR α r (tRun τ r)) ∧ (∀ j, j < (tClm τ).length → α 36 j = nI ((tClm τ).getD j 0)) ∧ (∀ r, tN τ ≤ r → r < 40 → α 18 r = 0 ∧ α 19 r = 0 ∧ α 21 r = 0 ∧ α 22 r = 0)
section MdRs
variable {φ : Nat → Int32} {α : Nat → Nat → Int32} {τ : TB}
theorem MdR.clk (h : MdR φ α τ) : φ 5 = tClk τ := h.1
theorem MdR.n (h : MdR φ α τ) : φ 6 = nI (tN τ) := h.2.1
theorem MdR.nc (h : MdR φ α τ) : φ 35 = nI (tClm τ).length := h.2.2.1
theorem MdR.cl (h : MdR φ α τ) {k : Nat} (hk : k < 4) : α 1 k = nI (tCode τ k).length := h.2.2.2.1 k hk
theorem MdR.cs (h : MdR φ α τ) {k : Nat} (hk : k < 4) {j : Nat} (hj : j < (tCode τ k).length) : α 2 (8 * k + j) = nI ((tCode τ k).getD j 0) := h.2.2.2.2.1 k hk j hj
theorem MdR.dat (h : MdR φ α τ) {i : Nat} (hi : i < 8) : α 3 i = tDat τ i := h.2.2.2.2.2.1 i hi
theorem MdR.bnd (h : MdR φ α τ) {i : Nat} (hi : i < 4) : α 4 i = nI (tBnd τ i) := h.2.2.2.2.2.2.1 i hi
theorem MdR.run (h : MdR φ α τ) {r : Nat} (hr : r < tN τ) : RunR α r (tRun τ r) := h.2.2.2.2.2.2.2.1 r hr
theorem MdR.clm (h : MdR φ α τ) {j : Nat} (hj : j < (tClm τ).length) : α 36 j = nI ((tClm τ).getD j 0) := h.2.2.2.2.2.2.2.2.1 j hj
theorem MdR.fresh (h : MdR φ α τ) {r : Nat} (h1 : tN τ ≤ r) (h2 : r < 40) : α 18 r = 0 ∧ α 19 r = 0 ∧ α 21 r = 0 ∧ α 22 r = 0 := h.2.2.2.2.2.2.2.2.2 r h1 h2
variable {r : Nat} {ρ : RunT}
theorem RunR.code (h : RunR α r ρ) : α 7 r = nI (rCode ρ) := h.1
theorem RunR.len (h : RunR α r ρ) : α 8 r = nI (rStp ρ).length := h.2.1
theorem RunR.stp (h : RunR α r ρ) {j : Nat} (hj : j < (rStp ρ).length) : α 9 (8 * r + j) = nI ((rStp ρ).getD j 0) := h.2.2.1 j hj
theorem RunR.set (h : RunR α r ρ) : α 10 r = rSet ρ := h.2.2.2.1
theorem RunR.seed (h : RunR α r ρ) : α 11 r = rSeed ρ := h.2.2.2.2.1
theorem RunR.tk (h : RunR α r ρ) : α 12 r = nI (rTk ρ) := h.2.2.2.2.2.1
theorem RunR.nrow (h : RunR α r ρ) : α 13 r = nI (rRow ρ).length := h.2.2.2.2.2.2.1
theorem RunR.row (h : RunR α r ρ) {t : Nat} (ht : t < (rRow ρ).length) : α 14 (16 * r + t) = (rRow ρ).getD t 0 := h.2.2.2.2.2.2.2.1 t ht
theorem RunR.br (h : RunR α r ρ) : α 15 r = bI (rBr ρ) := h.2.2.2.2.2.2.2.2.1
theorem RunR.org (h : RunR α r ρ) : α 16 r = rOrg ρ := h.2.2.2.2.2.2.2.2.2.1
theorem RunR.at' (h : RunR α r ρ) : α 17 r = rAt ρ := h.2.2.2.2.2.2.2.2.2.2.1
theorem RunR.rs (h : RunR α r ρ) : α 18 r = rRS ρ := h.2.2.2.2.2.2.2.2.2.2.2.1
theorem RunR.rw (h : RunR α r ρ) : α 19 r = rRW ρ := h.2.2.2.2.2.2.2.2.2.2.2.2.1
theorem RunR.was (h : RunR α r ρ) {i : Nat} (hi : i < 8) (hb : hasB (rRW ρ) i = true) : α 20 (8 * r + i) = rWas ρ i := h.2.2.2.2.2.2.2.2.2.2.2.2.2.1 i hi hb
theorem RunR.sd (h : RunR α r ρ) : α 21 r = bI (rSd ρ) := h.2.2.2.2.2.2.2.2.2.2.2.2.2.2.1
theorem RunR.ck (h : RunR α r ρ) : α 22 r = bI (rCk ρ) := h.2.2.2.2.2.2.2.2.2.2.2.2.2.2.2
end MdRs
theorem bI1 {P : Prop} {b : Bool} (e : b = true ↔ P) (h : P) : (1 : Int32) = bI b := by rw [e.mpr h]; rfl
theorem bI0 {P : Prop} {b : Bool} (e : b = true ↔ P) (h : ¬ P) : (0 : Int32) = bI b := by
  cases b with
  | false => rfl
  | true => exact absurd (e.mp rfl) h
theorem bit1 {b : Bool} (h : b = true) : (1 : Int32) = bI b := by rw [h]; rfl
theorem bif0 {b : Bool} (h : b = false) : (0 : Int32) = bI b := by rw [h]; rfl
theorem inR_iff {x : Int32} {lo hi : Int} : inR x lo hi = true ↔ lo ≤ x.toInt ∧ x.toInt ≤ hi := by simp [inR]
theorem in1 {x : Int32} {lo hi : Int} (h : lo ≤ x.toInt ∧ x.toInt ≤ hi) : (1 : Int32) = bI (inR x lo hi) := bI1 inR_iff h
theorem in0 {x : Int32} {lo hi : Int} (h : ¬ (lo ≤ x.toInt ∧ x.toInt ≤ hi)) : (0 : Int32) = bI (inR x lo hi) := bI0 inR_iff h
theorem inR_nI {x : Int32} {hi : Nat} (h : inR x 0 hi = true) : ∃ j : Nat, j ≤ hi ∧ x = nI j := by
  have h1 := inR_iff.mp h
  have h2 := fb_rng x
  refine ⟨x.toInt.toNat, by omega, ?_⟩
  rw [fa_eq, nI_toInt (by omega)]
  omega
theorem li_0 : (0 : Int32).toInt = 0 := by decide
theorem li_1 : (1 : Int32).toInt = 1 := by decide
theorem li_2 : (2 : Int32).toInt = 2 := by decide
theorem li_3 : (3 : Int32).toInt = 3 := by decide
theorem li_4 : (4 : Int32).toInt = 4 := by decide
theorem li_5 : (5 : Int32).toInt = 5 := by decide
theorem li_6 : (6 : Int32).toInt = 6 := by decide
theorem li_7 : (7 : Int32).toInt = 7 := by decide
theorem li_8 : (8 : Int32).toInt = 8 := by decide
theorem li_12 : (12 : Int32).toInt = 12 := by decide
theorem li_15 : (15 : Int32).toInt = 15 := by decide
theorem li_16 : (16 : Int32).toInt = 16 := by decide
theorem li_20 : (20 : Int32).toInt = 20 := by decide
theorem li_30 : (30 : Int32).toInt = 30 := by decide
theorem li_40 : (40 : Int32).toInt = 40 := by decide
theorem li_100 : (100 : Int32).toInt = 100 := by decide
theorem li_1000 : (1000 : Int32).toInt = 1000 := by decide
theorem li_65535 : (65535 : Int32).toInt = 65535 := by decide
theorem li_65536 : (65536 : Int32).toInt = 65536 := by decide
theorem li_1000000 : (1000000 : Int32).toInt = 1000000 := by decide
theorem li_m1 : (-1 : Int32).toInt = -1 := by decide
theorem tRun_mem {τ : TB} {r : Nat} (h : r < tN τ) : tRun τ r ∈ tRuns τ := by
  unfold tRun
  rw [List.getD_eq_getElem?_getD, List.getElem?_eq_getElem h]
  exact List.getElem_mem h
end
section
/-! rows on lists and ranges -/
theorem allR {n : Nat} {p : Nat → Bool} : (List.range n).all p = true ↔ ∀ i, i < n → p i = true := by simp [List.all_eq_true]
theorem allRf {n : Nat} {p : Nat → Bool} {i : Nat} (hi : i < n) (h : p i = false) : (List.range n).all p = false := by
  cases e : (List.range n).all p with
  | false => rfl
  | true => rw [allR.mp e i hi] at h; cases h
theorem anyR {n : Nat} {p : Nat → Bool} {i : Nat} (hi : i < n) (h : p i = true) : (List.range n).any p = true := List.any_eq_true.mpr ⟨i, List.mem_range.mpr hi, h⟩
theorem anyRf {n : Nat} {p : Nat → Bool} (h : ∀ i, i < n → p i = false) : (List.range n).any p = false := by
  cases e : (List.range n).any p with
  | false => rfl
  | true =>
    obtain ⟨i, h1, h2⟩ := List.any_eq_true.mp e
    rw [h i (List.mem_range.mp h1)] at h2
    cases h2
theorem listEq {a b : List Nat} (h1 : a.length = b.length) (h2 : ∀ j, j < a.length → a.getD j 0 = b.getD j 0) : a = b := by
  refine List.ext_getElem h1 (fun i hi hj => ?_)
  have := h2 i hi
  rwa [List.getD_eq_getElem?_getD, List.getD_eq_getElem?_getD, List.getElem?_eq_getElem hi, List.getElem?_eq_getElem hj] at this
theorem getD_mem {a : List Nat} {j : Nat} (h : j < a.length) : a.getD j 0 ∈ a := by
  rw [List.getD_eq_getElem?_getD, List.getElem?_eq_getElem h]
  exact List.getElem_mem h
theorem sOK_iff {st : Int32} : sOK st = true ↔ (0 ≤ st.toInt ∧ st.toInt ≤ 65535) ∧ ∀ j, j < 4 → sett st j ≤ 5 := by
  simp only [sOK, Bool.and_eq_true, inR_iff, allR, decide_eq_true_eq]
theorem lt_s1 {i : Nat} {p : Nat → Prop} (h : ∀ a, a < i → p a) (hi : p i) : ∀ a, a < i + 1 → p a := fun a ha => by
  rcases Nat.lt_or_ge a i with h1 | h1
  · exact h a h1
  · rw [show a = i by omega]; exact hi
theorem notHas {x : Int32} {i : Nat} (h : ¬ ((x >>> ((nI i) &&& 31)) &&& 1) = 1) : hasB x i = false := by simp only [hasB, decide_eq_false_iff_not]; exact h
theorem isHas {x : Int32} {i : Nat} (h : ((x >>> ((nI i) &&& 31)) &&& 1) = 1) : hasB x i = true := by simp only [hasB, decide_eq_true_eq]; exact h
theorem and1 (x : Int32) : x &&& 1 = 0 ∨ x &&& 1 = 1 := by
  have h : ∀ b : BitVec 32, b &&& 1#32 = 0#32 ∨ b &&& 1#32 = 1#32 := by
    intro b
    have h1 : (b &&& 1#32).toNat = b.toNat % 2 := by
      rw [BitVec.toNat_and]
      exact Nat.and_one_is_mod b.toNat
    rcases Nat.mod_two_eq_zero_or_one b.toNat with h0 | h0
    · left; apply BitVec.eq_of_toNat_eq; rw [h1, h0]; rfl
    · right; apply BitVec.eq_of_toNat_eq; rw [h1, h0]; rfl
  rcases h x.toBitVec with h0 | h0
  · left; exact Int32.toBitVec_inj.mp h0
  · right; exact Int32.toBitVec_inj.mp h0
theorem shrAnd (x y k : Int32) : (x &&& y) >>> k = (x >>> k) &&& (y >>> k) := by
  apply Int32.toBitVec_inj.mp
  simp only [Int32.toBitVec_shiftRight, Int32.toBitVec_and]
  show (x.toBitVec &&& y.toBitVec).sshiftRight (k.toBitVec.smod 32).toNat = x.toBitVec.sshiftRight (k.toBitVec.smod 32).toNat &&& y.toBitVec.sshiftRight (k.toBitVec.smod 32).toNat
  generalize (k.toBitVec.smod 32).toNat = n
  ext i hi
  by_cases hni : n + i < 32 <;> simp [BitVec.getElem_sshiftRight, hni, BitVec.msb_and]
theorem andHas {x y : Int32} {i : Nat} (h : (((x &&& y) >>> ((nI i) &&& 31)) &&& 1) = 1) : hasB x i = true ∧ hasB y i = true := by
  rw [shrAnd] at h
  have e : ((x >>> ((nI i) &&& 31)) &&& (y >>> ((nI i) &&& 31))) &&& 1 = ((x >>> ((nI i) &&& 31)) &&& 1) &&& ((y >>> ((nI i) &&& 31)) &&& 1) := by
    apply Int32.toBitVec_inj.mp
    simp only [Int32.toBitVec_and]
    ext k
    simp only [BitVec.getElem_and]
    cases (x >>> ((nI i) &&& 31)).toBitVec[k] <;> cases (y >>> ((nI i) &&& 31)).toBitVec[k] <;> cases (Int32.toBitVec 1)[k] <;> rfl
  rw [e] at h
  rcases and1 (x >>> ((nI i) &&& 31)) with h1 | h1
  · rw [h1] at h
    have : (0 : Int32) &&& ((y >>> ((nI i) &&& 31)) &&& 1) = 0 := by
      apply Int32.toBitVec_inj.mp
      simp
    rw [this] at h
    exact absurd h (by decide)
  · rcases and1 (y >>> ((nI i) &&& 31)) with h2 | h2
    · rw [h1, h2] at h
      exact absurd h (by decide)
    · exact ⟨isHas h1, isHas h2⟩
end
section
/-! THE REFERENCE: what can be -/
set_option maxHeartbeats 4000000 in
set_option maxRecDepth 100000 in
theorem c5_isCode (l : Launch) (g : GG) (h : Nat) (k : Int32) : Met l yX5_isCode (.code yX5_isCode cX5_isCode 2 (some .boolean) :: wsL_law) ({ frames := 0, cells := 0, slots := 0, locals := 0 } : Room) (mP g [.ref (h), .int (k)] (fun _ => True)) (vp_Si (fun v => v = bI (inR k 0 3))) 0 0 ((fun _ => False)) := by
  refine mMet (by decide) (Nat.le_of_ble_eq_true rfl) ?_
  intro p e s m below meth c C hr hlk hnm hP ls hl
  have hx := C.1.1
  have hb := C.1.2.1
  have hl : lv_has ls 2 [(0, .ref (h)), (1, .int (k))] := hl
  refine lv_iload_n hx hb dX5_isCode_0 rfl (lv_at hl 1 rfl) ?_
  refine lv_if_lt (tgt := 13) hx hb dX5_isCode_1 (by decide) (fun c1 => ?_) (fun c1 => ?_)
  · skip
    refine lv_iconst (v := 0) hx hb dX5_isCode_13 (by decide) ?_
    exact r_z C hr hlk (by first | exact Or.inl rfl | exact Or.inr rfl | exact bI_or _) (in0 (by simp only [fa_lt, fa_le, fa_eq, li_0, li_1, li_2, li_3, li_4, li_5, li_6, li_7, li_8, li_12, li_15, li_16, li_20, li_30, li_40, li_100, li_1000, li_65535, li_65536, li_1000000, li_m1] at c1; omega)) dX5_isCode_14
  · skip
    refine lv_iload_n hx hb dX5_isCode_4 rfl (lv_at hl 1 rfl) ?_
    refine lv_iconst (v := 4) hx hb dX5_isCode_5 (by decide) ?_
    refine lv_icmp_ge (tgt := 13) hx hb dX5_isCode_6 (by decide) (fun c6 => ?_) (fun c6 => ?_)
    · skip
      refine lv_iconst (v := 0) hx hb dX5_isCode_13 (by decide) ?_
      exact r_z C hr hlk (by first | exact Or.inl rfl | exact Or.inr rfl | exact bI_or _) (in0 (by simp only [fa_lt, fa_le, fa_eq, li_0, li_1, li_2, li_3, li_4, li_5, li_6, li_7, li_8, li_12, li_15, li_16, li_20, li_30, li_40, li_100, li_1000, li_65535, li_65536, li_1000000, li_m1] at c1 c6; omega)) dX5_isCode_14
    · skip
      refine lv_iconst (v := 1) hx hb dX5_isCode_9 (by decide) ?_
      refine lv_goto (tgt := 14) hx hb dX5_isCode_10 (by decide) ?_
      exact r_z C hr hlk (by first | exact Or.inl rfl | exact Or.inr rfl | exact bI_or _) (in1 (by simp only [fa_lt, fa_le, fa_eq, li_0, li_1, li_2, li_3, li_4, li_5, li_6, li_7, li_8, li_12, li_15, li_16, li_20, li_30, li_40, li_100, li_1000, li_65535, li_65536, li_1000000, li_m1] at c1 c6; omega)) dX5_isCode_14
set_option maxHeartbeats 4000000 in
set_option maxRecDepth 100000 in
theorem c5_isSeed (l : Launch) (g : GG) (h : Nat) (v : Int32) : Met l yX5_isSeed (.code yX5_isSeed cX5_isSeed 2 (some .boolean) :: wsL_law) ({ frames := 0, cells := 0, slots := 0, locals := 0 } : Room) (mP g [.ref (h), .int (v)] (fun _ => True)) (vp_Si (fun z => z = bI (inR v 0 99))) 0 0 ((fun _ => False)) := by
  refine mMet (by decide) (Nat.le_of_ble_eq_true rfl) ?_
  intro p e s m below meth c C hr hlk hnm hP ls hl
  have hx := C.1.1
  have hb := C.1.2.1
  have hl : lv_has ls 2 [(0, .ref (h)), (1, .int (v))] := hl
  refine lv_iload_n hx hb dX5_isSeed_0 rfl (lv_at hl 1 rfl) ?_
  refine lv_if_lt (tgt := 14) hx hb dX5_isSeed_1 (by decide) (fun c1 => ?_) (fun c1 => ?_)
  · skip
    refine lv_iconst (v := 0) hx hb dX5_isSeed_14 (by decide) ?_
    exact r_z C hr hlk (by first | exact Or.inl rfl | exact Or.inr rfl | exact bI_or _) (in0 (by simp only [fa_lt, fa_le, fa_eq, li_0, li_1, li_2, li_3, li_4, li_5, li_6, li_7, li_8, li_12, li_15, li_16, li_20, li_30, li_40, li_100, li_1000, li_65535, li_65536, li_1000000, li_m1] at c1; omega)) dX5_isSeed_15
  · skip
    refine lv_iload_n hx hb dX5_isSeed_4 rfl (lv_at hl 1 rfl) ?_
    refine lv_bipush (v := 100) hx hb dX5_isSeed_5 (by decide) ?_
    refine lv_icmp_ge (tgt := 14) hx hb dX5_isSeed_7 (by decide) (fun c7 => ?_) (fun c7 => ?_)
    · skip
      refine lv_iconst (v := 0) hx hb dX5_isSeed_14 (by decide) ?_
      exact r_z C hr hlk (by first | exact Or.inl rfl | exact Or.inr rfl | exact bI_or _) (in0 (by simp only [fa_lt, fa_le, fa_eq, li_0, li_1, li_2, li_3, li_4, li_5, li_6, li_7, li_8, li_12, li_15, li_16, li_20, li_30, li_40, li_100, li_1000, li_65535, li_65536, li_1000000, li_m1] at c1 c7; omega)) dX5_isSeed_15
    · skip
      refine lv_iconst (v := 1) hx hb dX5_isSeed_10 (by decide) ?_
      refine lv_goto (tgt := 15) hx hb dX5_isSeed_11 (by decide) ?_
      exact r_z C hr hlk (by first | exact Or.inl rfl | exact Or.inr rfl | exact bI_or _) (in1 (by simp only [fa_lt, fa_le, fa_eq, li_0, li_1, li_2, li_3, li_4, li_5, li_6, li_7, li_8, li_12, li_15, li_16, li_20, li_30, li_40, li_100, li_1000, li_65535, li_65536, li_1000000, li_m1] at c1 c7; omega)) dX5_isSeed_15
set_option maxHeartbeats 4000000 in
set_option maxRecDepth 100000 in
theorem c5_areTicks (l : Launch) (g : GG) (h : Nat) (t : Int32) : Met l yX5_areTicks (.code yX5_areTicks cX5_areTicks 2 (some .boolean) :: wsL_law) ({ frames := 0, cells := 0, slots := 0, locals := 0 } : Room) (mP g [.ref (h), .int (t)] (fun _ => True)) (vp_Si (fun z => z = bI (inR t 1 16))) 0 0 ((fun _ => False)) := by
  refine mMet (by decide) (Nat.le_of_ble_eq_true rfl) ?_
  intro p e s m below meth c C hr hlk hnm hP ls hl
  have hx := C.1.1
  have hb := C.1.2.1
  have hl : lv_has ls 2 [(0, .ref (h)), (1, .int (t))] := hl
  refine lv_iload_n hx hb dX5_areTicks_0 rfl (lv_at hl 1 rfl) ?_
  refine lv_iconst (v := 1) hx hb dX5_areTicks_1 (by decide) ?_
  refine lv_icmp_lt (tgt := 15) hx hb dX5_areTicks_2 (by decide) (fun c2 => ?_) (fun c2 => ?_)
  · skip
    refine lv_iconst (v := 0) hx hb dX5_areTicks_15 (by decide) ?_
    exact r_z C hr hlk (by first | exact Or.inl rfl | exact Or.inr rfl | exact bI_or _) (in0 (by simp only [fa_lt, fa_le, fa_eq, li_0, li_1, li_2, li_3, li_4, li_5, li_6, li_7, li_8, li_12, li_15, li_16, li_20, li_30, li_40, li_100, li_1000, li_65535, li_65536, li_1000000, li_m1] at c2; omega)) dX5_areTicks_16
  · skip
    refine lv_iload_n hx hb dX5_areTicks_5 rfl (lv_at hl 1 rfl) ?_
    refine lv_bipush (v := 16) hx hb dX5_areTicks_6 (by decide) ?_
    refine lv_icmp_gt (tgt := 15) hx hb dX5_areTicks_8 (by decide) (fun c8 => ?_) (fun c8 => ?_)
    · skip
      refine lv_iconst (v := 0) hx hb dX5_areTicks_15 (by decide) ?_
      exact r_z C hr hlk (by first | exact Or.inl rfl | exact Or.inr rfl | exact bI_or _) (in0 (by simp only [fa_lt, fa_le, fa_eq, li_0, li_1, li_2, li_3, li_4, li_5, li_6, li_7, li_8, li_12, li_15, li_16, li_20, li_30, li_40, li_100, li_1000, li_65535, li_65536, li_1000000, li_m1] at c2 c8; omega)) dX5_areTicks_16
    · skip
      refine lv_iconst (v := 1) hx hb dX5_areTicks_11 (by decide) ?_
      refine lv_goto (tgt := 16) hx hb dX5_areTicks_12 (by decide) ?_
      exact r_z C hr hlk (by first | exact Or.inl rfl | exact Or.inr rfl | exact bI_or _) (in1 (by simp only [fa_lt, fa_le, fa_eq, li_0, li_1, li_2, li_3, li_4, li_5, li_6, li_7, li_8, li_12, li_15, li_16, li_20, li_30, li_40, li_100, li_1000, li_65535, li_65536, li_1000000, li_m1] at c2 c8; omega)) dX5_areTicks_16
set_option maxHeartbeats 4000000 in
set_option maxRecDepth 100000 in
theorem c5_setting (l : Launch) (g : GG) (h : Nat) (all : Int32) (i : Nat) : Met l yX5_setting (.code yX5_setting cX5_setting 3 (some .int) :: wsL_law) ({ frames := 0, cells := 0, slots := 0, locals := 0 } : Room) (mP g [.ref (h), .int (all), .int (nI (i))] (fun _ => True)) (vp_Si (fun z => z = sett all i)) 0 0 ((fun _ => False)) := by
  refine mMet (by decide) (Nat.le_of_ble_eq_true rfl) ?_
  intro p e s m below meth c C hr hlk hnm hP ls hl
  have hx := C.1.1
  have hb := C.1.2.1
  have hl : lv_has ls 3 [(0, .ref (h)), (1, .int (all)), (2, .int (nI (i)))] := hl
  refine lv_iload_n hx hb dX5_setting_0 rfl (lv_at hl 1 rfl) ?_
  refine lv_iconst (v := nI 4) hx hb dX5_setting_1 (by decide) ?_
  refine lv_iload_n hx hb dX5_setting_2 rfl (lv_at hl 2 rfl) ?_
  refine n_imul C dX5_setting_3 ?_
  refine lv_ishr hx hb dX5_setting_4 ?_
  refine lv_bipush (v := 15) hx hb dX5_setting_5 (by decide) ?_
  refine lv_iand hx hb dX5_setting_7 ?_
  exact r_i C hr hlk (rfl) dX5_setting_8
set_option maxHeartbeats 4000000 in
set_option maxRecDepth 100000 in
theorem c5_isRun (l : Launch) (g : GG) (h : Nat) (ad : Nat → Nat) (φ : Nat → Int32) (α : Nat → Nat → Int32) (τ : TB) (hR : MdR φ α τ) (hT : TOK τ) (r : Int32) : Met l yX5_isRun (.code yX5_isRun cX5_isRun 2 (some .boolean) :: wsL_law) ({ frames := 0, cells := 0, slots := 0, locals := 0 } : Room) (mP g [.ref (h), .int (r)] (fun H => va_P g.1 vwCl (wM g h ad φ α) H)) (vp_Si (fun z => z = bI (inR r 0 (tN τ - 1)))) 0 0 ((fun _ => False)) := by
  refine mMet (by decide) (Nat.le_of_ble_eq_true rfl) ?_
  intro p e s m below meth c C hr hlk hnm hM ls hl
  have hx := C.1.1
  have hb := C.1.2.1
  have hl : lv_has ls 2 [(0, .ref (h)), (1, .int (r))] := hl
  refine lv_iload_n hx hb dX5_isRun_0 rfl (lv_at hl 1 rfl) ?_
  refine lv_if_lt (tgt := 16) hx hb dX5_isRun_1 (by decide) (fun c1 => ?_) (fun c1 => ?_)
  · skip
    refine lv_iconst (v := 0) hx hb dX5_isRun_16 (by decide) ?_
    exact r_z C hr hlk (by first | exact Or.inl rfl | exact Or.inr rfl | exact bI_or _) (in0 (by have hn := hT.2.2.1; simp only [fa_lt, fa_le, fa_eq, li_0, li_1, li_2, li_3, li_4, li_5, li_6, li_7, li_8, li_12, li_15, li_16, li_20, li_30, li_40, li_100, li_1000, li_65535, li_65536, li_1000000, li_m1, nI_toInt (show tN τ < 2 ^ 31 by omega)] at c1; omega)) dX5_isRun_17
  · skip
    refine lv_iload_n hx hb dX5_isRun_4 rfl (lv_at hl 1 rfl) ?_
    refine lv_aload_n hx hb dX5_isRun_5 rfl (lv_at hl 0 rfl) ?_
    refine q_get C f_X5_90 hM 0 rw_0 ro_6 dX5_isRun_6 ?_
    refine w_topi (y := (nI (tN τ))) (hR.n) ?_
    refine lv_icmp_ge (tgt := 16) hx hb dX5_isRun_9 (by decide) (fun c9 => ?_) (fun c9 => ?_)
    · skip
      refine lv_iconst (v := 0) hx hb dX5_isRun_16 (by decide) ?_
      exact r_z C hr hlk (by first | exact Or.inl rfl | exact Or.inr rfl | exact bI_or _) (in0 (by have hn := hT.2.2.1; simp only [fa_lt, fa_le, fa_eq, li_0, li_1, li_2, li_3, li_4, li_5, li_6, li_7, li_8, li_12, li_15, li_16, li_20, li_30, li_40, li_100, li_1000, li_65535, li_65536, li_1000000, li_m1, nI_toInt (show tN τ < 2 ^ 31 by omega)] at c1 c9; omega)) dX5_isRun_17
    · skip
      refine lv_iconst (v := 1) hx hb dX5_isRun_12 (by decide) ?_
      refine lv_goto (tgt := 17) hx hb dX5_isRun_13 (by decide) ?_
      exact r_z C hr hlk (by first | exact Or.inl rfl | exact Or.inr rfl | exact bI_or _) (in1 (by have hn := hT.2.2.1; simp only [fa_lt, fa_le, fa_eq, li_0, li_1, li_2, li_3, li_4, li_5, li_6, li_7, li_8, li_12, li_15, li_16, li_20, li_30, li_40, li_100, li_1000, li_65535, li_65536, li_1000000, li_m1, nI_toInt (show tN τ < 2 ^ 31 by omega)] at c1 c9; omega)) dX5_isRun_17
/-! THE CLASS: what can be -/
set_option maxHeartbeats 4000000 in
set_option maxRecDepth 100000 in
theorem c4_isSetting (l : Launch) (g : GG) (i : Int32) : Met l yX4_isSetting (.code yX4_isSetting cX4_isSetting 1 (some .boolean) :: wsL_law) ({ frames := 0, cells := 0, slots := 0, locals := 0 } : Room) (mP g [.int (i)] (fun _ => True)) (vp_Si (fun z => z = bI (inR i 0 3))) 0 0 ((fun _ => False)) := by
  refine mMet (by decide) (Nat.le_of_ble_eq_true rfl) ?_
  intro p e s m below meth c C hr hlk hnm hP ls hl
  have hx := C.1.1
  have hb := C.1.2.1
  have hl : lv_has ls 1 [(0, .int (i))] := hl
  refine lv_iload_n hx hb dX4_isSetting_0 rfl (lv_at hl 0 rfl) ?_
  refine lv_if_lt (tgt := 13) hx hb dX4_isSetting_1 (by decide) (fun c1 => ?_) (fun c1 => ?_)
  · skip
    refine lv_iconst (v := 0) hx hb dX4_isSetting_13 (by decide) ?_
    exact r_z C hr hlk (by first | exact Or.inl rfl | exact Or.inr rfl | exact bI_or _) (in0 (by simp only [fa_lt, fa_le, fa_eq, li_0, li_1, li_2, li_3, li_4, li_5, li_6, li_7, li_8, li_12, li_15, li_16, li_20, li_30, li_40, li_100, li_1000, li_65535, li_65536, li_1000000, li_m1] at c1; omega)) dX4_isSetting_14
  · skip
    refine lv_iload_n hx hb dX4_isSetting_4 rfl (lv_at hl 0 rfl) ?_
    refine lv_iconst (v := 4) hx hb dX4_isSetting_5 (by decide) ?_
    refine lv_icmp_ge (tgt := 13) hx hb dX4_isSetting_6 (by decide) (fun c6 => ?_) (fun c6 => ?_)
    · skip
      refine lv_iconst (v := 0) hx hb dX4_isSetting_13 (by decide) ?_
      exact r_z C hr hlk (by first | exact Or.inl rfl | exact Or.inr rfl | exact bI_or _) (in0 (by simp only [fa_lt, fa_le, fa_eq, li_0, li_1, li_2, li_3, li_4, li_5, li_6, li_7, li_8, li_12, li_15, li_16, li_20, li_30, li_40, li_100, li_1000, li_65535, li_65536, li_1000000, li_m1] at c1 c6; omega)) dX4_isSetting_14
    · skip
      refine lv_iconst (v := 1) hx hb dX4_isSetting_9 (by decide) ?_
      refine lv_goto (tgt := 14) hx hb dX4_isSetting_10 (by decide) ?_
      exact r_z C hr hlk (by first | exact Or.inl rfl | exact Or.inr rfl | exact bI_or _) (in1 (by simp only [fa_lt, fa_le, fa_eq, li_0, li_1, li_2, li_3, li_4, li_5, li_6, li_7, li_8, li_12, li_15, li_16, li_20, li_30, li_40, li_100, li_1000, li_65535, li_65536, li_1000000, li_m1] at c1 c6; omega)) dX4_isSetting_14
set_option maxHeartbeats 4000000 in
set_option maxRecDepth 100000 in
theorem c4_isValue (l : Launch) (g : GG) (v : Int32) : Met l yX4_isValue (.code yX4_isValue cX4_isValue 1 (some .boolean) :: wsL_law) ({ frames := 0, cells := 0, slots := 0, locals := 0 } : Room) (mP g [.int (v)] (fun _ => True)) (vp_Si (fun z => z = bI (inR v 0 5))) 0 0 ((fun _ => False)) := by
  refine mMet (by decide) (Nat.le_of_ble_eq_true rfl) ?_
  intro p e s m below meth c C hr hlk hnm hP ls hl
  have hx := C.1.1
  have hb := C.1.2.1
  have hl : lv_has ls 1 [(0, .int (v))] := hl
  refine lv_iload_n hx hb dX4_isValue_0 rfl (lv_at hl 0 rfl) ?_
  refine lv_if_lt (tgt := 14) hx hb dX4_isValue_1 (by decide) (fun c1 => ?_) (fun c1 => ?_)
  · skip
    refine lv_iconst (v := 0) hx hb dX4_isValue_14 (by decide) ?_
    exact r_z C hr hlk (by first | exact Or.inl rfl | exact Or.inr rfl | exact bI_or _) (in0 (by simp only [fa_lt, fa_le, fa_eq, li_0, li_1, li_2, li_3, li_4, li_5, li_6, li_7, li_8, li_12, li_15, li_16, li_20, li_30, li_40, li_100, li_1000, li_65535, li_65536, li_1000000, li_m1] at c1; omega)) dX4_isValue_15
  · skip
    refine lv_iload_n hx hb dX4_isValue_4 rfl (lv_at hl 0 rfl) ?_
    refine lv_bipush (v := 6) hx hb dX4_isValue_5 (by decide) ?_
    refine lv_icmp_ge (tgt := 14) hx hb dX4_isValue_7 (by decide) (fun c7 => ?_) (fun c7 => ?_)
    · skip
      refine lv_iconst (v := 0) hx hb dX4_isValue_14 (by decide) ?_
      exact r_z C hr hlk (by first | exact Or.inl rfl | exact Or.inr rfl | exact bI_or _) (in0 (by simp only [fa_lt, fa_le, fa_eq, li_0, li_1, li_2, li_3, li_4, li_5, li_6, li_7, li_8, li_12, li_15, li_16, li_20, li_30, li_40, li_100, li_1000, li_65535, li_65536, li_1000000, li_m1] at c1 c7; omega)) dX4_isValue_15
    · skip
      refine lv_iconst (v := 1) hx hb dX4_isValue_10 (by decide) ?_
      refine lv_goto (tgt := 15) hx hb dX4_isValue_11 (by decide) ?_
      exact r_z C hr hlk (by first | exact Or.inl rfl | exact Or.inr rfl | exact bI_or _) (in1 (by simp only [fa_lt, fa_le, fa_eq, li_0, li_1, li_2, li_3, li_4, li_5, li_6, li_7, li_8, li_12, li_15, li_16, li_20, li_30, li_40, li_100, li_1000, li_65535, li_65536, li_1000000, li_m1] at c1 c7; omega)) dX4_isValue_15
set_option maxHeartbeats 4000000 in
set_option maxRecDepth 100000 in
theorem c4_isSeed (l : Launch) (g : GG) (v : Int32) : Met l yX4_isSeed (.code yX4_isSeed cX4_isSeed 1 (some .boolean) :: wsL_law) ({ frames := 0, cells := 0, slots := 0, locals := 0 } : Room) (mP g [.int (v)] (fun _ => True)) (vp_Si (fun z => z = bI (inR v 0 99))) 0 0 ((fun _ => False)) := by
  refine mMet (by decide) (Nat.le_of_ble_eq_true rfl) ?_
  intro p e s m below meth c C hr hlk hnm hP ls hl
  have hx := C.1.1
  have hb := C.1.2.1
  have hl : lv_has ls 1 [(0, .int (v))] := hl
  refine lv_iload_n hx hb dX4_isSeed_0 rfl (lv_at hl 0 rfl) ?_
  refine lv_if_lt (tgt := 14) hx hb dX4_isSeed_1 (by decide) (fun c1 => ?_) (fun c1 => ?_)
  · skip
    refine lv_iconst (v := 0) hx hb dX4_isSeed_14 (by decide) ?_
    exact r_z C hr hlk (by first | exact Or.inl rfl | exact Or.inr rfl | exact bI_or _) (in0 (by simp only [fa_lt, fa_le, fa_eq, li_0, li_1, li_2, li_3, li_4, li_5, li_6, li_7, li_8, li_12, li_15, li_16, li_20, li_30, li_40, li_100, li_1000, li_65535, li_65536, li_1000000, li_m1] at c1; omega)) dX4_isSeed_15
  · skip
    refine lv_iload_n hx hb dX4_isSeed_4 rfl (lv_at hl 0 rfl) ?_
    refine lv_bipush (v := 100) hx hb dX4_isSeed_5 (by decide) ?_
    refine lv_icmp_ge (tgt := 14) hx hb dX4_isSeed_7 (by decide) (fun c7 => ?_) (fun c7 => ?_)
    · skip
      refine lv_iconst (v := 0) hx hb dX4_isSeed_14 (by decide) ?_
      exact r_z C hr hlk (by first | exact Or.inl rfl | exact Or.inr rfl | exact bI_or _) (in0 (by simp only [fa_lt, fa_le, fa_eq, li_0, li_1, li_2, li_3, li_4, li_5, li_6, li_7, li_8, li_12, li_15, li_16, li_20, li_30, li_40, li_100, li_1000, li_65535, li_65536, li_1000000, li_m1] at c1 c7; omega)) dX4_isSeed_15
    · skip
      refine lv_iconst (v := 1) hx hb dX4_isSeed_10 (by decide) ?_
      refine lv_goto (tgt := 15) hx hb dX4_isSeed_11 (by decide) ?_
      exact r_z C hr hlk (by first | exact Or.inl rfl | exact Or.inr rfl | exact bI_or _) (in1 (by simp only [fa_lt, fa_le, fa_eq, li_0, li_1, li_2, li_3, li_4, li_5, li_6, li_7, li_8, li_12, li_15, li_16, li_20, li_30, li_40, li_100, li_1000, li_65535, li_65536, li_1000000, li_m1] at c1 c7; omega)) dX4_isSeed_15
set_option maxHeartbeats 4000000 in
set_option maxRecDepth 100000 in
theorem c4_areTicks (l : Launch) (g : GG) (t : Int32) : Met l yX4_areTicks (.code yX4_areTicks cX4_areTicks 1 (some .boolean) :: wsL_law) ({ frames := 0, cells := 0, slots := 0, locals := 0 } : Room) (mP g [.int (t)] (fun _ => True)) (vp_Si (fun z => z = bI (inR t 1 16))) 0 0 ((fun _ => False)) := by
  refine mMet (by decide) (Nat.le_of_ble_eq_true rfl) ?_
  intro p e s m below meth c C hr hlk hnm hP ls hl
  have hx := C.1.1
  have hb := C.1.2.1
  have hl : lv_has ls 1 [(0, .int (t))] := hl
  refine lv_iload_n hx hb dX4_areTicks_0 rfl (lv_at hl 0 rfl) ?_
  refine lv_iconst (v := 1) hx hb dX4_areTicks_1 (by decide) ?_
  refine lv_icmp_lt (tgt := 15) hx hb dX4_areTicks_2 (by decide) (fun c2 => ?_) (fun c2 => ?_)
  · skip
    refine lv_iconst (v := 0) hx hb dX4_areTicks_15 (by decide) ?_
    exact r_z C hr hlk (by first | exact Or.inl rfl | exact Or.inr rfl | exact bI_or _) (in0 (by simp only [fa_lt, fa_le, fa_eq, li_0, li_1, li_2, li_3, li_4, li_5, li_6, li_7, li_8, li_12, li_15, li_16, li_20, li_30, li_40, li_100, li_1000, li_65535, li_65536, li_1000000, li_m1] at c2; omega)) dX4_areTicks_16
  · skip
    refine lv_iload_n hx hb dX4_areTicks_5 rfl (lv_at hl 0 rfl) ?_
    refine lv_bipush (v := 16) hx hb dX4_areTicks_6 (by decide) ?_
    refine lv_icmp_gt (tgt := 15) hx hb dX4_areTicks_8 (by decide) (fun c8 => ?_) (fun c8 => ?_)
    · skip
      refine lv_iconst (v := 0) hx hb dX4_areTicks_15 (by decide) ?_
      exact r_z C hr hlk (by first | exact Or.inl rfl | exact Or.inr rfl | exact bI_or _) (in0 (by simp only [fa_lt, fa_le, fa_eq, li_0, li_1, li_2, li_3, li_4, li_5, li_6, li_7, li_8, li_12, li_15, li_16, li_20, li_30, li_40, li_100, li_1000, li_65535, li_65536, li_1000000, li_m1] at c2 c8; omega)) dX4_areTicks_16
    · skip
      refine lv_iconst (v := 1) hx hb dX4_areTicks_11 (by decide) ?_
      refine lv_goto (tgt := 16) hx hb dX4_areTicks_12 (by decide) ?_
      exact r_z C hr hlk (by first | exact Or.inl rfl | exact Or.inr rfl | exact bI_or _) (in1 (by simp only [fa_lt, fa_le, fa_eq, li_0, li_1, li_2, li_3, li_4, li_5, li_6, li_7, li_8, li_12, li_15, li_16, li_20, li_30, li_40, li_100, li_1000, li_65535, li_65536, li_1000000, li_m1] at c2 c8; omega)) dX4_areTicks_16
set_option maxHeartbeats 4000000 in
set_option maxRecDepth 100000 in
theorem c4_areGridSeeds (l : Launch) (g : GG) (w : Int32) : Met l yX4_areGridSeeds (.code yX4_areGridSeeds cX4_areGridSeeds 1 (some .boolean) :: wsL_law) ({ frames := 0, cells := 0, slots := 0, locals := 0 } : Room) (mP g [.int (w)] (fun _ => True)) (vp_Si (fun z => z = bI (inR w 1 8))) 0 0 ((fun _ => False)) := by
  refine mMet (by decide) (Nat.le_of_ble_eq_true rfl) ?_
  intro p e s m below meth c C hr hlk hnm hP ls hl
  have hx := C.1.1
  have hb := C.1.2.1
  have hl : lv_has ls 1 [(0, .int (w))] := hl
  refine lv_iload_n hx hb dX4_areGridSeeds_0 rfl (lv_at hl 0 rfl) ?_
  refine lv_iconst (v := 1) hx hb dX4_areGridSeeds_1 (by decide) ?_
  refine lv_icmp_lt (tgt := 15) hx hb dX4_areGridSeeds_2 (by decide) (fun c2 => ?_) (fun c2 => ?_)
  · skip
    refine lv_iconst (v := 0) hx hb dX4_areGridSeeds_15 (by decide) ?_
    exact r_z C hr hlk (by first | exact Or.inl rfl | exact Or.inr rfl | exact bI_or _) (in0 (by simp only [fa_lt, fa_le, fa_eq, li_0, li_1, li_2, li_3, li_4, li_5, li_6, li_7, li_8, li_12, li_15, li_16, li_20, li_30, li_40, li_100, li_1000, li_65535, li_65536, li_1000000, li_m1] at c2; omega)) dX4_areGridSeeds_16
  · skip
    refine lv_iload_n hx hb dX4_areGridSeeds_5 rfl (lv_at hl 0 rfl) ?_
    refine lv_bipush (v := 8) hx hb dX4_areGridSeeds_6 (by decide) ?_
    refine lv_icmp_gt (tgt := 15) hx hb dX4_areGridSeeds_8 (by decide) (fun c8 => ?_) (fun c8 => ?_)
    · skip
      refine lv_iconst (v := 0) hx hb dX4_areGridSeeds_15 (by decide) ?_
      exact r_z C hr hlk (by first | exact Or.inl rfl | exact Or.inr rfl | exact bI_or _) (in0 (by simp only [fa_lt, fa_le, fa_eq, li_0, li_1, li_2, li_3, li_4, li_5, li_6, li_7, li_8, li_12, li_15, li_16, li_20, li_30, li_40, li_100, li_1000, li_65535, li_65536, li_1000000, li_m1] at c2 c8; omega)) dX4_areGridSeeds_16
    · skip
      refine lv_iconst (v := 1) hx hb dX4_areGridSeeds_11 (by decide) ?_
      refine lv_goto (tgt := 16) hx hb dX4_areGridSeeds_12 (by decide) ?_
      exact r_z C hr hlk (by first | exact Or.inl rfl | exact Or.inr rfl | exact bI_or _) (in1 (by simp only [fa_lt, fa_le, fa_eq, li_0, li_1, li_2, li_3, li_4, li_5, li_6, li_7, li_8, li_12, li_15, li_16, li_20, li_30, li_40, li_100, li_1000, li_65535, li_65536, li_1000000, li_m1] at c2 c8; omega)) dX4_areGridSeeds_16
set_option maxHeartbeats 4000000 in
set_option maxRecDepth 100000 in
theorem c4_areOdds (l : Launch) (g : GG) (r : Int32) : Met l yX4_areOdds (.code yX4_areOdds cX4_areOdds 1 (some .boolean) :: wsL_law) ({ frames := 0, cells := 0, slots := 0, locals := 0 } : Room) (mP g [.int (r)] (fun _ => True)) (vp_Si (fun z => z = bI (inR r 1 1000000))) 0 0 ((fun _ => False)) := by
  refine mMet (by decide) (Nat.le_of_ble_eq_true rfl) ?_
  intro p e s m below meth c C hr hlk hnm hP ls hl
  have hx := C.1.1
  have hb := C.1.2.1
  have hl : lv_has ls 1 [(0, .int (r))] := hl
  refine lv_iload_n hx hb dX4_areOdds_0 rfl (lv_at hl 0 rfl) ?_
  refine lv_iconst (v := 1) hx hb dX4_areOdds_1 (by decide) ?_
  refine lv_icmp_lt (tgt := 16) hx hb dX4_areOdds_2 (by decide) (fun c2 => ?_) (fun c2 => ?_)
  · skip
    refine lv_iconst (v := 0) hx hb dX4_areOdds_16 (by decide) ?_
    exact r_z C hr hlk (by first | exact Or.inl rfl | exact Or.inr rfl | exact bI_or _) (in0 (by simp only [fa_lt, fa_le, fa_eq, li_0, li_1, li_2, li_3, li_4, li_5, li_6, li_7, li_8, li_12, li_15, li_16, li_20, li_30, li_40, li_100, li_1000, li_65535, li_65536, li_1000000, li_m1] at c2; omega)) dX4_areOdds_17
  · skip
    refine lv_iload_n hx hb dX4_areOdds_5 rfl (lv_at hl 0 rfl) ?_
    refine lv_ldcw (v := 1000000) hx hb C.1.2.2.2.1 (C.1.2.2.2.2 _ (inr_21 _ (List.mem_of_getElem? (i := 21) rfl))) dX4_areOdds_6 ?_
    refine lv_icmp_gt (tgt := 16) hx hb dX4_areOdds_9 (by decide) (fun c9 => ?_) (fun c9 => ?_)
    · skip
      refine lv_iconst (v := 0) hx hb dX4_areOdds_16 (by decide) ?_
      exact r_z C hr hlk (by first | exact Or.inl rfl | exact Or.inr rfl | exact bI_or _) (in0 (by simp only [fa_lt, fa_le, fa_eq, li_0, li_1, li_2, li_3, li_4, li_5, li_6, li_7, li_8, li_12, li_15, li_16, li_20, li_30, li_40, li_100, li_1000, li_65535, li_65536, li_1000000, li_m1] at c2 c9; omega)) dX4_areOdds_17
    · skip
      refine lv_iconst (v := 1) hx hb dX4_areOdds_12 (by decide) ?_
      refine lv_goto (tgt := 17) hx hb dX4_areOdds_13 (by decide) ?_
      exact r_z C hr hlk (by first | exact Or.inl rfl | exact Or.inr rfl | exact bI_or _) (in1 (by simp only [fa_lt, fa_le, fa_eq, li_0, li_1, li_2, li_3, li_4, li_5, li_6, li_7, li_8, li_12, li_15, li_16, li_20, li_30, li_40, li_100, li_1000, li_65535, li_65536, li_1000000, li_m1] at c2 c9; omega)) dX4_areOdds_17
set_option maxHeartbeats 4000000 in
set_option maxRecDepth 100000 in
theorem c4_asNumber (l : Launch) (g : GG) (b : Bool) : Met l yX4_asNumber (.code yX4_asNumber cX4_asNumber 1 (some .int) :: wsL_law) ({ frames := 0, cells := 0, slots := 0, locals := 0 } : Room) (mP g [.int (bI (b))] (fun _ => True)) (vp_Si (fun z => z = bI b)) 0 0 ((fun _ => False)) := by
  refine mMet (by decide) (Nat.le_of_ble_eq_true rfl) ?_
  intro p e s m below meth c C hr hlk hnm hP ls hl
  have hx := C.1.1
  have hb := C.1.2.1
  have hl : lv_has ls 1 [(0, .int (bI (b)))] := hl
  refine lv_iload_n hx hb dX4_asNumber_0 rfl (lv_at hl 0 rfl) ?_
  refine b_ifeq (tgt := 8) C dX4_asNumber_1 (by decide) (fun c1 => ?_) (fun c1 => ?_)
  · skip
    refine lv_iconst (v := 0) hx hb dX4_asNumber_8 (by decide) ?_
    exact r_i C hr hlk (bif0 (by assumption)) dX4_asNumber_9
  · skip
    refine lv_iconst (v := 1) hx hb dX4_asNumber_4 (by decide) ?_
    refine lv_goto (tgt := 9) hx hb dX4_asNumber_5 (by decide) ?_
    exact r_i C hr hlk (bit1 (by assumption)) dX4_asNumber_9
set_option maxHeartbeats 4000000 in
set_option maxRecDepth 100000 in
theorem c4_settingOf (l : Launch) (g : GG) (all : Int32) (i : Nat) : Met l yX4_settingOf (.code yX4_settingOf cX4_settingOf 2 (some .int) :: wsL_law) ({ frames := 0, cells := 0, slots := 0, locals := 0 } : Room) (mP g [.int (all), .int (nI (i))] (fun _ => True)) (vp_Si (fun z => z = sett all i)) 0 0 ((fun _ => False)) := by
  refine mMet (by decide) (Nat.le_of_ble_eq_true rfl) ?_
  intro p e s m below meth c C hr hlk hnm hP ls hl
  have hx := C.1.1
  have hb := C.1.2.1
  have hl : lv_has ls 2 [(0, .int (all)), (1, .int (nI (i)))] := hl
  refine lv_iload_n hx hb dX4_settingOf_0 rfl (lv_at hl 0 rfl) ?_
  refine lv_iconst (v := nI 4) hx hb dX4_settingOf_1 (by decide) ?_
  refine lv_iload_n hx hb dX4_settingOf_2 rfl (lv_at hl 1 rfl) ?_
  refine n_imul C dX4_settingOf_3 ?_
  refine lv_ishr hx hb dX4_settingOf_4 ?_
  refine lv_bipush (v := 15) hx hb dX4_settingOf_5 (by decide) ?_
  refine lv_iand hx hb dX4_settingOf_7 ?_
  exact r_i C hr hlk (rfl) dX4_settingOf_8
set_option maxHeartbeats 4000000 in
set_option maxRecDepth 100000 in
theorem c4_isIn (l : Launch) (g : GG) (i : Nat) (x : Int32) : Met l yX4_isIn (.code yX4_isIn cX4_isIn 2 (some .boolean) :: wsL_law) ({ frames := 0, cells := 0, slots := 0, locals := 0 } : Room) (mP g [.int (nI (i)), .int (x)] (fun _ => True)) (vp_Si (fun z => z = bI (hasB x i))) 0 0 ((fun _ => False)) := by
  refine mMet (by decide) (Nat.le_of_ble_eq_true rfl) ?_
  intro p e s m below meth c C hr hlk hnm hP ls hl
  have hx := C.1.1
  have hb := C.1.2.1
  have hl : lv_has ls 2 [(0, .int (nI (i))), (1, .int (x))] := hl
  refine lv_iload_n hx hb dX4_isIn_0 rfl (lv_at hl 1 rfl) ?_
  refine lv_iload_n hx hb dX4_isIn_1 rfl (lv_at hl 0 rfl) ?_
  refine lv_ishr hx hb dX4_isIn_2 ?_
  refine lv_iconst (v := 1) hx hb dX4_isIn_3 (by decide) ?_
  refine lv_iand hx hb dX4_isIn_4 ?_
  refine lv_iconst (v := 1) hx hb dX4_isIn_5 (by decide) ?_
  refine lv_icmp_ne (tgt := 13) hx hb dX4_isIn_6 (by decide) (fun c6 => ?_) (fun c6 => ?_)
  · skip
    refine lv_iconst (v := 0) hx hb dX4_isIn_13 (by decide) ?_
    exact r_z C hr hlk (by first | exact Or.inl rfl | exact Or.inr rfl | exact bI_or _) (bif0 (by simp only [hasB, decide_eq_false_iff_not]; exact c6)) dX4_isIn_14
  · skip
    refine lv_iconst (v := 1) hx hb dX4_isIn_9 (by decide) ?_
    refine lv_goto (tgt := 14) hx hb dX4_isIn_10 (by decide) ?_
    exact r_z C hr hlk (by first | exact Or.inl rfl | exact Or.inr rfl | exact bI_or _) (bit1 (by simp only [hasB, decide_eq_true_eq]; exact c6)) dX4_isIn_14
set_option maxHeartbeats 4000000 in
set_option maxRecDepth 100000 in
theorem c4_remainder (l : Launch) (g : GG) (x y : Int32) (hy : ¬ y = 0) : Met l yX4_remainder (.code yX4_remainder cX4_remainder 2 (some .int) :: wsL_law) ({ frames := 0, cells := 0, slots := 0, locals := 0 } : Room) (mP g [.int (x), .int (y)] (fun _ => True)) (vp_Si (fun z => z = jrem x y)) 0 0 ((fun _ => False)) := by
  refine mMet (by decide) (Nat.le_of_ble_eq_true rfl) ?_
  intro p e s m below meth c C hr hlk hnm hP ls hl
  have hx := C.1.1
  have hb := C.1.2.1
  have hl : lv_has ls 2 [(0, .int (x)), (1, .int (y))] := hl
  refine lv_iload_n hx hb dX4_remainder_0 rfl (lv_at hl 1 rfl) ?_
  refine lv_if_ne (tgt := 8) hx hb dX4_remainder_1 (by decide) (fun c1 => ?_) (fun c1 => by exfalso; exact absurd (by assumption) hy)
  refine lv_iload_n hx hb dX4_remainder_8 rfl (lv_at hl 0 rfl) ?_
  refine lv_iload_n hx hb dX4_remainder_9 rfl (lv_at hl 1 rfl) ?_
  refine lv_irem hx hb dX4_remainder_10 (hy) ?_
  exact r_i C hr hlk (rfl) dX4_remainder_11
end
section
/-! THE REFERENCE: settings, words, codes, runs that are alike -/
set_option maxHeartbeats 4000000 in
set_option maxRecDepth 100000 in
theorem c5_areSettings (l : Launch) (g : GG) (h : Nat) (ad : Nat → Nat) (φ : Nat → Int32) (α : Nat → Nat → Int32) (all : Int32) : Met l yX5_areSettings (.code yX5_areSettings cX5_areSettings 3 (some .boolean) :: wsL_law) ({ frames := 1, cells := 0, slots := 0, locals := 22 } : Room) (mP g [.ref (h), .int (all)] (fun H => va_P g.1 vwCl (wM g h ad φ α) H)) (vp_Si (fun z => z = bI (sOK all))) 0 0 ((fun _ => False)) := by
  refine mMet (by decide) (Nat.le_of_ble_eq_true rfl) ?_
  intro p e s m below meth c C hr hlk hnm hM ls hl
  have hx := C.1.1
  have hb := C.1.2.1
  have hl : lv_has ls 3 [(0, .ref (h)), (1, .int (all))] := hl
  have hrec := q_recv C hM 0 rw_0 rfl
  refine lv_iload_n hx hb dX5_areSettings_0 rfl (lv_at hl 1 rfl) ?_
  refine lv_if_lt (tgt := 10) hx hb dX5_areSettings_1 (by decide) (fun c1 => ?_) (fun c1 => ?_)
  · skip
    refine lv_iconst (v := 0) hx hb dX5_areSettings_10 (by decide) ?_
    exact r_z C hr hlk (by first | exact Or.inl rfl | exact Or.inr rfl | exact bI_or _) (bif0 (Bool.eq_false_iff.mpr (fun hz => by have hz := (sOK_iff.mp hz).1; simp only [fa_lt, fa_le, li_0, li_65535] at c1; omega))) dX5_areSettings_11
  · skip
    refine lv_iload_n hx hb dX5_areSettings_4 rfl (lv_at hl 1 rfl) ?_
    refine lv_ldc (v := 65535) hx hb C.1.2.2.2.1 (C.1.2.2.2.2 _ (inr_11 _ (List.mem_of_getElem? (i := 10) rfl))) dX5_areSettings_5 ?_
    refine lv_icmp_le (tgt := 12) hx hb dX5_areSettings_7 (by decide) (fun c7 => ?_) (fun c7 => ?_)
    · skip
      refine lv_iconst (v := nI 0) hx hb dX5_areSettings_12 (by decide) ?_
      refine lv_istore_n (lv' := [(2, .int (nI (0))), (0, .ref (h)), (1, .int (all))]) hx hb dX5_areSettings_13 rfl hl (by decide) rfl (fun ls hl => ?_)
      have lp : ∀ (n_lp : Nat) (i : Nat) (ls : Array Slot), (i ≤ 4) → (4 + 1 ≤ i + n_lp) → (∀ j, j < i → sett all j ≤ 5) → lv_has ls 3 [(0, .ref (h)), (1, .int (all)), (2, .int (nI (i)))] → W p l e ({ frames := 1, cells := 0, slots := 0, locals := 22 } : Room) s m ([.ref (h), .int (all)] : List Value).toArray below meth c s.heap [] 0 0 (MQ below (vp_Si (fun z => z = bI (sOK all))) (([.ref (h), .int (all)] : List Value).toArray) s 0 0 (fun _ => False)) (F0 m 14 ls []) := by
        intro n_lp
        induction n_lp with
        | zero =>
          intro i ls hi hn hv
          exact absurd hn (by omega)
        | succ n_lp ih_lp =>
          intro i ls hi hn hv hl
          refine lv_iload_n hx hb dX5_areSettings_14 rfl (lv_at hl 2 rfl) ?_
          refine lv_iconst (v := nI 4) hx hb dX5_areSettings_15 (by decide) ?_
          refine n_icmp_ge (tgt := 37) C (by omega) (by omega) dX5_areSettings_16 (by decide) (fun c16 => ?_) (fun c16 => ?_)
          · skip
            refine lv_iconst (v := 1) hx hb dX5_areSettings_37 (by decide) ?_
            exact r_z C hr hlk (by first | exact Or.inl rfl | exact Or.inr rfl | exact bI_or _) (bit1 (sOK_iff.mpr ⟨by simp only [fa_lt, fa_le, li_0, li_65535] at c1 c7; omega, fun j hj => hv j (by omega)⟩)) dX5_areSettings_38
          · skip
            refine lv_aload_n hx hb dX5_areSettings_19 rfl (lv_at hl 0 rfl) ?_
            refine lv_iload_n hx hb dX5_areSettings_20 rfl (lv_at hl 1 rfl) ?_
            refine lv_iload_n hx hb dX5_areSettings_21 rfl (lv_at hl 2 rfl) ?_
            refine k_i (c_V (As := [.int (all), .int (nI (i))]) (rest := []) C v_X5_86 (c5_setting l g h (all) (i)) ⟨Nat.le_of_ble_eq_true rfl, Nat.le_of_ble_eq_true rfl⟩ (hrec) (trivial) hl.1 rfl rfl (Nat.le_of_ble_eq_true rfl) dX5_areSettings_22 ⟨Nat.le_of_ble_eq_true rfl, Nat.le_of_ble_eq_true rfl⟩) (fun r22 q22 => ?_)
            subst q22
            refine lv_iconst (v := 5) hx hb dX5_areSettings_25 (by decide) ?_
            refine lv_icmp_le (tgt := 31) hx hb dX5_areSettings_26 (by decide) (fun c26 => ?_) (fun c26 => ?_)
            · skip
              refine n_iinc (d := 1) (lv' := [(2, .int (nI (i + 1))), (0, .ref (h)), (1, .int (all))]) C dX5_areSettings_31 (by decide) hl (k := 2) rfl (by decide) rfl (fun ls hl => ?_)
              refine lv_goto (tgt := 14) hx hb dX5_areSettings_34 (by decide) ?_
              exact ih_lp (i + 1) ls (by omega) (by omega) (lt_s1 hv c26) (lv_sub hl [1, 2, 0] rfl)
            · skip
              refine lv_iconst (v := 0) hx hb dX5_areSettings_29 (by decide) ?_
              exact r_z C hr hlk (by first | exact Or.inl rfl | exact Or.inr rfl | exact bI_or _) (bif0 (Bool.eq_false_iff.mpr (fun hz => c26 ((sOK_iff.mp hz).2 i (by omega))))) dX5_areSettings_30
      exact lp (5) (0) ls (by omega) (by omega) (fun j hj => absurd hj (by omega)) (lv_sub hl [1, 2, 0] rfl)
    · skip
      refine lv_iconst (v := 0) hx hb dX5_areSettings_10 (by decide) ?_
      exact r_z C hr hlk (by first | exact Or.inl rfl | exact Or.inr rfl | exact bI_or _) (bif0 (Bool.eq_false_iff.mpr (fun hz => by have hz := (sOK_iff.mp hz).1; simp only [fa_lt, fa_le, li_0, li_65535] at c1 c7; omega))) dX5_areSettings_11
set_option maxHeartbeats 4000000 in
set_option maxRecDepth 100000 in
theorem c5_isOtherWord (l : Launch) (g : GG) (h : Nat) (ad : Nat → Nat) (φ : Nat → Int32) (α : Nat → Nat → Int32) (τ : TB) (hR : MdR φ α τ) (hT : TOK τ) (r i : Nat) (h_r : r < tN τ) (hi : i < 8) : Met l yX5_isOtherWord (.code yX5_isOtherWord cX5_isOtherWord 3 (some .boolean) :: wsL_law) ({ frames := 0, cells := 0, slots := 0, locals := 0 } : Room) (mP g [.ref (h), .int (nI (r)), .int (nI (i))] (fun H => va_P g.1 vwCl (wM g h ad φ α) H)) (vp_Si (fun z => z = bI (chgB (tDat τ) (tRun τ r) i))) 0 0 ((fun _ => False)) := by
  refine mMet (by decide) (Nat.le_of_ble_eq_true rfl) ?_
  intro p e s m below meth c C hr hlk hnm hM ls hl
  have hx := C.1.1
  have hb := C.1.2.1
  have hl : lv_has ls 3 [(0, .ref (h)), (1, .int (nI (r))), (2, .int (nI (i)))] := hl
  have h40 := hT.2.2.1
  have hrec := q_recv C hM 0 rw_0 rfl
  have R_r := hR.run h_r
  have T_r := hT.2.2.2.1 r h_r
  have BC_r := T_r.1
  have BL_r := T_r.2.1
  have BT_r := T_r.2.2.2.2.2.2.1
  have BR_r := T_r.2.2.2.2.2.2.2.1
  have BQ_r : ∀ j, j < (rStp (tRun τ r)).length → (rStp (tRun τ r)).getD j 0 < 256 := fun j hj => T_r.2.2.1 _ (getD_mem hj)
  refine lv_aload_n hx hb dX5_isOtherWord_0 rfl (lv_at hl 0 rfl) ?_
  refine q_get C f_X5_59 hM 0 rw_0 ro_19 dX5_isOtherWord_1 ?_
  refine lv_iload_n hx hb dX5_isOtherWord_4 rfl (lv_at hl 1 rfl) ?_
  refine n_iald C hM 17 rw_19 (by omega) (by decide) dX5_isOtherWord_5 ?_
  refine w_topi (y := (rRW (tRun τ r))) (R_r.rw) ?_
  refine lv_iload_n hx hb dX5_isOtherWord_6 rfl (lv_at hl 2 rfl) ?_
  refine lv_ishr hx hb dX5_isOtherWord_7 ?_
  refine lv_iconst (v := 1) hx hb dX5_isOtherWord_8 (by decide) ?_
  refine lv_iand hx hb dX5_isOtherWord_9 ?_
  refine lv_iconst (v := 1) hx hb dX5_isOtherWord_10 (by decide) ?_
  refine lv_icmp_ne (tgt := 38) hx hb dX5_isOtherWord_11 (by decide) (fun c11 => ?_) (fun c11 => ?_)
  · skip
    refine lv_iconst (v := 0) hx hb dX5_isOtherWord_38 (by decide) ?_
    exact r_z C hr hlk (by first | exact Or.inl rfl | exact Or.inr rfl | exact bI_or _) (bif0 (by simp [chgB, notHas c11])) dX5_isOtherWord_39
  · skip
    refine lv_aload_n hx hb dX5_isOtherWord_14 rfl (lv_at hl 0 rfl) ?_
    refine q_get C f_X5_62 hM 0 rw_0 ro_20 dX5_isOtherWord_15 ?_
    refine lv_bipush (v := nI 8) hx hb dX5_isOtherWord_18 (by decide) ?_
    refine lv_iload_n hx hb dX5_isOtherWord_20 rfl (lv_at hl 1 rfl) ?_
    refine n_imul C dX5_isOtherWord_21 ?_
    refine lv_iload_n hx hb dX5_isOtherWord_22 rfl (lv_at hl 2 rfl) ?_
    refine n_iadd C dX5_isOtherWord_23 ?_
    refine n_iald C hM 18 rw_20 (by omega) (by decide) dX5_isOtherWord_24 ?_
    refine w_topi (y := (rWas (tRun τ r) i)) (R_r.was hi (isHas c11)) ?_
    refine lv_aload_n hx hb dX5_isOtherWord_25 rfl (lv_at hl 0 rfl) ?_
    refine q_get C f_X5_16 hM 0 rw_0 ro_3 dX5_isOtherWord_26 ?_
    refine lv_iload_n hx hb dX5_isOtherWord_29 rfl (lv_at hl 2 rfl) ?_
    refine n_iald C hM 3 rw_3 (by omega) (by decide) dX5_isOtherWord_30 ?_
    refine w_topi (y := (tDat τ i)) (hR.dat (by omega)) ?_
    refine lv_icmp_eq (tgt := 38) hx hb dX5_isOtherWord_31 (by decide) (fun c31 => ?_) (fun c31 => ?_)
    · skip
      refine lv_iconst (v := 0) hx hb dX5_isOtherWord_38 (by decide) ?_
      exact r_z C hr hlk (by first | exact Or.inl rfl | exact Or.inr rfl | exact bI_or _) (bif0 (by simp [chgB, c31])) dX5_isOtherWord_39
    · skip
      refine lv_iconst (v := 1) hx hb dX5_isOtherWord_34 (by decide) ?_
      refine lv_goto (tgt := 39) hx hb dX5_isOtherWord_35 (by decide) ?_
      exact r_z C hr hlk (by first | exact Or.inl rfl | exact Or.inr rfl | exact bI_or _) (bit1 (by simp [chgB, isHas c11, c31])) dX5_isOtherWord_39
set_option maxHeartbeats 4000000 in
set_option maxRecDepth 100000 in
theorem c5_isCodeOf (l : Launch) (g : GG) (h : Nat) (ad : Nat → Nat) (φ : Nat → Int32) (α : Nat → Nat → Int32) (τ : TB) (hR : MdR φ α τ) (hT : TOK τ) (r k : Nat) (h_r : r < tN τ) (h_k : k < 4) : Met l yX5_isCodeOf (.code yX5_isCodeOf cX5_isCodeOf 4 (some .boolean) :: wsL_law) ({ frames := 0, cells := 0, slots := 0, locals := 0 } : Room) (mP g [.ref (h), .int (nI (r)), .int (nI (k))] (fun H => va_P g.1 vwCl (wM g h ad φ α) H)) (vp_Si (fun z => z = bI (decide (rStp (tRun τ r) = tCode τ k)))) 0 0 ((fun _ => False)) := by
  refine mMet (by decide) (Nat.le_of_ble_eq_true rfl) ?_
  intro p e s m below meth c C hr hlk hnm hM ls hl
  have hx := C.1.1
  have hb := C.1.2.1
  have hl : lv_has ls 4 [(0, .ref (h)), (1, .int (nI (r))), (2, .int (nI (k)))] := hl
  have h40 := hT.2.2.1
  have hrec := q_recv C hM 0 rw_0 rfl
  have R_r := hR.run h_r
  have T_r := hT.2.2.2.1 r h_r
  have BC_r := T_r.1
  have BL_r := T_r.2.1
  have BT_r := T_r.2.2.2.2.2.2.1
  have BR_r := T_r.2.2.2.2.2.2.2.1
  have BQ_r : ∀ j, j < (rStp (tRun τ r)).length → (rStp (tRun τ r)).getD j 0 < 256 := fun j hj => T_r.2.2.1 _ (getD_mem hj)
  have CL_k := (hT.1 k h_k).1
  have CQ_k : ∀ j, j < (tCode τ k).length → (tCode τ k).getD j 0 < 256 := fun j hj => (hT.1 k h_k).2 _ (getD_mem hj)
  refine lv_aload_n hx hb dX5_isCodeOf_0 rfl (lv_at hl 0 rfl) ?_
  refine q_get C f_X5_25 hM 0 rw_0 ro_8 dX5_isCodeOf_1 ?_
  refine lv_iload_n hx hb dX5_isCodeOf_4 rfl (lv_at hl 1 rfl) ?_
  refine n_iald C hM 6 rw_8 (by omega) (by decide) dX5_isCodeOf_5 ?_
  refine w_topi (y := (nI ((rStp (tRun τ r)).length))) (R_r.len) ?_
  refine lv_aload_n hx hb dX5_isCodeOf_6 rfl (lv_at hl 0 rfl) ?_
  refine q_get C f_X5_7 hM 0 rw_0 ro_1 dX5_isCodeOf_7 ?_
  refine lv_iload_n hx hb dX5_isCodeOf_10 rfl (lv_at hl 2 rfl) ?_
  refine n_iald C hM 1 rw_1 (by omega) (by decide) dX5_isCodeOf_11 ?_
  refine w_topi (y := (nI ((tCode τ k).length))) (hR.cl h_k) ?_
  refine n_icmp_eq (tgt := 17) C (by omega) (by omega) dX5_isCodeOf_12 (by decide) (fun c12 => ?_) (fun c12 => ?_)
  · skip
    refine lv_iconst (v := nI 0) hx hb dX5_isCodeOf_17 (by decide) ?_
    refine lv_istore_n (lv' := [(3, .int (nI (0))), (0, .ref (h)), (1, .int (nI (r))), (2, .int (nI (k)))]) hx hb dX5_isCodeOf_18 rfl hl (by decide) rfl (fun ls hl => ?_)
    have lp : ∀ (n_lp : Nat) (i : Nat) (ls : Array Slot), (i ≤ (rStp (tRun τ r)).length) → ((rStp (tRun τ r)).length + 1 ≤ i + n_lp) → (∀ j, j < i → (rStp (tRun τ r)).getD j 0 = (tCode τ k).getD j 0) → lv_has ls 4 [(0, .ref (h)), (1, .int (nI (r))), (2, .int (nI (k))), (3, .int (nI (i)))] → W p l e ({ frames := 0, cells := 0, slots := 0, locals := 0 } : Room) s m ([.ref (h), .int (nI (r)), .int (nI (k))] : List Value).toArray below meth c s.heap [] 0 0 (MQ below (vp_Si (fun z => z = bI (decide (rStp (tRun τ r) = tCode τ k)))) (([.ref (h), .int (nI (r)), .int (nI (k))] : List Value).toArray) s 0 0 (fun _ => False)) (F0 m 19 ls []) := by
      intro n_lp
      induction n_lp with
      | zero =>
        intro i ls hi hn hv
        exact absurd hn (by omega)
      | succ n_lp ih_lp =>
        intro i ls hi hn hv hl
        refine lv_iload_n hx hb dX5_isCodeOf_19 rfl (lv_at hl 3 rfl) ?_
        refine lv_aload_n hx hb dX5_isCodeOf_20 rfl (lv_at hl 0 rfl) ?_
        refine q_get C f_X5_25 hM 0 rw_0 ro_8 dX5_isCodeOf_21 ?_
        refine lv_iload_n hx hb dX5_isCodeOf_24 rfl (lv_at hl 1 rfl) ?_
        refine n_iald C hM 6 rw_8 (by omega) (by decide) dX5_isCodeOf_25 ?_
        refine w_topi (y := (nI ((rStp (tRun τ r)).length))) (R_r.len) ?_
        refine n_icmp_ge (tgt := 62) C (by omega) (by omega) dX5_isCodeOf_26 (by decide) (fun c26 => ?_) (fun c26 => ?_)
        · skip
          refine lv_iconst (v := 1) hx hb dX5_isCodeOf_62 (by decide) ?_
          exact r_z C hr hlk (by first | exact Or.inl rfl | exact Or.inr rfl | exact bI_or _) (bit1 (decide_eq_true (listEq c12 (fun j hj => hv j (by omega))))) dX5_isCodeOf_63
        · skip
          refine lv_aload_n hx hb dX5_isCodeOf_29 rfl (lv_at hl 0 rfl) ?_
          refine q_get C f_X5_28 hM 0 rw_0 ro_9 dX5_isCodeOf_30 ?_
          refine lv_bipush (v := nI 8) hx hb dX5_isCodeOf_33 (by decide) ?_
          refine lv_iload_n hx hb dX5_isCodeOf_35 rfl (lv_at hl 1 rfl) ?_
          refine n_imul C dX5_isCodeOf_36 ?_
          refine lv_iload_n hx hb dX5_isCodeOf_37 rfl (lv_at hl 3 rfl) ?_
          refine n_iadd C dX5_isCodeOf_38 ?_
          refine n_iald C hM 7 rw_9 (by omega) (by decide) dX5_isCodeOf_39 ?_
          refine w_topi (y := (nI ((rStp (tRun τ r)).getD i 0))) (R_r.stp (by omega)) ?_
          refine lv_aload_n hx hb dX5_isCodeOf_40 rfl (lv_at hl 0 rfl) ?_
          refine q_get C f_X5_13 hM 0 rw_0 ro_2 dX5_isCodeOf_41 ?_
          refine lv_bipush (v := nI 8) hx hb dX5_isCodeOf_44 (by decide) ?_
          refine lv_iload_n hx hb dX5_isCodeOf_46 rfl (lv_at hl 2 rfl) ?_
          refine n_imul C dX5_isCodeOf_47 ?_
          refine lv_iload_n hx hb dX5_isCodeOf_48 rfl (lv_at hl 3 rfl) ?_
          refine n_iadd C dX5_isCodeOf_49 ?_
          refine n_iald C hM 2 rw_2 (by omega) (by decide) dX5_isCodeOf_50 ?_
          refine w_topi (y := (nI ((tCode τ k).getD i 0))) (hR.cs h_k (by omega)) ?_
          have b1 := BQ_r i (by omega)
          have b2 := CQ_k i (by omega)
          refine n_icmp_eq (tgt := 56) C (by omega) (by omega) dX5_isCodeOf_51 (by decide) (fun c51 => ?_) (fun c51 => ?_)
          · skip
            refine n_iinc (d := 1) (lv' := [(3, .int (nI (i + 1))), (0, .ref (h)), (1, .int (nI (r))), (2, .int (nI (k)))]) C dX5_isCodeOf_56 (by decide) hl (k := 3) rfl (by decide) rfl (fun ls hl => ?_)
            refine lv_goto (tgt := 19) hx hb dX5_isCodeOf_59 (by decide) ?_
            exact ih_lp (i + 1) ls (by omega) (by omega) (lt_s1 hv c51) (lv_sub hl [1, 2, 3, 0] rfl)
          · skip
            refine lv_iconst (v := 0) hx hb dX5_isCodeOf_54 (by decide) ?_
            exact r_z C hr hlk (by first | exact Or.inl rfl | exact Or.inr rfl | exact bI_or _) (bif0 (decide_eq_false (fun hz => c51 (by rw [hz])))) dX5_isCodeOf_55
    exact lp ((rStp (tRun τ r)).length + 1) (0) ls (by omega) (by omega) (fun j hj => absurd hj (by omega)) (lv_sub hl [1, 2, 3, 0] rfl)
  · skip
    refine lv_iconst (v := 0) hx hb dX5_isCodeOf_15 (by decide) ?_
    exact r_z C hr hlk (by first | exact Or.inl rfl | exact Or.inr rfl | exact bI_or _) (bif0 (decide_eq_false (fun hz => c12 (by rw [hz])))) dX5_isCodeOf_16
set_option maxHeartbeats 4000000 in
set_option maxRecDepth 100000 in
theorem c5_isLikeCode (l : Launch) (g : GG) (h : Nat) (ad : Nat → Nat) (φ : Nat → Int32) (α : Nat → Nat → Int32) (τ : TB) (hR : MdR φ α τ) (hT : TOK τ) (u v : Nat) (h_u : u < tN τ) (h_v : v < tN τ) : Met l yX5_isLikeCode (.code yX5_isLikeCode cX5_isLikeCode 4 (some .boolean) :: wsL_law) ({ frames := 0, cells := 0, slots := 0, locals := 0 } : Room) (mP g [.ref (h), .int (nI (u)), .int (nI (v))] (fun H => va_P g.1 vwCl (wM g h ad φ α) H)) (vp_Si (fun z => z = bI (decide (rStp (tRun τ u) = rStp (tRun τ v))))) 0 0 ((fun _ => False)) := by
  refine mMet (by decide) (Nat.le_of_ble_eq_true rfl) ?_
  intro p e s m below meth c C hr hlk hnm hM ls hl
  have hx := C.1.1
  have hb := C.1.2.1
  have hl : lv_has ls 4 [(0, .ref (h)), (1, .int (nI (u))), (2, .int (nI (v)))] := hl
  have h40 := hT.2.2.1
  have hrec := q_recv C hM 0 rw_0 rfl
  have R_u := hR.run h_u
  have T_u := hT.2.2.2.1 u h_u
  have BC_u := T_u.1
  have BL_u := T_u.2.1
  have BT_u := T_u.2.2.2.2.2.2.1
  have BR_u := T_u.2.2.2.2.2.2.2.1
  have BQ_u : ∀ j, j < (rStp (tRun τ u)).length → (rStp (tRun τ u)).getD j 0 < 256 := fun j hj => T_u.2.2.1 _ (getD_mem hj)
  have R_v := hR.run h_v
  have T_v := hT.2.2.2.1 v h_v
  have BC_v := T_v.1
  have BL_v := T_v.2.1
  have BT_v := T_v.2.2.2.2.2.2.1
  have BR_v := T_v.2.2.2.2.2.2.2.1
  have BQ_v : ∀ j, j < (rStp (tRun τ v)).length → (rStp (tRun τ v)).getD j 0 < 256 := fun j hj => T_v.2.2.1 _ (getD_mem hj)
  refine lv_aload_n hx hb dX5_isLikeCode_0 rfl (lv_at hl 0 rfl) ?_
  refine q_get C f_X5_25 hM 0 rw_0 ro_8 dX5_isLikeCode_1 ?_
  refine lv_iload_n hx hb dX5_isLikeCode_4 rfl (lv_at hl 1 rfl) ?_
  refine n_iald C hM 6 rw_8 (by omega) (by decide) dX5_isLikeCode_5 ?_
  refine w_topi (y := (nI ((rStp (tRun τ u)).length))) (R_u.len) ?_
  refine lv_aload_n hx hb dX5_isLikeCode_6 rfl (lv_at hl 0 rfl) ?_
  refine q_get C f_X5_25 hM 0 rw_0 ro_8 dX5_isLikeCode_7 ?_
  refine lv_iload_n hx hb dX5_isLikeCode_10 rfl (lv_at hl 2 rfl) ?_
  refine n_iald C hM 6 rw_8 (by omega) (by decide) dX5_isLikeCode_11 ?_
  refine w_topi (y := (nI ((rStp (tRun τ v)).length))) (R_v.len) ?_
  refine n_icmp_eq (tgt := 17) C (by omega) (by omega) dX5_isLikeCode_12 (by decide) (fun c12 => ?_) (fun c12 => ?_)
  · skip
    refine lv_iconst (v := nI 0) hx hb dX5_isLikeCode_17 (by decide) ?_
    refine lv_istore_n (lv' := [(3, .int (nI (0))), (0, .ref (h)), (1, .int (nI (u))), (2, .int (nI (v)))]) hx hb dX5_isLikeCode_18 rfl hl (by decide) rfl (fun ls hl => ?_)
    have lp : ∀ (n_lp : Nat) (i : Nat) (ls : Array Slot), (i ≤ (rStp (tRun τ u)).length) → ((rStp (tRun τ u)).length + 1 ≤ i + n_lp) → (∀ j, j < i → (rStp (tRun τ u)).getD j 0 = (rStp (tRun τ v)).getD j 0) → lv_has ls 4 [(0, .ref (h)), (1, .int (nI (u))), (2, .int (nI (v))), (3, .int (nI (i)))] → W p l e ({ frames := 0, cells := 0, slots := 0, locals := 0 } : Room) s m ([.ref (h), .int (nI (u)), .int (nI (v))] : List Value).toArray below meth c s.heap [] 0 0 (MQ below (vp_Si (fun z => z = bI (decide (rStp (tRun τ u) = rStp (tRun τ v))))) (([.ref (h), .int (nI (u)), .int (nI (v))] : List Value).toArray) s 0 0 (fun _ => False)) (F0 m 19 ls []) := by
      intro n_lp
      induction n_lp with
      | zero =>
        intro i ls hi hn hv
        exact absurd hn (by omega)
      | succ n_lp ih_lp =>
        intro i ls hi hn hv hl
        refine lv_iload_n hx hb dX5_isLikeCode_19 rfl (lv_at hl 3 rfl) ?_
        refine lv_aload_n hx hb dX5_isLikeCode_20 rfl (lv_at hl 0 rfl) ?_
        refine q_get C f_X5_25 hM 0 rw_0 ro_8 dX5_isLikeCode_21 ?_
        refine lv_iload_n hx hb dX5_isLikeCode_24 rfl (lv_at hl 1 rfl) ?_
        refine n_iald C hM 6 rw_8 (by omega) (by decide) dX5_isLikeCode_25 ?_
        refine w_topi (y := (nI ((rStp (tRun τ u)).length))) (R_u.len) ?_
        refine n_icmp_ge (tgt := 62) C (by omega) (by omega) dX5_isLikeCode_26 (by decide) (fun c26 => ?_) (fun c26 => ?_)
        · skip
          refine lv_iconst (v := 1) hx hb dX5_isLikeCode_62 (by decide) ?_
          exact r_z C hr hlk (by first | exact Or.inl rfl | exact Or.inr rfl | exact bI_or _) (bit1 (decide_eq_true (listEq c12 (fun j hj => hv j (by omega))))) dX5_isLikeCode_63
        · skip
          refine lv_aload_n hx hb dX5_isLikeCode_29 rfl (lv_at hl 0 rfl) ?_
          refine q_get C f_X5_28 hM 0 rw_0 ro_9 dX5_isLikeCode_30 ?_
          refine lv_bipush (v := nI 8) hx hb dX5_isLikeCode_33 (by decide) ?_
          refine lv_iload_n hx hb dX5_isLikeCode_35 rfl (lv_at hl 1 rfl) ?_
          refine n_imul C dX5_isLikeCode_36 ?_
          refine lv_iload_n hx hb dX5_isLikeCode_37 rfl (lv_at hl 3 rfl) ?_
          refine n_iadd C dX5_isLikeCode_38 ?_
          refine n_iald C hM 7 rw_9 (by omega) (by decide) dX5_isLikeCode_39 ?_
          refine w_topi (y := (nI ((rStp (tRun τ u)).getD i 0))) (R_u.stp (by omega)) ?_
          refine lv_aload_n hx hb dX5_isLikeCode_40 rfl (lv_at hl 0 rfl) ?_
          refine q_get C f_X5_28 hM 0 rw_0 ro_9 dX5_isLikeCode_41 ?_
          refine lv_bipush (v := nI 8) hx hb dX5_isLikeCode_44 (by decide) ?_
          refine lv_iload_n hx hb dX5_isLikeCode_46 rfl (lv_at hl 2 rfl) ?_
          refine n_imul C dX5_isLikeCode_47 ?_
          refine lv_iload_n hx hb dX5_isLikeCode_48 rfl (lv_at hl 3 rfl) ?_
          refine n_iadd C dX5_isLikeCode_49 ?_
          refine n_iald C hM 7 rw_9 (by omega) (by decide) dX5_isLikeCode_50 ?_
          refine w_topi (y := (nI ((rStp (tRun τ v)).getD i 0))) (R_v.stp (by omega)) ?_
          have b1 := BQ_u i (by omega)
          have b2 := BQ_v i (by omega)
          refine n_icmp_eq (tgt := 56) C (by omega) (by omega) dX5_isLikeCode_51 (by decide) (fun c51 => ?_) (fun c51 => ?_)
          · skip
            refine n_iinc (d := 1) (lv' := [(3, .int (nI (i + 1))), (0, .ref (h)), (1, .int (nI (u))), (2, .int (nI (v)))]) C dX5_isLikeCode_56 (by decide) hl (k := 3) rfl (by decide) rfl (fun ls hl => ?_)
            refine lv_goto (tgt := 19) hx hb dX5_isLikeCode_59 (by decide) ?_
            exact ih_lp (i + 1) ls (by omega) (by omega) (lt_s1 hv c51) (lv_sub hl [1, 2, 3, 0] rfl)
          · skip
            refine lv_iconst (v := 0) hx hb dX5_isLikeCode_54 (by decide) ?_
            exact r_z C hr hlk (by first | exact Or.inl rfl | exact Or.inr rfl | exact bI_or _) (bif0 (decide_eq_false (fun hz => c51 (by rw [hz])))) dX5_isLikeCode_55
    exact lp ((rStp (tRun τ u)).length + 1) (0) ls (by omega) (by omega) (fun j hj => absurd hj (by omega)) (lv_sub hl [1, 2, 3, 0] rfl)
  · skip
    refine lv_iconst (v := 0) hx hb dX5_isLikeCode_15 (by decide) ?_
    exact r_z C hr hlk (by first | exact Or.inl rfl | exact Or.inr rfl | exact bI_or _) (bif0 (decide_eq_false (fun hz => c12 (by rw [hz])))) dX5_isLikeCode_16
set_option maxHeartbeats 4000000 in
set_option maxRecDepth 100000 in
theorem c5_isStale (l : Launch) (g : GG) (h : Nat) (ad : Nat → Nat) (φ : Nat → Int32) (α : Nat → Nat → Int32) (τ : TB) (hR : MdR φ α τ) (hT : TOK τ) (r : Nat) (h_r : r < tN τ) : Met l yX5_isStale (.code yX5_isStale cX5_isStale 3 (some .boolean) :: wsL_law) ({ frames := 1, cells := 0, slots := 0, locals := 23 } : Room) (mP g [.ref (h), .int (nI (r))] (fun H => va_P g.1 vwCl (wM g h ad φ α) H)) (vp_Si (fun z => z = bI (staleB τ (tRun τ r)))) 0 0 ((fun _ => False)) := by
  refine mMet (by decide) (Nat.le_of_ble_eq_true rfl) ?_
  intro p e s m below meth c C hr hlk hnm hM ls hl
  have hx := C.1.1
  have hb := C.1.2.1
  have hl : lv_has ls 3 [(0, .ref (h)), (1, .int (nI (r)))] := hl
  have h40 := hT.2.2.1
  have hrec := q_recv C hM 0 rw_0 rfl
  have R_r := hR.run h_r
  have T_r := hT.2.2.2.1 r h_r
  have BC_r := T_r.1
  have BL_r := T_r.2.1
  have BT_r := T_r.2.2.2.2.2.2.1
  have BR_r := T_r.2.2.2.2.2.2.2.1
  have BQ_r : ∀ j, j < (rStp (tRun τ r)).length → (rStp (tRun τ r)).getD j 0 < 256 := fun j hj => T_r.2.2.1 _ (getD_mem hj)
  refine lv_aload_n hx hb dX5_isStale_0 rfl (lv_at hl 0 rfl) ?_
  refine lv_iload_n hx hb dX5_isStale_1 rfl (lv_at hl 1 rfl) ?_
  refine lv_aload_n hx hb dX5_isStale_2 rfl (lv_at hl 0 rfl) ?_
  refine q_get C f_X5_22 hM 0 rw_0 ro_7 dX5_isStale_3 ?_
  refine lv_iload_n hx hb dX5_isStale_6 rfl (lv_at hl 1 rfl) ?_
  refine n_iald C hM 5 rw_7 (by omega) (by decide) dX5_isStale_7 ?_
  refine w_topi (y := (nI (rCode (tRun τ r)))) (R_r.code) ?_
  refine k_i (c_V (As := [.int (nI (r)), .int (nI (rCode (tRun τ r)))]) (rest := []) C v_X5_145 (c5_isCodeOf l g h ad φ α τ hR hT r (rCode (tRun τ r)) (by omega) (by omega)) ⟨Nat.le_of_ble_eq_true rfl, Nat.le_of_ble_eq_true rfl⟩ (hrec) (hM) hl.1 rfl rfl (Nat.le_of_ble_eq_true rfl) dX5_isStale_8 ⟨Nat.le_of_ble_eq_true rfl, Nat.le_of_ble_eq_true rfl⟩) (fun r8 q8 => ?_)
  subst q8
  refine b_ifne (tgt := 16) C dX5_isStale_11 (by decide) (fun c11 => ?_) (fun c11 => ?_)
  · skip
    refine lv_iconst (v := nI 0) hx hb dX5_isStale_16 (by decide) ?_
    refine lv_istore_n (lv' := [(2, .int (nI (0))), (0, .ref (h)), (1, .int (nI (r)))]) hx hb dX5_isStale_17 rfl hl (by decide) rfl (fun ls hl => ?_)
    have lp : ∀ (n_lp : Nat) (i : Nat) (ls : Array Slot), (i ≤ 8) → (8 + 1 ≤ i + n_lp) → (∀ j, j < i → chgB (tDat τ) (tRun τ r) j = false) → lv_has ls 3 [(0, .ref (h)), (1, .int (nI (r))), (2, .int (nI (i)))] → W p l e ({ frames := 1, cells := 0, slots := 0, locals := 23 } : Room) s m ([.ref (h), .int (nI (r))] : List Value).toArray below meth c s.heap [] 0 0 (MQ below (vp_Si (fun z => z = bI (staleB τ (tRun τ r)))) (([.ref (h), .int (nI (r))] : List Value).toArray) s 0 0 (fun _ => False)) (F0 m 18 ls []) := by
      intro n_lp
      induction n_lp with
      | zero =>
        intro i ls hi hn hv
        exact absurd hn (by omega)
      | succ n_lp ih_lp =>
        intro i ls hi hn hv hl
        refine lv_iload_n hx hb dX5_isStale_18 rfl (lv_at hl 2 rfl) ?_
        refine lv_bipush (v := nI 8) hx hb dX5_isStale_19 (by decide) ?_
        refine n_icmp_ge (tgt := 41) C (by omega) (by omega) dX5_isStale_21 (by decide) (fun c21 => ?_) (fun c21 => ?_)
        · skip
          refine lv_iconst (v := 0) hx hb dX5_isStale_41 (by decide) ?_
          exact r_z C hr hlk (by first | exact Or.inl rfl | exact Or.inr rfl | exact bI_or _) (bif0 (by simp only [staleB]; rw [c11, anyRf (fun j hj => hv j (by omega))]; rfl)) dX5_isStale_42
        · skip
          refine lv_aload_n hx hb dX5_isStale_24 rfl (lv_at hl 0 rfl) ?_
          refine lv_iload_n hx hb dX5_isStale_25 rfl (lv_at hl 1 rfl) ?_
          refine lv_iload_n hx hb dX5_isStale_26 rfl (lv_at hl 2 rfl) ?_
          refine k_i (c_V (As := [.int (nI (r)), .int (nI (i))]) (rest := []) C v_X5_149 (c5_isOtherWord l g h ad φ α τ hR hT r i (by omega) (by omega)) ⟨Nat.le_of_ble_eq_true rfl, Nat.le_of_ble_eq_true rfl⟩ (hrec) (hM) hl.1 rfl rfl (Nat.le_of_ble_eq_true rfl) dX5_isStale_27 ⟨Nat.le_of_ble_eq_true rfl, Nat.le_of_ble_eq_true rfl⟩) (fun r27 q27 => ?_)
          subst q27
          refine b_ifeq (tgt := 35) C dX5_isStale_30 (by decide) (fun c30 => ?_) (fun c30 => ?_)
          · skip
            refine n_iinc (d := 1) (lv' := [(2, .int (nI (i + 1))), (0, .ref (h)), (1, .int (nI (r)))]) C dX5_isStale_35 (by decide) hl (k := 2) rfl (by decide) rfl (fun ls hl => ?_)
            refine lv_goto (tgt := 18) hx hb dX5_isStale_38 (by decide) ?_
            exact ih_lp (i + 1) ls (by omega) (by omega) (lt_s1 hv c30) (lv_sub hl [1, 2, 0] rfl)
          · skip
            refine lv_iconst (v := 1) hx hb dX5_isStale_33 (by decide) ?_
            exact r_z C hr hlk (by first | exact Or.inl rfl | exact Or.inr rfl | exact bI_or _) (bit1 (by simp only [staleB]; rw [anyR (by omega) c30, Bool.or_true])) dX5_isStale_34
    exact lp (9) (0) ls (by omega) (by omega) (fun j hj => absurd hj (by omega)) (lv_sub hl [1, 2, 0] rfl)
  · skip
    refine lv_iconst (v := 1) hx hb dX5_isStale_14 (by decide) ?_
    exact r_z C hr hlk (by first | exact Or.inl rfl | exact Or.inr rfl | exact bI_or _) (bit1 (by simp only [staleB]; rw [c11]; rfl)) dX5_isStale_15
set_option maxHeartbeats 4000000 in
set_option maxRecDepth 100000 in
theorem c5_mayBe (l : Launch) (g : GG) (h : Nat) (ad : Nat → Nat) (φ : Nat → Int32) (α : Nat → Nat → Int32) (τ : TB) (hR : MdR φ α τ) (hT : TOK τ) (r tk : Nat) (h_r : r < tN τ) (htk : tk ≤ 16) : Met l yX5_mayBe (.code yX5_mayBe cX5_mayBe 3 (some .boolean) :: wsL_law) ({ frames := 0, cells := 0, slots := 0, locals := 0 } : Room) (mP g [.ref (h), .int (nI (r)), .int (nI (tk))] (fun H => va_P g.1 vwCl (wM g h ad φ α) H)) (vp_Si (fun z => z = bI (mayB (tRun τ r) tk))) 0 0 ((fun _ => False)) := by
  refine mMet (by decide) (Nat.le_of_ble_eq_true rfl) ?_
  intro p e s m below meth c C hr hlk hnm hM ls hl
  have hx := C.1.1
  have hb := C.1.2.1
  have hl : lv_has ls 3 [(0, .ref (h)), (1, .int (nI (r))), (2, .int (nI (tk)))] := hl
  have h40 := hT.2.2.1
  have hrec := q_recv C hM 0 rw_0 rfl
  have R_r := hR.run h_r
  have T_r := hT.2.2.2.1 r h_r
  have BC_r := T_r.1
  have BL_r := T_r.2.1
  have BT_r := T_r.2.2.2.2.2.2.1
  have BR_r := T_r.2.2.2.2.2.2.2.1
  have BQ_r : ∀ j, j < (rStp (tRun τ r)).length → (rStp (tRun τ r)).getD j 0 < 256 := fun j hj => T_r.2.2.1 _ (getD_mem hj)
  refine lv_aload_n hx hb dX5_mayBe_0 rfl (lv_at hl 0 rfl) ?_
  refine q_get C f_X5_50 hM 0 rw_0 ro_16 dX5_mayBe_1 ?_
  refine lv_iload_n hx hb dX5_mayBe_4 rfl (lv_at hl 1 rfl) ?_
  refine n_iald C hM 14 rw_16 (by omega) (by decide) dX5_mayBe_5 ?_
  refine w_topi (y := (rOrg (tRun τ r))) (R_r.org) ?_
  refine lv_iconst (v := (-1)) hx hb dX5_mayBe_6 (by decide) ?_
  refine lv_icmp_ne (tgt := 42) hx hb dX5_mayBe_7 (by decide) (fun c7 => ?_) (fun c7 => ?_)
  · skip
    refine lv_iconst (v := 0) hx hb dX5_mayBe_42 (by decide) ?_
    exact r_z C hr hlk (by first | exact Or.inl rfl | exact Or.inr rfl | exact bI_or _) (bif0 (by simp [mayB, c7])) dX5_mayBe_43
  · skip
    refine lv_aload_n hx hb dX5_mayBe_10 rfl (lv_at hl 0 rfl) ?_
    refine q_get C f_X5_46 hM 0 rw_0 ro_15 dX5_mayBe_11 ?_
    refine lv_iload_n hx hb dX5_mayBe_14 rfl (lv_at hl 1 rfl) ?_
    refine n_zald C hM 13 rw_15 (by omega) (by decide) dX5_mayBe_15 ?_
    refine w_topi (y := (bI (rBr (tRun τ r)))) (R_r.br) ?_
    refine b_ifne (tgt := 42) C dX5_mayBe_16 (by decide) (fun c16 => ?_) (fun c16 => ?_)
    · skip
      refine lv_iconst (v := 0) hx hb dX5_mayBe_42 (by decide) ?_
      exact r_z C hr hlk (by first | exact Or.inl rfl | exact Or.inr rfl | exact bI_or _) (bif0 (by simp [mayB, c7, c16])) dX5_mayBe_43
    · skip
      refine lv_aload_n hx hb dX5_mayBe_19 rfl (lv_at hl 0 rfl) ?_
      refine q_get C f_X5_68 hM 0 rw_0 ro_22 dX5_mayBe_20 ?_
      refine lv_iload_n hx hb dX5_mayBe_23 rfl (lv_at hl 1 rfl) ?_
      refine n_zald C hM 20 rw_22 (by omega) (by decide) dX5_mayBe_24 ?_
      refine w_topi (y := (bI (rCk (tRun τ r)))) (R_r.ck) ?_
      refine b_ifne (tgt := 42) C dX5_mayBe_25 (by decide) (fun c25 => ?_) (fun c25 => ?_)
      · skip
        refine lv_iconst (v := 0) hx hb dX5_mayBe_42 (by decide) ?_
        exact r_z C hr hlk (by first | exact Or.inl rfl | exact Or.inr rfl | exact bI_or _) (bif0 (by simp [mayB, c7, c16, c25])) dX5_mayBe_43
      · skip
        refine lv_aload_n hx hb dX5_mayBe_28 rfl (lv_at hl 0 rfl) ?_
        refine q_get C f_X5_37 hM 0 rw_0 ro_12 dX5_mayBe_29 ?_
        refine lv_iload_n hx hb dX5_mayBe_32 rfl (lv_at hl 1 rfl) ?_
        refine n_iald C hM 10 rw_12 (by omega) (by decide) dX5_mayBe_33 ?_
        refine w_topi (y := (nI (rTk (tRun τ r)))) (R_r.tk) ?_
        refine lv_iload_n hx hb dX5_mayBe_34 rfl (lv_at hl 2 rfl) ?_
        refine n_icmp_ne (tgt := 42) C (by omega) (by omega) dX5_mayBe_35 (by decide) (fun c35 => ?_) (fun c35 => ?_)
        · skip
          refine lv_iconst (v := 0) hx hb dX5_mayBe_42 (by decide) ?_
          exact r_z C hr hlk (by first | exact Or.inl rfl | exact Or.inr rfl | exact bI_or _) (bif0 (by simp [mayB, c7, c16, c25, c35])) dX5_mayBe_43
        · skip
          refine lv_iconst (v := 1) hx hb dX5_mayBe_38 (by decide) ?_
          refine lv_goto (tgt := 43) hx hb dX5_mayBe_39 (by decide) ?_
          exact r_z C hr hlk (by first | exact Or.inl rfl | exact Or.inr rfl | exact bI_or _) (bit1 (by simp [mayB, c7, c16, c25, c35])) dX5_mayBe_43
set_option maxHeartbeats 4000000 in
set_option maxRecDepth 100000 in
theorem c5_isLike (l : Launch) (g : GG) (h : Nat) (ad : Nat → Nat) (φ : Nat → Int32) (α : Nat → Nat → Int32) (τ : TB) (hR : MdR φ α τ) (hT : TOK τ) (u v : Nat) (h_u : u < tN τ) (h_v : v < tN τ) : Met l yX5_isLike (.code yX5_isLike cX5_isLike 4 (some .boolean) :: wsL_law) ({ frames := 1, cells := 0, slots := 0, locals := 23 } : Room) (mP g [.ref (h), .int (nI (u)), .int (nI (v))] (fun H => va_P g.1 vwCl (wM g h ad φ α) H)) (vp_Si (fun z => z = bI (likeB (tRun τ u) (tRun τ v)))) 0 0 ((fun _ => False)) := by
  refine mMet (by decide) (Nat.le_of_ble_eq_true rfl) ?_
  intro p e s m below meth c C hr hlk hnm hM ls hl
  have hx := C.1.1
  have hb := C.1.2.1
  have hl : lv_has ls 4 [(0, .ref (h)), (1, .int (nI (u))), (2, .int (nI (v)))] := hl
  have h40 := hT.2.2.1
  have hrec := q_recv C hM 0 rw_0 rfl
  have R_u := hR.run h_u
  have T_u := hT.2.2.2.1 u h_u
  have BC_u := T_u.1
  have BL_u := T_u.2.1
  have BT_u := T_u.2.2.2.2.2.2.1
  have BR_u := T_u.2.2.2.2.2.2.2.1
  have BQ_u : ∀ j, j < (rStp (tRun τ u)).length → (rStp (tRun τ u)).getD j 0 < 256 := fun j hj => T_u.2.2.1 _ (getD_mem hj)
  have R_v := hR.run h_v
  have T_v := hT.2.2.2.1 v h_v
  have BC_v := T_v.1
  have BL_v := T_v.2.1
  have BT_v := T_v.2.2.2.2.2.2.1
  have BR_v := T_v.2.2.2.2.2.2.2.1
  have BQ_v : ∀ j, j < (rStp (tRun τ v)).length → (rStp (tRun τ v)).getD j 0 < 256 := fun j hj => T_v.2.2.1 _ (getD_mem hj)
  refine lv_aload_n hx hb dX5_isLike_0 rfl (lv_at hl 0 rfl) ?_
  refine lv_iload_n hx hb dX5_isLike_1 rfl (lv_at hl 1 rfl) ?_
  refine lv_iload_n hx hb dX5_isLike_2 rfl (lv_at hl 2 rfl) ?_
  refine k_i (c_V (As := [.int (nI (u)), .int (nI (v))]) (rest := []) C v_X5_159 (c5_isLikeCode l g h ad φ α τ hR hT u v h_u h_v) ⟨Nat.le_of_ble_eq_true rfl, Nat.le_of_ble_eq_true rfl⟩ (hrec) (hM) hl.1 rfl rfl (Nat.le_of_ble_eq_true rfl) dX5_isLike_3 ⟨Nat.le_of_ble_eq_true rfl, Nat.le_of_ble_eq_true rfl⟩) (fun r3 q3 => ?_)
  subst q3
  refine b_ifeq (tgt := 39) C dX5_isLike_6 (by decide) (fun c6 => ?_) (fun c6 => ?_)
  · skip
    have c6b := of_decide_eq_false c6
    refine lv_iconst (v := 0) hx hb dX5_isLike_39 (by decide) ?_
    exact r_z C hr hlk (by first | exact Or.inl rfl | exact Or.inr rfl | exact bI_or _) (bif0 (by unfold likeB; simp [c6b])) dX5_isLike_40
  · skip
    have c6b := of_decide_eq_true c6
    refine lv_aload_n hx hb dX5_isLike_9 rfl (lv_at hl 0 rfl) ?_
    refine q_get C f_X5_34 hM 0 rw_0 ro_11 dX5_isLike_10 ?_
    refine lv_iload_n hx hb dX5_isLike_13 rfl (lv_at hl 1 rfl) ?_
    refine n_iald C hM 9 rw_11 (by omega) (by decide) dX5_isLike_14 ?_
    refine w_topi (y := (rSeed (tRun τ u))) (R_u.seed) ?_
    refine lv_aload_n hx hb dX5_isLike_15 rfl (lv_at hl 0 rfl) ?_
    refine q_get C f_X5_34 hM 0 rw_0 ro_11 dX5_isLike_16 ?_
    refine lv_iload_n hx hb dX5_isLike_19 rfl (lv_at hl 2 rfl) ?_
    refine n_iald C hM 9 rw_11 (by omega) (by decide) dX5_isLike_20 ?_
    refine w_topi (y := (rSeed (tRun τ v))) (R_v.seed) ?_
    refine lv_icmp_ne (tgt := 39) hx hb dX5_isLike_21 (by decide) (fun c21 => ?_) (fun c21 => ?_)
    · skip
      refine lv_iconst (v := 0) hx hb dX5_isLike_39 (by decide) ?_
      exact r_z C hr hlk (by first | exact Or.inl rfl | exact Or.inr rfl | exact bI_or _) (bif0 (by unfold likeB; simp [c6b, c21])) dX5_isLike_40
    · skip
      refine lv_aload_n hx hb dX5_isLike_24 rfl (lv_at hl 0 rfl) ?_
      refine q_get C f_X5_37 hM 0 rw_0 ro_12 dX5_isLike_25 ?_
      refine lv_iload_n hx hb dX5_isLike_28 rfl (lv_at hl 1 rfl) ?_
      refine n_iald C hM 10 rw_12 (by omega) (by decide) dX5_isLike_29 ?_
      refine w_topi (y := (nI (rTk (tRun τ u)))) (R_u.tk) ?_
      refine lv_aload_n hx hb dX5_isLike_30 rfl (lv_at hl 0 rfl) ?_
      refine q_get C f_X5_37 hM 0 rw_0 ro_12 dX5_isLike_31 ?_
      refine lv_iload_n hx hb dX5_isLike_34 rfl (lv_at hl 2 rfl) ?_
      refine n_iald C hM 10 rw_12 (by omega) (by decide) dX5_isLike_35 ?_
      refine w_topi (y := (nI (rTk (tRun τ v)))) (R_v.tk) ?_
      refine n_icmp_eq (tgt := 41) C (by omega) (by omega) dX5_isLike_36 (by decide) (fun c36 => ?_) (fun c36 => ?_)
      · skip
        refine lv_iconst (v := nI 0) hx hb dX5_isLike_41 (by decide) ?_
        refine lv_istore_n (lv' := [(3, .int (nI (0))), (0, .ref (h)), (1, .int (nI (u))), (2, .int (nI (v)))]) hx hb dX5_isLike_42 rfl hl (by decide) rfl (fun ls hl => ?_)
        have lp : ∀ (n_lp : Nat) (i : Nat) (ls : Array Slot), (i ≤ 8) → (8 + 1 ≤ i + n_lp) → (∀ j, j < i → (!(hasB (rRW (tRun τ u) &&& rRW (tRun τ v)) j && decide (¬ rWas (tRun τ u) j = rWas (tRun τ v) j))) = true) → lv_has ls 4 [(0, .ref (h)), (1, .int (nI (u))), (2, .int (nI (v))), (3, .int (nI (i)))] → W p l e ({ frames := 1, cells := 0, slots := 0, locals := 23 } : Room) s m ([.ref (h), .int (nI (u)), .int (nI (v))] : List Value).toArray below meth c s.heap [] 0 0 (MQ below (vp_Si (fun z => z = bI (likeB (tRun τ u) (tRun τ v)))) (([.ref (h), .int (nI (u)), .int (nI (v))] : List Value).toArray) s 0 0 (fun _ => False)) (F0 m 43 ls []) := by
          intro n_lp
          induction n_lp with
          | zero =>
            intro i ls hi hn hv
            exact absurd hn (by omega)
          | succ n_lp ih_lp =>
            intro i ls hi hn hv hl
            refine lv_iload_n hx hb dX5_isLike_43 rfl (lv_at hl 3 rfl) ?_
            refine lv_bipush (v := nI 8) hx hb dX5_isLike_44 (by decide) ?_
            refine n_icmp_ge (tgt := 103) C (by omega) (by omega) dX5_isLike_46 (by decide) (fun c46 => ?_) (fun c46 => ?_)
            · skip
              refine lv_iconst (v := 1) hx hb dX5_isLike_103 (by decide) ?_
              exact r_z C hr hlk (by first | exact Or.inl rfl | exact Or.inr rfl | exact bI_or _) (bit1 (by unfold likeB; rw [decide_eq_true c6b, decide_eq_true c21, decide_eq_true c36, allR.mpr (fun j hj => hv j (by omega))]; rfl)) dX5_isLike_104
            · skip
              refine lv_aload_n hx hb dX5_isLike_49 rfl (lv_at hl 0 rfl) ?_
              refine q_get C f_X5_59 hM 0 rw_0 ro_19 dX5_isLike_50 ?_
              refine lv_iload_n hx hb dX5_isLike_53 rfl (lv_at hl 1 rfl) ?_
              refine n_iald C hM 17 rw_19 (by omega) (by decide) dX5_isLike_54 ?_
              refine w_topi (y := (rRW (tRun τ u))) (R_u.rw) ?_
              refine lv_aload_n hx hb dX5_isLike_55 rfl (lv_at hl 0 rfl) ?_
              refine q_get C f_X5_59 hM 0 rw_0 ro_19 dX5_isLike_56 ?_
              refine lv_iload_n hx hb dX5_isLike_59 rfl (lv_at hl 2 rfl) ?_
              refine n_iald C hM 17 rw_19 (by omega) (by decide) dX5_isLike_60 ?_
              refine w_topi (y := (rRW (tRun τ v))) (R_v.rw) ?_
              refine lv_iand hx hb dX5_isLike_61 ?_
              refine lv_iload_n hx hb dX5_isLike_62 rfl (lv_at hl 3 rfl) ?_
              refine lv_ishr hx hb dX5_isLike_63 ?_
              refine lv_iconst (v := 1) hx hb dX5_isLike_64 (by decide) ?_
              refine lv_iand hx hb dX5_isLike_65 ?_
              refine lv_iconst (v := 1) hx hb dX5_isLike_66 (by decide) ?_
              refine lv_icmp_ne (tgt := 97) hx hb dX5_isLike_67 (by decide) (fun c67 => ?_) (fun c67 => ?_)
              · skip
                refine n_iinc (d := 1) (lv' := [(3, .int (nI (i + 1))), (0, .ref (h)), (1, .int (nI (u))), (2, .int (nI (v)))]) C dX5_isLike_97 (by decide) hl (k := 3) rfl (by decide) rfl (fun ls hl => ?_)
                refine lv_goto (tgt := 43) hx hb dX5_isLike_100 (by decide) ?_
                exact ih_lp (i + 1) ls (by omega) (by omega) (lt_s1 hv (by rw [notHas c67]; simp)) (lv_sub hl [1, 2, 3, 0] rfl)
              · skip
                have hw := andHas c67
                refine lv_aload_n hx hb dX5_isLike_70 rfl (lv_at hl 0 rfl) ?_
                refine q_get C f_X5_62 hM 0 rw_0 ro_20 dX5_isLike_71 ?_
                refine lv_bipush (v := nI 8) hx hb dX5_isLike_74 (by decide) ?_
                refine lv_iload_n hx hb dX5_isLike_76 rfl (lv_at hl 1 rfl) ?_
                refine n_imul C dX5_isLike_77 ?_
                refine lv_iload_n hx hb dX5_isLike_78 rfl (lv_at hl 3 rfl) ?_
                refine n_iadd C dX5_isLike_79 ?_
                refine n_iald C hM 18 rw_20 (by omega) (by decide) dX5_isLike_80 ?_
                refine w_topi (y := (rWas (tRun τ u) i)) (R_u.was (by omega) hw.1) ?_
                refine lv_aload_n hx hb dX5_isLike_81 rfl (lv_at hl 0 rfl) ?_
                refine q_get C f_X5_62 hM 0 rw_0 ro_20 dX5_isLike_82 ?_
                refine lv_bipush (v := nI 8) hx hb dX5_isLike_85 (by decide) ?_
                refine lv_iload_n hx hb dX5_isLike_87 rfl (lv_at hl 2 rfl) ?_
                refine n_imul C dX5_isLike_88 ?_
                refine lv_iload_n hx hb dX5_isLike_89 rfl (lv_at hl 3 rfl) ?_
                refine n_iadd C dX5_isLike_90 ?_
                refine n_iald C hM 18 rw_20 (by omega) (by decide) dX5_isLike_91 ?_
                refine w_topi (y := (rWas (tRun τ v) i)) (R_v.was (by omega) hw.2) ?_
                refine lv_icmp_eq (tgt := 97) hx hb dX5_isLike_92 (by decide) (fun c92 => ?_) (fun c92 => ?_)
                · skip
                  refine n_iinc (d := 1) (lv' := [(3, .int (nI (i + 1))), (0, .ref (h)), (1, .int (nI (u))), (2, .int (nI (v)))]) C dX5_isLike_97 (by decide) hl (k := 3) rfl (by decide) rfl (fun ls hl => ?_)
                  refine lv_goto (tgt := 43) hx hb dX5_isLike_100 (by decide) ?_
                  exact ih_lp (i + 1) ls (by omega) (by omega) (lt_s1 hv (by rw [isHas c67, c92]; simp)) (lv_sub hl [1, 2, 3, 0] rfl)
                · skip
                  refine lv_iconst (v := 0) hx hb dX5_isLike_95 (by decide) ?_
                  exact r_z C hr hlk (by first | exact Or.inl rfl | exact Or.inr rfl | exact bI_or _) (bif0 (by unfold likeB; rw [allRf (i := i) (by omega) (by rw [isHas c67, decide_eq_true c92]; rfl), Bool.and_false])) dX5_isLike_96
        exact lp (9) (0) ls (by omega) (by omega) (fun j hj => absurd hj (by omega)) (lv_sub hl [1, 2, 3, 0] rfl)
      · skip
        refine lv_iconst (v := 0) hx hb dX5_isLike_39 (by decide) ?_
        exact r_z C hr hlk (by first | exact Or.inl rfl | exact Or.inr rfl | exact bI_or _) (bif0 (by unfold likeB; simp [c6b, c21, c36])) dX5_isLike_40
end
