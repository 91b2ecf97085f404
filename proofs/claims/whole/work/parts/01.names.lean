-- ===== PART A: goes FIRST, ahead of the names: the tables' words, and 'selects' of the private methods out of them =====
/-- a private method of a class that the tables say can be made, by its rows of tables_1 -/
def lw_okq (q : MethodName × Nat) : Prop := (q.1.cls ≠ "java/lang/invoke/MethodHandle" ∧ q.1.cls ≠ "java/lang/invoke/VarHandle") ∧ Cond.instantiable q.1.cls q.2 ∈ tables_1 ∧ Cond.privateMethod q.1 ∈ tables_1 ∧ Cond.instanceMethod q.1 ∈ tables_1
theorem lw_p0 : lw_okq (⟨"LeaningTower$Book", "learn", "()V"⟩, 5) := ⟨⟨by decide +kernel, by decide +kernel⟩, List.mem_of_getElem? (i := 123) (by decide +kernel), List.mem_of_getElem? (i := 572) (by decide +kernel), List.mem_of_getElem? (i := 573) (by decide +kernel)⟩
theorem lw_p1 : lw_okq (⟨"LeaningTower$Reader", "split", "()V"⟩, 16) := ⟨⟨by decide +kernel, by decide +kernel⟩, List.mem_of_getElem? (i := 147) (by decide +kernel), List.mem_of_getElem? (i := 621) (by decide +kernel), List.mem_of_getElem? (i := 622) (by decide +kernel)⟩
theorem lw_p2 : lw_okq (⟨"LeaningTower$Reader", "isLetter", "(I)Z"⟩, 16) := ⟨⟨by decide +kernel, by decide +kernel⟩, List.mem_of_getElem? (i := 147) (by decide +kernel), List.mem_of_getElem? (i := 625) (by decide +kernel), List.mem_of_getElem? (i := 626) (by decide +kernel)⟩
theorem lw_p3 : lw_okq (⟨"LeaningTower$Reader", "isDigit", "(I)Z"⟩, 16) := ⟨⟨by decide +kernel, by decide +kernel⟩, List.mem_of_getElem? (i := 147) (by decide +kernel), List.mem_of_getElem? (i := 629) (by decide +kernel), List.mem_of_getElem? (i := 630) (by decide +kernel)⟩
theorem lw_p4 : lw_okq (⟨"LeaningTower$Reader", "takeRun", "(I)I"⟩, 16) := ⟨⟨by decide +kernel, by decide +kernel⟩, List.mem_of_getElem? (i := 147) (by decide +kernel), List.mem_of_getElem? (i := 633) (by decide +kernel), List.mem_of_getElem? (i := 634) (by decide +kernel)⟩
theorem lw_p5 : lw_okq (⟨"LeaningTower$Reader", "put", "(IIII)V"⟩, 16) := ⟨⟨by decide +kernel, by decide +kernel⟩, List.mem_of_getElem? (i := 147) (by decide +kernel), List.mem_of_getElem? (i := 637) (by decide +kernel), List.mem_of_getElem? (i := 638) (by decide +kernel)⟩
theorem lw_p6 : lw_okq (⟨"LeaningTower$Reader", "wordOf", "(II)I"⟩, 16) := ⟨⟨by decide +kernel, by decide +kernel⟩, List.mem_of_getElem? (i := 147) (by decide +kernel), List.mem_of_getElem? (i := 641) (by decide +kernel), List.mem_of_getElem? (i := 642) (by decide +kernel)⟩
theorem lw_p7 : lw_okq (⟨"LeaningTower$Reader", "isSpelled", "(Ljava/lang/String;II)Z"⟩, 16) := ⟨⟨by decide +kernel, by decide +kernel⟩, List.mem_of_getElem? (i := 147) (by decide +kernel), List.mem_of_getElem? (i := 669) (by decide +kernel), List.mem_of_getElem? (i := 670) (by decide +kernel)⟩
theorem lw_p8 : lw_okq (⟨"LeaningTower$Reader", "numberOf", "(II)I"⟩, 16) := ⟨⟨by decide +kernel, by decide +kernel⟩, List.mem_of_getElem? (i := 147) (by decide +kernel), List.mem_of_getElem? (i := 721) (by decide +kernel), List.mem_of_getElem? (i := 722) (by decide +kernel)⟩
theorem lw_p9 : lw_okq (⟨"LeaningTower$Reader", "takeSign", "(I)V"⟩, 16) := ⟨⟨by decide +kernel, by decide +kernel⟩, List.mem_of_getElem? (i := 147) (by decide +kernel), List.mem_of_getElem? (i := 726) (by decide +kernel), List.mem_of_getElem? (i := 727) (by decide +kernel)⟩
theorem lw_p10 : lw_okq (⟨"LeaningTower$Reader", "signAt", "(I)I"⟩, 16) := ⟨⟨by decide +kernel, by decide +kernel⟩, List.mem_of_getElem? (i := 147) (by decide +kernel), List.mem_of_getElem? (i := 730) (by decide +kernel), List.mem_of_getElem? (i := 731) (by decide +kernel)⟩
theorem lw_p11 : lw_okq (⟨"LeaningTower$Reader", "next", "()V"⟩, 16) := ⟨⟨by decide +kernel, by decide +kernel⟩, List.mem_of_getElem? (i := 147) (by decide +kernel), List.mem_of_getElem? (i := 735) (by decide +kernel), List.mem_of_getElem? (i := 736) (by decide +kernel)⟩
theorem lw_p12 : lw_okq (⟨"LeaningTower$Reader", "statement", "()V"⟩, 16) := ⟨⟨by decide +kernel, by decide +kernel⟩, List.mem_of_getElem? (i := 147) (by decide +kernel), List.mem_of_getElem? (i := 739) (by decide +kernel), List.mem_of_getElem? (i := 740) (by decide +kernel)⟩
theorem lw_p13 : lw_okq (⟨"LeaningTower$Reader", "expect", "(Z)V"⟩, 16) := ⟨⟨by decide +kernel, by decide +kernel⟩, List.mem_of_getElem? (i := 147) (by decide +kernel), List.mem_of_getElem? (i := 743) (by decide +kernel), List.mem_of_getElem? (i := 744) (by decide +kernel)⟩
theorem lw_p14 : lw_okq (⟨"LeaningTower$Reader", "fail", "(II)V"⟩, 16) := ⟨⟨by decide +kernel, by decide +kernel⟩, List.mem_of_getElem? (i := 147) (by decide +kernel), List.mem_of_getElem? (i := 747) (by decide +kernel), List.mem_of_getElem? (i := 748) (by decide +kernel)⟩
theorem lw_p15 : lw_okq (⟨"LeaningTower$Reader", "emit", "(I)V"⟩, 16) := ⟨⟨by decide +kernel, by decide +kernel⟩, List.mem_of_getElem? (i := 147) (by decide +kernel), List.mem_of_getElem? (i := 751) (by decide +kernel), List.mem_of_getElem? (i := 752) (by decide +kernel)⟩
def lw_privs_1 : List (MethodName × Nat) := [(⟨"LeaningTower$Book", "learn", "()V"⟩, 5), (⟨"LeaningTower$Reader", "split", "()V"⟩, 16), (⟨"LeaningTower$Reader", "isLetter", "(I)Z"⟩, 16), (⟨"LeaningTower$Reader", "isDigit", "(I)Z"⟩, 16), (⟨"LeaningTower$Reader", "takeRun", "(I)I"⟩, 16), (⟨"LeaningTower$Reader", "put", "(IIII)V"⟩, 16), (⟨"LeaningTower$Reader", "wordOf", "(II)I"⟩, 16), (⟨"LeaningTower$Reader", "isSpelled", "(Ljava/lang/String;II)Z"⟩, 16), (⟨"LeaningTower$Reader", "numberOf", "(II)I"⟩, 16), (⟨"LeaningTower$Reader", "takeSign", "(I)V"⟩, 16), (⟨"LeaningTower$Reader", "signAt", "(I)I"⟩, 16), (⟨"LeaningTower$Reader", "next", "()V"⟩, 16), (⟨"LeaningTower$Reader", "statement", "()V"⟩, 16), (⟨"LeaningTower$Reader", "expect", "(Z)V"⟩, 16), (⟨"LeaningTower$Reader", "fail", "(II)V"⟩, 16), (⟨"LeaningTower$Reader", "emit", "(I)V"⟩, 16)]
theorem lw_r1 : ∀ q ∈ lw_privs_1, lw_okq q := List.forall_mem_cons.mpr ⟨lw_p0, List.forall_mem_cons.mpr ⟨lw_p1, List.forall_mem_cons.mpr ⟨lw_p2, List.forall_mem_cons.mpr ⟨lw_p3, List.forall_mem_cons.mpr ⟨lw_p4, List.forall_mem_cons.mpr ⟨lw_p5, List.forall_mem_cons.mpr ⟨lw_p6, List.forall_mem_cons.mpr ⟨lw_p7, List.forall_mem_cons.mpr ⟨lw_p8, List.forall_mem_cons.mpr ⟨lw_p9, List.forall_mem_cons.mpr ⟨lw_p10, List.forall_mem_cons.mpr ⟨lw_p11, List.forall_mem_cons.mpr ⟨lw_p12, List.forall_mem_cons.mpr ⟨lw_p13, List.forall_mem_cons.mpr ⟨lw_p14, List.forall_mem_cons.mpr ⟨lw_p15, fun _ h => absurd h List.not_mem_nil⟩⟩⟩⟩⟩⟩⟩⟩⟩⟩⟩⟩⟩⟩⟩⟩
theorem lw_p16 : lw_okq (⟨"LeaningTower$Reader", "sum", "(I)V"⟩, 16) := ⟨⟨by decide +kernel, by decide +kernel⟩, List.mem_of_getElem? (i := 147) (by decide +kernel), List.mem_of_getElem? (i := 755) (by decide +kernel), List.mem_of_getElem? (i := 756) (by decide +kernel)⟩
theorem lw_p17 : lw_okq (⟨"LeaningTower$Reader", "product", "(I)V"⟩, 16) := ⟨⟨by decide +kernel, by decide +kernel⟩, List.mem_of_getElem? (i := 147) (by decide +kernel), List.mem_of_getElem? (i := 759) (by decide +kernel), List.mem_of_getElem? (i := 760) (by decide +kernel)⟩
theorem lw_p18 : lw_okq (⟨"LeaningTower$Reader", "part", "(I)V"⟩, 16) := ⟨⟨by decide +kernel, by decide +kernel⟩, List.mem_of_getElem? (i := 147) (by decide +kernel), List.mem_of_getElem? (i := 763) (by decide +kernel), List.mem_of_getElem? (i := 764) (by decide +kernel)⟩
theorem lw_p19 : lw_okq (⟨"LeaningTower$Reader", "opens", "(II)Z"⟩, 16) := ⟨⟨by decide +kernel, by decide +kernel⟩, List.mem_of_getElem? (i := 147) (by decide +kernel), List.mem_of_getElem? (i := 768) (by decide +kernel), List.mem_of_getElem? (i := 769) (by decide +kernel)⟩
theorem lw_p20 : lw_okq (⟨"LeaningTower$Reader", "test", "(I)V"⟩, 16) := ⟨⟨by decide +kernel, by decide +kernel⟩, List.mem_of_getElem? (i := 147) (by decide +kernel), List.mem_of_getElem? (i := 772) (by decide +kernel), List.mem_of_getElem? (i := 773) (by decide +kernel)⟩
theorem lw_p21 : lw_okq (⟨"LeaningTower$Reader", "both", "(I)V"⟩, 16) := ⟨⟨by decide +kernel, by decide +kernel⟩, List.mem_of_getElem? (i := 147) (by decide +kernel), List.mem_of_getElem? (i := 776) (by decide +kernel), List.mem_of_getElem? (i := 777) (by decide +kernel)⟩
theorem lw_p22 : lw_okq (⟨"LeaningTower$Reader", "fact", "(I)V"⟩, 16) := ⟨⟨by decide +kernel, by decide +kernel⟩, List.mem_of_getElem? (i := 147) (by decide +kernel), List.mem_of_getElem? (i := 780) (by decide +kernel), List.mem_of_getElem? (i := 781) (by decide +kernel)⟩
theorem lw_p23 : lw_okq (⟨"LeaningTower$Reader", "comparison", "(I)V"⟩, 16) := ⟨⟨by decide +kernel, by decide +kernel⟩, List.mem_of_getElem? (i := 147) (by decide +kernel), List.mem_of_getElem? (i := 784) (by decide +kernel), List.mem_of_getElem? (i := 785) (by decide +kernel)⟩
theorem lw_p24 : lw_okq (⟨"LeaningTower$Days", "live", "(I)V"⟩, 13) := ⟨⟨by decide +kernel, by decide +kernel⟩, List.mem_of_getElem? (i := 71) (by decide +kernel), List.mem_of_getElem? (i := 844) (by decide +kernel), List.mem_of_getElem? (i := 845) (by decide +kernel)⟩
theorem lw_p25 : lw_okq (⟨"LeaningTower$Stones", "overhang", "(IJ)J"⟩, 5) := ⟨⟨by decide +kernel, by decide +kernel⟩, List.mem_of_getElem? (i := 47) (by decide +kernel), List.mem_of_getElem? (i := 868) (by decide +kernel), List.mem_of_getElem? (i := 869) (by decide +kernel)⟩
theorem lw_p26 : lw_okq (⟨"LeaningTower$Days", "given", "(IIJJ)J"⟩, 13) := ⟨⟨by decide +kernel, by decide +kernel⟩, List.mem_of_getElem? (i := 71) (by decide +kernel), List.mem_of_getElem? (i := 876) (by decide +kernel), List.mem_of_getElem? (i := 877) (by decide +kernel)⟩
theorem lw_p27 : lw_okq (⟨"LeaningTower$Judge", "lookAt", "(I)V"⟩, 12) := ⟨⟨by decide +kernel, by decide +kernel⟩, List.mem_of_getElem? (i := 203) (by decide +kernel), List.mem_of_getElem? (i := 959) (by decide +kernel), List.mem_of_getElem? (i := 960) (by decide +kernel)⟩
theorem lw_p28 : lw_okq (⟨"LeaningTower$Judge", "value", "([III)J"⟩, 12) := ⟨⟨by decide +kernel, by decide +kernel⟩, List.mem_of_getElem? (i := 203) (by decide +kernel), List.mem_of_getElem? (i := 976) (by decide +kernel), List.mem_of_getElem? (i := 977) (by decide +kernel)⟩
theorem lw_p29 : lw_okq (⟨"LeaningTower$Judge", "join", "(II)I"⟩, 12) := ⟨⟨by decide +kernel, by decide +kernel⟩, List.mem_of_getElem? (i := 203) (by decide +kernel), List.mem_of_getElem? (i := 987) (by decide +kernel), List.mem_of_getElem? (i := 988) (by decide +kernel)⟩
theorem lw_p30 : lw_okq (⟨"LeaningTower$Judge", "single", "(II)J"⟩, 12) := ⟨⟨by decide +kernel, by decide +kernel⟩, List.mem_of_getElem? (i := 203) (by decide +kernel), List.mem_of_getElem? (i := 1011) (by decide +kernel), List.mem_of_getElem? (i := 1012) (by decide +kernel)⟩
theorem lw_p31 : lw_okq (⟨"LeaningTower$Gauges", "narrow", "(JJ)V"⟩, 14) := ⟨⟨by decide +kernel, by decide +kernel⟩, List.mem_of_getElem? (i := 246) (by decide +kernel), List.mem_of_getElem? (i := 1073) (by decide +kernel), List.mem_of_getElem? (i := 1074) (by decide +kernel)⟩
def lw_privs_2 : List (MethodName × Nat) := [(⟨"LeaningTower$Reader", "sum", "(I)V"⟩, 16), (⟨"LeaningTower$Reader", "product", "(I)V"⟩, 16), (⟨"LeaningTower$Reader", "part", "(I)V"⟩, 16), (⟨"LeaningTower$Reader", "opens", "(II)Z"⟩, 16), (⟨"LeaningTower$Reader", "test", "(I)V"⟩, 16), (⟨"LeaningTower$Reader", "both", "(I)V"⟩, 16), (⟨"LeaningTower$Reader", "fact", "(I)V"⟩, 16), (⟨"LeaningTower$Reader", "comparison", "(I)V"⟩, 16), (⟨"LeaningTower$Days", "live", "(I)V"⟩, 13), (⟨"LeaningTower$Stones", "overhang", "(IJ)J"⟩, 5), (⟨"LeaningTower$Days", "given", "(IIJJ)J"⟩, 13), (⟨"LeaningTower$Judge", "lookAt", "(I)V"⟩, 12), (⟨"LeaningTower$Judge", "value", "([III)J"⟩, 12), (⟨"LeaningTower$Judge", "join", "(II)I"⟩, 12), (⟨"LeaningTower$Judge", "single", "(II)J"⟩, 12), (⟨"LeaningTower$Gauges", "narrow", "(JJ)V"⟩, 14)]
theorem lw_r2 : ∀ q ∈ lw_privs_2, lw_okq q := List.forall_mem_cons.mpr ⟨lw_p16, List.forall_mem_cons.mpr ⟨lw_p17, List.forall_mem_cons.mpr ⟨lw_p18, List.forall_mem_cons.mpr ⟨lw_p19, List.forall_mem_cons.mpr ⟨lw_p20, List.forall_mem_cons.mpr ⟨lw_p21, List.forall_mem_cons.mpr ⟨lw_p22, List.forall_mem_cons.mpr ⟨lw_p23, List.forall_mem_cons.mpr ⟨lw_p24, List.forall_mem_cons.mpr ⟨lw_p25, List.forall_mem_cons.mpr ⟨lw_p26, List.forall_mem_cons.mpr ⟨lw_p27, List.forall_mem_cons.mpr ⟨lw_p28, List.forall_mem_cons.mpr ⟨lw_p29, List.forall_mem_cons.mpr ⟨lw_p30, List.forall_mem_cons.mpr ⟨lw_p31, fun _ h => absurd h List.not_mem_nil⟩⟩⟩⟩⟩⟩⟩⟩⟩⟩⟩⟩⟩⟩⟩⟩
theorem lw_p32 : lw_okq (⟨"LeaningTower$Spooner", "draw", "(IJII)V"⟩, 12) := ⟨⟨by decide +kernel, by decide +kernel⟩, List.mem_of_getElem? (i := 296) (by decide +kernel), List.mem_of_getElem? (i := 1121) (by decide +kernel), List.mem_of_getElem? (i := 1122) (by decide +kernel)⟩
theorem lw_p33 : lw_okq (⟨"LeaningTower$Spooner", "keep", "(I)V"⟩, 12) := ⟨⟨by decide +kernel, by decide +kernel⟩, List.mem_of_getElem? (i := 296) (by decide +kernel), List.mem_of_getElem? (i := 1126) (by decide +kernel), List.mem_of_getElem? (i := 1127) (by decide +kernel)⟩
theorem lw_p34 : lw_okq (⟨"LeaningTower$Spooner", "isNoBetter", "(IJI)Z"⟩, 12) := ⟨⟨by decide +kernel, by decide +kernel⟩, List.mem_of_getElem? (i := 296) (by decide +kernel), List.mem_of_getElem? (i := 1131) (by decide +kernel), List.mem_of_getElem? (i := 1132) (by decide +kernel)⟩
theorem lw_p35 : lw_okq (⟨"LeaningTowerModel", "put", "(I)V"⟩, 76) := ⟨⟨by decide +kernel, by decide +kernel⟩, List.mem_of_getElem? (i := 1215) (by decide +kernel), List.mem_of_getElem? (i := 1456) (by decide +kernel), List.mem_of_getElem? (i := 1457) (by decide +kernel)⟩
theorem lw_p36 : lw_okq (⟨"LeaningTowerModel", "next", "()V"⟩, 76) := ⟨⟨by decide +kernel, by decide +kernel⟩, List.mem_of_getElem? (i := 1215) (by decide +kernel), List.mem_of_getElem? (i := 1474) (by decide +kernel), List.mem_of_getElem? (i := 1475) (by decide +kernel)⟩
theorem lw_p37 : lw_okq (⟨"LeaningTowerModel", "blame", "(II)V"⟩, 76) := ⟨⟨by decide +kernel, by decide +kernel⟩, List.mem_of_getElem? (i := 1215) (by decide +kernel), List.mem_of_getElem? (i := 1484) (by decide +kernel), List.mem_of_getElem? (i := 1485) (by decide +kernel)⟩
theorem lw_p38 : lw_okq (⟨"LeaningTowerModel", "statement", "()V"⟩, 76) := ⟨⟨by decide +kernel, by decide +kernel⟩, List.mem_of_getElem? (i := 1215) (by decide +kernel), List.mem_of_getElem? (i := 1488) (by decide +kernel), List.mem_of_getElem? (i := 1489) (by decide +kernel)⟩
theorem lw_p39 : lw_okq (⟨"LeaningTowerModel", "isWord", "(J)Z"⟩, 76) := ⟨⟨by decide +kernel, by decide +kernel⟩, List.mem_of_getElem? (i := 1215) (by decide +kernel), List.mem_of_getElem? (i := 1493) (by decide +kernel), List.mem_of_getElem? (i := 1494) (by decide +kernel)⟩
theorem lw_p40 : lw_okq (⟨"LeaningTowerModel", "work", "()I"⟩, 76) := ⟨⟨by decide +kernel, by decide +kernel⟩, List.mem_of_getElem? (i := 1215) (by decide +kernel), List.mem_of_getElem? (i := 1499) (by decide +kernel), List.mem_of_getElem? (i := 1500) (by decide +kernel)⟩
theorem lw_p41 : lw_okq (⟨"LeaningTowerModel", "reads", "(Z)V"⟩, 76) := ⟨⟨by decide +kernel, by decide +kernel⟩, List.mem_of_getElem? (i := 1215) (by decide +kernel), List.mem_of_getElem? (i := 1507) (by decide +kernel), List.mem_of_getElem? (i := 1508) (by decide +kernel)⟩
theorem lw_p42 : lw_okq (⟨"LeaningTowerModel", "pushes", "(I)V"⟩, 76) := ⟨⟨by decide +kernel, by decide +kernel⟩, List.mem_of_getElem? (i := 1215) (by decide +kernel), List.mem_of_getElem? (i := 1511) (by decide +kernel), List.mem_of_getElem? (i := 1512) (by decide +kernel)⟩
theorem lw_p43 : lw_okq (⟨"LeaningTowerModel", "part", "()Z"⟩, 76) := ⟨⟨by decide +kernel, by decide +kernel⟩, List.mem_of_getElem? (i := 1215) (by decide +kernel), List.mem_of_getElem? (i := 1515) (by decide +kernel), List.mem_of_getElem? (i := 1516) (by decide +kernel)⟩
theorem lw_p44 : lw_okq (⟨"LeaningTowerModel", "holdsBack", "(I)V"⟩, 76) := ⟨⟨by decide +kernel, by decide +kernel⟩, List.mem_of_getElem? (i := 1215) (by decide +kernel), List.mem_of_getElem? (i := 1523) (by decide +kernel), List.mem_of_getElem? (i := 1524) (by decide +kernel)⟩
theorem lw_p45 : lw_okq (⟨"LeaningTowerModel", "isSign", "(I)Z"⟩, 76) := ⟨⟨by decide +kernel, by decide +kernel⟩, List.mem_of_getElem? (i := 1215) (by decide +kernel), List.mem_of_getElem? (i := 1527) (by decide +kernel), List.mem_of_getElem? (i := 1528) (by decide +kernel)⟩
theorem lw_p46 : lw_okq (⟨"LeaningTowerModel", "opens", "(I)V"⟩, 76) := ⟨⟨by decide +kernel, by decide +kernel⟩, List.mem_of_getElem? (i := 1215) (by decide +kernel), List.mem_of_getElem? (i := 1531) (by decide +kernel), List.mem_of_getElem? (i := 1532) (by decide +kernel)⟩
theorem lw_p47 : lw_okq (⟨"LeaningTowerModel", "add", "(II)V"⟩, 76) := ⟨⟨by decide +kernel, by decide +kernel⟩, List.mem_of_getElem? (i := 1215) (by decide +kernel), List.mem_of_getElem? (i := 1536) (by decide +kernel), List.mem_of_getElem? (i := 1537) (by decide +kernel)⟩
def lw_privs_3 : List (MethodName × Nat) := [(⟨"LeaningTower$Spooner", "draw", "(IJII)V"⟩, 12), (⟨"LeaningTower$Spooner", "keep", "(I)V"⟩, 12), (⟨"LeaningTower$Spooner", "isNoBetter", "(IJI)Z"⟩, 12), (⟨"LeaningTowerModel", "put", "(I)V"⟩, 76), (⟨"LeaningTowerModel", "next", "()V"⟩, 76), (⟨"LeaningTowerModel", "blame", "(II)V"⟩, 76), (⟨"LeaningTowerModel", "statement", "()V"⟩, 76), (⟨"LeaningTowerModel", "isWord", "(J)Z"⟩, 76), (⟨"LeaningTowerModel", "work", "()I"⟩, 76), (⟨"LeaningTowerModel", "reads", "(Z)V"⟩, 76), (⟨"LeaningTowerModel", "pushes", "(I)V"⟩, 76), (⟨"LeaningTowerModel", "part", "()Z"⟩, 76), (⟨"LeaningTowerModel", "holdsBack", "(I)V"⟩, 76), (⟨"LeaningTowerModel", "isSign", "(I)Z"⟩, 76), (⟨"LeaningTowerModel", "opens", "(I)V"⟩, 76), (⟨"LeaningTowerModel", "add", "(II)V"⟩, 76)]
theorem lw_r3 : ∀ q ∈ lw_privs_3, lw_okq q := List.forall_mem_cons.mpr ⟨lw_p32, List.forall_mem_cons.mpr ⟨lw_p33, List.forall_mem_cons.mpr ⟨lw_p34, List.forall_mem_cons.mpr ⟨lw_p35, List.forall_mem_cons.mpr ⟨lw_p36, List.forall_mem_cons.mpr ⟨lw_p37, List.forall_mem_cons.mpr ⟨lw_p38, List.forall_mem_cons.mpr ⟨lw_p39, List.forall_mem_cons.mpr ⟨lw_p40, List.forall_mem_cons.mpr ⟨lw_p41, List.forall_mem_cons.mpr ⟨lw_p42, List.forall_mem_cons.mpr ⟨lw_p43, List.forall_mem_cons.mpr ⟨lw_p44, List.forall_mem_cons.mpr ⟨lw_p45, List.forall_mem_cons.mpr ⟨lw_p46, List.forall_mem_cons.mpr ⟨lw_p47, fun _ h => absurd h List.not_mem_nil⟩⟩⟩⟩⟩⟩⟩⟩⟩⟩⟩⟩⟩⟩⟩⟩
theorem lw_p48 : lw_okq (⟨"LeaningTowerModel", "asks", "()I"⟩, 76) := ⟨⟨by decide +kernel, by decide +kernel⟩, List.mem_of_getElem? (i := 1215) (by decide +kernel), List.mem_of_getElem? (i := 1543) (by decide +kernel), List.mem_of_getElem? (i := 1544) (by decide +kernel)⟩
theorem lw_p49 : lw_okq (⟨"LeaningTowerModel", "goesOn", "()Z"⟩, 76) := ⟨⟨by decide +kernel, by decide +kernel⟩, List.mem_of_getElem? (i := 1215) (by decide +kernel), List.mem_of_getElem? (i := 1554) (by decide +kernel), List.mem_of_getElem? (i := 1555) (by decide +kernel)⟩
theorem lw_p50 : lw_okq (⟨"LeaningTowerModel", "joins", "(I)V"⟩, 76) := ⟨⟨by decide +kernel, by decide +kernel⟩, List.mem_of_getElem? (i := 1215) (by decide +kernel), List.mem_of_getElem? (i := 1558) (by decide +kernel), List.mem_of_getElem? (i := 1559) (by decide +kernel)⟩
theorem lw_p51 : lw_okq (⟨"LeaningTowerModel", "must", "(I)V"⟩, 76) := ⟨⟨by decide +kernel, by decide +kernel⟩, List.mem_of_getElem? (i := 1215) (by decide +kernel), List.mem_of_getElem? (i := 1567) (by decide +kernel), List.mem_of_getElem? (i := 1568) (by decide +kernel)⟩
theorem lw_p52 : lw_okq (⟨"LeaningTowerModel", "enter", "(IIIII)I"⟩, 76) := ⟨⟨by decide +kernel, by decide +kernel⟩, List.mem_of_getElem? (i := 1215) (by decide +kernel), List.mem_of_getElem? (i := 1571) (by decide +kernel), List.mem_of_getElem? (i := 1572) (by decide +kernel)⟩
theorem lw_p53 : lw_okq (⟨"LeaningTowerModel", "play", "()V"⟩, 76) := ⟨⟨by decide +kernel, by decide +kernel⟩, List.mem_of_getElem? (i := 1215) (by decide +kernel), List.mem_of_getElem? (i := 1637) (by decide +kernel), List.mem_of_getElem? (i := 1638) (by decide +kernel)⟩
theorem lw_p54 : lw_okq (⟨"LeaningTowerModel", "gathers", "()V"⟩, 76) := ⟨⟨by decide +kernel, by decide +kernel⟩, List.mem_of_getElem? (i := 1215) (by decide +kernel), List.mem_of_getElem? (i := 1641) (by decide +kernel), List.mem_of_getElem? (i := 1642) (by decide +kernel)⟩
theorem lw_p55 : lw_okq (⟨"LeaningTowerModel", "now", "()I"⟩, 76) := ⟨⟨by decide +kernel, by decide +kernel⟩, List.mem_of_getElem? (i := 1215) (by decide +kernel), List.mem_of_getElem? (i := 1645) (by decide +kernel), List.mem_of_getElem? (i := 1646) (by decide +kernel)⟩
theorem lw_p56 : lw_okq (⟨"LeaningTowerModel", "isKnown", "(I)Z"⟩, 76) := ⟨⟨by decide +kernel, by decide +kernel⟩, List.mem_of_getElem? (i := 1215) (by decide +kernel), List.mem_of_getElem? (i := 1649) (by decide +kernel), List.mem_of_getElem? (i := 1650) (by decide +kernel)⟩
theorem lw_p57 : lw_okq (⟨"LeaningTowerModel", "leads", "()V"⟩, 76) := ⟨⟨by decide +kernel, by decide +kernel⟩, List.mem_of_getElem? (i := 1215) (by decide +kernel), List.mem_of_getElem? (i := 1653) (by decide +kernel), List.mem_of_getElem? (i := 1654) (by decide +kernel)⟩
theorem lw_p58 : lw_okq (⟨"LeaningTowerModel", "goes", "(III)V"⟩, 76) := ⟨⟨by decide +kernel, by decide +kernel⟩, List.mem_of_getElem? (i := 1215) (by decide +kernel), List.mem_of_getElem? (i := 1657) (by decide +kernel), List.mem_of_getElem? (i := 1658) (by decide +kernel)⟩
theorem lw_p59 : lw_okq (⟨"LeaningTowerModel", "weighs", "(IJ)V"⟩, 76) := ⟨⟨by decide +kernel, by decide +kernel⟩, List.mem_of_getElem? (i := 1215) (by decide +kernel), List.mem_of_getElem? (i := 1661) (by decide +kernel), List.mem_of_getElem? (i := 1662) (by decide +kernel)⟩
theorem lw_p60 : lw_okq (⟨"LeaningTowerModel", "overhang", "(IJ)J"⟩, 76) := ⟨⟨by decide +kernel, by decide +kernel⟩, List.mem_of_getElem? (i := 1215) (by decide +kernel), List.mem_of_getElem? (i := 1665) (by decide +kernel), List.mem_of_getElem? (i := 1666) (by decide +kernel)⟩
theorem lw_p61 : lw_okq (⟨"LeaningTowerModel", "waterOn", "(I)I"⟩, 76) := ⟨⟨by decide +kernel, by decide +kernel⟩, List.mem_of_getElem? (i := 1215) (by decide +kernel), List.mem_of_getElem? (i := 1673) (by decide +kernel), List.mem_of_getElem? (i := 1674) (by decide +kernel)⟩
theorem lw_p62 : lw_okq (⟨"LeaningTowerModel", "loadOf", "(I)J"⟩, 76) := ⟨⟨by decide +kernel, by decide +kernel⟩, List.mem_of_getElem? (i := 1215) (by decide +kernel), List.mem_of_getElem? (i := 1677) (by decide +kernel), List.mem_of_getElem? (i := 1678) (by decide +kernel)⟩
theorem lw_p63 : lw_okq (⟨"LeaningTowerModel", "leanOf", "(I)J"⟩, 76) := ⟨⟨by decide +kernel, by decide +kernel⟩, List.mem_of_getElem? (i := 1215) (by decide +kernel), List.mem_of_getElem? (i := 1690) (by decide +kernel), List.mem_of_getElem? (i := 1691) (by decide +kernel)⟩
def lw_privs_4 : List (MethodName × Nat) := [(⟨"LeaningTowerModel", "asks", "()I"⟩, 76), (⟨"LeaningTowerModel", "goesOn", "()Z"⟩, 76), (⟨"LeaningTowerModel", "joins", "(I)V"⟩, 76), (⟨"LeaningTowerModel", "must", "(I)V"⟩, 76), (⟨"LeaningTowerModel", "enter", "(IIIII)I"⟩, 76), (⟨"LeaningTowerModel", "play", "()V"⟩, 76), (⟨"LeaningTowerModel", "gathers", "()V"⟩, 76), (⟨"LeaningTowerModel", "now", "()I"⟩, 76), (⟨"LeaningTowerModel", "isKnown", "(I)Z"⟩, 76), (⟨"LeaningTowerModel", "leads", "()V"⟩, 76), (⟨"LeaningTowerModel", "goes", "(III)V"⟩, 76), (⟨"LeaningTowerModel", "weighs", "(IJ)V"⟩, 76), (⟨"LeaningTowerModel", "overhang", "(IJ)J"⟩, 76), (⟨"LeaningTowerModel", "waterOn", "(I)I"⟩, 76), (⟨"LeaningTowerModel", "loadOf", "(I)J"⟩, 76), (⟨"LeaningTowerModel", "leanOf", "(I)J"⟩, 76)]
theorem lw_r4 : ∀ q ∈ lw_privs_4, lw_okq q := List.forall_mem_cons.mpr ⟨lw_p48, List.forall_mem_cons.mpr ⟨lw_p49, List.forall_mem_cons.mpr ⟨lw_p50, List.forall_mem_cons.mpr ⟨lw_p51, List.forall_mem_cons.mpr ⟨lw_p52, List.forall_mem_cons.mpr ⟨lw_p53, List.forall_mem_cons.mpr ⟨lw_p54, List.forall_mem_cons.mpr ⟨lw_p55, List.forall_mem_cons.mpr ⟨lw_p56, List.forall_mem_cons.mpr ⟨lw_p57, List.forall_mem_cons.mpr ⟨lw_p58, List.forall_mem_cons.mpr ⟨lw_p59, List.forall_mem_cons.mpr ⟨lw_p60, List.forall_mem_cons.mpr ⟨lw_p61, List.forall_mem_cons.mpr ⟨lw_p62, List.forall_mem_cons.mpr ⟨lw_p63, fun _ h => absurd h List.not_mem_nil⟩⟩⟩⟩⟩⟩⟩⟩⟩⟩⟩⟩⟩⟩⟩⟩
theorem lw_p64 : lw_okq (⟨"LeaningTowerModel", "inForce", "(I)I"⟩, 76) := ⟨⟨by decide +kernel, by decide +kernel⟩, List.mem_of_getElem? (i := 1215) (by decide +kernel), List.mem_of_getElem? (i := 1715) (by decide +kernel), List.mem_of_getElem? (i := 1716) (by decide +kernel)⟩
theorem lw_p65 : lw_okq (⟨"LeaningTowerModel", "mayDo", "(III)I"⟩, 76) := ⟨⟨by decide +kernel, by decide +kernel⟩, List.mem_of_getElem? (i := 1215) (by decide +kernel), List.mem_of_getElem? (i := 1723) (by decide +kernel), List.mem_of_getElem? (i := 1724) (by decide +kernel)⟩
theorem lw_p66 : lw_okq (⟨"LeaningTowerModel", "asksOn", "(I)V"⟩, 76) := ⟨⟨by decide +kernel, by decide +kernel⟩, List.mem_of_getElem? (i := 1215) (by decide +kernel), List.mem_of_getElem? (i := 1727) (by decide +kernel), List.mem_of_getElem? (i := 1728) (by decide +kernel)⟩
theorem lw_p67 : lw_okq (⟨"LeaningTowerModel", "runs", "(II)J"⟩, 76) := ⟨⟨by decide +kernel, by decide +kernel⟩, List.mem_of_getElem? (i := 1215) (by decide +kernel), List.mem_of_getElem? (i := 1731) (by decide +kernel), List.mem_of_getElem? (i := 1732) (by decide +kernel)⟩
theorem lw_p68 : lw_okq (⟨"LeaningTowerModel", "isBreach", "(I)Z"⟩, 76) := ⟨⟨by decide +kernel, by decide +kernel⟩, List.mem_of_getElem? (i := 1215) (by decide +kernel), List.mem_of_getElem? (i := 1751) (by decide +kernel), List.mem_of_getElem? (i := 1752) (by decide +kernel)⟩
theorem lw_p69 : lw_okq (⟨"LeaningTowerModel", "rightOf", "(I)I"⟩, 76) := ⟨⟨by decide +kernel, by decide +kernel⟩, List.mem_of_getElem? (i := 1215) (by decide +kernel), List.mem_of_getElem? (i := 1763) (by decide +kernel), List.mem_of_getElem? (i := 1764) (by decide +kernel)⟩
theorem lw_p70 : lw_okq (⟨"LeaningTowerModel", "warmthOn", "(I)I"⟩, 76) := ⟨⟨by decide +kernel, by decide +kernel⟩, List.mem_of_getElem? (i := 1215) (by decide +kernel), List.mem_of_getElem? (i := 1767) (by decide +kernel), List.mem_of_getElem? (i := 1768) (by decide +kernel)⟩
theorem lw_p71 : lw_okq (⟨"LeaningTowerModel", "fits", "(III)V"⟩, 76) := ⟨⟨by decide +kernel, by decide +kernel⟩, List.mem_of_getElem? (i := 1215) (by decide +kernel), List.mem_of_getElem? (i := 1779) (by decide +kernel), List.mem_of_getElem? (i := 1780) (by decide +kernel)⟩
theorem lw_p72 : lw_okq (⟨"LeaningTowerModel", "litresOf", "(I)I"⟩, 76) := ⟨⟨by decide +kernel, by decide +kernel⟩, List.mem_of_getElem? (i := 1215) (by decide +kernel), List.mem_of_getElem? (i := 1797) (by decide +kernel), List.mem_of_getElem? (i := 1798) (by decide +kernel)⟩
theorem lw_p73 : lw_okq (⟨"LeaningTowerModel", "isBurst", "(IJ)Z"⟩, 76) := ⟨⟨by decide +kernel, by decide +kernel⟩, List.mem_of_getElem? (i := 1215) (by decide +kernel), List.mem_of_getElem? (i := 1809) (by decide +kernel), List.mem_of_getElem? (i := 1810) (by decide +kernel)⟩
theorem lw_p74 : lw_okq (⟨"LeaningTowerModel", "does", "(I)I"⟩, 76) := ⟨⟨by decide +kernel, by decide +kernel⟩, List.mem_of_getElem? (i := 1215) (by decide +kernel), List.mem_of_getElem? (i := 1834) (by decide +kernel), List.mem_of_getElem? (i := 1835) (by decide +kernel)⟩
def lw_privs_5 : List (MethodName × Nat) := [(⟨"LeaningTowerModel", "inForce", "(I)I"⟩, 76), (⟨"LeaningTowerModel", "mayDo", "(III)I"⟩, 76), (⟨"LeaningTowerModel", "asksOn", "(I)V"⟩, 76), (⟨"LeaningTowerModel", "runs", "(II)J"⟩, 76), (⟨"LeaningTowerModel", "isBreach", "(I)Z"⟩, 76), (⟨"LeaningTowerModel", "rightOf", "(I)I"⟩, 76), (⟨"LeaningTowerModel", "warmthOn", "(I)I"⟩, 76), (⟨"LeaningTowerModel", "fits", "(III)V"⟩, 76), (⟨"LeaningTowerModel", "litresOf", "(I)I"⟩, 76), (⟨"LeaningTowerModel", "isBurst", "(IJ)Z"⟩, 76), (⟨"LeaningTowerModel", "does", "(I)I"⟩, 76)]
theorem lw_r5 : ∀ q ∈ lw_privs_5, lw_okq q := List.forall_mem_cons.mpr ⟨lw_p64, List.forall_mem_cons.mpr ⟨lw_p65, List.forall_mem_cons.mpr ⟨lw_p66, List.forall_mem_cons.mpr ⟨lw_p67, List.forall_mem_cons.mpr ⟨lw_p68, List.forall_mem_cons.mpr ⟨lw_p69, List.forall_mem_cons.mpr ⟨lw_p70, List.forall_mem_cons.mpr ⟨lw_p71, List.forall_mem_cons.mpr ⟨lw_p72, List.forall_mem_cons.mpr ⟨lw_p73, List.forall_mem_cons.mpr ⟨lw_p74, fun _ h => absurd h List.not_mem_nil⟩⟩⟩⟩⟩⟩⟩⟩⟩⟩⟩
def lw_privs : List (MethodName × Nat) := lw_privs_1 ++ (lw_privs_2 ++ (lw_privs_3 ++ (lw_privs_4 ++ (lw_privs_5))))
def lw_tbl : List Cond := k2_sels lw_privs ++ tables_1
theorem lw_privs_ok : ∀ q ∈ lw_privs, lw_okq q := by
  show ∀ q ∈ lw_privs_1 ++ (lw_privs_2 ++ (lw_privs_3 ++ (lw_privs_4 ++ (lw_privs_5)))), lw_okq q
  exact List.forall_mem_append.mpr ⟨lw_r1, List.forall_mem_append.mpr ⟨lw_r2, List.forall_mem_append.mpr ⟨lw_r3, List.forall_mem_append.mpr ⟨lw_r4, lw_r5⟩⟩⟩⟩
-- ===== end of PART A; then your names; then what follows =====
def RX0 : String := "LeaningTower$Act"
def TX0 : u_T := fun k => match k with
  | 0 => ("LeaningTower$Act", "kind", "I", true)
  | 1 => ("LeaningTower$Act", "from", "I", true)
  | 2 => ("LeaningTower$Act", "to", "I", true)
  | 3 => ("LeaningTower$Act", "where", "I", true)
  | 4 => ("LeaningTower$Act", "much", "I", true)
  | 5 => ("LeaningTower$Act", "arm", "I", true)
  | 6 => ("LeaningTower$Act", "code", "[I", true)
  | 7 => ("LeaningTower$Act", "voidBy", "I", false)
  | _ => ("LeaningTower$Act", "known", "Z", false)
def tyX0 : Nat → FieldType := fun k => match k with
  | 0 => .int
  | 1 => .int
  | 2 => .int
  | 3 => .int
  | 4 => .int
  | 5 => .int
  | 6 => .array .int
  | 7 => .int
  | _ => .boolean
abbrev wsX00 : List Cond := u_ws RX0 TX0 9
theorem nmX0 : ∀ a, a < 9 → ∀ b, b < 9 → a ≠ b → (TX0 a).2.1 ≠ (TX0 b).2.1 := by decide +kernel
theorem tyX0_ok : ∀ k, k < 9 → parseFieldDescriptor (TX0 k).2.2.1 = some (tyX0 k) := by decide +kernel
abbrev cX0_init : ByteArray := prog_2_method_1_code
def yX0_init : MethodName := ⟨RX0, "<init>", "(IIIIII[I)V"⟩
abbrev cX0_isKnown : ByteArray := prog_2_method_2_code
def yX0_isKnown : MethodName := ⟨RX0, "isKnown", "(I)Z"⟩
abbrev cX0_isWork : ByteArray := prog_2_method_3_code
def yX0_isWork : MethodName := ⟨RX0, "isWork", "()Z"⟩
def RX1 : String := "LeaningTower$Book"
def TX1 : u_T := fun k => match k with
  | 0 => ("LeaningTower$Book", "days", "LLeaningTower$Days;", true)
  | 1 => ("LeaningTower$Book", "acts", "[LLeaningTower$Act;", true)
  | 2 => ("LeaningTower$Book", "count", "I", false)
  | 3 => ("LeaningTower$Book", "asOf", "I", false)
  | _ => ("LeaningTower$Book", "changes", "I", false)
def tyX1 : Nat → FieldType := fun k => match k with
  | 0 => .object "LeaningTower$Days"
  | 1 => .array (.object "LeaningTower$Act")
  | 2 => .int
  | 3 => .int
  | _ => .int
abbrev wsX10 : List Cond := u_ws RX1 TX1 5
theorem nmX1 : ∀ a, a < 5 → ∀ b, b < 5 → a ≠ b → (TX1 a).2.1 ≠ (TX1 b).2.1 := by decide +kernel
theorem tyX1_ok : ∀ k, k < 5 → parseFieldDescriptor (TX1 k).2.2.1 = some (tyX1 k) := by decide +kernel
abbrev cX1_init : ByteArray := prog_3_method_1_code
def yX1_init : MethodName := ⟨RX1, "<init>", "(LLeaningTower$Days;)V"⟩
abbrev cX1_size : ByteArray := prog_3_method_2_code
def yX1_size : MethodName := ⟨RX1, "size", "()I"⟩
abbrev cX1_isFull : ByteArray := prog_3_method_3_code
def yX1_isFull : MethodName := ⟨RX1, "isFull", "()Z"⟩
abbrev cX1_changeCount : ByteArray := prog_3_method_4_code
def yX1_changeCount : MethodName := ⟨RX1, "changeCount", "()I"⟩
abbrev cX1_knownAt : ByteArray := prog_3_method_5_code
def yX1_knownAt : MethodName := ⟨RX1, "knownAt", "()I"⟩
abbrev cX1_act : ByteArray := prog_3_method_6_code
def yX1_act : MethodName := ⟨RX1, "act", "(I)LLeaningTower$Act;"⟩
abbrev cX1_write : ByteArray := prog_3_method_7_code
def yX1_write : MethodName := ⟨RX1, "write", "(LLeaningTower$Act;)I"⟩
abbrev cX1_strike : ByteArray := prog_3_method_8_code
def yX1_strike : MethodName := ⟨RX1, "strike", "(I)I"⟩
abbrev cX1_turnTo : ByteArray := prog_3_method_9_code
def yX1_turnTo : MethodName := ⟨RX1, "turnTo", "(I)Z"⟩
abbrev cX1_countKnown : ByteArray := prog_3_method_10_code
def yX1_countKnown : MethodName := ⟨RX1, "countKnown", "(II)I"⟩
abbrev cX1_learn : ByteArray := prog_3_method_11_code
def yX1_learn : MethodName := ⟨RX1, "learn", "()V"⟩
def RX2 : String := "LeaningTower$Causes"
def TX2 : u_T := fun k => match k with
  | 0 => ("LeaningTower$Causes", "leasts", "[I", true)
  | 1 => ("LeaningTower$Causes", "greatests", "[I", true)
  | 2 => ("LeaningTower$Causes", "count", "I", false)
  | 3 => ("LeaningTower$Causes", "sets", "I", false)
  | 4 => ("LeaningTower$Causes", "inAll", "I", false)
  | _ => ("LeaningTower$Causes", "inSome", "I", false)
def tyX2 : Nat → FieldType := fun k => match k with
  | 0 => .array .int
  | 1 => .array .int
  | 2 => .int
  | 3 => .int
  | 4 => .int
  | _ => .int
abbrev wsX20 : List Cond := u_ws RX2 TX2 6
theorem nmX2 : ∀ a, a < 6 → ∀ b, b < 6 → a ≠ b → (TX2 a).2.1 ≠ (TX2 b).2.1 := by decide +kernel
theorem tyX2_ok : ∀ k, k < 6 → parseFieldDescriptor (TX2 k).2.2.1 = some (tyX2 k) := by decide +kernel
abbrev cX2_init : ByteArray := prog_4_method_1_code
def yX2_init : MethodName := ⟨RX2, "<init>", "()V"⟩
abbrev cX2_size : ByteArray := prog_4_method_2_code
def yX2_size : MethodName := ⟨RX2, "size", "()I"⟩
abbrev cX2_tell : ByteArray := prog_4_method_3_code
def yX2_tell : MethodName := ⟨RX2, "tell", "(II)I"⟩
abbrev cX2_clear : ByteArray := prog_4_method_4_code
def yX2_clear : MethodName := ⟨RX2, "clear", "()I"⟩
abbrev cX2_weigh : ByteArray := prog_4_method_5_code
def yX2_weigh : MethodName := ⟨RX2, "weigh", "(I)V"⟩
abbrev cX2_setCount : ByteArray := prog_4_method_6_code
def yX2_setCount : MethodName := ⟨RX2, "setCount", "()I"⟩
abbrev cX2_found : ByteArray := prog_4_method_7_code
def yX2_found : MethodName := ⟨RX2, "found", "(Z)I"⟩
def RX3 : String := "LeaningTower$Days"
def TX3 : u_T := fun k => match k with
  | 0 => ("LeaningTower$Days", "wet", "LLeaningTower$Told;", true)
  | 1 => ("LeaningTower$Days", "stones", "LLeaningTower$Stones;", true)
  | 2 => ("LeaningTower$Days", "stiff", "[I", true)
  | 3 => ("LeaningTower$Days", "leadTons", "[I", true)
  | 4 => ("LeaningTower$Days", "leadMoment", "[J", true)
  | 5 => ("LeaningTower$Days", "litres", "[I", true)
  | 6 => ("LeaningTower$Days", "worked", "[[I", true)
  | 7 => ("LeaningTower$Days", "settled", "[[J", true)
  | 8 => ("LeaningTower$Days", "lean", "[I", true)
  | 9 => ("LeaningTower$Days", "worst", "[I", true)
  | 10 => ("LeaningTower$Days", "drawn", "[I", true)
  | 11 => ("LeaningTower$Days", "reached", "I", false)
  | _ => ("LeaningTower$Days", "changes", "I", false)
def tyX3 : Nat → FieldType := fun k => match k with
  | 0 => .object "LeaningTower$Told"
  | 1 => .object "LeaningTower$Stones"
  | 2 => .array .int
  | 3 => .array .int
  | 4 => .array .long
  | 5 => .array .int
  | 6 => .array (.array .int)
  | 7 => .array (.array .long)
  | 8 => .array .int
  | 9 => .array .int
  | 10 => .array .int
  | 11 => .int
  | _ => .int
abbrev wsX30 : List Cond := u_ws RX3 TX3 13
theorem nmX3 : ∀ a, a < 13 → ∀ b, b < 13 → a ≠ b → (TX3 a).2.1 ≠ (TX3 b).2.1 := by decide +kernel
theorem tyX3_ok : ∀ k, k < 13 → parseFieldDescriptor (TX3 k).2.2.1 = some (tyX3 k) := by decide +kernel
abbrev cX3_init : ByteArray := prog_5_method_1_code
def yX3_init : MethodName := ⟨RX3, "<init>", "(LLeaningTower$Told;LLeaningTower$Stones;)V"⟩
abbrev cX3_changeCount : ByteArray := prog_5_method_2_code
def yX3_changeCount : MethodName := ⟨RX3, "changeCount", "()I"⟩
abbrev cX3_stiffen : ByteArray := prog_5_method_3_code
def yX3_stiffen : MethodName := ⟨RX3, "stiffen", "(II)V"⟩
abbrev cX3_spoil : ByteArray := prog_5_method_4_code
def yX3_spoil : MethodName := ⟨RX3, "spoil", "(I)V"⟩
abbrev cX3_take : ByteArray := prog_5_method_5_code
def yX3_take : MethodName := ⟨RX3, "take", "(LLeaningTower$Act;I)V"⟩
abbrev cX3_reach : ByteArray := prog_5_method_6_code
def yX3_reach : MethodName := ⟨RX3, "reach", "(I)V"⟩
abbrev cX3_leanAt : ByteArray := prog_5_method_7_code
def yX3_leanAt : MethodName := ⟨RX3, "leanAt", "(I)I"⟩
abbrev cX3_worstAt : ByteArray := prog_5_method_8_code
def yX3_worstAt : MethodName := ⟨RX3, "worstAt", "(I)I"⟩
abbrev cX3_drawnAt : ByteArray := prog_5_method_9_code
def yX3_drawnAt : MethodName := ⟨RX3, "drawnAt", "(I)I"⟩
abbrev cX3_leadOn : ByteArray := prog_5_method_10_code
def yX3_leadOn : MethodName := ⟨RX3, "leadOn", "(I)I"⟩
abbrev cX3_settledAt : ByteArray := prog_5_method_11_code
def yX3_settledAt : MethodName := ⟨RX3, "settledAt", "(II)J"⟩
abbrev cX3_totalOn : ByteArray := prog_5_method_12_code
def yX3_totalOn : MethodName := ⟨RX3, "totalOn", "(I)J"⟩
abbrev cX3_momentOn : ByteArray := prog_5_method_13_code
def yX3_momentOn : MethodName := ⟨RX3, "momentOn", "(II)J"⟩
abbrev cX3_loadOf : ByteArray := prog_5_method_14_code
def yX3_loadOf : MethodName := ⟨RX3, "loadOf", "(IJJ)J"⟩
abbrev cX3_sumAt : ByteArray := prog_5_method_15_code
def yX3_sumAt : MethodName := ⟨RX3, "sumAt", "(I)J"⟩
abbrev cX3_sumGrowth : ByteArray := prog_5_method_16_code
def yX3_sumGrowth : MethodName := ⟨RX3, "sumGrowth", "(II)J"⟩
abbrev cX3_live : ByteArray := prog_5_method_17_code
def yX3_live : MethodName := ⟨RX3, "live", "(I)V"⟩
abbrev cX3_given : ByteArray := prog_5_method_18_code
def yX3_given : MethodName := ⟨RX3, "given", "(IIJJ)J"⟩
def RX4 : String := "LeaningTower$Gauges"
def TX4 : u_T := fun k => match k with
  | 0 => ("LeaningTower$Gauges", "book", "LLeaningTower$Book;", true)
  | 1 => ("LeaningTower$Gauges", "days", "LLeaningTower$Days;", true)
  | 2 => ("LeaningTower$Gauges", "warm", "LLeaningTower$Told;", true)
  | 3 => ("LeaningTower$Gauges", "sun", "[I", true)
  | 4 => ("LeaningTower$Gauges", "drift", "[I", true)
  | 5 => ("LeaningTower$Gauges", "noise", "[I", true)
  | 6 => ("LeaningTower$Gauges", "acts", "[I", true)
  | 7 => ("LeaningTower$Gauges", "low", "[J", true)
  | 8 => ("LeaningTower$Gauges", "high", "[J", true)
  | 9 => ("LeaningTower$Gauges", "count", "I", false)
  | 10 => ("LeaningTower$Gauges", "lower", "J", false)
  | 11 => ("LeaningTower$Gauges", "nextLower", "J", false)
  | 12 => ("LeaningTower$Gauges", "upper", "J", false)
  | _ => ("LeaningTower$Gauges", "nextUpper", "J", false)
def tyX4 : Nat → FieldType := fun k => match k with
  | 0 => .object "LeaningTower$Book"
  | 1 => .object "LeaningTower$Days"
  | 2 => .object "LeaningTower$Told"
  | 3 => .array .int
  | 4 => .array .int
  | 5 => .array .int
  | 6 => .array .int
  | 7 => .array .long
  | 8 => .array .long
  | 9 => .int
  | 10 => .long
  | 11 => .long
  | 12 => .long
  | _ => .long
abbrev wsX40 : List Cond := u_ws RX4 TX4 14
theorem nmX4 : ∀ a, a < 14 → ∀ b, b < 14 → a ≠ b → (TX4 a).2.1 ≠ (TX4 b).2.1 := by decide +kernel
theorem tyX4_ok : ∀ k, k < 14 → parseFieldDescriptor (TX4 k).2.2.1 = some (tyX4 k) := by decide +kernel
abbrev cX4_init : ByteArray := prog_6_method_1_code
def yX4_init : MethodName := ⟨RX4, "<init>", "(LLeaningTower$Book;LLeaningTower$Days;LLeaningTower$Told;)V"⟩
abbrev cX4_set : ByteArray := prog_6_method_2_code
def yX4_set : MethodName := ⟨RX4, "set", "(IIII)V"⟩
abbrev cX4_putRight : ByteArray := prog_6_method_3_code
def yX4_putRight : MethodName := ⟨RX4, "putRight", "(LLeaningTower$Act;)I"⟩
abbrev cX4_gather : ByteArray := prog_6_method_4_code
def yX4_gather : MethodName := ⟨RX4, "gather", "(II)V"⟩
abbrev cX4_narrow : ByteArray := prog_6_method_5_code
def yX4_narrow : MethodName := ⟨RX4, "narrow", "(JJ)V"⟩
abbrev cX4_bound : ByteArray := prog_6_method_6_code
def yX4_bound : MethodName := ⟨RX4, "bound", "(Z)J"⟩
abbrev cX4_oddOne : ByteArray := prog_6_method_7_code
def yX4_oddOne : MethodName := ⟨RX4, "oddOne", "()I"⟩
def RX5 : String := "LeaningTower$Judge"
def TX5 : u_T := fun k => match k with
  | 0 => ("LeaningTower$Judge", "book", "LLeaningTower$Book;", true)
  | 1 => ("LeaningTower$Judge", "days", "LLeaningTower$Days;", true)
  | 2 => ("LeaningTower$Judge", "wet", "LLeaningTower$Told;", true)
  | 3 => ("LeaningTower$Judge", "facts", "[J", true)
  | 4 => ("LeaningTower$Judge", "dayAtHand", "I", false)
  | 5 => ("LeaningTower$Judge", "total", "J", false)
  | 6 => ("LeaningTower$Judge", "moment", "J", false)
  | 7 => ("LeaningTower$Judge", "stack", "[J", true)
  | 8 => ("LeaningTower$Judge", "breached", "[I", true)
  | 9 => ("LeaningTower$Judge", "breachedCount", "I", false)
  | 10 => ("LeaningTower$Judge", "bookSeen", "I", false)
  | _ => ("LeaningTower$Judge", "daysSeen", "I", false)
def tyX5 : Nat → FieldType := fun k => match k with
  | 0 => .object "LeaningTower$Book"
  | 1 => .object "LeaningTower$Days"
  | 2 => .object "LeaningTower$Told"
  | 3 => .array .long
  | 4 => .int
  | 5 => .long
  | 6 => .long
  | 7 => .array .long
  | 8 => .array .int
  | 9 => .int
  | 10 => .int
  | _ => .int
abbrev wsX50 : List Cond := u_ws RX5 TX5 12
theorem nmX5 : ∀ a, a < 12 → ∀ b, b < 12 → a ≠ b → (TX5 a).2.1 ≠ (TX5 b).2.1 := by decide +kernel
theorem tyX5_ok : ∀ k, k < 12 → parseFieldDescriptor (TX5 k).2.2.1 = some (tyX5 k) := by decide +kernel
abbrev cX5_init : ByteArray := prog_7_method_1_code
def yX5_init : MethodName := ⟨RX5, "<init>", "(LLeaningTower$Book;LLeaningTower$Days;LLeaningTower$Told;)V"⟩
abbrev cX5_ruling : ByteArray := prog_7_method_2_code
def yX5_ruling : MethodName := ⟨RX5, "ruling", "(I)I"⟩
abbrev cX5_verdict : ByteArray := prog_7_method_3_code
def yX5_verdict : MethodName := ⟨RX5, "verdict", "(III)I"⟩
abbrev cX5_findBreaches : ByteArray := prog_7_method_4_code
def yX5_findBreaches : MethodName := ⟨RX5, "findBreaches", "()V"⟩
abbrev cX5_breachCount : ByteArray := prog_7_method_5_code
def yX5_breachCount : MethodName := ⟨RX5, "breachCount", "()I"⟩
abbrev cX5_breachAt : ByteArray := prog_7_method_6_code
def yX5_breachAt : MethodName := ⟨RX5, "breachAt", "(I)I"⟩
abbrev cX5_lookAt : ByteArray := prog_7_method_7_code
def yX5_lookAt : MethodName := ⟨RX5, "lookAt", "(I)V"⟩
abbrev cX5_value : ByteArray := prog_7_method_8_code
def yX5_value : MethodName := ⟨RX5, "value", "([III)J"⟩
abbrev cX5_isJoin : ByteArray := prog_7_method_9_code
def yX5_isJoin : MethodName := ⟨RX5, "isJoin", "(I)Z"⟩
abbrev cX5_single : ByteArray := prog_7_method_10_code
def yX5_single : MethodName := ⟨RX5, "single", "(II)J"⟩
abbrev cX5_join : ByteArray := prog_7_method_11_code
def yX5_join : MethodName := ⟨RX5, "join", "(II)I"⟩
abbrev cX5_joined : ByteArray := prog_7_method_12_code
def yX5_joined : MethodName := ⟨RX5, "joined", "(IJJ)J"⟩
abbrev cX5_bounded : ByteArray := prog_7_method_13_code
def yX5_bounded : MethodName := ⟨RX5, "bounded", "(J)J"⟩
abbrev cX5_product : ByteArray := prog_7_method_14_code
def yX5_product : MethodName := ⟨RX5, "product", "(JJ)J"⟩
def RX6 : String := "LeaningTower$Reader"
def TX6 : u_T := fun k => match k with
  | 0 => ("LeaningTower$Reader", "text", "[B", true)
  | 1 => ("LeaningTower$Reader", "length", "I", false)
  | 2 => ("LeaningTower$Reader", "kinds", "[I", true)
  | 3 => ("LeaningTower$Reader", "starts", "[I", true)
  | 4 => ("LeaningTower$Reader", "wrongs", "[I", true)
  | 5 => ("LeaningTower$Reader", "numbers", "[I", true)
  | 6 => ("LeaningTower$Reader", "tokens", "I", false)
  | 7 => ("LeaningTower$Reader", "token", "I", false)
  | 8 => ("LeaningTower$Reader", "start", "I", false)
  | 9 => ("LeaningTower$Reader", "wrong", "I", false)
  | 10 => ("LeaningTower$Reader", "number", "I", false)
  | 11 => ("LeaningTower$Reader", "gone", "I", false)
  | 12 => ("LeaningTower$Reader", "fault", "I", false)
  | 13 => ("LeaningTower$Reader", "place", "I", false)
  | 14 => ("LeaningTower$Reader", "code", "[I", true)
  | _ => ("LeaningTower$Reader", "cells", "I", false)
def tyX6 : Nat → FieldType := fun k => match k with
  | 0 => .array .byte
  | 1 => .int
  | 2 => .array .int
  | 3 => .array .int
  | 4 => .array .int
  | 5 => .array .int
  | 6 => .int
  | 7 => .int
  | 8 => .int
  | 9 => .int
  | 10 => .int
  | 11 => .int
  | 12 => .int
  | 13 => .int
  | 14 => .array .int
  | _ => .int
abbrev wsX60 : List Cond := u_ws RX6 TX6 16
theorem nmX6 : ∀ a, a < 16 → ∀ b, b < 16 → a ≠ b → (TX6 a).2.1 ≠ (TX6 b).2.1 := by decide +kernel
theorem tyX6_ok : ∀ k, k < 16 → parseFieldDescriptor (TX6 k).2.2.1 = some (tyX6 k) := by decide +kernel
abbrev cX6_init : ByteArray := prog_8_method_1_code
def yX6_init : MethodName := ⟨RX6, "<init>", "()V"⟩
abbrev cX6_size : ByteArray := prog_8_method_2_code
def yX6_size : MethodName := ⟨RX6, "size", "()I"⟩
abbrev cX6_hasRoom : ByteArray := prog_8_method_3_code
def yX6_hasRoom : MethodName := ⟨RX6, "hasRoom", "()Z"⟩
abbrev cX6_write : ByteArray := prog_8_method_4_code
def yX6_write : MethodName := ⟨RX6, "write", "(I)V"⟩
abbrev cX6_cut : ByteArray := prog_8_method_5_code
def yX6_cut : MethodName := ⟨RX6, "cut", "(I)Z"⟩
abbrev cX6_drop : ByteArray := prog_8_method_6_code
def yX6_drop : MethodName := ⟨RX6, "drop", "()V"⟩
abbrev cX6_faultFound : ByteArray := prog_8_method_7_code
def yX6_faultFound : MethodName := ⟨RX6, "faultFound", "()I"⟩
abbrev cX6_faultPlace : ByteArray := prog_8_method_8_code
def yX6_faultPlace : MethodName := ⟨RX6, "faultPlace", "()I"⟩
abbrev cX6_read : ByteArray := prog_8_method_9_code
def yX6_read : MethodName := ⟨RX6, "read", "()[I"⟩
abbrev cX6_statement : ByteArray := prog_8_method_10_code
def yX6_statement : MethodName := ⟨RX6, "statement", "()V"⟩
abbrev cX6_test : ByteArray := prog_8_method_11_code
def yX6_test : MethodName := ⟨RX6, "test", "(I)V"⟩
abbrev cX6_both : ByteArray := prog_8_method_12_code
def yX6_both : MethodName := ⟨RX6, "both", "(I)V"⟩
abbrev cX6_fact : ByteArray := prog_8_method_13_code
def yX6_fact : MethodName := ⟨RX6, "fact", "(I)V"⟩
abbrev cX6_comparison : ByteArray := prog_8_method_14_code
def yX6_comparison : MethodName := ⟨RX6, "comparison", "(I)V"⟩
abbrev cX6_sum : ByteArray := prog_8_method_15_code
def yX6_sum : MethodName := ⟨RX6, "sum", "(I)V"⟩
abbrev cX6_product : ByteArray := prog_8_method_16_code
def yX6_product : MethodName := ⟨RX6, "product", "(I)V"⟩
abbrev cX6_part : ByteArray := prog_8_method_17_code
def yX6_part : MethodName := ⟨RX6, "part", "(I)V"⟩
abbrev cX6_opens : ByteArray := prog_8_method_18_code
def yX6_opens : MethodName := ⟨RX6, "opens", "(II)Z"⟩
abbrev cX6_expect : ByteArray := prog_8_method_19_code
def yX6_expect : MethodName := ⟨RX6, "expect", "(Z)V"⟩
abbrev cX6_fail : ByteArray := prog_8_method_20_code
def yX6_fail : MethodName := ⟨RX6, "fail", "(II)V"⟩
abbrev cX6_emit : ByteArray := prog_8_method_21_code
def yX6_emit : MethodName := ⟨RX6, "emit", "(I)V"⟩
abbrev cX6_next : ByteArray := prog_8_method_22_code
def yX6_next : MethodName := ⟨RX6, "next", "()V"⟩
abbrev cX6_split : ByteArray := prog_8_method_23_code
def yX6_split : MethodName := ⟨RX6, "split", "()V"⟩
abbrev cX6_takeRun : ByteArray := prog_8_method_24_code
def yX6_takeRun : MethodName := ⟨RX6, "takeRun", "(I)I"⟩
abbrev cX6_takeSign : ByteArray := prog_8_method_25_code
def yX6_takeSign : MethodName := ⟨RX6, "takeSign", "(I)V"⟩
abbrev cX6_put : ByteArray := prog_8_method_26_code
def yX6_put : MethodName := ⟨RX6, "put", "(IIII)V"⟩
abbrev cX6_wordOf : ByteArray := prog_8_method_27_code
def yX6_wordOf : MethodName := ⟨RX6, "wordOf", "(II)I"⟩
abbrev cX6_isSpelled : ByteArray := prog_8_method_28_code
def yX6_isSpelled : MethodName := ⟨RX6, "isSpelled", "(Ljava/lang/String;II)Z"⟩
abbrev cX6_numberOf : ByteArray := prog_8_method_29_code
def yX6_numberOf : MethodName := ⟨RX6, "numberOf", "(II)I"⟩
abbrev cX6_isLetter : ByteArray := prog_8_method_30_code
def yX6_isLetter : MethodName := ⟨RX6, "isLetter", "(I)Z"⟩
abbrev cX6_isDigit : ByteArray := prog_8_method_31_code
def yX6_isDigit : MethodName := ⟨RX6, "isDigit", "(I)Z"⟩
abbrev cX6_signAt : ByteArray := prog_8_method_32_code
def yX6_signAt : MethodName := ⟨RX6, "signAt", "(I)I"⟩
abbrev cX6_spelling : ByteArray := prog_8_method_33_code
def yX6_spelling : MethodName := ⟨RX6, "spelling", "(I)Ljava/lang/String;"⟩
def RX7 : String := "LeaningTower$Spooner"
def TX7 : u_T := fun k => match k with
  | 0 => ("LeaningTower$Spooner", "days", "LLeaningTower$Days;", true)
  | 1 => ("LeaningTower$Spooner", "column", "[I", true)
  | 2 => ("LeaningTower$Spooner", "litres", "[I", true)
  | 3 => ("LeaningTower$Spooner", "day", "I", false)
  | 4 => ("LeaningTower$Spooner", "n", "I", false)
  | 5 => ("LeaningTower$Spooner", "aim", "I", false)
  | 6 => ("LeaningTower$Spooner", "ceiling", "J", false)
  | 7 => ("LeaningTower$Spooner", "least", "I", false)
  | 8 => ("LeaningTower$Spooner", "choice", "[I", true)
  | 9 => ("LeaningTower$Spooner", "kept", "[I", true)
  | 10 => ("LeaningTower$Spooner", "keptDays", "I", false)
  | _ => ("LeaningTower$Spooner", "met", "[J", true)
def tyX7 : Nat → FieldType := fun k => match k with
  | 0 => .object "LeaningTower$Days"
  | 1 => .array .int
  | 2 => .array .int
  | 3 => .int
  | 4 => .int
  | 5 => .int
  | 6 => .long
  | 7 => .int
  | 8 => .array .int
  | 9 => .array .int
  | 10 => .int
  | _ => .array .long
abbrev wsX70 : List Cond := u_ws RX7 TX7 12
theorem nmX7 : ∀ a, a < 12 → ∀ b, b < 12 → a ≠ b → (TX7 a).2.1 ≠ (TX7 b).2.1 := by decide +kernel
theorem tyX7_ok : ∀ k, k < 12 → parseFieldDescriptor (TX7 k).2.2.1 = some (tyX7 k) := by decide +kernel
abbrev cX7_init : ByteArray := prog_9_method_1_code
def yX7_init : MethodName := ⟨RX7, "<init>", "(LLeaningTower$Days;)V"⟩
abbrev cX7_tell : ByteArray := prog_9_method_2_code
def yX7_tell : MethodName := ⟨RX7, "tell", "(III)V"⟩
abbrev cX7_drawnOn : ByteArray := prog_9_method_3_code
def yX7_drawnOn : MethodName := ⟨RX7, "drawnOn", "(I)I"⟩
abbrev cX7_search : ByteArray := prog_9_method_4_code
def yX7_search : MethodName := ⟨RX7, "search", "(IIII)I"⟩
abbrev cX7_draw : ByteArray := prog_9_method_5_code
def yX7_draw : MethodName := ⟨RX7, "draw", "(IJII)V"⟩
abbrev cX7_isNoBetter : ByteArray := prog_9_method_6_code
def yX7_isNoBetter : MethodName := ⟨RX7, "isNoBetter", "(IJI)Z"⟩
abbrev cX7_keep : ByteArray := prog_9_method_7_code
def yX7_keep : MethodName := ⟨RX7, "keep", "(I)V"⟩
def RX8 : String := "LeaningTower$Stones"
def TX8 : u_T := fun k => match k with
  | 0 => ("LeaningTower$Stones", "tons", "[I", true)
  | 1 => ("LeaningTower$Stones", "high", "[I", true)
  | 2 => ("LeaningTower$Stones", "curve", "[I", true)
  | 3 => ("LeaningTower$Stones", "wide", "[I", true)
  | _ => ("LeaningTower$Stones", "bears", "[I", true)
def tyX8 : Nat → FieldType := fun k => match k with
  | 0 => .array .int
  | 1 => .array .int
  | 2 => .array .int
  | 3 => .array .int
  | _ => .array .int
abbrev wsX80 : List Cond := u_ws RX8 TX8 5
theorem nmX8 : ∀ a, a < 5 → ∀ b, b < 5 → a ≠ b → (TX8 a).2.1 ≠ (TX8 b).2.1 := by decide +kernel
theorem tyX8_ok : ∀ k, k < 5 → parseFieldDescriptor (TX8 k).2.2.1 = some (tyX8 k) := by decide +kernel
abbrev cX8_init : ByteArray := prog_10_method_1_code
def yX8_init : MethodName := ⟨RX8, "<init>", "()V"⟩
abbrev cX8_lay : ByteArray := prog_10_method_2_code
def yX8_lay : MethodName := ⟨RX8, "lay", "(IIII)V"⟩
abbrev cX8_hew : ByteArray := prog_10_method_3_code
def yX8_hew : MethodName := ⟨RX8, "hew", "(III)V"⟩
abbrev cX8_weight : ByteArray := prog_10_method_4_code
def yX8_weight : MethodName := ⟨RX8, "weight", "()J"⟩
abbrev cX8_momentAt : ByteArray := prog_10_method_5_code
def yX8_momentAt : MethodName := ⟨RX8, "momentAt", "(J)J"⟩
abbrev cX8_lowestBurst : ByteArray := prog_10_method_6_code
def yX8_lowestBurst : MethodName := ⟨RX8, "lowestBurst", "(JII)I"⟩
abbrev cX8_overhang : ByteArray := prog_10_method_7_code
def yX8_overhang : MethodName := ⟨RX8, "overhang", "(IJ)J"⟩
def RX9 : String := "LeaningTower$Told"
def TX9 : u_T := fun k => match k with
  | 0 => ("LeaningTower$Told", "number", "[I", true)
  | _ => ("LeaningTower$Told", "told", "[Z", true)
def tyX9 : Nat → FieldType := fun k => match k with
  | 0 => .array .int
  | _ => .array .boolean
abbrev wsX90 : List Cond := u_ws RX9 TX9 2
theorem nmX9 : ∀ a, a < 2 → ∀ b, b < 2 → a ≠ b → (TX9 a).2.1 ≠ (TX9 b).2.1 := by decide +kernel
theorem tyX9_ok : ∀ k, k < 2 → parseFieldDescriptor (TX9 k).2.2.1 = some (tyX9 k) := by decide +kernel
abbrev cX9_init : ByteArray := prog_11_method_1_code
def yX9_init : MethodName := ⟨RX9, "<init>", "(I)V"⟩
abbrev cX9_tell : ByteArray := prog_11_method_2_code
def yX9_tell : MethodName := ⟨RX9, "tell", "(II)V"⟩
abbrev cX9_on : ByteArray := prog_11_method_3_code
def yX9_on : MethodName := ⟨RX9, "on", "(I)I"⟩
def RX10 : String := "LeaningTower"
def TX10 : u_T := fun k => match k with
  | 0 => ("LeaningTower", "wet", "LLeaningTower$Told;", true)
  | 1 => ("LeaningTower", "warm", "LLeaningTower$Told;", true)
  | 2 => ("LeaningTower", "stones", "LLeaningTower$Stones;", true)
  | 3 => ("LeaningTower", "days", "LLeaningTower$Days;", true)
  | 4 => ("LeaningTower", "book", "LLeaningTower$Book;", true)
  | 5 => ("LeaningTower", "reader", "LLeaningTower$Reader;", true)
  | 6 => ("LeaningTower", "judge", "LLeaningTower$Judge;", true)
  | 7 => ("LeaningTower", "gauges", "LLeaningTower$Gauges;", true)
  | 8 => ("LeaningTower", "spooner", "LLeaningTower$Spooner;", true)
  | _ => ("LeaningTower", "causes", "LLeaningTower$Causes;", true)
def tyX10 : Nat → FieldType := fun k => match k with
  | 0 => .object "LeaningTower$Told"
  | 1 => .object "LeaningTower$Told"
  | 2 => .object "LeaningTower$Stones"
  | 3 => .object "LeaningTower$Days"
  | 4 => .object "LeaningTower$Book"
  | 5 => .object "LeaningTower$Reader"
  | 6 => .object "LeaningTower$Judge"
  | 7 => .object "LeaningTower$Gauges"
  | 8 => .object "LeaningTower$Spooner"
  | _ => .object "LeaningTower$Causes"
abbrev wsX100 : List Cond := u_ws RX10 TX10 10
theorem nmX10 : ∀ a, a < 10 → ∀ b, b < 10 → a ≠ b → (TX10 a).2.1 ≠ (TX10 b).2.1 := by decide +kernel
theorem tyX10_ok : ∀ k, k < 10 → parseFieldDescriptor (TX10 k).2.2.1 = some (tyX10 k) := by decide +kernel
abbrev cX10_init : ByteArray := prog_1_method_1_code
def yX10_init : MethodName := ⟨RX10, "<init>", "()V"⟩
abbrev cX10_feed : ByteArray := prog_1_method_2_code
def yX10_feed : MethodName := ⟨RX10, "feed", "(IIIII)I"⟩
abbrev cX10_end : ByteArray := prog_1_method_3_code
def yX10_end : MethodName := ⟨RX10, "end", "(I)Z"⟩
abbrev cX10_stiff : ByteArray := prog_1_method_4_code
def yX10_stiff : MethodName := ⟨RX10, "stiff", "(II)Z"⟩
abbrev cX10_ring : ByteArray := prog_1_method_5_code
def yX10_ring : MethodName := ⟨RX10, "ring", "(IIII)Z"⟩
abbrev cX10_stone : ByteArray := prog_1_method_6_code
def yX10_stone : MethodName := ⟨RX10, "stone", "(III)Z"⟩
abbrev cX10_water : ByteArray := prog_1_method_7_code
def yX10_water : MethodName := ⟨RX10, "water", "(II)Z"⟩
abbrev cX10_warmth : ByteArray := prog_1_method_8_code
def yX10_warmth : MethodName := ⟨RX10, "warmth", "(II)Z"⟩
abbrev cX10_gauge : ByteArray := prog_1_method_9_code
def yX10_gauge : MethodName := ⟨RX10, "gauge", "(IIII)Z"⟩
abbrev cX10_lead : ByteArray := prog_1_method_10_code
def yX10_lead : MethodName := ⟨RX10, "lead", "(IIII)I"⟩
abbrev cX10_pipe : ByteArray := prog_1_method_11_code
def yX10_pipe : MethodName := ⟨RX10, "pipe", "(III)I"⟩
abbrev cX10_frost : ByteArray := prog_1_method_12_code
def yX10_frost : MethodName := ⟨RX10, "frost", "(II)I"⟩
abbrev cX10_reading : ByteArray := prog_1_method_13_code
def yX10_reading : MethodName := ⟨RX10, "reading", "(III)I"⟩
abbrev cX10_mandate : ByteArray := prog_1_method_14_code
def yX10_mandate : MethodName := ⟨RX10, "mandate", "(I)I"⟩
abbrev cX10_fault : ByteArray := prog_1_method_15_code
def yX10_fault : MethodName := ⟨RX10, "fault", "(I)I"⟩
abbrev cX10_annul : ByteArray := prog_1_method_16_code
def yX10_annul : MethodName := ⟨RX10, "annul", "(I)I"⟩
abbrev cX10_as : ByteArray := prog_1_method_17_code
def yX10_as : MethodName := ⟨RX10, "as", "(I)Z"⟩
abbrev cX10_lean : ByteArray := prog_1_method_18_code
def yX10_lean : MethodName := ⟨RX10, "lean", "(I)I"⟩
abbrev cX10_settled : ByteArray := prog_1_method_19_code
def yX10_settled : MethodName := ⟨RX10, "settled", "(II)J"⟩
abbrev cX10_load : ByteArray := prog_1_method_20_code
def yX10_load : MethodName := ⟨RX10, "load", "(II)I"⟩
abbrev cX10_above : ByteArray := prog_1_method_21_code
def yX10_above : MethodName := ⟨RX10, "above", "(I)I"⟩
abbrev cX10_force : ByteArray := prog_1_method_22_code
def yX10_force : MethodName := ⟨RX10, "force", "(I)I"⟩
abbrev cX10_may : ByteArray := prog_1_method_23_code
def yX10_may : MethodName := ⟨RX10, "may", "(III)I"⟩
abbrev cX10_breaches : ByteArray := prog_1_method_24_code
def yX10_breaches : MethodName := ⟨RX10, "breaches", "()I"⟩
abbrev cX10_breach : ByteArray := prog_1_method_25_code
def yX10_breach : MethodName := ⟨RX10, "breach", "(I)I"⟩
abbrev cX10_right : ByteArray := prog_1_method_26_code
def yX10_right : MethodName := ⟨RX10, "right", "(I)I"⟩
abbrev cX10_fit : ByteArray := prog_1_method_27_code
def yX10_fit : MethodName := ⟨RX10, "fit", "(IIZ)J"⟩
abbrev cX10_odd : ByteArray := prog_1_method_28_code
def yX10_odd : MethodName := ⟨RX10, "odd", "(II)I"⟩
abbrev cX10_spoon : ByteArray := prog_1_method_29_code
def yX10_spoon : MethodName := ⟨RX10, "spoon", "(III)Z"⟩
abbrev cX10_spoons : ByteArray := prog_1_method_30_code
def yX10_spoons : MethodName := ⟨RX10, "spoons", "(IIII)I"⟩
abbrev cX10_drawn : ByteArray := prog_1_method_31_code
def yX10_drawn : MethodName := ⟨RX10, "drawn", "(I)I"⟩
abbrev cX10_bursts : ByteArray := prog_1_method_32_code
def yX10_bursts : MethodName := ⟨RX10, "bursts", "(II)I"⟩
abbrev cX10_first : ByteArray := prog_1_method_33_code
def yX10_first : MethodName := ⟨RX10, "first", "(ZII)I"⟩
abbrev cX10_cause : ByteArray := prog_1_method_34_code
def yX10_cause : MethodName := ⟨RX10, "cause", "(II)I"⟩
abbrev cX10_forget : ByteArray := prog_1_method_35_code
def yX10_forget : MethodName := ⟨RX10, "forget", "()I"⟩
abbrev cX10_lurch : ByteArray := prog_1_method_36_code
def yX10_lurch : MethodName := ⟨RX10, "lurch", "(IZ)I"⟩
abbrev cX10_sets : ByteArray := prog_1_method_37_code
def yX10_sets : MethodName := ⟨RX10, "sets", "(I)I"⟩
abbrev cX10_all : ByteArray := prog_1_method_38_code
def yX10_all : MethodName := ⟨RX10, "all", "(I)I"⟩
abbrev cX10_isWithin : ByteArray := prog_1_method_39_code
def yX10_isWithin : MethodName := ⟨RX10, "isWithin", "(JJJ)Z"⟩
abbrev cX10_isDay : ByteArray := prog_1_method_40_code
def yX10_isDay : MethodName := ⟨RX10, "isDay", "(I)Z"⟩
abbrev cX10_areDays : ByteArray := prog_1_method_41_code
def yX10_areDays : MethodName := ⟨RX10, "areDays", "(II)Z"⟩
abbrev cX10_isColumn : ByteArray := prog_1_method_42_code
def yX10_isColumn : MethodName := ⟨RX10, "isColumn", "(I)Z"⟩
abbrev cX10_isRing : ByteArray := prog_1_method_43_code
def yX10_isRing : MethodName := ⟨RX10, "isRing", "(I)Z"⟩
abbrev cX10_isGauge : ByteArray := prog_1_method_44_code
def yX10_isGauge : MethodName := ⟨RX10, "isGauge", "(I)Z"⟩
abbrev cX10_southOf : ByteArray := prog_1_method_45_code
def yX10_southOf : MethodName := ⟨RX10, "southOf", "(I)I"⟩
abbrev cX10_leanOf : ByteArray := prog_1_method_46_code
def yX10_leanOf : MethodName := ⟨RX10, "leanOf", "(J)I"⟩
def RX11 : String := "LeaningTowerModel"
def TX11 : u_T := fun k => match k with
  | 0 => ("LeaningTowerModel", "tape", "[I", true)
  | 1 => ("LeaningTowerModel", "taped", "I", false)
  | 2 => ("LeaningTowerModel", "size", "I", false)
  | 3 => ("LeaningTowerModel", "sign", "I", false)
  | 4 => ("LeaningTowerModel", "signAt", "I", false)
  | 5 => ("LeaningTowerModel", "signEnd", "I", false)
  | 6 => ("LeaningTowerModel", "value", "I", false)
  | 7 => ("LeaningTowerModel", "word", "J", false)
  | 8 => ("LeaningTowerModel", "faultKind", "I", false)
  | 9 => ("LeaningTowerModel", "faultPlace", "I", false)
  | 10 => ("LeaningTowerModel", "toldKind", "I", false)
  | 11 => ("LeaningTowerModel", "toldPlace", "I", false)
  | 12 => ("LeaningTowerModel", "longAt", "I", false)
  | 13 => ("LeaningTowerModel", "begun", "Z", false)
  | 14 => ("LeaningTowerModel", "into", "I", false)
  | 15 => ("LeaningTowerModel", "statements", "[I", true)
  | 16 => ("LeaningTowerModel", "sorts", "[I", true)
  | 17 => ("LeaningTowerModel", "works", "[I", true)
  | 18 => ("LeaningTowerModel", "froms", "[I", true)
  | 19 => ("LeaningTowerModel", "tos", "[I", true)
  | 20 => ("LeaningTowerModel", "code", "[I", true)
  | 21 => ("LeaningTowerModel", "codes", "I", false)
  | 22 => ("LeaningTowerModel", "frame", "[I", true)
  | 23 => ("LeaningTowerModel", "phase", "[I", true)
  | 24 => ("LeaningTowerModel", "begins", "[Z", true)
  | 25 => ("LeaningTowerModel", "pair", "[I", true)
  | 26 => ("LeaningTowerModel", "base", "[I", true)
  | 27 => ("LeaningTowerModel", "deep", "I", false)
  | 28 => ("LeaningTowerModel", "open", "I", false)
  | 29 => ("LeaningTowerModel", "ops", "[I", true)
  | 30 => ("LeaningTowerModel", "opMany", "I", false)
  | 31 => ("LeaningTowerModel", "operand", "Z", false)
  | 32 => ("LeaningTowerModel", "stiff", "[I", true)
  | 33 => ("LeaningTowerModel", "tons", "[I", true)
  | 34 => ("LeaningTowerModel", "high", "[I", true)
  | 35 => ("LeaningTowerModel", "curve", "[I", true)
  | 36 => ("LeaningTowerModel", "wide", "[I", true)
  | 37 => ("LeaningTowerModel", "bears", "[I", true)
  | 38 => ("LeaningTowerModel", "waters", "[I", true)
  | 39 => ("LeaningTowerModel", "isWet", "[Z", true)
  | 40 => ("LeaningTowerModel", "warmths", "[I", true)
  | 41 => ("LeaningTowerModel", "isWarm", "[Z", true)
  | 42 => ("LeaningTowerModel", "sun", "[I", true)
  | 43 => ("LeaningTowerModel", "drift", "[I", true)
  | 44 => ("LeaningTowerModel", "noise", "[I", true)
  | 45 => ("LeaningTowerModel", "acts", "I", false)
  | 46 => ("LeaningTowerModel", "told", "I", false)
  | 47 => ("LeaningTowerModel", "sort", "[I", true)
  | 48 => ("LeaningTowerModel", "days", "[I", true)
  | 49 => ("LeaningTowerModel", "first", "[I", true)
  | 50 => ("LeaningTowerModel", "second", "[I", true)
  | 51 => ("LeaningTowerModel", "third", "[I", true)
  | 52 => ("LeaningTowerModel", "voids", "[I", true)
  | 53 => ("LeaningTowerModel", "settled", "[J", true)
  | 54 => ("LeaningTowerModel", "leans", "[J", true)
  | 55 => ("LeaningTowerModel", "weight", "[J", true)
  | 56 => ("LeaningTowerModel", "arms", "[J", true)
  | 57 => ("LeaningTowerModel", "total", "J", false)
  | 58 => ("LeaningTowerModel", "moment", "J", false)
  | 59 => ("LeaningTowerModel", "litres", "[I", true)
  | 60 => ("LeaningTowerModel", "frosts", "[I", true)
  | 61 => ("LeaningTowerModel", "heap", "[J", true)
  | 62 => ("LeaningTowerModel", "asked", "[J", true)
  | 63 => ("LeaningTowerModel", "lower", "J", false)
  | 64 => ("LeaningTowerModel", "upper", "J", false)
  | 65 => ("LeaningTowerModel", "fitted", "I", false)
  | 66 => ("LeaningTowerModel", "spoonColumn", "[I", true)
  | 67 => ("LeaningTowerModel", "spoonLitres", "[I", true)
  | 68 => ("LeaningTowerModel", "drawnDays", "I", false)
  | 69 => ("LeaningTowerModel", "tried", "[I", true)
  | 70 => ("LeaningTowerModel", "drawn", "[I", true)
  | 71 => ("LeaningTowerModel", "causes", "I", false)
  | 72 => ("LeaningTowerModel", "leasts", "[I", true)
  | 73 => ("LeaningTowerModel", "mosts", "[I", true)
  | 74 => ("LeaningTowerModel", "sure", "I", false)
  | _ => ("LeaningTowerModel", "maybe", "I", false)
def tyX11 : Nat → FieldType := fun k => match k with
  | 0 => .array .int
  | 1 => .int
  | 2 => .int
  | 3 => .int
  | 4 => .int
  | 5 => .int
  | 6 => .int
  | 7 => .long
  | 8 => .int
  | 9 => .int
  | 10 => .int
  | 11 => .int
  | 12 => .int
  | 13 => .boolean
  | 14 => .int
  | 15 => .array .int
  | 16 => .array .int
  | 17 => .array .int
  | 18 => .array .int
  | 19 => .array .int
  | 20 => .array .int
  | 21 => .int
  | 22 => .array .int
  | 23 => .array .int
  | 24 => .array .boolean
  | 25 => .array .int
  | 26 => .array .int
  | 27 => .int
  | 28 => .int
  | 29 => .array .int
  | 30 => .int
  | 31 => .boolean
  | 32 => .array .int
  | 33 => .array .int
  | 34 => .array .int
  | 35 => .array .int
  | 36 => .array .int
  | 37 => .array .int
  | 38 => .array .int
  | 39 => .array .boolean
  | 40 => .array .int
  | 41 => .array .boolean
  | 42 => .array .int
  | 43 => .array .int
  | 44 => .array .int
  | 45 => .int
  | 46 => .int
  | 47 => .array .int
  | 48 => .array .int
  | 49 => .array .int
  | 50 => .array .int
  | 51 => .array .int
  | 52 => .array .int
  | 53 => .array .long
  | 54 => .array .long
  | 55 => .array .long
  | 56 => .array .long
  | 57 => .long
  | 58 => .long
  | 59 => .array .int
  | 60 => .array .int
  | 61 => .array .long
  | 62 => .array .long
  | 63 => .long
  | 64 => .long
  | 65 => .int
  | 66 => .array .int
  | 67 => .array .int
  | 68 => .int
  | 69 => .array .int
  | 70 => .array .int
  | 71 => .int
  | 72 => .array .int
  | 73 => .array .int
  | 74 => .int
  | _ => .int
abbrev wsX110 : List Cond := u_ws RX11 TX11 76
theorem nmX11 : ∀ a, a < 76 → ∀ b, b < 76 → a ≠ b → (TX11 a).2.1 ≠ (TX11 b).2.1 := by decide +kernel
theorem tyX11_ok : ∀ k, k < 76 → parseFieldDescriptor (TX11 k).2.2.1 = some (tyX11 k) := by decide +kernel
abbrev cX11_init : ByteArray := prog_13_method_1_code
def yX11_init : MethodName := ⟨RX11, "<init>", "()V"⟩
abbrev cX11_is : ByteArray := prog_13_method_2_code
def yX11_is : MethodName := ⟨RX11, "is", "(III)Z"⟩
abbrev cX11_put : ByteArray := prog_13_method_3_code
def yX11_put : MethodName := ⟨RX11, "put", "(I)V"⟩
abbrev cX11_feed : ByteArray := prog_13_method_4_code
def yX11_feed : MethodName := ⟨RX11, "feed", "(IIIII)I"⟩
abbrev cX11_end : ByteArray := prog_13_method_5_code
def yX11_end : MethodName := ⟨RX11, "end", "(I)Z"⟩
abbrev cX11_blame : ByteArray := prog_13_method_6_code
def yX11_blame : MethodName := ⟨RX11, "blame", "(II)V"⟩
abbrev cX11_isLetter : ByteArray := prog_13_method_7_code
def yX11_isLetter : MethodName := ⟨RX11, "isLetter", "(I)Z"⟩
abbrev cX11_isDigit : ByteArray := prog_13_method_8_code
def yX11_isDigit : MethodName := ⟨RX11, "isDigit", "(I)Z"⟩
abbrev cX11_next : ByteArray := prog_13_method_9_code
def yX11_next : MethodName := ⟨RX11, "next", "()V"⟩
abbrev cX11_isSign : ByteArray := prog_13_method_10_code
def yX11_isSign : MethodName := ⟨RX11, "isSign", "(I)Z"⟩
abbrev cX11_isWord : ByteArray := prog_13_method_11_code
def yX11_isWord : MethodName := ⟨RX11, "isWord", "(J)Z"⟩
abbrev cX11_must : ByteArray := prog_13_method_12_code
def yX11_must : MethodName := ⟨RX11, "must", "(I)V"⟩
abbrev cX11_add : ByteArray := prog_13_method_13_code
def yX11_add : MethodName := ⟨RX11, "add", "(II)V"⟩
abbrev cX11_asks : ByteArray := prog_13_method_14_code
def yX11_asks : MethodName := ⟨RX11, "asks", "()I"⟩
abbrev cX11_rank : ByteArray := prog_13_method_15_code
def yX11_rank : MethodName := ⟨RX11, "rank", "(I)I"⟩
abbrev cX11_joins : ByteArray := prog_13_method_16_code
def yX11_joins : MethodName := ⟨RX11, "joins", "(I)V"⟩
abbrev cX11_holdsBack : ByteArray := prog_13_method_17_code
def yX11_holdsBack : MethodName := ⟨RX11, "holdsBack", "(I)V"⟩
abbrev cX11_pushes : ByteArray := prog_13_method_18_code
def yX11_pushes : MethodName := ⟨RX11, "pushes", "(I)V"⟩
abbrev cX11_opens : ByteArray := prog_13_method_19_code
def yX11_opens : MethodName := ⟨RX11, "opens", "(I)V"⟩
abbrev cX11_isTest : ByteArray := prog_13_method_20_code
def yX11_isTest : MethodName := ⟨RX11, "isTest", "(I)Z"⟩
abbrev cX11_part : ByteArray := prog_13_method_21_code
def yX11_part : MethodName := ⟨RX11, "part", "()Z"⟩
abbrev cX11_goesOn : ByteArray := prog_13_method_22_code
def yX11_goesOn : MethodName := ⟨RX11, "goesOn", "()Z"⟩
abbrev cX11_reads : ByteArray := prog_13_method_23_code
def yX11_reads : MethodName := ⟨RX11, "reads", "(Z)V"⟩
abbrev cX11_work : ByteArray := prog_13_method_24_code
def yX11_work : MethodName := ⟨RX11, "work", "()I"⟩
abbrev cX11_statement : ByteArray := prog_13_method_25_code
def yX11_statement : MethodName := ⟨RX11, "statement", "()V"⟩
abbrev cX11_mandate : ByteArray := prog_13_method_26_code
def yX11_mandate : MethodName := ⟨RX11, "mandate", "(I)I"⟩
abbrev cX11_fault : ByteArray := prog_13_method_27_code
def yX11_fault : MethodName := ⟨RX11, "fault", "(I)I"⟩
abbrev cX11_isDay : ByteArray := prog_13_method_28_code
def yX11_isDay : MethodName := ⟨RX11, "isDay", "(I)Z"⟩
abbrev cX11_isColumn : ByteArray := prog_13_method_29_code
def yX11_isColumn : MethodName := ⟨RX11, "isColumn", "(I)Z"⟩
abbrev cX11_stiff : ByteArray := prog_13_method_30_code
def yX11_stiff : MethodName := ⟨RX11, "stiff", "(II)Z"⟩
abbrev cX11_ring : ByteArray := prog_13_method_31_code
def yX11_ring : MethodName := ⟨RX11, "ring", "(IIII)Z"⟩
abbrev cX11_stone : ByteArray := prog_13_method_32_code
def yX11_stone : MethodName := ⟨RX11, "stone", "(III)Z"⟩
abbrev cX11_water : ByteArray := prog_13_method_33_code
def yX11_water : MethodName := ⟨RX11, "water", "(II)Z"⟩
abbrev cX11_warmth : ByteArray := prog_13_method_34_code
def yX11_warmth : MethodName := ⟨RX11, "warmth", "(II)Z"⟩
abbrev cX11_gauge : ByteArray := prog_13_method_35_code
def yX11_gauge : MethodName := ⟨RX11, "gauge", "(IIII)Z"⟩
abbrev cX11_waterOn : ByteArray := prog_13_method_36_code
def yX11_waterOn : MethodName := ⟨RX11, "waterOn", "(I)I"⟩
abbrev cX11_warmthOn : ByteArray := prog_13_method_37_code
def yX11_warmthOn : MethodName := ⟨RX11, "warmthOn", "(I)I"⟩
abbrev cX11_enter : ByteArray := prog_13_method_38_code
def yX11_enter : MethodName := ⟨RX11, "enter", "(IIIII)I"⟩
abbrev cX11_lead : ByteArray := prog_13_method_39_code
def yX11_lead : MethodName := ⟨RX11, "lead", "(IIII)I"⟩
abbrev cX11_pipe : ByteArray := prog_13_method_40_code
def yX11_pipe : MethodName := ⟨RX11, "pipe", "(III)I"⟩
abbrev cX11_frost : ByteArray := prog_13_method_41_code
def yX11_frost : MethodName := ⟨RX11, "frost", "(II)I"⟩
abbrev cX11_reading : ByteArray := prog_13_method_42_code
def yX11_reading : MethodName := ⟨RX11, "reading", "(III)I"⟩
abbrev cX11_annul : ByteArray := prog_13_method_43_code
def yX11_annul : MethodName := ⟨RX11, "annul", "(I)I"⟩
abbrev cX11_as : ByteArray := prog_13_method_44_code
def yX11_as : MethodName := ⟨RX11, "as", "(I)Z"⟩
abbrev cX11_now : ByteArray := prog_13_method_45_code
def yX11_now : MethodName := ⟨RX11, "now", "()I"⟩
abbrev cX11_isKnown : ByteArray := prog_13_method_46_code
def yX11_isKnown : MethodName := ⟨RX11, "isKnown", "(I)Z"⟩
abbrev cX11_over : ByteArray := prog_13_method_47_code
def yX11_over : MethodName := ⟨RX11, "over", "(JJ)J"⟩
abbrev cX11_leanOf : ByteArray := prog_13_method_48_code
def yX11_leanOf : MethodName := ⟨RX11, "leanOf", "(I)J"⟩
abbrev cX11_overhang : ByteArray := prog_13_method_49_code
def yX11_overhang : MethodName := ⟨RX11, "overhang", "(IJ)J"⟩
abbrev cX11_leads : ByteArray := prog_13_method_50_code
def yX11_leads : MethodName := ⟨RX11, "leads", "()V"⟩
abbrev cX11_weighs : ByteArray := prog_13_method_51_code
def yX11_weighs : MethodName := ⟨RX11, "weighs", "(IJ)V"⟩
abbrev cX11_loadOf : ByteArray := prog_13_method_52_code
def yX11_loadOf : MethodName := ⟨RX11, "loadOf", "(I)J"⟩
abbrev cX11_gathers : ByteArray := prog_13_method_53_code
def yX11_gathers : MethodName := ⟨RX11, "gathers", "()V"⟩
abbrev cX11_goes : ByteArray := prog_13_method_54_code
def yX11_goes : MethodName := ⟨RX11, "goes", "(III)V"⟩
abbrev cX11_play : ByteArray := prog_13_method_55_code
def yX11_play : MethodName := ⟨RX11, "play", "()V"⟩
abbrev cX11_lean : ByteArray := prog_13_method_56_code
def yX11_lean : MethodName := ⟨RX11, "lean", "(I)I"⟩
abbrev cX11_settled : ByteArray := prog_13_method_57_code
def yX11_settled : MethodName := ⟨RX11, "settled", "(II)J"⟩
abbrev cX11_load : ByteArray := prog_13_method_58_code
def yX11_load : MethodName := ⟨RX11, "load", "(II)I"⟩
abbrev cX11_above : ByteArray := prog_13_method_59_code
def yX11_above : MethodName := ⟨RX11, "above", "(I)I"⟩
abbrev cX11_inForce : ByteArray := prog_13_method_60_code
def yX11_inForce : MethodName := ⟨RX11, "inForce", "(I)I"⟩
abbrev cX11_force : ByteArray := prog_13_method_61_code
def yX11_force : MethodName := ⟨RX11, "force", "(I)I"⟩
abbrev cX11_asksOn : ByteArray := prog_13_method_62_code
def yX11_asksOn : MethodName := ⟨RX11, "asksOn", "(I)V"⟩
abbrev cX11_held : ByteArray := prog_13_method_63_code
def yX11_held : MethodName := ⟨RX11, "held", "(J)J"⟩
abbrev cX11_times : ByteArray := prog_13_method_64_code
def yX11_times : MethodName := ⟨RX11, "times", "(JJ)J"⟩
abbrev cX11_two : ByteArray := prog_13_method_65_code
def yX11_two : MethodName := ⟨RX11, "two", "(IJJ)J"⟩
abbrev cX11_runs : ByteArray := prog_13_method_66_code
def yX11_runs : MethodName := ⟨RX11, "runs", "(II)J"⟩
abbrev cX11_mayDo : ByteArray := prog_13_method_67_code
def yX11_mayDo : MethodName := ⟨RX11, "mayDo", "(III)I"⟩
abbrev cX11_may : ByteArray := prog_13_method_68_code
def yX11_may : MethodName := ⟨RX11, "may", "(III)I"⟩
abbrev cX11_isBreach : ByteArray := prog_13_method_69_code
def yX11_isBreach : MethodName := ⟨RX11, "isBreach", "(I)Z"⟩
abbrev cX11_breaches : ByteArray := prog_13_method_70_code
def yX11_breaches : MethodName := ⟨RX11, "breaches", "()I"⟩
abbrev cX11_breach : ByteArray := prog_13_method_71_code
def yX11_breach : MethodName := ⟨RX11, "breach", "(I)I"⟩
abbrev cX11_rightOf : ByteArray := prog_13_method_72_code
def yX11_rightOf : MethodName := ⟨RX11, "rightOf", "(I)I"⟩
abbrev cX11_right : ByteArray := prog_13_method_73_code
def yX11_right : MethodName := ⟨RX11, "right", "(I)I"⟩
abbrev cX11_fits : ByteArray := prog_13_method_74_code
def yX11_fits : MethodName := ⟨RX11, "fits", "(III)V"⟩
abbrev cX11_areDays : ByteArray := prog_13_method_75_code
def yX11_areDays : MethodName := ⟨RX11, "areDays", "(II)Z"⟩
abbrev cX11_fit : ByteArray := prog_13_method_76_code
def yX11_fit : MethodName := ⟨RX11, "fit", "(IIZ)J"⟩
abbrev cX11_odd : ByteArray := prog_13_method_77_code
def yX11_odd : MethodName := ⟨RX11, "odd", "(II)I"⟩
abbrev cX11_spoon : ByteArray := prog_13_method_78_code
def yX11_spoon : MethodName := ⟨RX11, "spoon", "(III)Z"⟩
abbrev cX11_litresOf : ByteArray := prog_13_method_79_code
def yX11_litresOf : MethodName := ⟨RX11, "litresOf", "(I)I"⟩
abbrev cX11_spoons : ByteArray := prog_13_method_80_code
def yX11_spoons : MethodName := ⟨RX11, "spoons", "(IIII)I"⟩
abbrev cX11_drawn : ByteArray := prog_13_method_81_code
def yX11_drawn : MethodName := ⟨RX11, "drawn", "(I)I"⟩
abbrev cX11_isBurst : ByteArray := prog_13_method_82_code
def yX11_isBurst : MethodName := ⟨RX11, "isBurst", "(IJ)Z"⟩
abbrev cX11_bursts : ByteArray := prog_13_method_83_code
def yX11_bursts : MethodName := ⟨RX11, "bursts", "(II)I"⟩
abbrev cX11_first : ByteArray := prog_13_method_84_code
def yX11_first : MethodName := ⟨RX11, "first", "(ZII)I"⟩
abbrev cX11_cause : ByteArray := prog_13_method_85_code
def yX11_cause : MethodName := ⟨RX11, "cause", "(II)I"⟩
abbrev cX11_forget : ByteArray := prog_13_method_86_code
def yX11_forget : MethodName := ⟨RX11, "forget", "()I"⟩
abbrev cX11_does : ByteArray := prog_13_method_87_code
def yX11_does : MethodName := ⟨RX11, "does", "(I)I"⟩
abbrev cX11_isLurch : ByteArray := prog_13_method_88_code
def yX11_isLurch : MethodName := ⟨RX11, "isLurch", "(I)Z"⟩
abbrev cX11_lurch : ByteArray := prog_13_method_89_code
def yX11_lurch : MethodName := ⟨RX11, "lurch", "(IZ)I"⟩
abbrev cX11_sets : ByteArray := prog_13_method_90_code
def yX11_sets : MethodName := ⟨RX11, "sets", "(I)I"⟩
abbrev cX11_all : ByteArray := prog_13_method_91_code
def yX11_all : MethodName := ⟨RX11, "all", "(I)I"⟩
def RJx145de : String := "java/io/Serializable"
def RJx9f9b0 : String := "java/lang/CharSequence"
def RJx8e188 : String := "java/lang/Cloneable"
def RJxb160c : String := "java/lang/Comparable"
def RJ9 : String := "java/lang/Math"
abbrev cJ9_floorDiv_7cf53 : ByteArray := prog_15_method_47_code
def yJ9_floorDiv_7cf53 : MethodName := ⟨RJ9, "floorDiv", "(II)I"⟩
abbrev cJ9_floorDiv_f86c9 : ByteArray := prog_15_method_49_code
def yJ9_floorDiv_f86c9 : MethodName := ⟨RJ9, "floorDiv", "(JJ)J"⟩
abbrev cJ9_floorMod_7cf53 : ByteArray := prog_15_method_50_code
def yJ9_floorMod_7cf53 : MethodName := ⟨RJ9, "floorMod", "(II)I"⟩
abbrev cJ9_abs_067f4 : ByteArray := prog_15_method_61_code
def yJ9_abs_067f4 : MethodName := ⟨RJ9, "abs", "(J)J"⟩
abbrev cJ9_max_7cf53 : ByteArray := prog_15_method_65_code
def yJ9_max_7cf53 : MethodName := ⟨RJ9, "max", "(II)I"⟩
abbrev cJ9_max_f86c9 : ByteArray := prog_15_method_66_code
def yJ9_max_f86c9 : MethodName := ⟨RJ9, "max", "(JJ)J"⟩
abbrev cJ9_min_7cf53 : ByteArray := prog_15_method_69_code
def yJ9_min_7cf53 : MethodName := ⟨RJ9, "min", "(II)I"⟩
abbrev cJ9_min_f86c9 : ByteArray := prog_15_method_70_code
def yJ9_min_f86c9 : MethodName := ⟨RJ9, "min", "(JJ)J"⟩
def RJ0 : String := "java/lang/String"
abbrev cJ0_length_8abf5 : ByteArray := prog_16_method_54_code
def yJ0_length_8abf5 : MethodName := ⟨RJ0, "length", "()I"⟩
abbrev cJ0_charAt_5068e : ByteArray := prog_16_method_56_code
def yJ0_charAt_5068e : MethodName := ⟨RJ0, "charAt", "(I)C"⟩
abbrev cJ0_coder_7d493 : ByteArray := prog_16_method_152_code
def yJ0_coder_7d493 : MethodName := ⟨RJ0, "coder", "()B"⟩
abbrev cJ0_isLatin1_aae02 : ByteArray := prog_16_method_154_code
def yJ0_isLatin1_aae02 : MethodName := ⟨RJ0, "isLatin1", "()Z"⟩
abbrev cJ0_checkIndex_df160 : ByteArray := prog_16_method_155_code
def yJ0_checkIndex_df160 : MethodName := ⟨RJ0, "checkIndex", "(II)V"⟩
def RJ1 : String := "java/lang/StringLatin1"
abbrev cJ1_charAt_3b067 : ByteArray := prog_17_method_2_code
def yJ1_charAt_3b067 : MethodName := ⟨RJ1, "charAt", "([BI)C"⟩
def RJ2 : String := "java/lang/StringUTF16"
abbrev cJ2_getChar_3b067 : ByteArray := prog_18_method_5_code
def yJ2_getChar_3b067 : MethodName := ⟨RJ2, "getChar", "([BI)C"⟩
abbrev cJ2_length_9d52b : ByteArray := prog_18_method_6_code
def yJ2_length_9d52b : MethodName := ⟨RJ2, "length", "([B)I"⟩
abbrev cJ2_charAt_3b067 : ByteArray := prog_18_method_83_code
def yJ2_charAt_3b067 : MethodName := ⟨RJ2, "charAt", "([BI)C"⟩
abbrev cJ2_checkIndex_2214a : ByteArray := prog_18_method_91_code
def yJ2_checkIndex_2214a : MethodName := ⟨RJ2, "checkIndex", "(I[B)V"⟩
def RJ10 : String := "java/lang/System"
def RJxfd54e : String := "java/lang/constant/Constable"
def RJx3cf43 : String := "java/lang/constant/ConstantDesc"
def RJ7 : String := "java/util/Arrays"
abbrev cJ7_fill_d0a16 : ByteArray := prog_20_method_101_code
def yJ7_fill_d0a16 : MethodName := ⟨RJ7, "fill", "([JJ)V"⟩
abbrev cJ7_fill_53178 : ByteArray := prog_20_method_103_code
def yJ7_fill_53178 : MethodName := ⟨RJ7, "fill", "([II)V"⟩
abbrev cJ7_copyOf_59c91 : ByteArray := prog_20_method_123_code
def yJ7_copyOf_59c91 : MethodName := ⟨RJ7, "copyOf", "([II)[I"⟩
def RJ3 : String := "jdk/internal/util/Preconditions"
abbrev cJ3_checkIndex_8e157 : ByteArray := prog_21_method_11_code
def yJ3_checkIndex_8e157 : MethodName := ⟨RJ3, "checkIndex", "(IILjava/util/function/BiFunction;)I"⟩
def RL : String := "LeaningTowerLaw"
abbrev cL_law : ByteArray := code
def yL_law : MethodName := ⟨RL, "law", "([I)Z"⟩
abbrev am_classes : List vw_C := [(RX0, TX0, 9), (RX1, TX1, 5), (RX2, TX2, 6), (RX3, TX3, 13), (RX4, TX4, 14), (RX5, TX5, 12), (RX6, TX6, 16), (RX7, TX7, 12), (RX8, TX8, 5), (RX9, TX9, 2), (RX10, TX10, 10), (RX11, TX11, 76)]
def am_FK : List (List Nat) := [[0, 0, 0, 0, 0, 0, 2, 0, 3], [2, 2, 0, 0, 0], [2, 2, 0, 0, 0, 0], [2, 2, 2, 2, 2, 2, 2, 2, 2, 2, 2, 0, 0], [2, 2, 2, 2, 2, 2, 2, 2, 2, 0, 1, 1, 1, 1], [2, 2, 2, 2, 0, 1, 1, 2, 2, 0, 0, 0], [2, 0, 2, 2, 2, 2, 0, 0, 0, 0, 0, 0, 0, 0, 2, 0], [2, 2, 2, 0, 0, 0, 1, 0, 2, 2, 0, 2], [2, 2, 2, 2, 2], [2, 2], [2, 2, 2, 2, 2, 2, 2, 2, 2, 2], [2, 0, 0, 0, 0, 0, 0, 1, 0, 0, 0, 0, 0, 3, 0, 2, 2, 2, 2, 2, 2, 0, 2, 2, 2, 2, 2, 0, 0, 2, 0, 3, 2, 2, 2, 2, 2, 2, 2, 2, 2, 2, 2, 2, 2, 0, 0, 2, 2, 2, 2, 2, 2, 2, 2, 2, 2, 1, 1, 2, 2, 2, 2, 1, 1, 0, 2, 2, 0, 2, 2, 0, 2, 2, 0, 0]]
theorem am_in0 : ∀ w ∈ u_ws RX0 TX0 9, w ∈ lw_tbl := by decide +kernel
theorem am_in1 : ∀ w ∈ u_ws RX1 TX1 5, w ∈ lw_tbl := by decide +kernel
theorem am_in2 : ∀ w ∈ u_ws RX2 TX2 6, w ∈ lw_tbl := by decide +kernel
theorem am_in3 : ∀ w ∈ u_ws RX3 TX3 13, w ∈ lw_tbl := by decide +kernel
theorem am_in4 : ∀ w ∈ u_ws RX4 TX4 14, w ∈ lw_tbl := by decide +kernel
theorem am_in5 : ∀ w ∈ u_ws RX5 TX5 12, w ∈ lw_tbl := by decide +kernel
theorem am_in6 : ∀ w ∈ u_ws RX6 TX6 16, w ∈ lw_tbl := by decide +kernel
theorem am_in7 : ∀ w ∈ u_ws RX7 TX7 12, w ∈ lw_tbl := by decide +kernel
theorem am_in8 : ∀ w ∈ u_ws RX8 TX8 5, w ∈ lw_tbl := by decide +kernel
theorem am_in9 : ∀ w ∈ u_ws RX9 TX9 2, w ∈ lw_tbl := by decide +kernel
theorem am_in10 : ∀ w ∈ u_ws RX10 TX10 10, w ∈ lw_tbl := by decide +kernel
theorem am_in11 : ∀ w ∈ u_ws RX11 TX11 76, w ∈ lw_tbl := by decide +kernel
