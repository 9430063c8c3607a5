section
-- ===== PART A: goes FIRST, ahead of the names: the tables' words, and 'selects' of the private methods out of them =====
/-- a private method of a class that the tables say can be made, by its rows of tables_1 -/
def lw_okq (q : MethodName × Nat) : Prop := (q.1.cls ≠ "java/lang/invoke/MethodHandle" ∧ q.1.cls ≠ "java/lang/invoke/VarHandle") ∧ Cond.instantiable q.1.cls q.2 ∈ tables_1 ∧ Cond.privateMethod q.1 ∈ tables_1 ∧ Cond.instanceMethod q.1 ∈ tables_1
theorem lw_p0 : lw_okq (⟨"BargeLocks", "record", "()V"⟩, 6) := ⟨⟨by decide +kernel, by decide +kernel⟩, List.mem_of_getElem? (i := 17) (by decide +kernel), List.mem_of_getElem? (i := 294) (by decide +kernel), List.mem_of_getElem? (i := 295) (by decide +kernel)⟩
theorem lw_p1 : lw_okq (⟨"BargeLocks", "refuse", "(I)I"⟩, 6) := ⟨⟨by decide +kernel, by decide +kernel⟩, List.mem_of_getElem? (i := 17) (by decide +kernel), List.mem_of_getElem? (i := 415) (by decide +kernel), List.mem_of_getElem? (i := 416) (by decide +kernel)⟩
theorem lw_p2 : lw_okq (⟨"BargeLocks$Orders", "readSign", "(C)Z"⟩, 6) := ⟨⟨by decide +kernel, by decide +kernel⟩, List.mem_of_getElem? (i := 228) (by decide +kernel), List.mem_of_getElem? (i := 587) (by decide +kernel), List.mem_of_getElem? (i := 588) (by decide +kernel)⟩
theorem lw_p3 : lw_okq (⟨"BargeLocks$Orders", "signAt", "(I)C"⟩, 6) := ⟨⟨by decide +kernel, by decide +kernel⟩, List.mem_of_getElem? (i := 228) (by decide +kernel), List.mem_of_getElem? (i := 595) (by decide +kernel), List.mem_of_getElem? (i := 596) (by decide +kernel)⟩
theorem lw_p4 : lw_okq (⟨"BargeLocks$Orders", "readVerb", "()V"⟩, 6) := ⟨⟨by decide +kernel, by decide +kernel⟩, List.mem_of_getElem? (i := 228) (by decide +kernel), List.mem_of_getElem? (i := 599) (by decide +kernel), List.mem_of_getElem? (i := 600) (by decide +kernel)⟩
theorem lw_p5 : lw_okq (⟨"BargeLocks$Orders", "endOfToken", "()I"⟩, 6) := ⟨⟨by decide +kernel, by decide +kernel⟩, List.mem_of_getElem? (i := 228) (by decide +kernel), List.mem_of_getElem? (i := 603) (by decide +kernel), List.mem_of_getElem? (i := 604) (by decide +kernel)⟩
theorem lw_p6 : lw_okq (⟨"BargeLocks$Orders", "stands", "(Ljava/lang/String;I)Z"⟩, 6) := ⟨⟨by decide +kernel, by decide +kernel⟩, List.mem_of_getElem? (i := 228) (by decide +kernel), List.mem_of_getElem? (i := 618) (by decide +kernel), List.mem_of_getElem? (i := 619) (by decide +kernel)⟩
theorem lw_p7 : lw_okq (⟨"BargeLocks$Orders", "readFirst", "(I)Z"⟩, 6) := ⟨⟨by decide +kernel, by decide +kernel⟩, List.mem_of_getElem? (i := 228) (by decide +kernel), List.mem_of_getElem? (i := 670) (by decide +kernel), List.mem_of_getElem? (i := 671) (by decide +kernel)⟩
theorem lw_p8 : lw_okq (⟨"BargeLocks$Orders", "readNumber", "(II)I"⟩, 6) := ⟨⟨by decide +kernel, by decide +kernel⟩, List.mem_of_getElem? (i := 228) (by decide +kernel), List.mem_of_getElem? (i := 674) (by decide +kernel), List.mem_of_getElem? (i := 675) (by decide +kernel)⟩
theorem lw_p9 : lw_okq (⟨"BargeLocks$Orders", "readSecond", "(II)Z"⟩, 6) := ⟨⟨by decide +kernel, by decide +kernel⟩, List.mem_of_getElem? (i := 228) (by decide +kernel), List.mem_of_getElem? (i := 679) (by decide +kernel), List.mem_of_getElem? (i := 680) (by decide +kernel)⟩
theorem lw_p10 : lw_okq (⟨"BargeLocks", "carryOut", "()I"⟩, 6) := ⟨⟨by decide +kernel, by decide +kernel⟩, List.mem_of_getElem? (i := 17) (by decide +kernel), List.mem_of_getElem? (i := 686) (by decide +kernel), List.mem_of_getElem? (i := 687) (by decide +kernel)⟩
theorem lw_p11 : lw_okq (⟨"BargeLocksModel", "begin", "()V"⟩, 13) := ⟨⟨by decide +kernel, by decide +kernel⟩, List.mem_of_getElem? (i := 783) (by decide +kernel), List.mem_of_getElem? (i := 847) (by decide +kernel), List.mem_of_getElem? (i := 848) (by decide +kernel)⟩
theorem lw_p12 : lw_okq (⟨"BargeLocksModel", "record", "()V"⟩, 13) := ⟨⟨by decide +kernel, by decide +kernel⟩, List.mem_of_getElem? (i := 783) (by decide +kernel), List.mem_of_getElem? (i := 851) (by decide +kernel), List.mem_of_getElem? (i := 852) (by decide +kernel)⟩
theorem lw_p13 : lw_okq (⟨"BargeLocksModel", "putReach", "(III)V"⟩, 13) := ⟨⟨by decide +kernel, by decide +kernel⟩, List.mem_of_getElem? (i := 783) (by decide +kernel), List.mem_of_getElem? (i := 866) (by decide +kernel), List.mem_of_getElem? (i := 867) (by decide +kernel)⟩
theorem lw_p14 : lw_okq (⟨"BargeLocksModel", "done", "(I)I"⟩, 13) := ⟨⟨by decide +kernel, by decide +kernel⟩, List.mem_of_getElem? (i := 783) (by decide +kernel), List.mem_of_getElem? (i := 870) (by decide +kernel), List.mem_of_getElem? (i := 871) (by decide +kernel)⟩
theorem lw_p15 : lw_okq (⟨"BargeLocksModel", "shareAll", "()V"⟩, 13) := ⟨⟨by decide +kernel, by decide +kernel⟩, List.mem_of_getElem? (i := 783) (by decide +kernel), List.mem_of_getElem? (i := 874) (by decide +kernel), List.mem_of_getElem? (i := 875) (by decide +kernel)⟩
def lw_privs_1 : List (MethodName × Nat) := [(⟨"BargeLocks", "record", "()V"⟩, 6), (⟨"BargeLocks", "refuse", "(I)I"⟩, 6), (⟨"BargeLocks$Orders", "readSign", "(C)Z"⟩, 6), (⟨"BargeLocks$Orders", "signAt", "(I)C"⟩, 6), (⟨"BargeLocks$Orders", "readVerb", "()V"⟩, 6), (⟨"BargeLocks$Orders", "endOfToken", "()I"⟩, 6), (⟨"BargeLocks$Orders", "stands", "(Ljava/lang/String;I)Z"⟩, 6), (⟨"BargeLocks$Orders", "readFirst", "(I)Z"⟩, 6), (⟨"BargeLocks$Orders", "readNumber", "(II)I"⟩, 6), (⟨"BargeLocks$Orders", "readSecond", "(II)Z"⟩, 6), (⟨"BargeLocks", "carryOut", "()I"⟩, 6), (⟨"BargeLocksModel", "begin", "()V"⟩, 13), (⟨"BargeLocksModel", "record", "()V"⟩, 13), (⟨"BargeLocksModel", "putReach", "(III)V"⟩, 13), (⟨"BargeLocksModel", "done", "(I)I"⟩, 13), (⟨"BargeLocksModel", "shareAll", "()V"⟩, 13)]
theorem lw_r1 : ∀ q ∈ lw_privs_1, lw_okq q := List.forall_mem_cons.mpr ⟨lw_p0, List.forall_mem_cons.mpr ⟨lw_p1, List.forall_mem_cons.mpr ⟨lw_p2, List.forall_mem_cons.mpr ⟨lw_p3, List.forall_mem_cons.mpr ⟨lw_p4, List.forall_mem_cons.mpr ⟨lw_p5, List.forall_mem_cons.mpr ⟨lw_p6, List.forall_mem_cons.mpr ⟨lw_p7, List.forall_mem_cons.mpr ⟨lw_p8, List.forall_mem_cons.mpr ⟨lw_p9, List.forall_mem_cons.mpr ⟨lw_p10, List.forall_mem_cons.mpr ⟨lw_p11, List.forall_mem_cons.mpr ⟨lw_p12, List.forall_mem_cons.mpr ⟨lw_p13, List.forall_mem_cons.mpr ⟨lw_p14, List.forall_mem_cons.mpr ⟨lw_p15, fun _ h => absurd h List.not_mem_nil⟩⟩⟩⟩⟩⟩⟩⟩⟩⟩⟩⟩⟩⟩⟩⟩
theorem lw_p16 : lw_okq (⟨"BargeLocksModel", "openGate", "(I)I"⟩, 13) := ⟨⟨by decide +kernel, by decide +kernel⟩, List.mem_of_getElem? (i := 783) (by decide +kernel), List.mem_of_getElem? (i := 878) (by decide +kernel), List.mem_of_getElem? (i := 879) (by decide +kernel)⟩
theorem lw_p17 : lw_okq (⟨"BargeLocksModel", "chamberOf", "(II)I"⟩, 13) := ⟨⟨by decide +kernel, by decide +kernel⟩, List.mem_of_getElem? (i := 783) (by decide +kernel), List.mem_of_getElem? (i := 882) (by decide +kernel), List.mem_of_getElem? (i := 883) (by decide +kernel)⟩
theorem lw_p18 : lw_okq (⟨"BargeLocksModel", "share", "(II)V"⟩, 13) := ⟨⟨by decide +kernel, by decide +kernel⟩, List.mem_of_getElem? (i := 783) (by decide +kernel), List.mem_of_getElem? (i := 886) (by decide +kernel), List.mem_of_getElem? (i := 887) (by decide +kernel)⟩
theorem lw_p19 : lw_okq (⟨"BargeLocksModel", "shared", "(II)I"⟩, 13) := ⟨⟨by decide +kernel, by decide +kernel⟩, List.mem_of_getElem? (i := 783) (by decide +kernel), List.mem_of_getElem? (i := 890) (by decide +kernel), List.mem_of_getElem? (i := 891) (by decide +kernel)⟩
theorem lw_p20 : lw_okq (⟨"BargeLocksModel", "floats", "(I)I"⟩, 13) := ⟨⟨by decide +kernel, by decide +kernel⟩, List.mem_of_getElem? (i := 783) (by decide +kernel), List.mem_of_getElem? (i := 897) (by decide +kernel), List.mem_of_getElem? (i := 898) (by decide +kernel)⟩
theorem lw_p21 : lw_okq (⟨"BargeLocksModel", "of", "(II)I"⟩, 13) := ⟨⟨by decide +kernel, by decide +kernel⟩, List.mem_of_getElem? (i := 783) (by decide +kernel), List.mem_of_getElem? (i := 901) (by decide +kernel), List.mem_of_getElem? (i := 902) (by decide +kernel)⟩
theorem lw_p22 : lw_okq (⟨"BargeLocksModel", "weight", "(I)I"⟩, 13) := ⟨⟨by decide +kernel, by decide +kernel⟩, List.mem_of_getElem? (i := 783) (by decide +kernel), List.mem_of_getElem? (i := 905) (by decide +kernel), List.mem_of_getElem? (i := 906) (by decide +kernel)⟩
theorem lw_p23 : lw_okq (⟨"BargeLocksModel", "noGate", "(II)Z"⟩, 13) := ⟨⟨by decide +kernel, by decide +kernel⟩, List.mem_of_getElem? (i := 783) (by decide +kernel), List.mem_of_getElem? (i := 921) (by decide +kernel), List.mem_of_getElem? (i := 922) (by decide +kernel)⟩
theorem lw_p24 : lw_okq (⟨"BargeLocksModel", "noChamber", "(I)Z"⟩, 13) := ⟨⟨by decide +kernel, by decide +kernel⟩, List.mem_of_getElem? (i := 783) (by decide +kernel), List.mem_of_getElem? (i := 925) (by decide +kernel), List.mem_of_getElem? (i := 926) (by decide +kernel)⟩
theorem lw_p25 : lw_okq (⟨"BargeLocksModel", "noReach", "(I)Z"⟩, 13) := ⟨⟨by decide +kernel, by decide +kernel⟩, List.mem_of_getElem? (i := 783) (by decide +kernel), List.mem_of_getElem? (i := 941) (by decide +kernel), List.mem_of_getElem? (i := 942) (by decide +kernel)⟩
theorem lw_p26 : lw_okq (⟨"BargeLocksModel", "refuse", "(I)I"⟩, 13) := ⟨⟨by decide +kernel, by decide +kernel⟩, List.mem_of_getElem? (i := 783) (by decide +kernel), List.mem_of_getElem? (i := 948) (by decide +kernel), List.mem_of_getElem? (i := 949) (by decide +kernel)⟩
theorem lw_p27 : lw_okq (⟨"BargeLocksModel", "level", "(I)I"⟩, 13) := ⟨⟨by decide +kernel, by decide +kernel⟩, List.mem_of_getElem? (i := 783) (by decide +kernel), List.mem_of_getElem? (i := 953) (by decide +kernel), List.mem_of_getElem? (i := 954) (by decide +kernel)⟩
theorem lw_p28 : lw_okq (⟨"BargeLocksModel", "deep", "(I)I"⟩, 13) := ⟨⟨by decide +kernel, by decide +kernel⟩, List.mem_of_getElem? (i := 783) (by decide +kernel), List.mem_of_getElem? (i := 957) (by decide +kernel), List.mem_of_getElem? (i := 958) (by decide +kernel)⟩
theorem lw_p29 : lw_okq (⟨"BargeLocksModel", "put", "(III)V"⟩, 13) := ⟨⟨by decide +kernel, by decide +kernel⟩, List.mem_of_getElem? (i := 783) (by decide +kernel), List.mem_of_getElem? (i := 965) (by decide +kernel), List.mem_of_getElem? (i := 966) (by decide +kernel)⟩
theorem lw_p30 : lw_okq (⟨"BargeLocksModel", "doLoad", "(II)I"⟩, 13) := ⟨⟨by decide +kernel, by decide +kernel⟩, List.mem_of_getElem? (i := 783) (by decide +kernel), List.mem_of_getElem? (i := 973) (by decide +kernel), List.mem_of_getElem? (i := 974) (by decide +kernel)⟩
theorem lw_p31 : lw_okq (⟨"BargeLocksModel", "noBarge", "(I)Z"⟩, 13) := ⟨⟨by decide +kernel, by decide +kernel⟩, List.mem_of_getElem? (i := 783) (by decide +kernel), List.mem_of_getElem? (i := 977) (by decide +kernel), List.mem_of_getElem? (i := 978) (by decide +kernel)⟩
def lw_privs_2 : List (MethodName × Nat) := [(⟨"BargeLocksModel", "openGate", "(I)I"⟩, 13), (⟨"BargeLocksModel", "chamberOf", "(II)I"⟩, 13), (⟨"BargeLocksModel", "share", "(II)V"⟩, 13), (⟨"BargeLocksModel", "shared", "(II)I"⟩, 13), (⟨"BargeLocksModel", "floats", "(I)I"⟩, 13), (⟨"BargeLocksModel", "of", "(II)I"⟩, 13), (⟨"BargeLocksModel", "weight", "(I)I"⟩, 13), (⟨"BargeLocksModel", "noGate", "(II)Z"⟩, 13), (⟨"BargeLocksModel", "noChamber", "(I)Z"⟩, 13), (⟨"BargeLocksModel", "noReach", "(I)Z"⟩, 13), (⟨"BargeLocksModel", "refuse", "(I)I"⟩, 13), (⟨"BargeLocksModel", "level", "(I)I"⟩, 13), (⟨"BargeLocksModel", "deep", "(I)I"⟩, 13), (⟨"BargeLocksModel", "put", "(III)V"⟩, 13), (⟨"BargeLocksModel", "doLoad", "(II)I"⟩, 13), (⟨"BargeLocksModel", "noBarge", "(I)Z"⟩, 13)]
theorem lw_r2 : ∀ q ∈ lw_privs_2, lw_okq q := List.forall_mem_cons.mpr ⟨lw_p16, List.forall_mem_cons.mpr ⟨lw_p17, List.forall_mem_cons.mpr ⟨lw_p18, List.forall_mem_cons.mpr ⟨lw_p19, List.forall_mem_cons.mpr ⟨lw_p20, List.forall_mem_cons.mpr ⟨lw_p21, List.forall_mem_cons.mpr ⟨lw_p22, List.forall_mem_cons.mpr ⟨lw_p23, List.forall_mem_cons.mpr ⟨lw_p24, List.forall_mem_cons.mpr ⟨lw_p25, List.forall_mem_cons.mpr ⟨lw_p26, List.forall_mem_cons.mpr ⟨lw_p27, List.forall_mem_cons.mpr ⟨lw_p28, List.forall_mem_cons.mpr ⟨lw_p29, List.forall_mem_cons.mpr ⟨lw_p30, List.forall_mem_cons.mpr ⟨lw_p31, fun _ h => absurd h List.not_mem_nil⟩⟩⟩⟩⟩⟩⟩⟩⟩⟩⟩⟩⟩⟩⟩⟩
theorem lw_p32 : lw_okq (⟨"BargeLocksModel", "room", "(I)I"⟩, 13) := ⟨⟨by decide +kernel, by decide +kernel⟩, List.mem_of_getElem? (i := 783) (by decide +kernel), List.mem_of_getElem? (i := 984) (by decide +kernel), List.mem_of_getElem? (i := 985) (by decide +kernel)⟩
theorem lw_p33 : lw_okq (⟨"BargeLocksModel", "draught", "(I)I"⟩, 13) := ⟨⟨by decide +kernel, by decide +kernel⟩, List.mem_of_getElem? (i := 783) (by decide +kernel), List.mem_of_getElem? (i := 988) (by decide +kernel), List.mem_of_getElem? (i := 989) (by decide +kernel)⟩
theorem lw_p34 : lw_okq (⟨"BargeLocksModel", "doPump", "(II)I"⟩, 13) := ⟨⟨by decide +kernel, by decide +kernel⟩, List.mem_of_getElem? (i := 783) (by decide +kernel), List.mem_of_getElem? (i := 996) (by decide +kernel), List.mem_of_getElem? (i := 997) (by decide +kernel)⟩
theorem lw_p35 : lw_okq (⟨"BargeLocksModel", "doSluice", "(II)I"⟩, 13) := ⟨⟨by decide +kernel, by decide +kernel⟩, List.mem_of_getElem? (i := 783) (by decide +kernel), List.mem_of_getElem? (i := 1004) (by decide +kernel), List.mem_of_getElem? (i := 1005) (by decide +kernel)⟩
theorem lw_p36 : lw_okq (⟨"BargeLocksModel", "leveled", "(II)I"⟩, 13) := ⟨⟨by decide +kernel, by decide +kernel⟩, List.mem_of_getElem? (i := 783) (by decide +kernel), List.mem_of_getElem? (i := 1008) (by decide +kernel), List.mem_of_getElem? (i := 1009) (by decide +kernel)⟩
theorem lw_p37 : lw_okq (⟨"BargeLocksModel", "doOpen", "(II)I"⟩, 13) := ⟨⟨by decide +kernel, by decide +kernel⟩, List.mem_of_getElem? (i := 783) (by decide +kernel), List.mem_of_getElem? (i := 1016) (by decide +kernel), List.mem_of_getElem? (i := 1017) (by decide +kernel)⟩
theorem lw_p38 : lw_okq (⟨"BargeLocksModel", "doClose", "(I)I"⟩, 13) := ⟨⟨by decide +kernel, by decide +kernel⟩, List.mem_of_getElem? (i := 783) (by decide +kernel), List.mem_of_getElem? (i := 1024) (by decide +kernel), List.mem_of_getElem? (i := 1025) (by decide +kernel)⟩
theorem lw_p39 : lw_okq (⟨"BargeLocksModel", "doEnter", "(II)I"⟩, 13) := ⟨⟨by decide +kernel, by decide +kernel⟩, List.mem_of_getElem? (i := 783) (by decide +kernel), List.mem_of_getElem? (i := 1032) (by decide +kernel), List.mem_of_getElem? (i := 1033) (by decide +kernel)⟩
theorem lw_p40 : lw_okq (⟨"BargeLocksModel", "isAground", "(I)Z"⟩, 13) := ⟨⟨by decide +kernel, by decide +kernel⟩, List.mem_of_getElem? (i := 783) (by decide +kernel), List.mem_of_getElem? (i := 1036) (by decide +kernel), List.mem_of_getElem? (i := 1037) (by decide +kernel)⟩
theorem lw_p41 : lw_okq (⟨"BargeLocksModel", "lengthLeft", "(I)I"⟩, 13) := ⟨⟨by decide +kernel, by decide +kernel⟩, List.mem_of_getElem? (i := 783) (by decide +kernel), List.mem_of_getElem? (i := 1040) (by decide +kernel), List.mem_of_getElem? (i := 1041) (by decide +kernel)⟩
theorem lw_p42 : lw_okq (⟨"BargeLocksModel", "canPass", "(III)Z"⟩, 13) := ⟨⟨by decide +kernel, by decide +kernel⟩, List.mem_of_getElem? (i := 783) (by decide +kernel), List.mem_of_getElem? (i := 1044) (by decide +kernel), List.mem_of_getElem? (i := 1045) (by decide +kernel)⟩
theorem lw_p43 : lw_okq (⟨"BargeLocksModel", "sillHeight", "(II)I"⟩, 13) := ⟨⟨by decide +kernel, by decide +kernel⟩, List.mem_of_getElem? (i := 783) (by decide +kernel), List.mem_of_getElem? (i := 1048) (by decide +kernel), List.mem_of_getElem? (i := 1049) (by decide +kernel)⟩
theorem lw_p44 : lw_okq (⟨"BargeLocksModel", "pass", "(III)V"⟩, 13) := ⟨⟨by decide +kernel, by decide +kernel⟩, List.mem_of_getElem? (i := 783) (by decide +kernel), List.mem_of_getElem? (i := 1052) (by decide +kernel), List.mem_of_getElem? (i := 1053) (by decide +kernel)⟩
theorem lw_p45 : lw_okq (⟨"BargeLocksModel", "doLeave", "(II)I"⟩, 13) := ⟨⟨by decide +kernel, by decide +kernel⟩, List.mem_of_getElem? (i := 783) (by decide +kernel), List.mem_of_getElem? (i := 1060) (by decide +kernel), List.mem_of_getElem? (i := 1061) (by decide +kernel)⟩
theorem lw_p46 : lw_okq (⟨"BargeLocksModel", "readOrder", "()V"⟩, 13) := ⟨⟨by decide +kernel, by decide +kernel⟩, List.mem_of_getElem? (i := 783) (by decide +kernel), List.mem_of_getElem? (i := 1076) (by decide +kernel), List.mem_of_getElem? (i := 1077) (by decide +kernel)⟩
theorem lw_p47 : lw_okq (⟨"BargeLocksModel", "endOf", "(I)I"⟩, 13) := ⟨⟨by decide +kernel, by decide +kernel⟩, List.mem_of_getElem? (i := 783) (by decide +kernel), List.mem_of_getElem? (i := 1080) (by decide +kernel), List.mem_of_getElem? (i := 1081) (by decide +kernel)⟩
def lw_privs_3 : List (MethodName × Nat) := [(⟨"BargeLocksModel", "room", "(I)I"⟩, 13), (⟨"BargeLocksModel", "draught", "(I)I"⟩, 13), (⟨"BargeLocksModel", "doPump", "(II)I"⟩, 13), (⟨"BargeLocksModel", "doSluice", "(II)I"⟩, 13), (⟨"BargeLocksModel", "leveled", "(II)I"⟩, 13), (⟨"BargeLocksModel", "doOpen", "(II)I"⟩, 13), (⟨"BargeLocksModel", "doClose", "(I)I"⟩, 13), (⟨"BargeLocksModel", "doEnter", "(II)I"⟩, 13), (⟨"BargeLocksModel", "isAground", "(I)Z"⟩, 13), (⟨"BargeLocksModel", "lengthLeft", "(I)I"⟩, 13), (⟨"BargeLocksModel", "canPass", "(III)Z"⟩, 13), (⟨"BargeLocksModel", "sillHeight", "(II)I"⟩, 13), (⟨"BargeLocksModel", "pass", "(III)V"⟩, 13), (⟨"BargeLocksModel", "doLeave", "(II)I"⟩, 13), (⟨"BargeLocksModel", "readOrder", "()V"⟩, 13), (⟨"BargeLocksModel", "endOf", "(I)I"⟩, 13)]
theorem lw_r3 : ∀ q ∈ lw_privs_3, lw_okq q := List.forall_mem_cons.mpr ⟨lw_p32, List.forall_mem_cons.mpr ⟨lw_p33, List.forall_mem_cons.mpr ⟨lw_p34, List.forall_mem_cons.mpr ⟨lw_p35, List.forall_mem_cons.mpr ⟨lw_p36, List.forall_mem_cons.mpr ⟨lw_p37, List.forall_mem_cons.mpr ⟨lw_p38, List.forall_mem_cons.mpr ⟨lw_p39, List.forall_mem_cons.mpr ⟨lw_p40, List.forall_mem_cons.mpr ⟨lw_p41, List.forall_mem_cons.mpr ⟨lw_p42, List.forall_mem_cons.mpr ⟨lw_p43, List.forall_mem_cons.mpr ⟨lw_p44, List.forall_mem_cons.mpr ⟨lw_p45, List.forall_mem_cons.mpr ⟨lw_p46, List.forall_mem_cons.mpr ⟨lw_p47, fun _ h => absurd h List.not_mem_nil⟩⟩⟩⟩⟩⟩⟩⟩⟩⟩⟩⟩⟩⟩⟩⟩
theorem lw_p48 : lw_okq (⟨"BargeLocksModel", "word", "(II)I"⟩, 13) := ⟨⟨by decide +kernel, by decide +kernel⟩, List.mem_of_getElem? (i := 783) (by decide +kernel), List.mem_of_getElem? (i := 1084) (by decide +kernel), List.mem_of_getElem? (i := 1085) (by decide +kernel)⟩
theorem lw_p49 : lw_okq (⟨"BargeLocksModel", "stands", "(ICCCC)Z"⟩, 13) := ⟨⟨by decide +kernel, by decide +kernel⟩, List.mem_of_getElem? (i := 783) (by decide +kernel), List.mem_of_getElem? (i := 1088) (by decide +kernel), List.mem_of_getElem? (i := 1089) (by decide +kernel)⟩
theorem lw_p50 : lw_okq (⟨"BargeLocksModel", "fail", "(I)V"⟩, 13) := ⟨⟨by decide +kernel, by decide +kernel⟩, List.mem_of_getElem? (i := 783) (by decide +kernel), List.mem_of_getElem? (i := 1092) (by decide +kernel), List.mem_of_getElem? (i := 1093) (by decide +kernel)⟩
theorem lw_p51 : lw_okq (⟨"BargeLocksModel", "number", "(II)I"⟩, 13) := ⟨⟨by decide +kernel, by decide +kernel⟩, List.mem_of_getElem? (i := 783) (by decide +kernel), List.mem_of_getElem? (i := 1096) (by decide +kernel), List.mem_of_getElem? (i := 1097) (by decide +kernel)⟩
theorem lw_p52 : lw_okq (⟨"BargeLocksModel", "carryOut", "(I)I"⟩, 13) := ⟨⟨by decide +kernel, by decide +kernel⟩, List.mem_of_getElem? (i := 783) (by decide +kernel), List.mem_of_getElem? (i := 1100) (by decide +kernel), List.mem_of_getElem? (i := 1101) (by decide +kernel)⟩
theorem lw_p53 : lw_okq (⟨"BargeLocksModel", "water", "(II)I"⟩, 13) := ⟨⟨by decide +kernel, by decide +kernel⟩, List.mem_of_getElem? (i := 783) (by decide +kernel), List.mem_of_getElem? (i := 1108) (by decide +kernel), List.mem_of_getElem? (i := 1109) (by decide +kernel)⟩
theorem lw_p54 : lw_okq (⟨"BargeLocksModel", "bargesIn", "(I)I"⟩, 13) := ⟨⟨by decide +kernel, by decide +kernel⟩, List.mem_of_getElem? (i := 783) (by decide +kernel), List.mem_of_getElem? (i := 1112) (by decide +kernel), List.mem_of_getElem? (i := 1113) (by decide +kernel)⟩
def lw_privs_4 : List (MethodName × Nat) := [(⟨"BargeLocksModel", "word", "(II)I"⟩, 13), (⟨"BargeLocksModel", "stands", "(ICCCC)Z"⟩, 13), (⟨"BargeLocksModel", "fail", "(I)V"⟩, 13), (⟨"BargeLocksModel", "number", "(II)I"⟩, 13), (⟨"BargeLocksModel", "carryOut", "(I)I"⟩, 13), (⟨"BargeLocksModel", "water", "(II)I"⟩, 13), (⟨"BargeLocksModel", "bargesIn", "(I)I"⟩, 13)]
theorem lw_r4 : ∀ q ∈ lw_privs_4, lw_okq q := List.forall_mem_cons.mpr ⟨lw_p48, List.forall_mem_cons.mpr ⟨lw_p49, List.forall_mem_cons.mpr ⟨lw_p50, List.forall_mem_cons.mpr ⟨lw_p51, List.forall_mem_cons.mpr ⟨lw_p52, List.forall_mem_cons.mpr ⟨lw_p53, List.forall_mem_cons.mpr ⟨lw_p54, fun _ h => absurd h List.not_mem_nil⟩⟩⟩⟩⟩⟩⟩
def lw_privs : List (MethodName × Nat) := lw_privs_1 ++ (lw_privs_2 ++ (lw_privs_3 ++ (lw_privs_4)))
def lw_tbl : List Cond := k2_sels lw_privs ++ tables_1
theorem lw_privs_ok : ∀ q ∈ lw_privs, lw_okq q := by
  show ∀ q ∈ lw_privs_1 ++ (lw_privs_2 ++ (lw_privs_3 ++ (lw_privs_4))), lw_okq q
  exact List.forall_mem_append.mpr ⟨lw_r1, List.forall_mem_append.mpr ⟨lw_r2, List.forall_mem_append.mpr ⟨lw_r3, lw_r4⟩⟩⟩
-- ===== end of PART A; then your names; then what follows =====
end
section
/-! names, fields, codes, decode rows: printed out of the claim's own names -/
def RX0 : String := "BargeLocks$Barge"
def TX0 : u_T := fun k => match k with
  | 0 => ("BargeLocks$Barge", "length", "I", false)
  | 1 => ("BargeLocks$Barge", "ownWeight", "I", false)
  | 2 => ("BargeLocks$Barge", "immersion", "I", false)
  | 3 => ("BargeLocks$Barge", "hold", "I", false)
  | 4 => ("BargeLocks$Barge", "cargo", "I", false)
  | 5 => ("BargeLocks$Barge", "ballast", "I", false)
  | 6 => ("BargeLocks$Barge", "place", "I", false)
  | _ => ("BargeLocks$Barge", "passages", "I", false)
def tyX0 : Nat → FieldType := fun k => match k with
  | 0 => .int
  | 1 => .int
  | 2 => .int
  | 3 => .int
  | 4 => .int
  | 5 => .int
  | 6 => .int
  | _ => .int
theorem nmX0 : ∀ a, a < 8 → ∀ b, b < 8 → a ≠ b → (TX0 a).2.1 ≠ (TX0 b).2.1 := by decide +kernel
theorem tyX0_ok : ∀ k, k < 8 → parseFieldDescriptor (TX0 k).2.2.1 = some (tyX0 k) := by decide +kernel
abbrev cX0_init : ByteArray := prog_2_method_1_code
def yX0_init : MethodName := ⟨RX0, "<init>", "()V"⟩
abbrev cX0_begin : ByteArray := prog_2_method_2_code
def yX0_begin : MethodName := ⟨RX0, "begin", "(IIIII)V"⟩
abbrev cX0_weight : ByteArray := prog_2_method_3_code
def yX0_weight : MethodName := ⟨RX0, "weight", "()I"⟩
abbrev cX0_draught : ByteArray := prog_2_method_4_code
def yX0_draught : MethodName := ⟨RX0, "draught", "()I"⟩
abbrev cX0_freeHold : ByteArray := prog_2_method_5_code
def yX0_freeHold : MethodName := ⟨RX0, "freeHold", "()I"⟩
abbrev cX0_isInChamber : ByteArray := prog_2_method_6_code
def yX0_isInChamber : MethodName := ⟨RX0, "isInChamber", "()Z"⟩
abbrev cX0_copyTo : ByteArray := prog_2_method_7_code
def yX0_copyTo : MethodName := ⟨RX0, "copyTo", "(LBargeLocks$Barge;)V"⟩
def RX1 : String := "BargeLocks$Chamber"
def TX1 : u_T := fun k => match k with
  | 0 => ("BargeLocks$Chamber", "water", "LBargeLocks$Water;", true)
  | 1 => ("BargeLocks$Chamber", "lowerSill", "LBargeLocks$Sill;", true)
  | 2 => ("BargeLocks$Chamber", "upperSill", "LBargeLocks$Sill;", true)
  | 3 => ("BargeLocks$Chamber", "row", "[I", true)
  | 4 => ("BargeLocks$Chamber", "rowSize", "I", false)
  | 5 => ("BargeLocks$Chamber", "length", "I", false)
  | 6 => ("BargeLocks$Chamber", "lengthLeft", "I", false)
  | _ => ("BargeLocks$Chamber", "openGate", "I", false)
def tyX1 : Nat → FieldType := fun k => match k with
  | 0 => .object "BargeLocks$Water"
  | 1 => .object "BargeLocks$Sill"
  | 2 => .object "BargeLocks$Sill"
  | 3 => .array .int
  | 4 => .int
  | 5 => .int
  | 6 => .int
  | _ => .int
theorem nmX1 : ∀ a, a < 8 → ∀ b, b < 8 → a ≠ b → (TX1 a).2.1 ≠ (TX1 b).2.1 := by decide +kernel
theorem tyX1_ok : ∀ k, k < 8 → parseFieldDescriptor (TX1 k).2.2.1 = some (tyX1 k) := by decide +kernel
abbrev cX1_init : ByteArray := prog_3_method_1_code
def yX1_init : MethodName := ⟨RX1, "<init>", "()V"⟩
abbrev cX1_begin : ByteArray := prog_3_method_2_code
def yX1_begin : MethodName := ⟨RX1, "begin", "(III)V"⟩
abbrev cX1_sillOf : ByteArray := prog_3_method_3_code
def yX1_sillOf : MethodName := ⟨RX1, "sillOf", "(I)LBargeLocks$Sill;"⟩
abbrev cX1_bargeIn : ByteArray := prog_3_method_4_code
def yX1_bargeIn : MethodName := ⟨RX1, "bargeIn", "(I)I"⟩
abbrev cX1_bargeNextTo : ByteArray := prog_3_method_5_code
def yX1_bargeNextTo : MethodName := ⟨RX1, "bargeNextTo", "(I)I"⟩
abbrev cX1_takeIn : ByteArray := prog_3_method_6_code
def yX1_takeIn : MethodName := ⟨RX1, "takeIn", "(III)V"⟩
abbrev cX1_letOut : ByteArray := prog_3_method_7_code
def yX1_letOut : MethodName := ⟨RX1, "letOut", "(II)V"⟩
abbrev cX1_copyTo : ByteArray := prog_3_method_8_code
def yX1_copyTo : MethodName := ⟨RX1, "copyTo", "(LBargeLocks$Chamber;)V"⟩
def RX2 : String := "BargeLocks$Flight"
def TX2 : u_T := fun k => match k with
  | 0 => ("BargeLocks$Flight", "reaches", "[LBargeLocks$Water;", true)
  | 1 => ("BargeLocks$Flight", "chambers", "[LBargeLocks$Chamber;", true)
  | 2 => ("BargeLocks$Flight", "barges", "[LBargeLocks$Barge;", true)
  | 3 => ("BargeLocks$Flight", "reachCount", "I", false)
  | 4 => ("BargeLocks$Flight", "chamberCount", "I", false)
  | 5 => ("BargeLocks$Flight", "bargeCount", "I", false)
  | 6 => ("BargeLocks$Flight", "clearance", "I", false)
  | 7 => ("BargeLocks$Flight", "supplied", "J", false)
  | _ => ("BargeLocks$Flight", "firstWater", "J", false)
def tyX2 : Nat → FieldType := fun k => match k with
  | 0 => .array (.object "BargeLocks$Water")
  | 1 => .array (.object "BargeLocks$Chamber")
  | 2 => .array (.object "BargeLocks$Barge")
  | 3 => .int
  | 4 => .int
  | 5 => .int
  | 6 => .int
  | 7 => .long
  | _ => .long
theorem nmX2 : ∀ a, a < 9 → ∀ b, b < 9 → a ≠ b → (TX2 a).2.1 ≠ (TX2 b).2.1 := by decide +kernel
theorem tyX2_ok : ∀ k, k < 9 → parseFieldDescriptor (TX2 k).2.2.1 = some (tyX2 k) := by decide +kernel
abbrev cX2_init : ByteArray := prog_4_method_1_code
def yX2_init : MethodName := ⟨RX2, "<init>", "()V"⟩
abbrev cX2_reachAt : ByteArray := prog_4_method_2_code
def yX2_reachAt : MethodName := ⟨RX2, "reachAt", "(I)LBargeLocks$Water;"⟩
abbrev cX2_chamberAt : ByteArray := prog_4_method_3_code
def yX2_chamberAt : MethodName := ⟨RX2, "chamberAt", "(I)LBargeLocks$Chamber;"⟩
abbrev cX2_bargeAt : ByteArray := prog_4_method_4_code
def yX2_bargeAt : MethodName := ⟨RX2, "bargeAt", "(I)LBargeLocks$Barge;"⟩
abbrev cX2_sillAt : ByteArray := prog_4_method_5_code
def yX2_sillAt : MethodName := ⟨RX2, "sillAt", "(II)LBargeLocks$Sill;"⟩
abbrev cX2_reachBehind : ByteArray := prog_4_method_6_code
def yX2_reachBehind : MethodName := ⟨RX2, "reachBehind", "(II)LBargeLocks$Water;"⟩
abbrev cX2_waterAt : ByteArray := prog_4_method_7_code
def yX2_waterAt : MethodName := ⟨RX2, "waterAt", "(I)LBargeLocks$Water;"⟩
abbrev cX2_appendReach : ByteArray := prog_4_method_8_code
def yX2_appendReach : MethodName := ⟨RX2, "appendReach", "(III)V"⟩
abbrev cX2_appendChamber : ByteArray := prog_4_method_9_code
def yX2_appendChamber : MethodName := ⟨RX2, "appendChamber", "(III)V"⟩
abbrev cX2_appendBarge : ByteArray := prog_4_method_10_code
def yX2_appendBarge : MethodName := ⟨RX2, "appendBarge", "(IIIII)V"⟩
abbrev cX2_isAground : ByteArray := prog_4_method_11_code
def yX2_isAground : MethodName := ⟨RX2, "isAground", "(LBargeLocks$Barge;)Z"⟩
abbrev cX2_mostDraught : ByteArray := prog_4_method_12_code
def yX2_mostDraught : MethodName := ⟨RX2, "mostDraught", "(LBargeLocks$Chamber;LBargeLocks$Sill;)J"⟩
abbrev cX2_move : ByteArray := prog_4_method_13_code
def yX2_move : MethodName := ⟨RX2, "move", "(LBargeLocks$Barge;I)V"⟩
abbrev cX2_settle : ByteArray := prog_4_method_14_code
def yX2_settle : MethodName := ⟨RX2, "settle", "()V"⟩
abbrev cX2_propertyOf : ByteArray := prog_4_method_15_code
def yX2_propertyOf : MethodName := ⟨RX2, "propertyOf", "(LBargeLocks$Barge;I)I"⟩
abbrev cX2_sumOfBarges : ByteArray := prog_4_method_16_code
def yX2_sumOfBarges : MethodName := ⟨RX2, "sumOfBarges", "(I)J"⟩
abbrev cX2_allWater : ByteArray := prog_4_method_17_code
def yX2_allWater : MethodName := ⟨RX2, "allWater", "()J"⟩
abbrev cX2_openGates : ByteArray := prog_4_method_18_code
def yX2_openGates : MethodName := ⟨RX2, "openGates", "()I"⟩
abbrev cX2_bargesInChambers : ByteArray := prog_4_method_19_code
def yX2_bargesInChambers : MethodName := ⟨RX2, "bargesInChambers", "()I"⟩
abbrev cX2_copyTo : ByteArray := prog_4_method_20_code
def yX2_copyTo : MethodName := ⟨RX2, "copyTo", "(LBargeLocks$Flight;)V"⟩
def RX3 : String := "BargeLocks$History"
def TX3 : u_T := fun k => match k with
  | 0 => ("BargeLocks$History", "ring", "[LBargeLocks$Flight;", true)
  | 1 => ("BargeLocks$History", "oldest", "I", false)
  | _ => ("BargeLocks$History", "size", "I", false)
def tyX3 : Nat → FieldType := fun k => match k with
  | 0 => .array (.object "BargeLocks$Flight")
  | 1 => .int
  | _ => .int
theorem nmX3 : ∀ a, a < 3 → ∀ b, b < 3 → a ≠ b → (TX3 a).2.1 ≠ (TX3 b).2.1 := by decide +kernel
theorem tyX3_ok : ∀ k, k < 3 → parseFieldDescriptor (TX3 k).2.2.1 = some (tyX3 k) := by decide +kernel
abbrev cX3_init : ByteArray := prog_5_method_1_code
def yX3_init : MethodName := ⟨RX3, "<init>", "()V"⟩
abbrev cX3_stateAt : ByteArray := prog_5_method_2_code
def yX3_stateAt : MethodName := ⟨RX3, "stateAt", "(I)LBargeLocks$Flight;"⟩
abbrev cX3_add : ByteArray := prog_5_method_3_code
def yX3_add : MethodName := ⟨RX3, "add", "(LBargeLocks$Flight;)V"⟩
abbrev cX3_takeLatest : ByteArray := prog_5_method_4_code
def yX3_takeLatest : MethodName := ⟨RX3, "takeLatest", "(LBargeLocks$Flight;)V"⟩
def RX4 : String := "BargeLocks$Orders"
def TX4 : u_T := fun k => match k with
  | 0 => ("BargeLocks$Orders", "text", "[C", true)
  | 1 => ("BargeLocks$Orders", "length", "I", false)
  | 2 => ("BargeLocks$Orders", "position", "I", false)
  | 3 => ("BargeLocks$Orders", "verb", "I", false)
  | 4 => ("BargeLocks$Orders", "first", "I", false)
  | _ => ("BargeLocks$Orders", "second", "I", false)
def tyX4 : Nat → FieldType := fun k => match k with
  | 0 => .array .char
  | 1 => .int
  | 2 => .int
  | 3 => .int
  | 4 => .int
  | _ => .int
theorem nmX4 : ∀ a, a < 6 → ∀ b, b < 6 → a ≠ b → (TX4 a).2.1 ≠ (TX4 b).2.1 := by decide +kernel
theorem tyX4_ok : ∀ k, k < 6 → parseFieldDescriptor (TX4 k).2.2.1 = some (tyX4 k) := by decide +kernel
abbrev cX4_init : ByteArray := prog_6_method_1_code
def yX4_init : MethodName := ⟨RX4, "<init>", "()V"⟩
abbrev cX4_append : ByteArray := prog_6_method_2_code
def yX4_append : MethodName := ⟨RX4, "append", "(C)I"⟩
abbrev cX4_removeAll : ByteArray := prog_6_method_3_code
def yX4_removeAll : MethodName := ⟨RX4, "removeAll", "()I"⟩
abbrev cX4_rewind : ByteArray := prog_6_method_4_code
def yX4_rewind : MethodName := ⟨RX4, "rewind", "()V"⟩
abbrev cX4_hasMore : ByteArray := prog_6_method_5_code
def yX4_hasMore : MethodName := ⟨RX4, "hasMore", "()Z"⟩
abbrev cX4_findFault : ByteArray := prog_6_method_6_code
def yX4_findFault : MethodName := ⟨RX4, "findFault", "()I"⟩
abbrev cX4_readOrder : ByteArray := prog_6_method_7_code
def yX4_readOrder : MethodName := ⟨RX4, "readOrder", "()Z"⟩
abbrev cX4_readVerb : ByteArray := prog_6_method_8_code
def yX4_readVerb : MethodName := ⟨RX4, "readVerb", "()V"⟩
abbrev cX4_readFirst : ByteArray := prog_6_method_9_code
def yX4_readFirst : MethodName := ⟨RX4, "readFirst", "(I)Z"⟩
abbrev cX4_readSecond : ByteArray := prog_6_method_10_code
def yX4_readSecond : MethodName := ⟨RX4, "readSecond", "(II)Z"⟩
abbrev cX4_readNumber : ByteArray := prog_6_method_11_code
def yX4_readNumber : MethodName := ⟨RX4, "readNumber", "(II)I"⟩
abbrev cX4_readSign : ByteArray := prog_6_method_12_code
def yX4_readSign : MethodName := ⟨RX4, "readSign", "(C)Z"⟩
abbrev cX4_endOfToken : ByteArray := prog_6_method_13_code
def yX4_endOfToken : MethodName := ⟨RX4, "endOfToken", "()I"⟩
abbrev cX4_stands : ByteArray := prog_6_method_14_code
def yX4_stands : MethodName := ⟨RX4, "stands", "(Ljava/lang/String;I)Z"⟩
abbrev cX4_signAt : ByteArray := prog_6_method_15_code
def yX4_signAt : MethodName := ⟨RX4, "signAt", "(I)C"⟩
abbrev cX4_wordOf : ByteArray := prog_6_method_16_code
def yX4_wordOf : MethodName := ⟨RX4, "wordOf", "(I)Ljava/lang/String;"⟩
def RX5 : String := "BargeLocks$Sill"
def TX5 : u_T := fun k => match k with
  | 0 => ("BargeLocks$Sill", "ownHeight", "I", false)
  | 1 => ("BargeLocks$Sill", "mud", "I", false)
  | _ => ("BargeLocks$Sill", "passages", "I", false)
def tyX5 : Nat → FieldType := fun k => match k with
  | 0 => .int
  | 1 => .int
  | _ => .int
theorem nmX5 : ∀ a, a < 3 → ∀ b, b < 3 → a ≠ b → (TX5 a).2.1 ≠ (TX5 b).2.1 := by decide +kernel
theorem tyX5_ok : ∀ k, k < 3 → parseFieldDescriptor (TX5 k).2.2.1 = some (tyX5 k) := by decide +kernel
abbrev cX5_init : ByteArray := prog_7_method_1_code
def yX5_init : MethodName := ⟨RX5, "<init>", "()V"⟩
abbrev cX5_begin : ByteArray := prog_7_method_2_code
def yX5_begin : MethodName := ⟨RX5, "begin", "()V"⟩
abbrev cX5_height : ByteArray := prog_7_method_3_code
def yX5_height : MethodName := ⟨RX5, "height", "()I"⟩
abbrev cX5_countPassage : ByteArray := prog_7_method_4_code
def yX5_countPassage : MethodName := ⟨RX5, "countPassage", "()V"⟩
abbrev cX5_copyTo : ByteArray := prog_7_method_5_code
def yX5_copyTo : MethodName := ⟨RX5, "copyTo", "(LBargeLocks$Sill;)V"⟩
def RX6 : String := "BargeLocks$Water"
def TX6 : u_T := fun k => match k with
  | 0 => ("BargeLocks$Water", "area", "J", false)
  | 1 => ("BargeLocks$Water", "floor", "J", false)
  | 2 => ("BargeLocks$Water", "amount", "J", false)
  | 3 => ("BargeLocks$Water", "floats", "J", false)
  | _ => ("BargeLocks$Water", "bargeCount", "I", false)
def tyX6 : Nat → FieldType := fun k => match k with
  | 0 => .long
  | 1 => .long
  | 2 => .long
  | 3 => .long
  | _ => .int
theorem nmX6 : ∀ a, a < 5 → ∀ b, b < 5 → a ≠ b → (TX6 a).2.1 ≠ (TX6 b).2.1 := by decide +kernel
theorem tyX6_ok : ∀ k, k < 5 → parseFieldDescriptor (TX6 k).2.2.1 = some (tyX6 k) := by decide +kernel
abbrev cX6_init : ByteArray := prog_8_method_1_code
def yX6_init : MethodName := ⟨RX6, "<init>", "()V"⟩
abbrev cX6_begin : ByteArray := prog_8_method_2_code
def yX6_begin : MethodName := ⟨RX6, "begin", "(III)V"⟩
abbrev cX6_depth : ByteArray := prog_8_method_3_code
def yX6_depth : MethodName := ⟨RX6, "depth", "()J"⟩
abbrev cX6_level : ByteArray := prog_8_method_4_code
def yX6_level : MethodName := ⟨RX6, "level", "()J"⟩
abbrev cX6_takeIn : ByteArray := prog_8_method_5_code
def yX6_takeIn : MethodName := ⟨RX6, "takeIn", "(I)V"⟩
abbrev cX6_letOut : ByteArray := prog_8_method_6_code
def yX6_letOut : MethodName := ⟨RX6, "letOut", "(I)V"⟩
abbrev cX6_flowFrom : ByteArray := prog_8_method_7_code
def yX6_flowFrom : MethodName := ⟨RX6, "flowFrom", "(LBargeLocks$Water;)J"⟩
abbrev cX6_shareWith : ByteArray := prog_8_method_8_code
def yX6_shareWith : MethodName := ⟨RX6, "shareWith", "(LBargeLocks$Water;)V"⟩
abbrev cX6_property : ByteArray := prog_8_method_9_code
def yX6_property : MethodName := ⟨RX6, "property", "(I)I"⟩
abbrev cX6_copyTo : ByteArray := prog_8_method_10_code
def yX6_copyTo : MethodName := ⟨RX6, "copyTo", "(LBargeLocks$Water;)V"⟩
def RX7 : String := "BargeLocks"
def TX7 : u_T := fun k => match k with
  | 0 => ("BargeLocks", "flight", "LBargeLocks$Flight;", true)
  | 1 => ("BargeLocks", "history", "LBargeLocks$History;", true)
  | 2 => ("BargeLocks", "slots", "[LBargeLocks$Flight;", true)
  | 3 => ("BargeLocks", "orders", "LBargeLocks$Orders;", true)
  | 4 => ("BargeLocks", "reason", "I", false)
  | _ => ("BargeLocks", "carryingOut", "Z", false)
def tyX7 : Nat → FieldType := fun k => match k with
  | 0 => .object "BargeLocks$Flight"
  | 1 => .object "BargeLocks$History"
  | 2 => .array (.object "BargeLocks$Flight")
  | 3 => .object "BargeLocks$Orders"
  | 4 => .int
  | _ => .boolean
theorem nmX7 : ∀ a, a < 6 → ∀ b, b < 6 → a ≠ b → (TX7 a).2.1 ≠ (TX7 b).2.1 := by decide +kernel
theorem tyX7_ok : ∀ k, k < 6 → parseFieldDescriptor (TX7 k).2.2.1 = some (tyX7 k) := by decide +kernel
abbrev cX7_init : ByteArray := prog_1_method_1_code
def yX7_init : MethodName := ⟨RX7, "<init>", "()V"⟩
abbrev cX7_addReach : ByteArray := prog_1_method_2_code
def yX7_addReach : MethodName := ⟨RX7, "addReach", "(III)I"⟩
abbrev cX7_addChamber : ByteArray := prog_1_method_3_code
def yX7_addChamber : MethodName := ⟨RX7, "addChamber", "(IIIIII)I"⟩
abbrev cX7_setSill : ByteArray := prog_1_method_4_code
def yX7_setSill : MethodName := ⟨RX7, "setSill", "(III)I"⟩
abbrev cX7_setClearance : ByteArray := prog_1_method_5_code
def yX7_setClearance : MethodName := ⟨RX7, "setClearance", "(I)I"⟩
abbrev cX7_dredge : ByteArray := prog_1_method_6_code
def yX7_dredge : MethodName := ⟨RX7, "dredge", "(II)I"⟩
abbrev cX7_supply : ByteArray := prog_1_method_7_code
def yX7_supply : MethodName := ⟨RX7, "supply", "(II)I"⟩
abbrev cX7_addBarge : ByteArray := prog_1_method_8_code
def yX7_addBarge : MethodName := ⟨RX7, "addBarge", "(IIIII)I"⟩
abbrev cX7_load : ByteArray := prog_1_method_9_code
def yX7_load : MethodName := ⟨RX7, "load", "(II)I"⟩
abbrev cX7_pump : ByteArray := prog_1_method_10_code
def yX7_pump : MethodName := ⟨RX7, "pump", "(II)I"⟩
abbrev cX7_sluice : ByteArray := prog_1_method_11_code
def yX7_sluice : MethodName := ⟨RX7, "sluice", "(II)I"⟩
abbrev cX7_open : ByteArray := prog_1_method_12_code
def yX7_open : MethodName := ⟨RX7, "open", "(II)I"⟩
abbrev cX7_close : ByteArray := prog_1_method_13_code
def yX7_close : MethodName := ⟨RX7, "close", "(I)I"⟩
abbrev cX7_enter : ByteArray := prog_1_method_14_code
def yX7_enter : MethodName := ⟨RX7, "enter", "(II)I"⟩
abbrev cX7_leave : ByteArray := prog_1_method_15_code
def yX7_leave : MethodName := ⟨RX7, "leave", "(II)I"⟩
abbrev cX7_type : ByteArray := prog_1_method_16_code
def yX7_type : MethodName := ⟨RX7, "type", "(C)I"⟩
abbrev cX7_clearText : ByteArray := prog_1_method_17_code
def yX7_clearText : MethodName := ⟨RX7, "clearText", "()I"⟩
abbrev cX7_runOrders : ByteArray := prog_1_method_18_code
def yX7_runOrders : MethodName := ⟨RX7, "runOrders", "()I"⟩
abbrev cX7_undo : ByteArray := prog_1_method_19_code
def yX7_undo : MethodName := ⟨RX7, "undo", "()I"⟩
abbrev cX7_keep : ByteArray := prog_1_method_20_code
def yX7_keep : MethodName := ⟨RX7, "keep", "(I)I"⟩
abbrev cX7_restore : ByteArray := prog_1_method_21_code
def yX7_restore : MethodName := ⟨RX7, "restore", "(I)I"⟩
abbrev cX7_reach : ByteArray := prog_1_method_22_code
def yX7_reach : MethodName := ⟨RX7, "reach", "(II)I"⟩
abbrev cX7_chamber : ByteArray := prog_1_method_23_code
def yX7_chamber : MethodName := ⟨RX7, "chamber", "(II)I"⟩
abbrev cX7_lying : ByteArray := prog_1_method_24_code
def yX7_lying : MethodName := ⟨RX7, "lying", "(II)I"⟩
abbrev cX7_barge : ByteArray := prog_1_method_25_code
def yX7_barge : MethodName := ⟨RX7, "barge", "(II)I"⟩
abbrev cX7_margin : ByteArray := prog_1_method_26_code
def yX7_margin : MethodName := ⟨RX7, "margin", "(III)I"⟩
abbrev cX7_flow : ByteArray := prog_1_method_27_code
def yX7_flow : MethodName := ⟨RX7, "flow", "(II)I"⟩
abbrev cX7_account : ByteArray := prog_1_method_28_code
def yX7_account : MethodName := ⟨RX7, "account", "(I)J"⟩
abbrev cX7_count : ByteArray := prog_1_method_29_code
def yX7_count : MethodName := ⟨RX7, "count", "(I)I"⟩
abbrev cX7_isWithin : ByteArray := prog_1_method_30_code
def yX7_isWithin : MethodName := ⟨RX7, "isWithin", "(III)Z"⟩
abbrev cX7_isBasin : ByteArray := prog_1_method_31_code
def yX7_isBasin : MethodName := ⟨RX7, "isBasin", "(II)Z"⟩
abbrev cX7_isReach : ByteArray := prog_1_method_32_code
def yX7_isReach : MethodName := ⟨RX7, "isReach", "(III)Z"⟩
abbrev cX7_isTons : ByteArray := prog_1_method_33_code
def yX7_isTons : MethodName := ⟨RX7, "isTons", "(I)Z"⟩
abbrev cX7_divideDown : ByteArray := prog_1_method_34_code
def yX7_divideDown : MethodName := ⟨RX7, "divideDown", "(JJ)J"⟩
abbrev cX7_refuse : ByteArray := prog_1_method_35_code
def yX7_refuse : MethodName := ⟨RX7, "refuse", "(I)I"⟩
abbrev cX7_record : ByteArray := prog_1_method_36_code
def yX7_record : MethodName := ⟨RX7, "record", "()V"⟩
abbrev cX7_carryOut : ByteArray := prog_1_method_37_code
def yX7_carryOut : MethodName := ⟨RX7, "carryOut", "()I"⟩
def RX8 : String := "BargeLocksModel"
def TX8 : u_T := fun k => match k with
  | 0 => ("BargeLocksModel", "row", "[I", true)
  | 1 => ("BargeLocksModel", "scratch", "[I", true)
  | 2 => ("BargeLocksModel", "history", "[I", true)
  | 3 => ("BargeLocksModel", "kept", "I", false)
  | 4 => ("BargeLocksModel", "slots", "[I", true)
  | 5 => ("BargeLocksModel", "isKept", "[Z", true)
  | 6 => ("BargeLocksModel", "reason", "I", false)
  | 7 => ("BargeLocksModel", "typed", "I", false)
  | 8 => ("BargeLocksModel", "text", "[C", true)
  | 9 => ("BargeLocksModel", "place", "I", false)
  | 10 => ("BargeLocksModel", "fault", "I", false)
  | 11 => ("BargeLocksModel", "orders", "I", false)
  | _ => ("BargeLocksModel", "orderOf", "[I", true)
def tyX8 : Nat → FieldType := fun k => match k with
  | 0 => .array .int
  | 1 => .array .int
  | 2 => .array .int
  | 3 => .int
  | 4 => .array .int
  | 5 => .array .boolean
  | 6 => .int
  | 7 => .int
  | 8 => .array .char
  | 9 => .int
  | 10 => .int
  | 11 => .int
  | _ => .array .int
theorem nmX8 : ∀ a, a < 13 → ∀ b, b < 13 → a ≠ b → (TX8 a).2.1 ≠ (TX8 b).2.1 := by decide +kernel
theorem tyX8_ok : ∀ k, k < 13 → parseFieldDescriptor (TX8 k).2.2.1 = some (tyX8 k) := by decide +kernel
abbrev cX8_init : ByteArray := prog_10_method_1_code
def yX8_init : MethodName := ⟨RX8, "<init>", "()V"⟩
abbrev cX8_in : ByteArray := prog_10_method_2_code
def yX8_in : MethodName := ⟨RX8, "in", "(III)Z"⟩
abbrev cX8_down : ByteArray := prog_10_method_3_code
def yX8_down : MethodName := ⟨RX8, "down", "(JJ)J"⟩
abbrev cX8_refuse : ByteArray := prog_10_method_4_code
def yX8_refuse : MethodName := ⟨RX8, "refuse", "(I)I"⟩
abbrev cX8_begin : ByteArray := prog_10_method_5_code
def yX8_begin : MethodName := ⟨RX8, "begin", "()V"⟩
abbrev cX8_record : ByteArray := prog_10_method_6_code
def yX8_record : MethodName := ⟨RX8, "record", "()V"⟩
abbrev cX8_done : ByteArray := prog_10_method_7_code
def yX8_done : MethodName := ⟨RX8, "done", "(I)I"⟩
abbrev cX8_undo : ByteArray := prog_10_method_8_code
def yX8_undo : MethodName := ⟨RX8, "undo", "()I"⟩
abbrev cX8_keep : ByteArray := prog_10_method_9_code
def yX8_keep : MethodName := ⟨RX8, "keep", "(I)I"⟩
abbrev cX8_restore : ByteArray := prog_10_method_10_code
def yX8_restore : MethodName := ⟨RX8, "restore", "(I)I"⟩
abbrev cX8_waterAt : ByteArray := prog_10_method_11_code
def yX8_waterAt : MethodName := ⟨RX8, "waterAt", "(I)I"⟩
abbrev cX8_noReach : ByteArray := prog_10_method_12_code
def yX8_noReach : MethodName := ⟨RX8, "noReach", "(I)Z"⟩
abbrev cX8_noChamber : ByteArray := prog_10_method_13_code
def yX8_noChamber : MethodName := ⟨RX8, "noChamber", "(I)Z"⟩
abbrev cX8_noGate : ByteArray := prog_10_method_14_code
def yX8_noGate : MethodName := ⟨RX8, "noGate", "(II)Z"⟩
abbrev cX8_noBarge : ByteArray := prog_10_method_15_code
def yX8_noBarge : MethodName := ⟨RX8, "noBarge", "(I)Z"⟩
abbrev cX8_of : ByteArray := prog_10_method_16_code
def yX8_of : MethodName := ⟨RX8, "of", "(II)I"⟩
abbrev cX8_put : ByteArray := prog_10_method_17_code
def yX8_put : MethodName := ⟨RX8, "put", "(III)V"⟩
abbrev cX8_chamberOf : ByteArray := prog_10_method_18_code
def yX8_chamberOf : MethodName := ⟨RX8, "chamberOf", "(II)I"⟩
abbrev cX8_weight : ByteArray := prog_10_method_19_code
def yX8_weight : MethodName := ⟨RX8, "weight", "(I)I"⟩
abbrev cX8_draught : ByteArray := prog_10_method_20_code
def yX8_draught : MethodName := ⟨RX8, "draught", "(I)I"⟩
abbrev cX8_floats : ByteArray := prog_10_method_21_code
def yX8_floats : MethodName := ⟨RX8, "floats", "(I)I"⟩
abbrev cX8_bargesIn : ByteArray := prog_10_method_22_code
def yX8_bargesIn : MethodName := ⟨RX8, "bargesIn", "(I)I"⟩
abbrev cX8_deep : ByteArray := prog_10_method_23_code
def yX8_deep : MethodName := ⟨RX8, "deep", "(I)I"⟩
abbrev cX8_level : ByteArray := prog_10_method_24_code
def yX8_level : MethodName := ⟨RX8, "level", "(I)I"⟩
abbrev cX8_isAground : ByteArray := prog_10_method_25_code
def yX8_isAground : MethodName := ⟨RX8, "isAground", "(I)Z"⟩
abbrev cX8_shared : ByteArray := prog_10_method_26_code
def yX8_shared : MethodName := ⟨RX8, "shared", "(II)I"⟩
abbrev cX8_share : ByteArray := prog_10_method_27_code
def yX8_share : MethodName := ⟨RX8, "share", "(II)V"⟩
abbrev cX8_openGate : ByteArray := prog_10_method_28_code
def yX8_openGate : MethodName := ⟨RX8, "openGate", "(I)I"⟩
abbrev cX8_shareAll : ByteArray := prog_10_method_29_code
def yX8_shareAll : MethodName := ⟨RX8, "shareAll", "()V"⟩
abbrev cX8_putReach : ByteArray := prog_10_method_30_code
def yX8_putReach : MethodName := ⟨RX8, "putReach", "(III)V"⟩
abbrev cX8_isReach : ByteArray := prog_10_method_31_code
def yX8_isReach : MethodName := ⟨RX8, "isReach", "(III)Z"⟩
abbrev cX8_addReach : ByteArray := prog_10_method_32_code
def yX8_addReach : MethodName := ⟨RX8, "addReach", "(III)I"⟩
abbrev cX8_addChamber : ByteArray := prog_10_method_33_code
def yX8_addChamber : MethodName := ⟨RX8, "addChamber", "(IIIIII)I"⟩
abbrev cX8_setSill : ByteArray := prog_10_method_34_code
def yX8_setSill : MethodName := ⟨RX8, "setSill", "(III)I"⟩
abbrev cX8_setClearance : ByteArray := prog_10_method_35_code
def yX8_setClearance : MethodName := ⟨RX8, "setClearance", "(I)I"⟩
abbrev cX8_dredge : ByteArray := prog_10_method_36_code
def yX8_dredge : MethodName := ⟨RX8, "dredge", "(II)I"⟩
abbrev cX8_supply : ByteArray := prog_10_method_37_code
def yX8_supply : MethodName := ⟨RX8, "supply", "(II)I"⟩
abbrev cX8_addBarge : ByteArray := prog_10_method_38_code
def yX8_addBarge : MethodName := ⟨RX8, "addBarge", "(IIIII)I"⟩
abbrev cX8_isTons : ByteArray := prog_10_method_39_code
def yX8_isTons : MethodName := ⟨RX8, "isTons", "(I)Z"⟩
abbrev cX8_room : ByteArray := prog_10_method_40_code
def yX8_room : MethodName := ⟨RX8, "room", "(I)I"⟩
abbrev cX8_doLoad : ByteArray := prog_10_method_41_code
def yX8_doLoad : MethodName := ⟨RX8, "doLoad", "(II)I"⟩
abbrev cX8_load : ByteArray := prog_10_method_42_code
def yX8_load : MethodName := ⟨RX8, "load", "(II)I"⟩
abbrev cX8_doPump : ByteArray := prog_10_method_43_code
def yX8_doPump : MethodName := ⟨RX8, "doPump", "(II)I"⟩
abbrev cX8_pump : ByteArray := prog_10_method_44_code
def yX8_pump : MethodName := ⟨RX8, "pump", "(II)I"⟩
abbrev cX8_doSluice : ByteArray := prog_10_method_45_code
def yX8_doSluice : MethodName := ⟨RX8, "doSluice", "(II)I"⟩
abbrev cX8_leveled : ByteArray := prog_10_method_46_code
def yX8_leveled : MethodName := ⟨RX8, "leveled", "(II)I"⟩
abbrev cX8_sluice : ByteArray := prog_10_method_47_code
def yX8_sluice : MethodName := ⟨RX8, "sluice", "(II)I"⟩
abbrev cX8_doOpen : ByteArray := prog_10_method_48_code
def yX8_doOpen : MethodName := ⟨RX8, "doOpen", "(II)I"⟩
abbrev cX8_open : ByteArray := prog_10_method_49_code
def yX8_open : MethodName := ⟨RX8, "open", "(II)I"⟩
abbrev cX8_doClose : ByteArray := prog_10_method_50_code
def yX8_doClose : MethodName := ⟨RX8, "doClose", "(I)I"⟩
abbrev cX8_close : ByteArray := prog_10_method_51_code
def yX8_close : MethodName := ⟨RX8, "close", "(I)I"⟩
abbrev cX8_lengthLeft : ByteArray := prog_10_method_52_code
def yX8_lengthLeft : MethodName := ⟨RX8, "lengthLeft", "(I)I"⟩
abbrev cX8_sillHeight : ByteArray := prog_10_method_53_code
def yX8_sillHeight : MethodName := ⟨RX8, "sillHeight", "(II)I"⟩
abbrev cX8_canPass : ByteArray := prog_10_method_54_code
def yX8_canPass : MethodName := ⟨RX8, "canPass", "(III)Z"⟩
abbrev cX8_pass : ByteArray := prog_10_method_55_code
def yX8_pass : MethodName := ⟨RX8, "pass", "(III)V"⟩
abbrev cX8_doEnter : ByteArray := prog_10_method_56_code
def yX8_doEnter : MethodName := ⟨RX8, "doEnter", "(II)I"⟩
abbrev cX8_enter : ByteArray := prog_10_method_57_code
def yX8_enter : MethodName := ⟨RX8, "enter", "(II)I"⟩
abbrev cX8_doLeave : ByteArray := prog_10_method_58_code
def yX8_doLeave : MethodName := ⟨RX8, "doLeave", "(II)I"⟩
abbrev cX8_leave : ByteArray := prog_10_method_59_code
def yX8_leave : MethodName := ⟨RX8, "leave", "(II)I"⟩
abbrev cX8_type : ByteArray := prog_10_method_60_code
def yX8_type : MethodName := ⟨RX8, "type", "(C)I"⟩
abbrev cX8_clearText : ByteArray := prog_10_method_61_code
def yX8_clearText : MethodName := ⟨RX8, "clearText", "()I"⟩
abbrev cX8_endOf : ByteArray := prog_10_method_62_code
def yX8_endOf : MethodName := ⟨RX8, "endOf", "(I)I"⟩
abbrev cX8_stands : ByteArray := prog_10_method_63_code
def yX8_stands : MethodName := ⟨RX8, "stands", "(ICCCC)Z"⟩
abbrev cX8_word : ByteArray := prog_10_method_64_code
def yX8_word : MethodName := ⟨RX8, "word", "(II)I"⟩
abbrev cX8_fail : ByteArray := prog_10_method_65_code
def yX8_fail : MethodName := ⟨RX8, "fail", "(I)V"⟩
abbrev cX8_number : ByteArray := prog_10_method_66_code
def yX8_number : MethodName := ⟨RX8, "number", "(II)I"⟩
abbrev cX8_readOrder : ByteArray := prog_10_method_67_code
def yX8_readOrder : MethodName := ⟨RX8, "readOrder", "()V"⟩
abbrev cX8_carryOut : ByteArray := prog_10_method_68_code
def yX8_carryOut : MethodName := ⟨RX8, "carryOut", "(I)I"⟩
abbrev cX8_runOrders : ByteArray := prog_10_method_69_code
def yX8_runOrders : MethodName := ⟨RX8, "runOrders", "()I"⟩
abbrev cX8_water : ByteArray := prog_10_method_70_code
def yX8_water : MethodName := ⟨RX8, "water", "(II)I"⟩
abbrev cX8_reach : ByteArray := prog_10_method_71_code
def yX8_reach : MethodName := ⟨RX8, "reach", "(II)I"⟩
abbrev cX8_chamber : ByteArray := prog_10_method_72_code
def yX8_chamber : MethodName := ⟨RX8, "chamber", "(II)I"⟩
abbrev cX8_lying : ByteArray := prog_10_method_73_code
def yX8_lying : MethodName := ⟨RX8, "lying", "(II)I"⟩
abbrev cX8_barge : ByteArray := prog_10_method_74_code
def yX8_barge : MethodName := ⟨RX8, "barge", "(II)I"⟩
abbrev cX8_margin : ByteArray := prog_10_method_75_code
def yX8_margin : MethodName := ⟨RX8, "margin", "(III)I"⟩
abbrev cX8_flow : ByteArray := prog_10_method_76_code
def yX8_flow : MethodName := ⟨RX8, "flow", "(II)I"⟩
abbrev cX8_account : ByteArray := prog_10_method_77_code
def yX8_account : MethodName := ⟨RX8, "account", "(I)J"⟩
abbrev cX8_count : ByteArray := prog_10_method_78_code
def yX8_count : MethodName := ⟨RX8, "count", "(I)I"⟩
def RJ9 : String := "java/lang/Math"
def TJ9 : u_T := fun k => match k with
  | _ => ("", "", "", false)
def tyJ9 : Nat → FieldType := fun k => match k with
  | _ => .int
theorem nmJ9 : ∀ a, a < 0 → ∀ b, b < 0 → a ≠ b → (TJ9 a).2.1 ≠ (TJ9 b).2.1 := by decide +kernel
theorem tyJ9_ok : ∀ k, k < 0 → parseFieldDescriptor (TJ9 k).2.2.1 = some (tyJ9 k) := by decide +kernel
abbrev cJ9_floorDiv_f86c9 : ByteArray := prog_11_method_49_code
def yJ9_floorDiv_f86c9 : MethodName := ⟨RJ9, "floorDiv", "(JJ)J"⟩
abbrev cJ9_abs_067f4 : ByteArray := prog_11_method_61_code
def yJ9_abs_067f4 : MethodName := ⟨RJ9, "abs", "(J)J"⟩
abbrev cJ9_max_f86c9 : ByteArray := prog_11_method_66_code
def yJ9_max_f86c9 : MethodName := ⟨RJ9, "max", "(JJ)J"⟩
abbrev cJ9_min_7cf53 : ByteArray := prog_11_method_69_code
def yJ9_min_7cf53 : MethodName := ⟨RJ9, "min", "(II)I"⟩
abbrev cJ9_min_f86c9 : ByteArray := prog_11_method_70_code
def yJ9_min_f86c9 : MethodName := ⟨RJ9, "min", "(JJ)J"⟩
def RJ0 : String := "java/lang/String"
def TJ0 : u_T := fun k => match k with
  | _ => ("", "", "", false)
def tyJ0 : Nat → FieldType := fun k => match k with
  | _ => .int
theorem nmJ0 : ∀ a, a < 0 → ∀ b, b < 0 → a ≠ b → (TJ0 a).2.1 ≠ (TJ0 b).2.1 := by decide +kernel
theorem tyJ0_ok : ∀ k, k < 0 → parseFieldDescriptor (TJ0 k).2.2.1 = some (tyJ0 k) := by decide +kernel
abbrev cJ0_length_8abf5 : ByteArray := prog_12_method_54_code
def yJ0_length_8abf5 : MethodName := ⟨RJ0, "length", "()I"⟩
abbrev cJ0_charAt_5068e : ByteArray := prog_12_method_56_code
def yJ0_charAt_5068e : MethodName := ⟨RJ0, "charAt", "(I)C"⟩
abbrev cJ0_coder_7d493 : ByteArray := prog_12_method_152_code
def yJ0_coder_7d493 : MethodName := ⟨RJ0, "coder", "()B"⟩
abbrev cJ0_isLatin1_aae02 : ByteArray := prog_12_method_154_code
def yJ0_isLatin1_aae02 : MethodName := ⟨RJ0, "isLatin1", "()Z"⟩
abbrev cJ0_checkIndex_df160 : ByteArray := prog_12_method_155_code
def yJ0_checkIndex_df160 : MethodName := ⟨RJ0, "checkIndex", "(II)V"⟩
def RJ1 : String := "java/lang/StringLatin1"
def TJ1 : u_T := fun k => match k with
  | _ => ("", "", "", false)
def tyJ1 : Nat → FieldType := fun k => match k with
  | _ => .int
theorem nmJ1 : ∀ a, a < 0 → ∀ b, b < 0 → a ≠ b → (TJ1 a).2.1 ≠ (TJ1 b).2.1 := by decide +kernel
theorem tyJ1_ok : ∀ k, k < 0 → parseFieldDescriptor (TJ1 k).2.2.1 = some (tyJ1 k) := by decide +kernel
abbrev cJ1_charAt_3b067 : ByteArray := prog_13_method_2_code
def yJ1_charAt_3b067 : MethodName := ⟨RJ1, "charAt", "([BI)C"⟩
def RJ2 : String := "java/lang/StringUTF16"
def TJ2 : u_T := fun k => match k with
  | _ => ("", "", "", false)
def tyJ2 : Nat → FieldType := fun k => match k with
  | _ => .int
theorem nmJ2 : ∀ a, a < 0 → ∀ b, b < 0 → a ≠ b → (TJ2 a).2.1 ≠ (TJ2 b).2.1 := by decide +kernel
theorem tyJ2_ok : ∀ k, k < 0 → parseFieldDescriptor (TJ2 k).2.2.1 = some (tyJ2 k) := by decide +kernel
abbrev cJ2_getChar_3b067 : ByteArray := prog_14_method_5_code
def yJ2_getChar_3b067 : MethodName := ⟨RJ2, "getChar", "([BI)C"⟩
abbrev cJ2_length_9d52b : ByteArray := prog_14_method_6_code
def yJ2_length_9d52b : MethodName := ⟨RJ2, "length", "([B)I"⟩
abbrev cJ2_charAt_3b067 : ByteArray := prog_14_method_83_code
def yJ2_charAt_3b067 : MethodName := ⟨RJ2, "charAt", "([BI)C"⟩
abbrev cJ2_checkIndex_2214a : ByteArray := prog_14_method_91_code
def yJ2_checkIndex_2214a : MethodName := ⟨RJ2, "checkIndex", "(I[B)V"⟩
def RJ10 : String := "java/lang/System"
def TJ10 : u_T := fun k => match k with
  | _ => ("", "", "", false)
def tyJ10 : Nat → FieldType := fun k => match k with
  | _ => .int
theorem nmJ10 : ∀ a, a < 0 → ∀ b, b < 0 → a ≠ b → (TJ10 a).2.1 ≠ (TJ10 b).2.1 := by decide +kernel
theorem tyJ10_ok : ∀ k, k < 0 → parseFieldDescriptor (TJ10 k).2.2.1 = some (tyJ10 k) := by decide +kernel
def RJ3 : String := "jdk/internal/util/Preconditions"
def TJ3 : u_T := fun k => match k with
  | _ => ("", "", "", false)
def tyJ3 : Nat → FieldType := fun k => match k with
  | _ => .int
theorem nmJ3 : ∀ a, a < 0 → ∀ b, b < 0 → a ≠ b → (TJ3 a).2.1 ≠ (TJ3 b).2.1 := by decide +kernel
theorem tyJ3_ok : ∀ k, k < 0 → parseFieldDescriptor (TJ3 k).2.2.1 = some (tyJ3 k) := by decide +kernel
abbrev cJ3_checkIndex_8e157 : ByteArray := prog_16_method_11_code
def yJ3_checkIndex_8e157 : MethodName := ⟨RJ3, "checkIndex", "(IILjava/util/function/BiFunction;)I"⟩
def RL : String := "BargeLocksLaw"
abbrev cL_law : ByteArray := code
def yL_law : MethodName := ⟨RL, "law", "([I)Z"⟩
theorem dX0_init_0 : decode cX0_init 0 = .ok (.aload_n 0, 1) := by decide +kernel
theorem dX0_init_1 : decode cX0_init 1 = .ok (.invokespecial 3, 3) := by decide +kernel
theorem dX0_init_4 : decode cX0_init 4 = .ok (.return_, 1) := by decide +kernel
theorem dX0_begin_0 : decode cX0_begin 0 = .ok (.aload_n 0, 1) := by decide +kernel
theorem dX0_begin_1 : decode cX0_begin 1 = .ok (.iload_n 2, 1) := by decide +kernel
theorem dX0_begin_2 : decode cX0_begin 2 = .ok (.putfield 9, 3) := by decide +kernel
theorem dX0_begin_5 : decode cX0_begin 5 = .ok (.aload_n 0, 1) := by decide +kernel
theorem dX0_begin_6 : decode cX0_begin 6 = .ok (.iload_n 3, 1) := by decide +kernel
theorem dX0_begin_7 : decode cX0_begin 7 = .ok (.putfield 15, 3) := by decide +kernel
theorem dX0_begin_10 : decode cX0_begin 10 = .ok (.aload_n 0, 1) := by decide +kernel
theorem dX0_begin_11 : decode cX0_begin 11 = .ok (.iload 4, 2) := by decide +kernel
theorem dX0_begin_13 : decode cX0_begin 13 = .ok (.putfield 18, 3) := by decide +kernel
theorem dX0_begin_16 : decode cX0_begin 16 = .ok (.aload_n 0, 1) := by decide +kernel
theorem dX0_begin_17 : decode cX0_begin 17 = .ok (.iload 5, 2) := by decide +kernel
theorem dX0_begin_19 : decode cX0_begin 19 = .ok (.putfield 21, 3) := by decide +kernel
theorem dX0_begin_22 : decode cX0_begin 22 = .ok (.aload_n 0, 1) := by decide +kernel
theorem dX0_begin_23 : decode cX0_begin 23 = .ok (.iconst 0, 1) := by decide +kernel
theorem dX0_begin_24 : decode cX0_begin 24 = .ok (.putfield 24, 3) := by decide +kernel
theorem dX0_begin_27 : decode cX0_begin 27 = .ok (.aload_n 0, 1) := by decide +kernel
theorem dX0_begin_28 : decode cX0_begin 28 = .ok (.iconst 0, 1) := by decide +kernel
theorem dX0_begin_29 : decode cX0_begin 29 = .ok (.putfield 27, 3) := by decide +kernel
theorem dX0_begin_32 : decode cX0_begin 32 = .ok (.aload_n 0, 1) := by decide +kernel
theorem dX0_begin_33 : decode cX0_begin 33 = .ok (.iload_n 1, 1) := by decide +kernel
theorem dX0_begin_34 : decode cX0_begin 34 = .ok (.putfield 30, 3) := by decide +kernel
theorem dX0_begin_37 : decode cX0_begin 37 = .ok (.aload_n 0, 1) := by decide +kernel
theorem dX0_begin_38 : decode cX0_begin 38 = .ok (.iconst 0, 1) := by decide +kernel
theorem dX0_begin_39 : decode cX0_begin 39 = .ok (.putfield 33, 3) := by decide +kernel
theorem dX0_begin_42 : decode cX0_begin 42 = .ok (.return_, 1) := by decide +kernel
theorem dX0_weight_0 : decode cX0_weight 0 = .ok (.aload_n 0, 1) := by decide +kernel
theorem dX0_weight_1 : decode cX0_weight 1 = .ok (.getfield 15, 3) := by decide +kernel
theorem dX0_weight_4 : decode cX0_weight 4 = .ok (.aload_n 0, 1) := by decide +kernel
theorem dX0_weight_5 : decode cX0_weight 5 = .ok (.getfield 24, 3) := by decide +kernel
theorem dX0_weight_8 : decode cX0_weight 8 = .ok (.iadd, 1) := by decide +kernel
theorem dX0_weight_9 : decode cX0_weight 9 = .ok (.aload_n 0, 1) := by decide +kernel
theorem dX0_weight_10 : decode cX0_weight 10 = .ok (.getfield 27, 3) := by decide +kernel
theorem dX0_weight_13 : decode cX0_weight 13 = .ok (.iadd, 1) := by decide +kernel
theorem dX0_weight_14 : decode cX0_weight 14 = .ok (.ireturn, 1) := by decide +kernel
theorem dX0_draught_0 : decode cX0_draught 0 = .ok (.aload_n 0, 1) := by decide +kernel
theorem dX0_draught_1 : decode cX0_draught 1 = .ok (.invokevirtual 36, 3) := by decide +kernel
theorem dX0_draught_4 : decode cX0_draught 4 = .ok (.i2l, 1) := by decide +kernel
theorem dX0_draught_5 : decode cX0_draught 5 = .ok (.aload_n 0, 1) := by decide +kernel
theorem dX0_draught_6 : decode cX0_draught 6 = .ok (.getfield 18, 3) := by decide +kernel
theorem dX0_draught_9 : decode cX0_draught 9 = .ok (.i2l, 1) := by decide +kernel
theorem dX0_draught_10 : decode cX0_draught 10 = .ok (.ladd, 1) := by decide +kernel
theorem dX0_draught_11 : decode cX0_draught 11 = .ok (.lconst 1, 1) := by decide +kernel
theorem dX0_draught_12 : decode cX0_draught 12 = .ok (.lsub, 1) := by decide +kernel
theorem dX0_draught_13 : decode cX0_draught 13 = .ok (.aload_n 0, 1) := by decide +kernel
theorem dX0_draught_14 : decode cX0_draught 14 = .ok (.getfield 18, 3) := by decide +kernel
theorem dX0_draught_17 : decode cX0_draught 17 = .ok (.i2l, 1) := by decide +kernel
theorem dX0_draught_18 : decode cX0_draught 18 = .ok (.invokestatic 40, 3) := by decide +kernel
theorem dX0_draught_21 : decode cX0_draught 21 = .ok (.l2i, 1) := by decide +kernel
theorem dX0_draught_22 : decode cX0_draught 22 = .ok (.ireturn, 1) := by decide +kernel
theorem dX0_freeHold_0 : decode cX0_freeHold 0 = .ok (.aload_n 0, 1) := by decide +kernel
theorem dX0_freeHold_1 : decode cX0_freeHold 1 = .ok (.getfield 21, 3) := by decide +kernel
theorem dX0_freeHold_4 : decode cX0_freeHold 4 = .ok (.aload_n 0, 1) := by decide +kernel
theorem dX0_freeHold_5 : decode cX0_freeHold 5 = .ok (.getfield 24, 3) := by decide +kernel
theorem dX0_freeHold_8 : decode cX0_freeHold 8 = .ok (.isub, 1) := by decide +kernel
theorem dX0_freeHold_9 : decode cX0_freeHold 9 = .ok (.aload_n 0, 1) := by decide +kernel
theorem dX0_freeHold_10 : decode cX0_freeHold 10 = .ok (.getfield 27, 3) := by decide +kernel
theorem dX0_freeHold_13 : decode cX0_freeHold 13 = .ok (.isub, 1) := by decide +kernel
theorem dX0_freeHold_14 : decode cX0_freeHold 14 = .ok (.ireturn, 1) := by decide +kernel
theorem dX0_isInChamber_0 : decode cX0_isInChamber 0 = .ok (.aload_n 0, 1) := by decide +kernel
theorem dX0_isInChamber_1 : decode cX0_isInChamber 1 = .ok (.getfield 30, 3) := by decide +kernel
theorem dX0_isInChamber_4 : decode cX0_isInChamber 4 = .ok (.bipush 100, 2) := by decide +kernel
theorem dX0_isInChamber_6 : decode cX0_isInChamber 6 = .ok (.if_icmp .lt 7, 3) := by decide +kernel
theorem dX0_isInChamber_9 : decode cX0_isInChamber 9 = .ok (.iconst 1, 1) := by decide +kernel
theorem dX0_isInChamber_10 : decode cX0_isInChamber 10 = .ok (.goto 4, 3) := by decide +kernel
theorem dX0_isInChamber_13 : decode cX0_isInChamber 13 = .ok (.iconst 0, 1) := by decide +kernel
theorem dX0_isInChamber_14 : decode cX0_isInChamber 14 = .ok (.ireturn, 1) := by decide +kernel
theorem dX0_copyTo_0 : decode cX0_copyTo 0 = .ok (.aload_n 1, 1) := by decide +kernel
theorem dX0_copyTo_1 : decode cX0_copyTo 1 = .ok (.aload_n 0, 1) := by decide +kernel
theorem dX0_copyTo_2 : decode cX0_copyTo 2 = .ok (.getfield 9, 3) := by decide +kernel
theorem dX0_copyTo_5 : decode cX0_copyTo 5 = .ok (.putfield 9, 3) := by decide +kernel
theorem dX0_copyTo_8 : decode cX0_copyTo 8 = .ok (.aload_n 1, 1) := by decide +kernel
theorem dX0_copyTo_9 : decode cX0_copyTo 9 = .ok (.aload_n 0, 1) := by decide +kernel
theorem dX0_copyTo_10 : decode cX0_copyTo 10 = .ok (.getfield 15, 3) := by decide +kernel
theorem dX0_copyTo_13 : decode cX0_copyTo 13 = .ok (.putfield 15, 3) := by decide +kernel
theorem dX0_copyTo_16 : decode cX0_copyTo 16 = .ok (.aload_n 1, 1) := by decide +kernel
theorem dX0_copyTo_17 : decode cX0_copyTo 17 = .ok (.aload_n 0, 1) := by decide +kernel
theorem dX0_copyTo_18 : decode cX0_copyTo 18 = .ok (.getfield 18, 3) := by decide +kernel
theorem dX0_copyTo_21 : decode cX0_copyTo 21 = .ok (.putfield 18, 3) := by decide +kernel
theorem dX0_copyTo_24 : decode cX0_copyTo 24 = .ok (.aload_n 1, 1) := by decide +kernel
theorem dX0_copyTo_25 : decode cX0_copyTo 25 = .ok (.aload_n 0, 1) := by decide +kernel
theorem dX0_copyTo_26 : decode cX0_copyTo 26 = .ok (.getfield 21, 3) := by decide +kernel
theorem dX0_copyTo_29 : decode cX0_copyTo 29 = .ok (.putfield 21, 3) := by decide +kernel
theorem dX0_copyTo_32 : decode cX0_copyTo 32 = .ok (.aload_n 1, 1) := by decide +kernel
theorem dX0_copyTo_33 : decode cX0_copyTo 33 = .ok (.aload_n 0, 1) := by decide +kernel
theorem dX0_copyTo_34 : decode cX0_copyTo 34 = .ok (.getfield 24, 3) := by decide +kernel
theorem dX0_copyTo_37 : decode cX0_copyTo 37 = .ok (.putfield 24, 3) := by decide +kernel
theorem dX0_copyTo_40 : decode cX0_copyTo 40 = .ok (.aload_n 1, 1) := by decide +kernel
theorem dX0_copyTo_41 : decode cX0_copyTo 41 = .ok (.aload_n 0, 1) := by decide +kernel
theorem dX0_copyTo_42 : decode cX0_copyTo 42 = .ok (.getfield 27, 3) := by decide +kernel
theorem dX0_copyTo_45 : decode cX0_copyTo 45 = .ok (.putfield 27, 3) := by decide +kernel
theorem dX0_copyTo_48 : decode cX0_copyTo 48 = .ok (.aload_n 1, 1) := by decide +kernel
theorem dX0_copyTo_49 : decode cX0_copyTo 49 = .ok (.aload_n 0, 1) := by decide +kernel
theorem dX0_copyTo_50 : decode cX0_copyTo 50 = .ok (.getfield 30, 3) := by decide +kernel
theorem dX0_copyTo_53 : decode cX0_copyTo 53 = .ok (.putfield 30, 3) := by decide +kernel
theorem dX0_copyTo_56 : decode cX0_copyTo 56 = .ok (.aload_n 1, 1) := by decide +kernel
theorem dX0_copyTo_57 : decode cX0_copyTo 57 = .ok (.aload_n 0, 1) := by decide +kernel
theorem dX0_copyTo_58 : decode cX0_copyTo 58 = .ok (.getfield 33, 3) := by decide +kernel
theorem dX0_copyTo_61 : decode cX0_copyTo 61 = .ok (.putfield 33, 3) := by decide +kernel
theorem dX0_copyTo_64 : decode cX0_copyTo 64 = .ok (.return_, 1) := by decide +kernel
theorem dX1_init_0 : decode cX1_init 0 = .ok (.aload_n 0, 1) := by decide +kernel
theorem dX1_init_1 : decode cX1_init 1 = .ok (.invokespecial 3, 3) := by decide +kernel
theorem dX1_init_4 : decode cX1_init 4 = .ok (.aload_n 0, 1) := by decide +kernel
theorem dX1_init_5 : decode cX1_init 5 = .ok (.new 9, 3) := by decide +kernel
theorem dX1_init_8 : decode cX1_init 8 = .ok (.dup, 1) := by decide +kernel
theorem dX1_init_9 : decode cX1_init 9 = .ok (.invokespecial 11, 3) := by decide +kernel
theorem dX1_init_12 : decode cX1_init 12 = .ok (.putfield 12, 3) := by decide +kernel
theorem dX1_init_15 : decode cX1_init 15 = .ok (.aload_n 0, 1) := by decide +kernel
theorem dX1_init_16 : decode cX1_init 16 = .ok (.new 18, 3) := by decide +kernel
theorem dX1_init_19 : decode cX1_init 19 = .ok (.dup, 1) := by decide +kernel
theorem dX1_init_20 : decode cX1_init 20 = .ok (.invokespecial 20, 3) := by decide +kernel
theorem dX1_init_23 : decode cX1_init 23 = .ok (.putfield 21, 3) := by decide +kernel
theorem dX1_init_26 : decode cX1_init 26 = .ok (.aload_n 0, 1) := by decide +kernel
theorem dX1_init_27 : decode cX1_init 27 = .ok (.new 18, 3) := by decide +kernel
theorem dX1_init_30 : decode cX1_init 30 = .ok (.dup, 1) := by decide +kernel
theorem dX1_init_31 : decode cX1_init 31 = .ok (.invokespecial 20, 3) := by decide +kernel
theorem dX1_init_34 : decode cX1_init 34 = .ok (.putfield 25, 3) := by decide +kernel
theorem dX1_init_37 : decode cX1_init 37 = .ok (.aload_n 0, 1) := by decide +kernel
theorem dX1_init_38 : decode cX1_init 38 = .ok (.bipush 12, 2) := by decide +kernel
theorem dX1_init_40 : decode cX1_init 40 = .ok (.newarray .int, 2) := by decide +kernel
theorem dX1_init_42 : decode cX1_init 42 = .ok (.putfield 28, 3) := by decide +kernel
theorem dX1_init_45 : decode cX1_init 45 = .ok (.aload_n 0, 1) := by decide +kernel
theorem dX1_init_46 : decode cX1_init 46 = .ok (.iconst 0, 1) := by decide +kernel
theorem dX1_init_47 : decode cX1_init 47 = .ok (.iconst 0, 1) := by decide +kernel
theorem dX1_init_48 : decode cX1_init 48 = .ok (.iconst 0, 1) := by decide +kernel
theorem dX1_init_49 : decode cX1_init 49 = .ok (.invokevirtual 32, 3) := by decide +kernel
theorem dX1_init_52 : decode cX1_init 52 = .ok (.return_, 1) := by decide +kernel
theorem dX1_begin_0 : decode cX1_begin 0 = .ok (.aload_n 0, 1) := by decide +kernel
theorem dX1_begin_1 : decode cX1_begin 1 = .ok (.getfield 12, 3) := by decide +kernel
theorem dX1_begin_4 : decode cX1_begin 4 = .ok (.iload_n 1, 1) := by decide +kernel
theorem dX1_begin_5 : decode cX1_begin 5 = .ok (.iload_n 3, 1) := by decide +kernel
theorem dX1_begin_6 : decode cX1_begin 6 = .ok (.iconst 0, 1) := by decide +kernel
theorem dX1_begin_7 : decode cX1_begin 7 = .ok (.invokevirtual 36, 3) := by decide +kernel
theorem dX1_begin_10 : decode cX1_begin 10 = .ok (.aload_n 0, 1) := by decide +kernel
theorem dX1_begin_11 : decode cX1_begin 11 = .ok (.getfield 21, 3) := by decide +kernel
theorem dX1_begin_14 : decode cX1_begin 14 = .ok (.invokevirtual 37, 3) := by decide +kernel
theorem dX1_begin_17 : decode cX1_begin 17 = .ok (.aload_n 0, 1) := by decide +kernel
theorem dX1_begin_18 : decode cX1_begin 18 = .ok (.getfield 25, 3) := by decide +kernel
theorem dX1_begin_21 : decode cX1_begin 21 = .ok (.invokevirtual 37, 3) := by decide +kernel
theorem dX1_begin_24 : decode cX1_begin 24 = .ok (.aload_n 0, 1) := by decide +kernel
theorem dX1_begin_25 : decode cX1_begin 25 = .ok (.iconst 0, 1) := by decide +kernel
theorem dX1_begin_26 : decode cX1_begin 26 = .ok (.putfield 39, 3) := by decide +kernel
theorem dX1_begin_29 : decode cX1_begin 29 = .ok (.aload_n 0, 1) := by decide +kernel
theorem dX1_begin_30 : decode cX1_begin 30 = .ok (.iload_n 2, 1) := by decide +kernel
theorem dX1_begin_31 : decode cX1_begin 31 = .ok (.putfield 43, 3) := by decide +kernel
theorem dX1_begin_34 : decode cX1_begin 34 = .ok (.aload_n 0, 1) := by decide +kernel
theorem dX1_begin_35 : decode cX1_begin 35 = .ok (.iload_n 2, 1) := by decide +kernel
theorem dX1_begin_36 : decode cX1_begin 36 = .ok (.putfield 46, 3) := by decide +kernel
theorem dX1_begin_39 : decode cX1_begin 39 = .ok (.aload_n 0, 1) := by decide +kernel
theorem dX1_begin_40 : decode cX1_begin 40 = .ok (.iconst (-1), 1) := by decide +kernel
theorem dX1_begin_41 : decode cX1_begin 41 = .ok (.putfield 49, 3) := by decide +kernel
theorem dX1_begin_44 : decode cX1_begin 44 = .ok (.return_, 1) := by decide +kernel
theorem dX1_sillOf_0 : decode cX1_sillOf 0 = .ok (.iload_n 1, 1) := by decide +kernel
theorem dX1_sillOf_1 : decode cX1_sillOf 1 = .ok (.ifCond .ne 8, 3) := by decide +kernel
theorem dX1_sillOf_4 : decode cX1_sillOf 4 = .ok (.aload_n 0, 1) := by decide +kernel
theorem dX1_sillOf_5 : decode cX1_sillOf 5 = .ok (.getfield 21, 3) := by decide +kernel
theorem dX1_sillOf_8 : decode cX1_sillOf 8 = .ok (.areturn, 1) := by decide +kernel
theorem dX1_sillOf_9 : decode cX1_sillOf 9 = .ok (.iload_n 1, 1) := by decide +kernel
theorem dX1_sillOf_10 : decode cX1_sillOf 10 = .ok (.iconst 1, 1) := by decide +kernel
theorem dX1_sillOf_11 : decode cX1_sillOf 11 = .ok (.if_icmp .ne 10, 3) := by decide +kernel
theorem dX1_sillOf_14 : decode cX1_sillOf 14 = .ok (.aload_n 0, 1) := by decide +kernel
theorem dX1_sillOf_15 : decode cX1_sillOf 15 = .ok (.getfield 25, 3) := by decide +kernel
theorem dX1_sillOf_18 : decode cX1_sillOf 18 = .ok (.goto 4, 3) := by decide +kernel
theorem dX1_sillOf_21 : decode cX1_sillOf 21 = .ok (.aconst_null, 1) := by decide +kernel
theorem dX1_sillOf_22 : decode cX1_sillOf 22 = .ok (.areturn, 1) := by decide +kernel
theorem dX1_bargeIn_0 : decode cX1_bargeIn 0 = .ok (.iload_n 1, 1) := by decide +kernel
theorem dX1_bargeIn_1 : decode cX1_bargeIn 1 = .ok (.ifCond .lt 29, 3) := by decide +kernel
theorem dX1_bargeIn_4 : decode cX1_bargeIn 4 = .ok (.iload_n 1, 1) := by decide +kernel
theorem dX1_bargeIn_5 : decode cX1_bargeIn 5 = .ok (.aload_n 0, 1) := by decide +kernel
theorem dX1_bargeIn_6 : decode cX1_bargeIn 6 = .ok (.getfield 39, 3) := by decide +kernel
theorem dX1_bargeIn_9 : decode cX1_bargeIn 9 = .ok (.if_icmp .ge 21, 3) := by decide +kernel
theorem dX1_bargeIn_12 : decode cX1_bargeIn 12 = .ok (.iload_n 1, 1) := by decide +kernel
theorem dX1_bargeIn_13 : decode cX1_bargeIn 13 = .ok (.aload_n 0, 1) := by decide +kernel
theorem dX1_bargeIn_14 : decode cX1_bargeIn 14 = .ok (.getfield 28, 3) := by decide +kernel
theorem dX1_bargeIn_17 : decode cX1_bargeIn 17 = .ok (.arraylength, 1) := by decide +kernel
theorem dX1_bargeIn_18 : decode cX1_bargeIn 18 = .ok (.if_icmp .ge 12, 3) := by decide +kernel
theorem dX1_bargeIn_21 : decode cX1_bargeIn 21 = .ok (.aload_n 0, 1) := by decide +kernel
theorem dX1_bargeIn_22 : decode cX1_bargeIn 22 = .ok (.getfield 28, 3) := by decide +kernel
theorem dX1_bargeIn_25 : decode cX1_bargeIn 25 = .ok (.iload_n 1, 1) := by decide +kernel
theorem dX1_bargeIn_26 : decode cX1_bargeIn 26 = .ok (.iaload, 1) := by decide +kernel
theorem dX1_bargeIn_27 : decode cX1_bargeIn 27 = .ok (.goto 4, 3) := by decide +kernel
theorem dX1_bargeIn_30 : decode cX1_bargeIn 30 = .ok (.iconst (-1), 1) := by decide +kernel
theorem dX1_bargeIn_31 : decode cX1_bargeIn 31 = .ok (.ireturn, 1) := by decide +kernel
theorem dX1_bargeNextTo_0 : decode cX1_bargeNextTo 0 = .ok (.aload_n 0, 1) := by decide +kernel
theorem dX1_bargeNextTo_1 : decode cX1_bargeNextTo 1 = .ok (.iload_n 1, 1) := by decide +kernel
theorem dX1_bargeNextTo_2 : decode cX1_bargeNextTo 2 = .ok (.ifCond .ne 7, 3) := by decide +kernel
theorem dX1_bargeNextTo_5 : decode cX1_bargeNextTo 5 = .ok (.iconst 0, 1) := by decide +kernel
theorem dX1_bargeNextTo_6 : decode cX1_bargeNextTo 6 = .ok (.goto 9, 3) := by decide +kernel
theorem dX1_bargeNextTo_9 : decode cX1_bargeNextTo 9 = .ok (.aload_n 0, 1) := by decide +kernel
theorem dX1_bargeNextTo_10 : decode cX1_bargeNextTo 10 = .ok (.getfield 39, 3) := by decide +kernel
theorem dX1_bargeNextTo_13 : decode cX1_bargeNextTo 13 = .ok (.iconst 1, 1) := by decide +kernel
theorem dX1_bargeNextTo_14 : decode cX1_bargeNextTo 14 = .ok (.isub, 1) := by decide +kernel
theorem dX1_bargeNextTo_15 : decode cX1_bargeNextTo 15 = .ok (.invokevirtual 52, 3) := by decide +kernel
theorem dX1_bargeNextTo_18 : decode cX1_bargeNextTo 18 = .ok (.ireturn, 1) := by decide +kernel
theorem dX1_takeIn_0 : decode cX1_takeIn 0 = .ok (.aload_n 0, 1) := by decide +kernel
theorem dX1_takeIn_1 : decode cX1_takeIn 1 = .ok (.getfield 39, 3) := by decide +kernel
theorem dX1_takeIn_4 : decode cX1_takeIn 4 = .ok (.ifCond .lt 15, 3) := by decide +kernel
theorem dX1_takeIn_7 : decode cX1_takeIn 7 = .ok (.aload_n 0, 1) := by decide +kernel
theorem dX1_takeIn_8 : decode cX1_takeIn 8 = .ok (.getfield 39, 3) := by decide +kernel
theorem dX1_takeIn_11 : decode cX1_takeIn 11 = .ok (.aload_n 0, 1) := by decide +kernel
theorem dX1_takeIn_12 : decode cX1_takeIn 12 = .ok (.getfield 28, 3) := by decide +kernel
theorem dX1_takeIn_15 : decode cX1_takeIn 15 = .ok (.arraylength, 1) := by decide +kernel
theorem dX1_takeIn_16 : decode cX1_takeIn 16 = .ok (.if_icmp .lt 4, 3) := by decide +kernel
theorem dX1_takeIn_19 : decode cX1_takeIn 19 = .ok (.return_, 1) := by decide +kernel
theorem dX1_takeIn_20 : decode cX1_takeIn 20 = .ok (.aload_n 0, 1) := by decide +kernel
theorem dX1_takeIn_21 : decode cX1_takeIn 21 = .ok (.getfield 39, 3) := by decide +kernel
theorem dX1_takeIn_24 : decode cX1_takeIn 24 = .ok (.istore 4, 2) := by decide +kernel
theorem dX1_takeIn_26 : decode cX1_takeIn 26 = .ok (.iload_n 3, 1) := by decide +kernel
theorem dX1_takeIn_27 : decode cX1_takeIn 27 = .ok (.ifCond .ne 23, 3) := by decide +kernel
theorem dX1_takeIn_30 : decode cX1_takeIn 30 = .ok (.aload_n 0, 1) := by decide +kernel
theorem dX1_takeIn_31 : decode cX1_takeIn 31 = .ok (.getfield 28, 3) := by decide +kernel
theorem dX1_takeIn_34 : decode cX1_takeIn 34 = .ok (.iconst 0, 1) := by decide +kernel
theorem dX1_takeIn_35 : decode cX1_takeIn 35 = .ok (.aload_n 0, 1) := by decide +kernel
theorem dX1_takeIn_36 : decode cX1_takeIn 36 = .ok (.getfield 28, 3) := by decide +kernel
theorem dX1_takeIn_39 : decode cX1_takeIn 39 = .ok (.iconst 1, 1) := by decide +kernel
theorem dX1_takeIn_40 : decode cX1_takeIn 40 = .ok (.aload_n 0, 1) := by decide +kernel
theorem dX1_takeIn_41 : decode cX1_takeIn 41 = .ok (.getfield 39, 3) := by decide +kernel
theorem dX1_takeIn_44 : decode cX1_takeIn 44 = .ok (.invokestatic 56, 3) := by decide +kernel
theorem dX1_takeIn_47 : decode cX1_takeIn 47 = .ok (.iconst 0, 1) := by decide +kernel
theorem dX1_takeIn_48 : decode cX1_takeIn 48 = .ok (.istore 4, 2) := by decide +kernel
theorem dX1_takeIn_50 : decode cX1_takeIn 50 = .ok (.aload_n 0, 1) := by decide +kernel
theorem dX1_takeIn_51 : decode cX1_takeIn 51 = .ok (.getfield 28, 3) := by decide +kernel
theorem dX1_takeIn_54 : decode cX1_takeIn 54 = .ok (.iload 4, 2) := by decide +kernel
theorem dX1_takeIn_56 : decode cX1_takeIn 56 = .ok (.iload_n 1, 1) := by decide +kernel
theorem dX1_takeIn_57 : decode cX1_takeIn 57 = .ok (.iastore, 1) := by decide +kernel
theorem dX1_takeIn_58 : decode cX1_takeIn 58 = .ok (.aload_n 0, 1) := by decide +kernel
theorem dX1_takeIn_59 : decode cX1_takeIn 59 = .ok (.dup, 1) := by decide +kernel
theorem dX1_takeIn_60 : decode cX1_takeIn 60 = .ok (.getfield 39, 3) := by decide +kernel
theorem dX1_takeIn_63 : decode cX1_takeIn 63 = .ok (.iconst 1, 1) := by decide +kernel
theorem dX1_takeIn_64 : decode cX1_takeIn 64 = .ok (.iadd, 1) := by decide +kernel
theorem dX1_takeIn_65 : decode cX1_takeIn 65 = .ok (.putfield 39, 3) := by decide +kernel
theorem dX1_takeIn_68 : decode cX1_takeIn 68 = .ok (.aload_n 0, 1) := by decide +kernel
theorem dX1_takeIn_69 : decode cX1_takeIn 69 = .ok (.dup, 1) := by decide +kernel
theorem dX1_takeIn_70 : decode cX1_takeIn 70 = .ok (.getfield 46, 3) := by decide +kernel
theorem dX1_takeIn_73 : decode cX1_takeIn 73 = .ok (.iload_n 2, 1) := by decide +kernel
theorem dX1_takeIn_74 : decode cX1_takeIn 74 = .ok (.isub, 1) := by decide +kernel
theorem dX1_takeIn_75 : decode cX1_takeIn 75 = .ok (.putfield 46, 3) := by decide +kernel
theorem dX1_takeIn_78 : decode cX1_takeIn 78 = .ok (.return_, 1) := by decide +kernel
theorem dX1_letOut_0 : decode cX1_letOut 0 = .ok (.aload_n 0, 1) := by decide +kernel
theorem dX1_letOut_1 : decode cX1_letOut 1 = .ok (.getfield 39, 3) := by decide +kernel
theorem dX1_letOut_4 : decode cX1_letOut 4 = .ok (.iconst 1, 1) := by decide +kernel
theorem dX1_letOut_5 : decode cX1_letOut 5 = .ok (.if_icmp .lt 15, 3) := by decide +kernel
theorem dX1_letOut_8 : decode cX1_letOut 8 = .ok (.aload_n 0, 1) := by decide +kernel
theorem dX1_letOut_9 : decode cX1_letOut 9 = .ok (.getfield 39, 3) := by decide +kernel
theorem dX1_letOut_12 : decode cX1_letOut 12 = .ok (.aload_n 0, 1) := by decide +kernel
theorem dX1_letOut_13 : decode cX1_letOut 13 = .ok (.getfield 28, 3) := by decide +kernel
theorem dX1_letOut_16 : decode cX1_letOut 16 = .ok (.arraylength, 1) := by decide +kernel
theorem dX1_letOut_17 : decode cX1_letOut 17 = .ok (.if_icmp .le 4, 3) := by decide +kernel
theorem dX1_letOut_20 : decode cX1_letOut 20 = .ok (.return_, 1) := by decide +kernel
theorem dX1_letOut_21 : decode cX1_letOut 21 = .ok (.aload_n 0, 1) := by decide +kernel
theorem dX1_letOut_22 : decode cX1_letOut 22 = .ok (.dup, 1) := by decide +kernel
theorem dX1_letOut_23 : decode cX1_letOut 23 = .ok (.getfield 39, 3) := by decide +kernel
theorem dX1_letOut_26 : decode cX1_letOut 26 = .ok (.iconst 1, 1) := by decide +kernel
theorem dX1_letOut_27 : decode cX1_letOut 27 = .ok (.isub, 1) := by decide +kernel
theorem dX1_letOut_28 : decode cX1_letOut 28 = .ok (.putfield 39, 3) := by decide +kernel
theorem dX1_letOut_31 : decode cX1_letOut 31 = .ok (.aload_n 0, 1) := by decide +kernel
theorem dX1_letOut_32 : decode cX1_letOut 32 = .ok (.dup, 1) := by decide +kernel
theorem dX1_letOut_33 : decode cX1_letOut 33 = .ok (.getfield 46, 3) := by decide +kernel
theorem dX1_letOut_36 : decode cX1_letOut 36 = .ok (.iload_n 1, 1) := by decide +kernel
theorem dX1_letOut_37 : decode cX1_letOut 37 = .ok (.iadd, 1) := by decide +kernel
theorem dX1_letOut_38 : decode cX1_letOut 38 = .ok (.putfield 46, 3) := by decide +kernel
theorem dX1_letOut_41 : decode cX1_letOut 41 = .ok (.iload_n 2, 1) := by decide +kernel
theorem dX1_letOut_42 : decode cX1_letOut 42 = .ok (.ifCond .ne 20, 3) := by decide +kernel
theorem dX1_letOut_45 : decode cX1_letOut 45 = .ok (.aload_n 0, 1) := by decide +kernel
theorem dX1_letOut_46 : decode cX1_letOut 46 = .ok (.getfield 28, 3) := by decide +kernel
theorem dX1_letOut_49 : decode cX1_letOut 49 = .ok (.iconst 1, 1) := by decide +kernel
theorem dX1_letOut_50 : decode cX1_letOut 50 = .ok (.aload_n 0, 1) := by decide +kernel
theorem dX1_letOut_51 : decode cX1_letOut 51 = .ok (.getfield 28, 3) := by decide +kernel
theorem dX1_letOut_54 : decode cX1_letOut 54 = .ok (.iconst 0, 1) := by decide +kernel
theorem dX1_letOut_55 : decode cX1_letOut 55 = .ok (.aload_n 0, 1) := by decide +kernel
theorem dX1_letOut_56 : decode cX1_letOut 56 = .ok (.getfield 39, 3) := by decide +kernel
theorem dX1_letOut_59 : decode cX1_letOut 59 = .ok (.invokestatic 56, 3) := by decide +kernel
theorem dX1_letOut_62 : decode cX1_letOut 62 = .ok (.return_, 1) := by decide +kernel
theorem dX1_copyTo_0 : decode cX1_copyTo 0 = .ok (.aload_n 0, 1) := by decide +kernel
theorem dX1_copyTo_1 : decode cX1_copyTo 1 = .ok (.getfield 12, 3) := by decide +kernel
theorem dX1_copyTo_4 : decode cX1_copyTo 4 = .ok (.aload_n 1, 1) := by decide +kernel
theorem dX1_copyTo_5 : decode cX1_copyTo 5 = .ok (.getfield 12, 3) := by decide +kernel
theorem dX1_copyTo_8 : decode cX1_copyTo 8 = .ok (.invokevirtual 62, 3) := by decide +kernel
theorem dX1_copyTo_11 : decode cX1_copyTo 11 = .ok (.aload_n 0, 1) := by decide +kernel
theorem dX1_copyTo_12 : decode cX1_copyTo 12 = .ok (.getfield 21, 3) := by decide +kernel
theorem dX1_copyTo_15 : decode cX1_copyTo 15 = .ok (.aload_n 1, 1) := by decide +kernel
theorem dX1_copyTo_16 : decode cX1_copyTo 16 = .ok (.getfield 21, 3) := by decide +kernel
theorem dX1_copyTo_19 : decode cX1_copyTo 19 = .ok (.invokevirtual 66, 3) := by decide +kernel
theorem dX1_copyTo_22 : decode cX1_copyTo 22 = .ok (.aload_n 0, 1) := by decide +kernel
theorem dX1_copyTo_23 : decode cX1_copyTo 23 = .ok (.getfield 25, 3) := by decide +kernel
theorem dX1_copyTo_26 : decode cX1_copyTo 26 = .ok (.aload_n 1, 1) := by decide +kernel
theorem dX1_copyTo_27 : decode cX1_copyTo 27 = .ok (.getfield 25, 3) := by decide +kernel
theorem dX1_copyTo_30 : decode cX1_copyTo 30 = .ok (.invokevirtual 66, 3) := by decide +kernel
theorem dX1_copyTo_33 : decode cX1_copyTo 33 = .ok (.aload_n 0, 1) := by decide +kernel
theorem dX1_copyTo_34 : decode cX1_copyTo 34 = .ok (.getfield 28, 3) := by decide +kernel
theorem dX1_copyTo_37 : decode cX1_copyTo 37 = .ok (.iconst 0, 1) := by decide +kernel
theorem dX1_copyTo_38 : decode cX1_copyTo 38 = .ok (.aload_n 1, 1) := by decide +kernel
theorem dX1_copyTo_39 : decode cX1_copyTo 39 = .ok (.getfield 28, 3) := by decide +kernel
theorem dX1_copyTo_42 : decode cX1_copyTo 42 = .ok (.iconst 0, 1) := by decide +kernel
theorem dX1_copyTo_43 : decode cX1_copyTo 43 = .ok (.aload_n 0, 1) := by decide +kernel
theorem dX1_copyTo_44 : decode cX1_copyTo 44 = .ok (.getfield 28, 3) := by decide +kernel
theorem dX1_copyTo_47 : decode cX1_copyTo 47 = .ok (.arraylength, 1) := by decide +kernel
theorem dX1_copyTo_48 : decode cX1_copyTo 48 = .ok (.aload_n 1, 1) := by decide +kernel
theorem dX1_copyTo_49 : decode cX1_copyTo 49 = .ok (.getfield 28, 3) := by decide +kernel
theorem dX1_copyTo_52 : decode cX1_copyTo 52 = .ok (.arraylength, 1) := by decide +kernel
theorem dX1_copyTo_53 : decode cX1_copyTo 53 = .ok (.invokestatic 69, 3) := by decide +kernel
theorem dX1_copyTo_56 : decode cX1_copyTo 56 = .ok (.invokestatic 56, 3) := by decide +kernel
theorem dX1_copyTo_59 : decode cX1_copyTo 59 = .ok (.aload_n 1, 1) := by decide +kernel
theorem dX1_copyTo_60 : decode cX1_copyTo 60 = .ok (.aload_n 0, 1) := by decide +kernel
theorem dX1_copyTo_61 : decode cX1_copyTo 61 = .ok (.getfield 39, 3) := by decide +kernel
theorem dX1_copyTo_64 : decode cX1_copyTo 64 = .ok (.putfield 39, 3) := by decide +kernel
theorem dX1_copyTo_67 : decode cX1_copyTo 67 = .ok (.aload_n 1, 1) := by decide +kernel
theorem dX1_copyTo_68 : decode cX1_copyTo 68 = .ok (.aload_n 0, 1) := by decide +kernel
theorem dX1_copyTo_69 : decode cX1_copyTo 69 = .ok (.getfield 43, 3) := by decide +kernel
theorem dX1_copyTo_72 : decode cX1_copyTo 72 = .ok (.putfield 43, 3) := by decide +kernel
theorem dX1_copyTo_75 : decode cX1_copyTo 75 = .ok (.aload_n 1, 1) := by decide +kernel
theorem dX1_copyTo_76 : decode cX1_copyTo 76 = .ok (.aload_n 0, 1) := by decide +kernel
theorem dX1_copyTo_77 : decode cX1_copyTo 77 = .ok (.getfield 46, 3) := by decide +kernel
theorem dX1_copyTo_80 : decode cX1_copyTo 80 = .ok (.putfield 46, 3) := by decide +kernel
theorem dX1_copyTo_83 : decode cX1_copyTo 83 = .ok (.aload_n 1, 1) := by decide +kernel
theorem dX1_copyTo_84 : decode cX1_copyTo 84 = .ok (.aload_n 0, 1) := by decide +kernel
theorem dX1_copyTo_85 : decode cX1_copyTo 85 = .ok (.getfield 49, 3) := by decide +kernel
theorem dX1_copyTo_88 : decode cX1_copyTo 88 = .ok (.putfield 49, 3) := by decide +kernel
theorem dX1_copyTo_91 : decode cX1_copyTo 91 = .ok (.return_, 1) := by decide +kernel
theorem dX2_init_0 : decode cX2_init 0 = .ok (.aload_n 0, 1) := by decide +kernel
theorem dX2_init_1 : decode cX2_init 1 = .ok (.invokespecial 3, 3) := by decide +kernel
theorem dX2_init_4 : decode cX2_init 4 = .ok (.aload_n 0, 1) := by decide +kernel
theorem dX2_init_5 : decode cX2_init 5 = .ok (.iconst 5, 1) := by decide +kernel
theorem dX2_init_6 : decode cX2_init 6 = .ok (.anewarray 9, 3) := by decide +kernel
theorem dX2_init_9 : decode cX2_init 9 = .ok (.putfield 11, 3) := by decide +kernel
theorem dX2_init_12 : decode cX2_init 12 = .ok (.aload_n 0, 1) := by decide +kernel
theorem dX2_init_13 : decode cX2_init 13 = .ok (.iconst 4, 1) := by decide +kernel
theorem dX2_init_14 : decode cX2_init 14 = .ok (.anewarray 17, 3) := by decide +kernel
theorem dX2_init_17 : decode cX2_init 17 = .ok (.putfield 19, 3) := by decide +kernel
theorem dX2_init_20 : decode cX2_init 20 = .ok (.aload_n 0, 1) := by decide +kernel
theorem dX2_init_21 : decode cX2_init 21 = .ok (.bipush 12, 2) := by decide +kernel
theorem dX2_init_23 : decode cX2_init 23 = .ok (.anewarray 23, 3) := by decide +kernel
theorem dX2_init_26 : decode cX2_init 26 = .ok (.putfield 25, 3) := by decide +kernel
theorem dX2_init_29 : decode cX2_init 29 = .ok (.iconst 0, 1) := by decide +kernel
theorem dX2_init_30 : decode cX2_init 30 = .ok (.istore_n 1, 1) := by decide +kernel
theorem dX2_init_31 : decode cX2_init 31 = .ok (.iload_n 1, 1) := by decide +kernel
theorem dX2_init_32 : decode cX2_init 32 = .ok (.aload_n 0, 1) := by decide +kernel
theorem dX2_init_33 : decode cX2_init 33 = .ok (.getfield 11, 3) := by decide +kernel
theorem dX2_init_36 : decode cX2_init 36 = .ok (.arraylength, 1) := by decide +kernel
theorem dX2_init_37 : decode cX2_init 37 = .ok (.if_icmp .ge 22, 3) := by decide +kernel
theorem dX2_init_40 : decode cX2_init 40 = .ok (.aload_n 0, 1) := by decide +kernel
theorem dX2_init_41 : decode cX2_init 41 = .ok (.getfield 11, 3) := by decide +kernel
theorem dX2_init_44 : decode cX2_init 44 = .ok (.iload_n 1, 1) := by decide +kernel
theorem dX2_init_45 : decode cX2_init 45 = .ok (.new 9, 3) := by decide +kernel
theorem dX2_init_48 : decode cX2_init 48 = .ok (.dup, 1) := by decide +kernel
theorem dX2_init_49 : decode cX2_init 49 = .ok (.invokespecial 29, 3) := by decide +kernel
theorem dX2_init_52 : decode cX2_init 52 = .ok (.aastore, 1) := by decide +kernel
theorem dX2_init_53 : decode cX2_init 53 = .ok (.iinc 1 1, 3) := by decide +kernel
theorem dX2_init_56 : decode cX2_init 56 = .ok (.goto (-25), 3) := by decide +kernel
theorem dX2_init_59 : decode cX2_init 59 = .ok (.iconst 0, 1) := by decide +kernel
theorem dX2_init_60 : decode cX2_init 60 = .ok (.istore_n 1, 1) := by decide +kernel
theorem dX2_init_61 : decode cX2_init 61 = .ok (.iload_n 1, 1) := by decide +kernel
theorem dX2_init_62 : decode cX2_init 62 = .ok (.aload_n 0, 1) := by decide +kernel
theorem dX2_init_63 : decode cX2_init 63 = .ok (.getfield 19, 3) := by decide +kernel
theorem dX2_init_66 : decode cX2_init 66 = .ok (.arraylength, 1) := by decide +kernel
theorem dX2_init_67 : decode cX2_init 67 = .ok (.if_icmp .ge 22, 3) := by decide +kernel
theorem dX2_init_70 : decode cX2_init 70 = .ok (.aload_n 0, 1) := by decide +kernel
theorem dX2_init_71 : decode cX2_init 71 = .ok (.getfield 19, 3) := by decide +kernel
theorem dX2_init_74 : decode cX2_init 74 = .ok (.iload_n 1, 1) := by decide +kernel
theorem dX2_init_75 : decode cX2_init 75 = .ok (.new 17, 3) := by decide +kernel
theorem dX2_init_78 : decode cX2_init 78 = .ok (.dup, 1) := by decide +kernel
theorem dX2_init_79 : decode cX2_init 79 = .ok (.invokespecial 30, 3) := by decide +kernel
theorem dX2_init_82 : decode cX2_init 82 = .ok (.aastore, 1) := by decide +kernel
theorem dX2_init_83 : decode cX2_init 83 = .ok (.iinc 1 1, 3) := by decide +kernel
theorem dX2_init_86 : decode cX2_init 86 = .ok (.goto (-25), 3) := by decide +kernel
theorem dX2_init_89 : decode cX2_init 89 = .ok (.iconst 0, 1) := by decide +kernel
theorem dX2_init_90 : decode cX2_init 90 = .ok (.istore_n 1, 1) := by decide +kernel
theorem dX2_init_91 : decode cX2_init 91 = .ok (.iload_n 1, 1) := by decide +kernel
theorem dX2_init_92 : decode cX2_init 92 = .ok (.aload_n 0, 1) := by decide +kernel
theorem dX2_init_93 : decode cX2_init 93 = .ok (.getfield 25, 3) := by decide +kernel
theorem dX2_init_96 : decode cX2_init 96 = .ok (.arraylength, 1) := by decide +kernel
theorem dX2_init_97 : decode cX2_init 97 = .ok (.if_icmp .ge 22, 3) := by decide +kernel
theorem dX2_init_100 : decode cX2_init 100 = .ok (.aload_n 0, 1) := by decide +kernel
theorem dX2_init_101 : decode cX2_init 101 = .ok (.getfield 25, 3) := by decide +kernel
theorem dX2_init_104 : decode cX2_init 104 = .ok (.iload_n 1, 1) := by decide +kernel
theorem dX2_init_105 : decode cX2_init 105 = .ok (.new 23, 3) := by decide +kernel
theorem dX2_init_108 : decode cX2_init 108 = .ok (.dup, 1) := by decide +kernel
theorem dX2_init_109 : decode cX2_init 109 = .ok (.invokespecial 31, 3) := by decide +kernel
theorem dX2_init_112 : decode cX2_init 112 = .ok (.aastore, 1) := by decide +kernel
theorem dX2_init_113 : decode cX2_init 113 = .ok (.iinc 1 1, 3) := by decide +kernel
theorem dX2_init_116 : decode cX2_init 116 = .ok (.goto (-25), 3) := by decide +kernel
theorem dX2_init_119 : decode cX2_init 119 = .ok (.aload_n 0, 1) := by decide +kernel
theorem dX2_init_120 : decode cX2_init 120 = .ok (.iconst 0, 1) := by decide +kernel
theorem dX2_init_121 : decode cX2_init 121 = .ok (.putfield 32, 3) := by decide +kernel
theorem dX2_init_124 : decode cX2_init 124 = .ok (.aload_n 0, 1) := by decide +kernel
theorem dX2_init_125 : decode cX2_init 125 = .ok (.iconst 0, 1) := by decide +kernel
theorem dX2_init_126 : decode cX2_init 126 = .ok (.putfield 36, 3) := by decide +kernel
theorem dX2_init_129 : decode cX2_init 129 = .ok (.aload_n 0, 1) := by decide +kernel
theorem dX2_init_130 : decode cX2_init 130 = .ok (.iconst 0, 1) := by decide +kernel
theorem dX2_init_131 : decode cX2_init 131 = .ok (.putfield 39, 3) := by decide +kernel
theorem dX2_init_134 : decode cX2_init 134 = .ok (.aload_n 0, 1) := by decide +kernel
theorem dX2_init_135 : decode cX2_init 135 = .ok (.bipush 10, 2) := by decide +kernel
theorem dX2_init_137 : decode cX2_init 137 = .ok (.putfield 42, 3) := by decide +kernel
theorem dX2_init_140 : decode cX2_init 140 = .ok (.aload_n 0, 1) := by decide +kernel
theorem dX2_init_141 : decode cX2_init 141 = .ok (.lconst 0, 1) := by decide +kernel
theorem dX2_init_142 : decode cX2_init 142 = .ok (.putfield 45, 3) := by decide +kernel
theorem dX2_init_145 : decode cX2_init 145 = .ok (.aload_n 0, 1) := by decide +kernel
theorem dX2_init_146 : decode cX2_init 146 = .ok (.lconst 0, 1) := by decide +kernel
theorem dX2_init_147 : decode cX2_init 147 = .ok (.putfield 49, 3) := by decide +kernel
theorem dX2_init_150 : decode cX2_init 150 = .ok (.return_, 1) := by decide +kernel
theorem dX2_reachAt_0 : decode cX2_reachAt 0 = .ok (.iload_n 1, 1) := by decide +kernel
theorem dX2_reachAt_1 : decode cX2_reachAt 1 = .ok (.ifCond .lt 24, 3) := by decide +kernel
theorem dX2_reachAt_4 : decode cX2_reachAt 4 = .ok (.iload_n 1, 1) := by decide +kernel
theorem dX2_reachAt_5 : decode cX2_reachAt 5 = .ok (.aload_n 0, 1) := by decide +kernel
theorem dX2_reachAt_6 : decode cX2_reachAt 6 = .ok (.getfield 32, 3) := by decide +kernel
theorem dX2_reachAt_9 : decode cX2_reachAt 9 = .ok (.if_icmp .ge 16, 3) := by decide +kernel
theorem dX2_reachAt_12 : decode cX2_reachAt 12 = .ok (.iload_n 1, 1) := by decide +kernel
theorem dX2_reachAt_13 : decode cX2_reachAt 13 = .ok (.aload_n 0, 1) := by decide +kernel
theorem dX2_reachAt_14 : decode cX2_reachAt 14 = .ok (.getfield 11, 3) := by decide +kernel
theorem dX2_reachAt_17 : decode cX2_reachAt 17 = .ok (.arraylength, 1) := by decide +kernel
theorem dX2_reachAt_18 : decode cX2_reachAt 18 = .ok (.if_icmp .ge 7, 3) := by decide +kernel
theorem dX2_reachAt_21 : decode cX2_reachAt 21 = .ok (.iconst 1, 1) := by decide +kernel
theorem dX2_reachAt_22 : decode cX2_reachAt 22 = .ok (.goto 4, 3) := by decide +kernel
theorem dX2_reachAt_25 : decode cX2_reachAt 25 = .ok (.iconst 0, 1) := by decide +kernel
theorem dX2_reachAt_26 : decode cX2_reachAt 26 = .ok (.istore_n 2, 1) := by decide +kernel
theorem dX2_reachAt_27 : decode cX2_reachAt 27 = .ok (.iload_n 2, 1) := by decide +kernel
theorem dX2_reachAt_28 : decode cX2_reachAt 28 = .ok (.ifCond .eq 12, 3) := by decide +kernel
theorem dX2_reachAt_31 : decode cX2_reachAt 31 = .ok (.aload_n 0, 1) := by decide +kernel
theorem dX2_reachAt_32 : decode cX2_reachAt 32 = .ok (.getfield 11, 3) := by decide +kernel
theorem dX2_reachAt_35 : decode cX2_reachAt 35 = .ok (.iload_n 1, 1) := by decide +kernel
theorem dX2_reachAt_36 : decode cX2_reachAt 36 = .ok (.aaload, 1) := by decide +kernel
theorem dX2_reachAt_37 : decode cX2_reachAt 37 = .ok (.goto 4, 3) := by decide +kernel
theorem dX2_reachAt_40 : decode cX2_reachAt 40 = .ok (.aconst_null, 1) := by decide +kernel
theorem dX2_reachAt_41 : decode cX2_reachAt 41 = .ok (.areturn, 1) := by decide +kernel
theorem dX2_chamberAt_0 : decode cX2_chamberAt 0 = .ok (.iload_n 1, 1) := by decide +kernel
theorem dX2_chamberAt_1 : decode cX2_chamberAt 1 = .ok (.ifCond .lt 24, 3) := by decide +kernel
theorem dX2_chamberAt_4 : decode cX2_chamberAt 4 = .ok (.iload_n 1, 1) := by decide +kernel
theorem dX2_chamberAt_5 : decode cX2_chamberAt 5 = .ok (.aload_n 0, 1) := by decide +kernel
theorem dX2_chamberAt_6 : decode cX2_chamberAt 6 = .ok (.getfield 36, 3) := by decide +kernel
theorem dX2_chamberAt_9 : decode cX2_chamberAt 9 = .ok (.if_icmp .ge 16, 3) := by decide +kernel
theorem dX2_chamberAt_12 : decode cX2_chamberAt 12 = .ok (.iload_n 1, 1) := by decide +kernel
theorem dX2_chamberAt_13 : decode cX2_chamberAt 13 = .ok (.aload_n 0, 1) := by decide +kernel
theorem dX2_chamberAt_14 : decode cX2_chamberAt 14 = .ok (.getfield 19, 3) := by decide +kernel
theorem dX2_chamberAt_17 : decode cX2_chamberAt 17 = .ok (.arraylength, 1) := by decide +kernel
theorem dX2_chamberAt_18 : decode cX2_chamberAt 18 = .ok (.if_icmp .ge 7, 3) := by decide +kernel
theorem dX2_chamberAt_21 : decode cX2_chamberAt 21 = .ok (.iconst 1, 1) := by decide +kernel
theorem dX2_chamberAt_22 : decode cX2_chamberAt 22 = .ok (.goto 4, 3) := by decide +kernel
theorem dX2_chamberAt_25 : decode cX2_chamberAt 25 = .ok (.iconst 0, 1) := by decide +kernel
theorem dX2_chamberAt_26 : decode cX2_chamberAt 26 = .ok (.istore_n 2, 1) := by decide +kernel
theorem dX2_chamberAt_27 : decode cX2_chamberAt 27 = .ok (.iload_n 2, 1) := by decide +kernel
theorem dX2_chamberAt_28 : decode cX2_chamberAt 28 = .ok (.ifCond .eq 12, 3) := by decide +kernel
theorem dX2_chamberAt_31 : decode cX2_chamberAt 31 = .ok (.aload_n 0, 1) := by decide +kernel
theorem dX2_chamberAt_32 : decode cX2_chamberAt 32 = .ok (.getfield 19, 3) := by decide +kernel
theorem dX2_chamberAt_35 : decode cX2_chamberAt 35 = .ok (.iload_n 1, 1) := by decide +kernel
theorem dX2_chamberAt_36 : decode cX2_chamberAt 36 = .ok (.aaload, 1) := by decide +kernel
theorem dX2_chamberAt_37 : decode cX2_chamberAt 37 = .ok (.goto 4, 3) := by decide +kernel
theorem dX2_chamberAt_40 : decode cX2_chamberAt 40 = .ok (.aconst_null, 1) := by decide +kernel
theorem dX2_chamberAt_41 : decode cX2_chamberAt 41 = .ok (.areturn, 1) := by decide +kernel
theorem dX2_bargeAt_0 : decode cX2_bargeAt 0 = .ok (.iload_n 1, 1) := by decide +kernel
theorem dX2_bargeAt_1 : decode cX2_bargeAt 1 = .ok (.ifCond .lt 24, 3) := by decide +kernel
theorem dX2_bargeAt_4 : decode cX2_bargeAt 4 = .ok (.iload_n 1, 1) := by decide +kernel
theorem dX2_bargeAt_5 : decode cX2_bargeAt 5 = .ok (.aload_n 0, 1) := by decide +kernel
theorem dX2_bargeAt_6 : decode cX2_bargeAt 6 = .ok (.getfield 39, 3) := by decide +kernel
theorem dX2_bargeAt_9 : decode cX2_bargeAt 9 = .ok (.if_icmp .ge 16, 3) := by decide +kernel
theorem dX2_bargeAt_12 : decode cX2_bargeAt 12 = .ok (.iload_n 1, 1) := by decide +kernel
theorem dX2_bargeAt_13 : decode cX2_bargeAt 13 = .ok (.aload_n 0, 1) := by decide +kernel
theorem dX2_bargeAt_14 : decode cX2_bargeAt 14 = .ok (.getfield 25, 3) := by decide +kernel
theorem dX2_bargeAt_17 : decode cX2_bargeAt 17 = .ok (.arraylength, 1) := by decide +kernel
theorem dX2_bargeAt_18 : decode cX2_bargeAt 18 = .ok (.if_icmp .ge 7, 3) := by decide +kernel
theorem dX2_bargeAt_21 : decode cX2_bargeAt 21 = .ok (.iconst 1, 1) := by decide +kernel
theorem dX2_bargeAt_22 : decode cX2_bargeAt 22 = .ok (.goto 4, 3) := by decide +kernel
theorem dX2_bargeAt_25 : decode cX2_bargeAt 25 = .ok (.iconst 0, 1) := by decide +kernel
theorem dX2_bargeAt_26 : decode cX2_bargeAt 26 = .ok (.istore_n 2, 1) := by decide +kernel
theorem dX2_bargeAt_27 : decode cX2_bargeAt 27 = .ok (.iload_n 2, 1) := by decide +kernel
theorem dX2_bargeAt_28 : decode cX2_bargeAt 28 = .ok (.ifCond .eq 12, 3) := by decide +kernel
theorem dX2_bargeAt_31 : decode cX2_bargeAt 31 = .ok (.aload_n 0, 1) := by decide +kernel
theorem dX2_bargeAt_32 : decode cX2_bargeAt 32 = .ok (.getfield 25, 3) := by decide +kernel
theorem dX2_bargeAt_35 : decode cX2_bargeAt 35 = .ok (.iload_n 1, 1) := by decide +kernel
theorem dX2_bargeAt_36 : decode cX2_bargeAt 36 = .ok (.aaload, 1) := by decide +kernel
theorem dX2_bargeAt_37 : decode cX2_bargeAt 37 = .ok (.goto 4, 3) := by decide +kernel
theorem dX2_bargeAt_40 : decode cX2_bargeAt 40 = .ok (.aconst_null, 1) := by decide +kernel
theorem dX2_bargeAt_41 : decode cX2_bargeAt 41 = .ok (.areturn, 1) := by decide +kernel
theorem dX2_sillAt_0 : decode cX2_sillAt 0 = .ok (.aload_n 0, 1) := by decide +kernel
theorem dX2_sillAt_1 : decode cX2_sillAt 1 = .ok (.iload_n 1, 1) := by decide +kernel
theorem dX2_sillAt_2 : decode cX2_sillAt 2 = .ok (.invokevirtual 52, 3) := by decide +kernel
theorem dX2_sillAt_5 : decode cX2_sillAt 5 = .ok (.astore_n 3, 1) := by decide +kernel
theorem dX2_sillAt_6 : decode cX2_sillAt 6 = .ok (.aload_n 3, 1) := by decide +kernel
theorem dX2_sillAt_7 : decode cX2_sillAt 7 = .ok (.ifnonnull 7, 3) := by decide +kernel
theorem dX2_sillAt_10 : decode cX2_sillAt 10 = .ok (.aconst_null, 1) := by decide +kernel
theorem dX2_sillAt_11 : decode cX2_sillAt 11 = .ok (.goto 8, 3) := by decide +kernel
theorem dX2_sillAt_14 : decode cX2_sillAt 14 = .ok (.aload_n 3, 1) := by decide +kernel
theorem dX2_sillAt_15 : decode cX2_sillAt 15 = .ok (.iload_n 2, 1) := by decide +kernel
theorem dX2_sillAt_16 : decode cX2_sillAt 16 = .ok (.invokevirtual 56, 3) := by decide +kernel
theorem dX2_sillAt_19 : decode cX2_sillAt 19 = .ok (.areturn, 1) := by decide +kernel
theorem dX2_reachBehind_0 : decode cX2_reachBehind 0 = .ok (.aload_n 0, 1) := by decide +kernel
theorem dX2_reachBehind_1 : decode cX2_reachBehind 1 = .ok (.iload_n 1, 1) := by decide +kernel
theorem dX2_reachBehind_2 : decode cX2_reachBehind 2 = .ok (.iload_n 2, 1) := by decide +kernel
theorem dX2_reachBehind_3 : decode cX2_reachBehind 3 = .ok (.invokevirtual 60, 3) := by decide +kernel
theorem dX2_reachBehind_6 : decode cX2_reachBehind 6 = .ok (.ifnonnull 7, 3) := by decide +kernel
theorem dX2_reachBehind_9 : decode cX2_reachBehind 9 = .ok (.aconst_null, 1) := by decide +kernel
theorem dX2_reachBehind_10 : decode cX2_reachBehind 10 = .ok (.goto 10, 3) := by decide +kernel
theorem dX2_reachBehind_13 : decode cX2_reachBehind 13 = .ok (.aload_n 0, 1) := by decide +kernel
theorem dX2_reachBehind_14 : decode cX2_reachBehind 14 = .ok (.iload_n 1, 1) := by decide +kernel
theorem dX2_reachBehind_15 : decode cX2_reachBehind 15 = .ok (.iload_n 2, 1) := by decide +kernel
theorem dX2_reachBehind_16 : decode cX2_reachBehind 16 = .ok (.iadd, 1) := by decide +kernel
theorem dX2_reachBehind_17 : decode cX2_reachBehind 17 = .ok (.invokevirtual 64, 3) := by decide +kernel
theorem dX2_reachBehind_20 : decode cX2_reachBehind 20 = .ok (.areturn, 1) := by decide +kernel
theorem dX2_waterAt_0 : decode cX2_waterAt 0 = .ok (.iload_n 1, 1) := by decide +kernel
theorem dX2_waterAt_1 : decode cX2_waterAt 1 = .ok (.bipush 100, 2) := by decide +kernel
theorem dX2_waterAt_3 : decode cX2_waterAt 3 = .ok (.if_icmp .ge 9, 3) := by decide +kernel
theorem dX2_waterAt_6 : decode cX2_waterAt 6 = .ok (.aload_n 0, 1) := by decide +kernel
theorem dX2_waterAt_7 : decode cX2_waterAt 7 = .ok (.iload_n 1, 1) := by decide +kernel
theorem dX2_waterAt_8 : decode cX2_waterAt 8 = .ok (.invokevirtual 64, 3) := by decide +kernel
theorem dX2_waterAt_11 : decode cX2_waterAt 11 = .ok (.areturn, 1) := by decide +kernel
theorem dX2_waterAt_12 : decode cX2_waterAt 12 = .ok (.aload_n 0, 1) := by decide +kernel
theorem dX2_waterAt_13 : decode cX2_waterAt 13 = .ok (.iload_n 1, 1) := by decide +kernel
theorem dX2_waterAt_14 : decode cX2_waterAt 14 = .ok (.bipush 100, 2) := by decide +kernel
theorem dX2_waterAt_16 : decode cX2_waterAt 16 = .ok (.isub, 1) := by decide +kernel
theorem dX2_waterAt_17 : decode cX2_waterAt 17 = .ok (.invokevirtual 52, 3) := by decide +kernel
theorem dX2_waterAt_20 : decode cX2_waterAt 20 = .ok (.astore_n 2, 1) := by decide +kernel
theorem dX2_waterAt_21 : decode cX2_waterAt 21 = .ok (.aload_n 2, 1) := by decide +kernel
theorem dX2_waterAt_22 : decode cX2_waterAt 22 = .ok (.ifnonnull 7, 3) := by decide +kernel
theorem dX2_waterAt_25 : decode cX2_waterAt 25 = .ok (.aconst_null, 1) := by decide +kernel
theorem dX2_waterAt_26 : decode cX2_waterAt 26 = .ok (.goto 7, 3) := by decide +kernel
theorem dX2_waterAt_29 : decode cX2_waterAt 29 = .ok (.aload_n 2, 1) := by decide +kernel
theorem dX2_waterAt_30 : decode cX2_waterAt 30 = .ok (.getfield 68, 3) := by decide +kernel
theorem dX2_waterAt_33 : decode cX2_waterAt 33 = .ok (.areturn, 1) := by decide +kernel
theorem dX2_appendReach_0 : decode cX2_appendReach 0 = .ok (.aload_n 0, 1) := by decide +kernel
theorem dX2_appendReach_1 : decode cX2_appendReach 1 = .ok (.dup, 1) := by decide +kernel
theorem dX2_appendReach_2 : decode cX2_appendReach 2 = .ok (.getfield 32, 3) := by decide +kernel
theorem dX2_appendReach_5 : decode cX2_appendReach 5 = .ok (.iconst 1, 1) := by decide +kernel
theorem dX2_appendReach_6 : decode cX2_appendReach 6 = .ok (.iadd, 1) := by decide +kernel
theorem dX2_appendReach_7 : decode cX2_appendReach 7 = .ok (.putfield 32, 3) := by decide +kernel
theorem dX2_appendReach_10 : decode cX2_appendReach 10 = .ok (.aload_n 0, 1) := by decide +kernel
theorem dX2_appendReach_11 : decode cX2_appendReach 11 = .ok (.aload_n 0, 1) := by decide +kernel
theorem dX2_appendReach_12 : decode cX2_appendReach 12 = .ok (.getfield 32, 3) := by decide +kernel
theorem dX2_appendReach_15 : decode cX2_appendReach 15 = .ok (.iconst 1, 1) := by decide +kernel
theorem dX2_appendReach_16 : decode cX2_appendReach 16 = .ok (.isub, 1) := by decide +kernel
theorem dX2_appendReach_17 : decode cX2_appendReach 17 = .ok (.invokevirtual 64, 3) := by decide +kernel
theorem dX2_appendReach_20 : decode cX2_appendReach 20 = .ok (.astore 4, 2) := by decide +kernel
theorem dX2_appendReach_22 : decode cX2_appendReach 22 = .ok (.aload 4, 2) := by decide +kernel
theorem dX2_appendReach_24 : decode cX2_appendReach 24 = .ok (.ifnull 22, 3) := by decide +kernel
theorem dX2_appendReach_27 : decode cX2_appendReach 27 = .ok (.aload 4, 2) := by decide +kernel
theorem dX2_appendReach_29 : decode cX2_appendReach 29 = .ok (.iload_n 1, 1) := by decide +kernel
theorem dX2_appendReach_30 : decode cX2_appendReach 30 = .ok (.iload_n 2, 1) := by decide +kernel
theorem dX2_appendReach_31 : decode cX2_appendReach 31 = .ok (.iload_n 3, 1) := by decide +kernel
theorem dX2_appendReach_32 : decode cX2_appendReach 32 = .ok (.invokevirtual 72, 3) := by decide +kernel
theorem dX2_appendReach_35 : decode cX2_appendReach 35 = .ok (.aload_n 0, 1) := by decide +kernel
theorem dX2_appendReach_36 : decode cX2_appendReach 36 = .ok (.dup, 1) := by decide +kernel
theorem dX2_appendReach_37 : decode cX2_appendReach 37 = .ok (.getfield 49, 3) := by decide +kernel
theorem dX2_appendReach_40 : decode cX2_appendReach 40 = .ok (.iload_n 3, 1) := by decide +kernel
theorem dX2_appendReach_41 : decode cX2_appendReach 41 = .ok (.i2l, 1) := by decide +kernel
theorem dX2_appendReach_42 : decode cX2_appendReach 42 = .ok (.ladd, 1) := by decide +kernel
theorem dX2_appendReach_43 : decode cX2_appendReach 43 = .ok (.putfield 49, 3) := by decide +kernel
theorem dX2_appendReach_46 : decode cX2_appendReach 46 = .ok (.return_, 1) := by decide +kernel
theorem dX2_appendChamber_0 : decode cX2_appendChamber 0 = .ok (.aload_n 0, 1) := by decide +kernel
theorem dX2_appendChamber_1 : decode cX2_appendChamber 1 = .ok (.dup, 1) := by decide +kernel
theorem dX2_appendChamber_2 : decode cX2_appendChamber 2 = .ok (.getfield 36, 3) := by decide +kernel
theorem dX2_appendChamber_5 : decode cX2_appendChamber 5 = .ok (.iconst 1, 1) := by decide +kernel
theorem dX2_appendChamber_6 : decode cX2_appendChamber 6 = .ok (.iadd, 1) := by decide +kernel
theorem dX2_appendChamber_7 : decode cX2_appendChamber 7 = .ok (.putfield 36, 3) := by decide +kernel
theorem dX2_appendChamber_10 : decode cX2_appendChamber 10 = .ok (.aload_n 0, 1) := by decide +kernel
theorem dX2_appendChamber_11 : decode cX2_appendChamber 11 = .ok (.aload_n 0, 1) := by decide +kernel
theorem dX2_appendChamber_12 : decode cX2_appendChamber 12 = .ok (.getfield 36, 3) := by decide +kernel
theorem dX2_appendChamber_15 : decode cX2_appendChamber 15 = .ok (.iconst 1, 1) := by decide +kernel
theorem dX2_appendChamber_16 : decode cX2_appendChamber 16 = .ok (.isub, 1) := by decide +kernel
theorem dX2_appendChamber_17 : decode cX2_appendChamber 17 = .ok (.invokevirtual 52, 3) := by decide +kernel
theorem dX2_appendChamber_20 : decode cX2_appendChamber 20 = .ok (.astore 4, 2) := by decide +kernel
theorem dX2_appendChamber_22 : decode cX2_appendChamber 22 = .ok (.aload 4, 2) := by decide +kernel
theorem dX2_appendChamber_24 : decode cX2_appendChamber 24 = .ok (.ifnull 11, 3) := by decide +kernel
theorem dX2_appendChamber_27 : decode cX2_appendChamber 27 = .ok (.aload 4, 2) := by decide +kernel
theorem dX2_appendChamber_29 : decode cX2_appendChamber 29 = .ok (.iload_n 1, 1) := by decide +kernel
theorem dX2_appendChamber_30 : decode cX2_appendChamber 30 = .ok (.iload_n 2, 1) := by decide +kernel
theorem dX2_appendChamber_31 : decode cX2_appendChamber 31 = .ok (.iload_n 3, 1) := by decide +kernel
theorem dX2_appendChamber_32 : decode cX2_appendChamber 32 = .ok (.invokevirtual 76, 3) := by decide +kernel
theorem dX2_appendChamber_35 : decode cX2_appendChamber 35 = .ok (.return_, 1) := by decide +kernel
theorem dX2_appendBarge_0 : decode cX2_appendBarge 0 = .ok (.aload_n 0, 1) := by decide +kernel
theorem dX2_appendBarge_1 : decode cX2_appendBarge 1 = .ok (.dup, 1) := by decide +kernel
theorem dX2_appendBarge_2 : decode cX2_appendBarge 2 = .ok (.getfield 39, 3) := by decide +kernel
theorem dX2_appendBarge_5 : decode cX2_appendBarge 5 = .ok (.iconst 1, 1) := by decide +kernel
theorem dX2_appendBarge_6 : decode cX2_appendBarge 6 = .ok (.iadd, 1) := by decide +kernel
theorem dX2_appendBarge_7 : decode cX2_appendBarge 7 = .ok (.putfield 39, 3) := by decide +kernel
theorem dX2_appendBarge_10 : decode cX2_appendBarge 10 = .ok (.aload_n 0, 1) := by decide +kernel
theorem dX2_appendBarge_11 : decode cX2_appendBarge 11 = .ok (.aload_n 0, 1) := by decide +kernel
theorem dX2_appendBarge_12 : decode cX2_appendBarge 12 = .ok (.getfield 39, 3) := by decide +kernel
theorem dX2_appendBarge_15 : decode cX2_appendBarge 15 = .ok (.iconst 1, 1) := by decide +kernel
theorem dX2_appendBarge_16 : decode cX2_appendBarge 16 = .ok (.isub, 1) := by decide +kernel
theorem dX2_appendBarge_17 : decode cX2_appendBarge 17 = .ok (.invokevirtual 77, 3) := by decide +kernel
theorem dX2_appendBarge_20 : decode cX2_appendBarge 20 = .ok (.astore 6, 2) := by decide +kernel
theorem dX2_appendBarge_22 : decode cX2_appendBarge 22 = .ok (.aload_n 0, 1) := by decide +kernel
theorem dX2_appendBarge_23 : decode cX2_appendBarge 23 = .ok (.iload_n 1, 1) := by decide +kernel
theorem dX2_appendBarge_24 : decode cX2_appendBarge 24 = .ok (.invokevirtual 81, 3) := by decide +kernel
theorem dX2_appendBarge_27 : decode cX2_appendBarge 27 = .ok (.astore 7, 2) := by decide +kernel
theorem dX2_appendBarge_29 : decode cX2_appendBarge 29 = .ok (.aload 6, 2) := by decide +kernel
theorem dX2_appendBarge_31 : decode cX2_appendBarge 31 = .ok (.ifnull 26, 3) := by decide +kernel
theorem dX2_appendBarge_34 : decode cX2_appendBarge 34 = .ok (.aload 7, 2) := by decide +kernel
theorem dX2_appendBarge_36 : decode cX2_appendBarge 36 = .ok (.ifnull 21, 3) := by decide +kernel
theorem dX2_appendBarge_39 : decode cX2_appendBarge 39 = .ok (.aload 6, 2) := by decide +kernel
theorem dX2_appendBarge_41 : decode cX2_appendBarge 41 = .ok (.iload_n 1, 1) := by decide +kernel
theorem dX2_appendBarge_42 : decode cX2_appendBarge 42 = .ok (.iload_n 2, 1) := by decide +kernel
theorem dX2_appendBarge_43 : decode cX2_appendBarge 43 = .ok (.iload_n 3, 1) := by decide +kernel
theorem dX2_appendBarge_44 : decode cX2_appendBarge 44 = .ok (.iload 4, 2) := by decide +kernel
theorem dX2_appendBarge_46 : decode cX2_appendBarge 46 = .ok (.iload 5, 2) := by decide +kernel
theorem dX2_appendBarge_48 : decode cX2_appendBarge 48 = .ok (.invokevirtual 84, 3) := by decide +kernel
theorem dX2_appendBarge_51 : decode cX2_appendBarge 51 = .ok (.aload 7, 2) := by decide +kernel
theorem dX2_appendBarge_53 : decode cX2_appendBarge 53 = .ok (.iload_n 3, 1) := by decide +kernel
theorem dX2_appendBarge_54 : decode cX2_appendBarge 54 = .ok (.invokevirtual 87, 3) := by decide +kernel
theorem dX2_appendBarge_57 : decode cX2_appendBarge 57 = .ok (.return_, 1) := by decide +kernel
theorem dX2_isAground_0 : decode cX2_isAground 0 = .ok (.aload_n 0, 1) := by decide +kernel
theorem dX2_isAground_1 : decode cX2_isAground 1 = .ok (.aload_n 1, 1) := by decide +kernel
theorem dX2_isAground_2 : decode cX2_isAground 2 = .ok (.getfield 91, 3) := by decide +kernel
theorem dX2_isAground_5 : decode cX2_isAground 5 = .ok (.invokevirtual 81, 3) := by decide +kernel
theorem dX2_isAground_8 : decode cX2_isAground 8 = .ok (.astore_n 2, 1) := by decide +kernel
theorem dX2_isAground_9 : decode cX2_isAground 9 = .ok (.aload_n 2, 1) := by decide +kernel
theorem dX2_isAground_10 : decode cX2_isAground 10 = .ok (.ifnull 20, 3) := by decide +kernel
theorem dX2_isAground_13 : decode cX2_isAground 13 = .ok (.aload_n 2, 1) := by decide +kernel
theorem dX2_isAground_14 : decode cX2_isAground 14 = .ok (.invokevirtual 94, 3) := by decide +kernel
theorem dX2_isAground_17 : decode cX2_isAground 17 = .ok (.aload_n 1, 1) := by decide +kernel
theorem dX2_isAground_18 : decode cX2_isAground 18 = .ok (.invokevirtual 98, 3) := by decide +kernel
theorem dX2_isAground_21 : decode cX2_isAground 21 = .ok (.i2l, 1) := by decide +kernel
theorem dX2_isAground_22 : decode cX2_isAground 22 = .ok (.lcmp, 1) := by decide +kernel
theorem dX2_isAground_23 : decode cX2_isAground 23 = .ok (.ifCond .ge 7, 3) := by decide +kernel
theorem dX2_isAground_26 : decode cX2_isAground 26 = .ok (.iconst 1, 1) := by decide +kernel
theorem dX2_isAground_27 : decode cX2_isAground 27 = .ok (.goto 4, 3) := by decide +kernel
theorem dX2_isAground_30 : decode cX2_isAground 30 = .ok (.iconst 0, 1) := by decide +kernel
theorem dX2_isAground_31 : decode cX2_isAground 31 = .ok (.ireturn, 1) := by decide +kernel
theorem dX2_mostDraught_0 : decode cX2_mostDraught 0 = .ok (.aload_n 1, 1) := by decide +kernel
theorem dX2_mostDraught_1 : decode cX2_mostDraught 1 = .ok (.getfield 68, 3) := by decide +kernel
theorem dX2_mostDraught_4 : decode cX2_mostDraught 4 = .ok (.invokevirtual 102, 3) := by decide +kernel
theorem dX2_mostDraught_7 : decode cX2_mostDraught 7 = .ok (.aload_n 2, 1) := by decide +kernel
theorem dX2_mostDraught_8 : decode cX2_mostDraught 8 = .ok (.invokevirtual 105, 3) := by decide +kernel
theorem dX2_mostDraught_11 : decode cX2_mostDraught 11 = .ok (.i2l, 1) := by decide +kernel
theorem dX2_mostDraught_12 : decode cX2_mostDraught 12 = .ok (.lsub, 1) := by decide +kernel
theorem dX2_mostDraught_13 : decode cX2_mostDraught 13 = .ok (.aload_n 0, 1) := by decide +kernel
theorem dX2_mostDraught_14 : decode cX2_mostDraught 14 = .ok (.getfield 42, 3) := by decide +kernel
theorem dX2_mostDraught_17 : decode cX2_mostDraught 17 = .ok (.i2l, 1) := by decide +kernel
theorem dX2_mostDraught_18 : decode cX2_mostDraught 18 = .ok (.lsub, 1) := by decide +kernel
theorem dX2_mostDraught_19 : decode cX2_mostDraught 19 = .ok (.lreturn, 1) := by decide +kernel
theorem dX2_move_0 : decode cX2_move 0 = .ok (.aload_n 0, 1) := by decide +kernel
theorem dX2_move_1 : decode cX2_move 1 = .ok (.aload_n 1, 1) := by decide +kernel
theorem dX2_move_2 : decode cX2_move 2 = .ok (.getfield 91, 3) := by decide +kernel
theorem dX2_move_5 : decode cX2_move 5 = .ok (.invokevirtual 81, 3) := by decide +kernel
theorem dX2_move_8 : decode cX2_move 8 = .ok (.astore_n 3, 1) := by decide +kernel
theorem dX2_move_9 : decode cX2_move 9 = .ok (.aload_n 0, 1) := by decide +kernel
theorem dX2_move_10 : decode cX2_move 10 = .ok (.iload_n 2, 1) := by decide +kernel
theorem dX2_move_11 : decode cX2_move 11 = .ok (.invokevirtual 81, 3) := by decide +kernel
theorem dX2_move_14 : decode cX2_move 14 = .ok (.astore 4, 2) := by decide +kernel
theorem dX2_move_16 : decode cX2_move 16 = .ok (.aload_n 3, 1) := by decide +kernel
theorem dX2_move_17 : decode cX2_move 17 = .ok (.ifnull 8, 3) := by decide +kernel
theorem dX2_move_20 : decode cX2_move 20 = .ok (.aload 4, 2) := by decide +kernel
theorem dX2_move_22 : decode cX2_move 22 = .ok (.ifnonnull 4, 3) := by decide +kernel
theorem dX2_move_25 : decode cX2_move 25 = .ok (.return_, 1) := by decide +kernel
theorem dX2_move_26 : decode cX2_move 26 = .ok (.aload_n 3, 1) := by decide +kernel
theorem dX2_move_27 : decode cX2_move 27 = .ok (.aload_n 1, 1) := by decide +kernel
theorem dX2_move_28 : decode cX2_move 28 = .ok (.invokevirtual 110, 3) := by decide +kernel
theorem dX2_move_31 : decode cX2_move 31 = .ok (.invokevirtual 113, 3) := by decide +kernel
theorem dX2_move_34 : decode cX2_move 34 = .ok (.aload 4, 2) := by decide +kernel
theorem dX2_move_36 : decode cX2_move 36 = .ok (.aload_n 1, 1) := by decide +kernel
theorem dX2_move_37 : decode cX2_move 37 = .ok (.invokevirtual 110, 3) := by decide +kernel
theorem dX2_move_40 : decode cX2_move 40 = .ok (.invokevirtual 87, 3) := by decide +kernel
theorem dX2_move_43 : decode cX2_move 43 = .ok (.aload_n 1, 1) := by decide +kernel
theorem dX2_move_44 : decode cX2_move 44 = .ok (.iload_n 2, 1) := by decide +kernel
theorem dX2_move_45 : decode cX2_move 45 = .ok (.putfield 91, 3) := by decide +kernel
theorem dX2_move_48 : decode cX2_move 48 = .ok (.aload_n 1, 1) := by decide +kernel
theorem dX2_move_49 : decode cX2_move 49 = .ok (.dup, 1) := by decide +kernel
theorem dX2_move_50 : decode cX2_move 50 = .ok (.getfield 116, 3) := by decide +kernel
theorem dX2_move_53 : decode cX2_move 53 = .ok (.iconst 1, 1) := by decide +kernel
theorem dX2_move_54 : decode cX2_move 54 = .ok (.iadd, 1) := by decide +kernel
theorem dX2_move_55 : decode cX2_move 55 = .ok (.putfield 116, 3) := by decide +kernel
theorem dX2_move_58 : decode cX2_move 58 = .ok (.return_, 1) := by decide +kernel
theorem dX2_settle_0 : decode cX2_settle 0 = .ok (.iconst 0, 1) := by decide +kernel
theorem dX2_settle_1 : decode cX2_settle 1 = .ok (.istore_n 1, 1) := by decide +kernel
theorem dX2_settle_2 : decode cX2_settle 2 = .ok (.iload_n 1, 1) := by decide +kernel
theorem dX2_settle_3 : decode cX2_settle 3 = .ok (.aload_n 0, 1) := by decide +kernel
theorem dX2_settle_4 : decode cX2_settle 4 = .ok (.getfield 36, 3) := by decide +kernel
theorem dX2_settle_7 : decode cX2_settle 7 = .ok (.if_icmp .ge 41, 3) := by decide +kernel
theorem dX2_settle_10 : decode cX2_settle 10 = .ok (.aload_n 0, 1) := by decide +kernel
theorem dX2_settle_11 : decode cX2_settle 11 = .ok (.iload_n 1, 1) := by decide +kernel
theorem dX2_settle_12 : decode cX2_settle 12 = .ok (.invokevirtual 52, 3) := by decide +kernel
theorem dX2_settle_15 : decode cX2_settle 15 = .ok (.astore_n 2, 1) := by decide +kernel
theorem dX2_settle_16 : decode cX2_settle 16 = .ok (.aload_n 2, 1) := by decide +kernel
theorem dX2_settle_17 : decode cX2_settle 17 = .ok (.ifnull 25, 3) := by decide +kernel
theorem dX2_settle_20 : decode cX2_settle 20 = .ok (.aload_n 0, 1) := by decide +kernel
theorem dX2_settle_21 : decode cX2_settle 21 = .ok (.iload_n 1, 1) := by decide +kernel
theorem dX2_settle_22 : decode cX2_settle 22 = .ok (.aload_n 2, 1) := by decide +kernel
theorem dX2_settle_23 : decode cX2_settle 23 = .ok (.getfield 119, 3) := by decide +kernel
theorem dX2_settle_26 : decode cX2_settle 26 = .ok (.invokevirtual 122, 3) := by decide +kernel
theorem dX2_settle_29 : decode cX2_settle 29 = .ok (.astore_n 3, 1) := by decide +kernel
theorem dX2_settle_30 : decode cX2_settle 30 = .ok (.aload_n 3, 1) := by decide +kernel
theorem dX2_settle_31 : decode cX2_settle 31 = .ok (.ifnull 11, 3) := by decide +kernel
theorem dX2_settle_34 : decode cX2_settle 34 = .ok (.aload_n 2, 1) := by decide +kernel
theorem dX2_settle_35 : decode cX2_settle 35 = .ok (.getfield 68, 3) := by decide +kernel
theorem dX2_settle_38 : decode cX2_settle 38 = .ok (.aload_n 3, 1) := by decide +kernel
theorem dX2_settle_39 : decode cX2_settle 39 = .ok (.invokevirtual 126, 3) := by decide +kernel
theorem dX2_settle_42 : decode cX2_settle 42 = .ok (.iinc 1 1, 3) := by decide +kernel
theorem dX2_settle_45 : decode cX2_settle 45 = .ok (.goto (-43), 3) := by decide +kernel
theorem dX2_settle_48 : decode cX2_settle 48 = .ok (.return_, 1) := by decide +kernel
theorem dX2_propertyOf_0 : decode cX2_propertyOf 0 = .ok (.iload_n 2, 1) := by decide +kernel
theorem dX2_propertyOf_1 : decode cX2_propertyOf 1 = .ok (.tableswitch 105 0 8 #[51, 56, 61, 66, 71, 76, 81, 95, 100], 51) := by decide +kernel
theorem dX2_propertyOf_52 : decode cX2_propertyOf 52 = .ok (.aload_n 1, 1) := by decide +kernel
theorem dX2_propertyOf_53 : decode cX2_propertyOf 53 = .ok (.getfield 130, 3) := by decide +kernel
theorem dX2_propertyOf_56 : decode cX2_propertyOf 56 = .ok (.ireturn, 1) := by decide +kernel
theorem dX2_propertyOf_57 : decode cX2_propertyOf 57 = .ok (.aload_n 1, 1) := by decide +kernel
theorem dX2_propertyOf_58 : decode cX2_propertyOf 58 = .ok (.invokevirtual 110, 3) := by decide +kernel
theorem dX2_propertyOf_61 : decode cX2_propertyOf 61 = .ok (.ireturn, 1) := by decide +kernel
theorem dX2_propertyOf_62 : decode cX2_propertyOf 62 = .ok (.aload_n 1, 1) := by decide +kernel
theorem dX2_propertyOf_63 : decode cX2_propertyOf 63 = .ok (.invokevirtual 98, 3) := by decide +kernel
theorem dX2_propertyOf_66 : decode cX2_propertyOf 66 = .ok (.ireturn, 1) := by decide +kernel
theorem dX2_propertyOf_67 : decode cX2_propertyOf 67 = .ok (.aload_n 1, 1) := by decide +kernel
theorem dX2_propertyOf_68 : decode cX2_propertyOf 68 = .ok (.getfield 133, 3) := by decide +kernel
theorem dX2_propertyOf_71 : decode cX2_propertyOf 71 = .ok (.ireturn, 1) := by decide +kernel
theorem dX2_propertyOf_72 : decode cX2_propertyOf 72 = .ok (.aload_n 1, 1) := by decide +kernel
theorem dX2_propertyOf_73 : decode cX2_propertyOf 73 = .ok (.getfield 136, 3) := by decide +kernel
theorem dX2_propertyOf_76 : decode cX2_propertyOf 76 = .ok (.ireturn, 1) := by decide +kernel
theorem dX2_propertyOf_77 : decode cX2_propertyOf 77 = .ok (.aload_n 1, 1) := by decide +kernel
theorem dX2_propertyOf_78 : decode cX2_propertyOf 78 = .ok (.invokevirtual 139, 3) := by decide +kernel
theorem dX2_propertyOf_81 : decode cX2_propertyOf 81 = .ok (.ireturn, 1) := by decide +kernel
theorem dX2_propertyOf_82 : decode cX2_propertyOf 82 = .ok (.aload_n 0, 1) := by decide +kernel
theorem dX2_propertyOf_83 : decode cX2_propertyOf 83 = .ok (.aload_n 1, 1) := by decide +kernel
theorem dX2_propertyOf_84 : decode cX2_propertyOf 84 = .ok (.invokevirtual 142, 3) := by decide +kernel
theorem dX2_propertyOf_87 : decode cX2_propertyOf 87 = .ok (.ifCond .eq 7, 3) := by decide +kernel
theorem dX2_propertyOf_90 : decode cX2_propertyOf 90 = .ok (.iconst 1, 1) := by decide +kernel
theorem dX2_propertyOf_91 : decode cX2_propertyOf 91 = .ok (.goto 4, 3) := by decide +kernel
theorem dX2_propertyOf_94 : decode cX2_propertyOf 94 = .ok (.iconst 0, 1) := by decide +kernel
theorem dX2_propertyOf_95 : decode cX2_propertyOf 95 = .ok (.ireturn, 1) := by decide +kernel
theorem dX2_propertyOf_96 : decode cX2_propertyOf 96 = .ok (.aload_n 1, 1) := by decide +kernel
theorem dX2_propertyOf_97 : decode cX2_propertyOf 97 = .ok (.getfield 91, 3) := by decide +kernel
theorem dX2_propertyOf_100 : decode cX2_propertyOf 100 = .ok (.ireturn, 1) := by decide +kernel
theorem dX2_propertyOf_101 : decode cX2_propertyOf 101 = .ok (.aload_n 1, 1) := by decide +kernel
theorem dX2_propertyOf_102 : decode cX2_propertyOf 102 = .ok (.getfield 116, 3) := by decide +kernel
theorem dX2_propertyOf_105 : decode cX2_propertyOf 105 = .ok (.ireturn, 1) := by decide +kernel
theorem dX2_propertyOf_106 : decode cX2_propertyOf 106 = .ok (.ldc 146, 2) := by decide +kernel
theorem dX2_propertyOf_108 : decode cX2_propertyOf 108 = .ok (.ireturn, 1) := by decide +kernel
theorem dX2_sumOfBarges_0 : decode cX2_sumOfBarges 0 = .ok (.lconst 0, 1) := by decide +kernel
theorem dX2_sumOfBarges_1 : decode cX2_sumOfBarges 1 = .ok (.lstore_n 2, 1) := by decide +kernel
theorem dX2_sumOfBarges_2 : decode cX2_sumOfBarges 2 = .ok (.iconst 0, 1) := by decide +kernel
theorem dX2_sumOfBarges_3 : decode cX2_sumOfBarges 3 = .ok (.istore 4, 2) := by decide +kernel
theorem dX2_sumOfBarges_5 : decode cX2_sumOfBarges 5 = .ok (.iload 4, 2) := by decide +kernel
theorem dX2_sumOfBarges_7 : decode cX2_sumOfBarges 7 = .ok (.aload_n 0, 1) := by decide +kernel
theorem dX2_sumOfBarges_8 : decode cX2_sumOfBarges 8 = .ok (.getfield 39, 3) := by decide +kernel
theorem dX2_sumOfBarges_11 : decode cX2_sumOfBarges 11 = .ok (.if_icmp .ge 33, 3) := by decide +kernel
theorem dX2_sumOfBarges_14 : decode cX2_sumOfBarges 14 = .ok (.aload_n 0, 1) := by decide +kernel
theorem dX2_sumOfBarges_15 : decode cX2_sumOfBarges 15 = .ok (.iload 4, 2) := by decide +kernel
theorem dX2_sumOfBarges_17 : decode cX2_sumOfBarges 17 = .ok (.invokevirtual 77, 3) := by decide +kernel
theorem dX2_sumOfBarges_20 : decode cX2_sumOfBarges 20 = .ok (.astore 5, 2) := by decide +kernel
theorem dX2_sumOfBarges_22 : decode cX2_sumOfBarges 22 = .ok (.aload 5, 2) := by decide +kernel
theorem dX2_sumOfBarges_24 : decode cX2_sumOfBarges 24 = .ok (.ifnull 14, 3) := by decide +kernel
theorem dX2_sumOfBarges_27 : decode cX2_sumOfBarges 27 = .ok (.lload_n 2, 1) := by decide +kernel
theorem dX2_sumOfBarges_28 : decode cX2_sumOfBarges 28 = .ok (.aload_n 0, 1) := by decide +kernel
theorem dX2_sumOfBarges_29 : decode cX2_sumOfBarges 29 = .ok (.aload 5, 2) := by decide +kernel
theorem dX2_sumOfBarges_31 : decode cX2_sumOfBarges 31 = .ok (.iload_n 1, 1) := by decide +kernel
theorem dX2_sumOfBarges_32 : decode cX2_sumOfBarges 32 = .ok (.invokevirtual 147, 3) := by decide +kernel
theorem dX2_sumOfBarges_35 : decode cX2_sumOfBarges 35 = .ok (.i2l, 1) := by decide +kernel
theorem dX2_sumOfBarges_36 : decode cX2_sumOfBarges 36 = .ok (.ladd, 1) := by decide +kernel
theorem dX2_sumOfBarges_37 : decode cX2_sumOfBarges 37 = .ok (.lstore_n 2, 1) := by decide +kernel
theorem dX2_sumOfBarges_38 : decode cX2_sumOfBarges 38 = .ok (.iinc 4 1, 3) := by decide +kernel
theorem dX2_sumOfBarges_41 : decode cX2_sumOfBarges 41 = .ok (.goto (-36), 3) := by decide +kernel
theorem dX2_sumOfBarges_44 : decode cX2_sumOfBarges 44 = .ok (.lload_n 2, 1) := by decide +kernel
theorem dX2_sumOfBarges_45 : decode cX2_sumOfBarges 45 = .ok (.lreturn, 1) := by decide +kernel
theorem dX2_allWater_0 : decode cX2_allWater 0 = .ok (.lconst 0, 1) := by decide +kernel
theorem dX2_allWater_1 : decode cX2_allWater 1 = .ok (.lstore_n 1, 1) := by decide +kernel
theorem dX2_allWater_2 : decode cX2_allWater 2 = .ok (.iconst 0, 1) := by decide +kernel
theorem dX2_allWater_3 : decode cX2_allWater 3 = .ok (.istore_n 3, 1) := by decide +kernel
theorem dX2_allWater_4 : decode cX2_allWater 4 = .ok (.iload_n 3, 1) := by decide +kernel
theorem dX2_allWater_5 : decode cX2_allWater 5 = .ok (.aload_n 0, 1) := by decide +kernel
theorem dX2_allWater_6 : decode cX2_allWater 6 = .ok (.getfield 32, 3) := by decide +kernel
theorem dX2_allWater_9 : decode cX2_allWater 9 = .ok (.if_icmp .ge 60, 3) := by decide +kernel
theorem dX2_allWater_12 : decode cX2_allWater 12 = .ok (.aload_n 0, 1) := by decide +kernel
theorem dX2_allWater_13 : decode cX2_allWater 13 = .ok (.iload_n 3, 1) := by decide +kernel
theorem dX2_allWater_14 : decode cX2_allWater 14 = .ok (.invokevirtual 64, 3) := by decide +kernel
theorem dX2_allWater_17 : decode cX2_allWater 17 = .ok (.astore 4, 2) := by decide +kernel
theorem dX2_allWater_19 : decode cX2_allWater 19 = .ok (.aload_n 0, 1) := by decide +kernel
theorem dX2_allWater_20 : decode cX2_allWater 20 = .ok (.iload_n 3, 1) := by decide +kernel
theorem dX2_allWater_21 : decode cX2_allWater 21 = .ok (.invokevirtual 52, 3) := by decide +kernel
theorem dX2_allWater_24 : decode cX2_allWater 24 = .ok (.astore 5, 2) := by decide +kernel
theorem dX2_allWater_26 : decode cX2_allWater 26 = .ok (.lload_n 1, 1) := by decide +kernel
theorem dX2_allWater_27 : decode cX2_allWater 27 = .ok (.aload 4, 2) := by decide +kernel
theorem dX2_allWater_29 : decode cX2_allWater 29 = .ok (.ifnonnull 7, 3) := by decide +kernel
theorem dX2_allWater_32 : decode cX2_allWater 32 = .ok (.lconst 0, 1) := by decide +kernel
theorem dX2_allWater_33 : decode cX2_allWater 33 = .ok (.goto 8, 3) := by decide +kernel
theorem dX2_allWater_36 : decode cX2_allWater 36 = .ok (.aload 4, 2) := by decide +kernel
theorem dX2_allWater_38 : decode cX2_allWater 38 = .ok (.getfield 151, 3) := by decide +kernel
theorem dX2_allWater_41 : decode cX2_allWater 41 = .ok (.ladd, 1) := by decide +kernel
theorem dX2_allWater_42 : decode cX2_allWater 42 = .ok (.lstore_n 1, 1) := by decide +kernel
theorem dX2_allWater_43 : decode cX2_allWater 43 = .ok (.lload_n 1, 1) := by decide +kernel
theorem dX2_allWater_44 : decode cX2_allWater 44 = .ok (.aload 5, 2) := by decide +kernel
theorem dX2_allWater_46 : decode cX2_allWater 46 = .ok (.ifnonnull 7, 3) := by decide +kernel
theorem dX2_allWater_49 : decode cX2_allWater 49 = .ok (.lconst 0, 1) := by decide +kernel
theorem dX2_allWater_50 : decode cX2_allWater 50 = .ok (.goto 11, 3) := by decide +kernel
theorem dX2_allWater_53 : decode cX2_allWater 53 = .ok (.aload 5, 2) := by decide +kernel
theorem dX2_allWater_55 : decode cX2_allWater 55 = .ok (.getfield 68, 3) := by decide +kernel
theorem dX2_allWater_58 : decode cX2_allWater 58 = .ok (.getfield 151, 3) := by decide +kernel
theorem dX2_allWater_61 : decode cX2_allWater 61 = .ok (.ladd, 1) := by decide +kernel
theorem dX2_allWater_62 : decode cX2_allWater 62 = .ok (.lstore_n 1, 1) := by decide +kernel
theorem dX2_allWater_63 : decode cX2_allWater 63 = .ok (.iinc 3 1, 3) := by decide +kernel
theorem dX2_allWater_66 : decode cX2_allWater 66 = .ok (.goto (-62), 3) := by decide +kernel
theorem dX2_allWater_69 : decode cX2_allWater 69 = .ok (.lload_n 1, 1) := by decide +kernel
theorem dX2_allWater_70 : decode cX2_allWater 70 = .ok (.lreturn, 1) := by decide +kernel
theorem dX2_openGates_0 : decode cX2_openGates 0 = .ok (.iconst 0, 1) := by decide +kernel
theorem dX2_openGates_1 : decode cX2_openGates 1 = .ok (.istore_n 1, 1) := by decide +kernel
theorem dX2_openGates_2 : decode cX2_openGates 2 = .ok (.iconst 0, 1) := by decide +kernel
theorem dX2_openGates_3 : decode cX2_openGates 3 = .ok (.istore_n 2, 1) := by decide +kernel
theorem dX2_openGates_4 : decode cX2_openGates 4 = .ok (.iload_n 2, 1) := by decide +kernel
theorem dX2_openGates_5 : decode cX2_openGates 5 = .ok (.aload_n 0, 1) := by decide +kernel
theorem dX2_openGates_6 : decode cX2_openGates 6 = .ok (.getfield 36, 3) := by decide +kernel
theorem dX2_openGates_9 : decode cX2_openGates 9 = .ok (.if_icmp .ge 30, 3) := by decide +kernel
theorem dX2_openGates_12 : decode cX2_openGates 12 = .ok (.aload_n 0, 1) := by decide +kernel
theorem dX2_openGates_13 : decode cX2_openGates 13 = .ok (.iload_n 2, 1) := by decide +kernel
theorem dX2_openGates_14 : decode cX2_openGates 14 = .ok (.invokevirtual 52, 3) := by decide +kernel
theorem dX2_openGates_17 : decode cX2_openGates 17 = .ok (.astore_n 3, 1) := by decide +kernel
theorem dX2_openGates_18 : decode cX2_openGates 18 = .ok (.aload_n 3, 1) := by decide +kernel
theorem dX2_openGates_19 : decode cX2_openGates 19 = .ok (.ifnull 14, 3) := by decide +kernel
theorem dX2_openGates_22 : decode cX2_openGates 22 = .ok (.aload_n 3, 1) := by decide +kernel
theorem dX2_openGates_23 : decode cX2_openGates 23 = .ok (.getfield 119, 3) := by decide +kernel
theorem dX2_openGates_26 : decode cX2_openGates 26 = .ok (.iconst (-1), 1) := by decide +kernel
theorem dX2_openGates_27 : decode cX2_openGates 27 = .ok (.if_icmp .eq 6, 3) := by decide +kernel
theorem dX2_openGates_30 : decode cX2_openGates 30 = .ok (.iinc 1 1, 3) := by decide +kernel
theorem dX2_openGates_33 : decode cX2_openGates 33 = .ok (.iinc 2 1, 3) := by decide +kernel
theorem dX2_openGates_36 : decode cX2_openGates 36 = .ok (.goto (-32), 3) := by decide +kernel
theorem dX2_openGates_39 : decode cX2_openGates 39 = .ok (.iload_n 1, 1) := by decide +kernel
theorem dX2_openGates_40 : decode cX2_openGates 40 = .ok (.ireturn, 1) := by decide +kernel
theorem dX2_bargesInChambers_0 : decode cX2_bargesInChambers 0 = .ok (.iconst 0, 1) := by decide +kernel
theorem dX2_bargesInChambers_1 : decode cX2_bargesInChambers 1 = .ok (.istore_n 1, 1) := by decide +kernel
theorem dX2_bargesInChambers_2 : decode cX2_bargesInChambers 2 = .ok (.iconst 0, 1) := by decide +kernel
theorem dX2_bargesInChambers_3 : decode cX2_bargesInChambers 3 = .ok (.istore_n 2, 1) := by decide +kernel
theorem dX2_bargesInChambers_4 : decode cX2_bargesInChambers 4 = .ok (.iload_n 2, 1) := by decide +kernel
theorem dX2_bargesInChambers_5 : decode cX2_bargesInChambers 5 = .ok (.aload_n 0, 1) := by decide +kernel
theorem dX2_bargesInChambers_6 : decode cX2_bargesInChambers 6 = .ok (.getfield 36, 3) := by decide +kernel
theorem dX2_bargesInChambers_9 : decode cX2_bargesInChambers 9 = .ok (.if_icmp .ge 30, 3) := by decide +kernel
theorem dX2_bargesInChambers_12 : decode cX2_bargesInChambers 12 = .ok (.aload_n 0, 1) := by decide +kernel
theorem dX2_bargesInChambers_13 : decode cX2_bargesInChambers 13 = .ok (.iload_n 2, 1) := by decide +kernel
theorem dX2_bargesInChambers_14 : decode cX2_bargesInChambers 14 = .ok (.invokevirtual 52, 3) := by decide +kernel
theorem dX2_bargesInChambers_17 : decode cX2_bargesInChambers 17 = .ok (.astore_n 3, 1) := by decide +kernel
theorem dX2_bargesInChambers_18 : decode cX2_bargesInChambers 18 = .ok (.iload_n 1, 1) := by decide +kernel
theorem dX2_bargesInChambers_19 : decode cX2_bargesInChambers 19 = .ok (.aload_n 3, 1) := by decide +kernel
theorem dX2_bargesInChambers_20 : decode cX2_bargesInChambers 20 = .ok (.ifnonnull 7, 3) := by decide +kernel
theorem dX2_bargesInChambers_23 : decode cX2_bargesInChambers 23 = .ok (.iconst 0, 1) := by decide +kernel
theorem dX2_bargesInChambers_24 : decode cX2_bargesInChambers 24 = .ok (.goto 7, 3) := by decide +kernel
theorem dX2_bargesInChambers_27 : decode cX2_bargesInChambers 27 = .ok (.aload_n 3, 1) := by decide +kernel
theorem dX2_bargesInChambers_28 : decode cX2_bargesInChambers 28 = .ok (.getfield 154, 3) := by decide +kernel
theorem dX2_bargesInChambers_31 : decode cX2_bargesInChambers 31 = .ok (.iadd, 1) := by decide +kernel
theorem dX2_bargesInChambers_32 : decode cX2_bargesInChambers 32 = .ok (.istore_n 1, 1) := by decide +kernel
theorem dX2_bargesInChambers_33 : decode cX2_bargesInChambers 33 = .ok (.iinc 2 1, 3) := by decide +kernel
theorem dX2_bargesInChambers_36 : decode cX2_bargesInChambers 36 = .ok (.goto (-32), 3) := by decide +kernel
theorem dX2_bargesInChambers_39 : decode cX2_bargesInChambers 39 = .ok (.iload_n 1, 1) := by decide +kernel
theorem dX2_bargesInChambers_40 : decode cX2_bargesInChambers 40 = .ok (.ireturn, 1) := by decide +kernel
theorem dX2_copyTo_0 : decode cX2_copyTo 0 = .ok (.iconst 0, 1) := by decide +kernel
theorem dX2_copyTo_1 : decode cX2_copyTo 1 = .ok (.istore_n 2, 1) := by decide +kernel
theorem dX2_copyTo_2 : decode cX2_copyTo 2 = .ok (.iload_n 2, 1) := by decide +kernel
theorem dX2_copyTo_3 : decode cX2_copyTo 3 = .ok (.aload_n 0, 1) := by decide +kernel
theorem dX2_copyTo_4 : decode cX2_copyTo 4 = .ok (.getfield 11, 3) := by decide +kernel
theorem dX2_copyTo_7 : decode cX2_copyTo 7 = .ok (.arraylength, 1) := by decide +kernel
theorem dX2_copyTo_8 : decode cX2_copyTo 8 = .ok (.if_icmp .ge 51, 3) := by decide +kernel
theorem dX2_copyTo_11 : decode cX2_copyTo 11 = .ok (.iload_n 2, 1) := by decide +kernel
theorem dX2_copyTo_12 : decode cX2_copyTo 12 = .ok (.aload_n 1, 1) := by decide +kernel
theorem dX2_copyTo_13 : decode cX2_copyTo 13 = .ok (.getfield 11, 3) := by decide +kernel
theorem dX2_copyTo_16 : decode cX2_copyTo 16 = .ok (.arraylength, 1) := by decide +kernel
theorem dX2_copyTo_17 : decode cX2_copyTo 17 = .ok (.if_icmp .ge 42, 3) := by decide +kernel
theorem dX2_copyTo_20 : decode cX2_copyTo 20 = .ok (.aload_n 0, 1) := by decide +kernel
theorem dX2_copyTo_21 : decode cX2_copyTo 21 = .ok (.getfield 11, 3) := by decide +kernel
theorem dX2_copyTo_24 : decode cX2_copyTo 24 = .ok (.iload_n 2, 1) := by decide +kernel
theorem dX2_copyTo_25 : decode cX2_copyTo 25 = .ok (.aaload, 1) := by decide +kernel
theorem dX2_copyTo_26 : decode cX2_copyTo 26 = .ok (.ifnull 27, 3) := by decide +kernel
theorem dX2_copyTo_29 : decode cX2_copyTo 29 = .ok (.aload_n 1, 1) := by decide +kernel
theorem dX2_copyTo_30 : decode cX2_copyTo 30 = .ok (.getfield 11, 3) := by decide +kernel
theorem dX2_copyTo_33 : decode cX2_copyTo 33 = .ok (.iload_n 2, 1) := by decide +kernel
theorem dX2_copyTo_34 : decode cX2_copyTo 34 = .ok (.aaload, 1) := by decide +kernel
theorem dX2_copyTo_35 : decode cX2_copyTo 35 = .ok (.ifnull 18, 3) := by decide +kernel
theorem dX2_copyTo_38 : decode cX2_copyTo 38 = .ok (.aload_n 0, 1) := by decide +kernel
theorem dX2_copyTo_39 : decode cX2_copyTo 39 = .ok (.getfield 11, 3) := by decide +kernel
theorem dX2_copyTo_42 : decode cX2_copyTo 42 = .ok (.iload_n 2, 1) := by decide +kernel
theorem dX2_copyTo_43 : decode cX2_copyTo 43 = .ok (.aaload, 1) := by decide +kernel
theorem dX2_copyTo_44 : decode cX2_copyTo 44 = .ok (.aload_n 1, 1) := by decide +kernel
theorem dX2_copyTo_45 : decode cX2_copyTo 45 = .ok (.getfield 11, 3) := by decide +kernel
theorem dX2_copyTo_48 : decode cX2_copyTo 48 = .ok (.iload_n 2, 1) := by decide +kernel
theorem dX2_copyTo_49 : decode cX2_copyTo 49 = .ok (.aaload, 1) := by decide +kernel
theorem dX2_copyTo_50 : decode cX2_copyTo 50 = .ok (.invokevirtual 157, 3) := by decide +kernel
theorem dX2_copyTo_53 : decode cX2_copyTo 53 = .ok (.iinc 2 1, 3) := by decide +kernel
theorem dX2_copyTo_56 : decode cX2_copyTo 56 = .ok (.goto (-54), 3) := by decide +kernel
theorem dX2_copyTo_59 : decode cX2_copyTo 59 = .ok (.iconst 0, 1) := by decide +kernel
theorem dX2_copyTo_60 : decode cX2_copyTo 60 = .ok (.istore_n 2, 1) := by decide +kernel
theorem dX2_copyTo_61 : decode cX2_copyTo 61 = .ok (.iload_n 2, 1) := by decide +kernel
theorem dX2_copyTo_62 : decode cX2_copyTo 62 = .ok (.aload_n 0, 1) := by decide +kernel
theorem dX2_copyTo_63 : decode cX2_copyTo 63 = .ok (.getfield 19, 3) := by decide +kernel
theorem dX2_copyTo_66 : decode cX2_copyTo 66 = .ok (.arraylength, 1) := by decide +kernel
theorem dX2_copyTo_67 : decode cX2_copyTo 67 = .ok (.if_icmp .ge 51, 3) := by decide +kernel
theorem dX2_copyTo_70 : decode cX2_copyTo 70 = .ok (.iload_n 2, 1) := by decide +kernel
theorem dX2_copyTo_71 : decode cX2_copyTo 71 = .ok (.aload_n 1, 1) := by decide +kernel
theorem dX2_copyTo_72 : decode cX2_copyTo 72 = .ok (.getfield 19, 3) := by decide +kernel
theorem dX2_copyTo_75 : decode cX2_copyTo 75 = .ok (.arraylength, 1) := by decide +kernel
theorem dX2_copyTo_76 : decode cX2_copyTo 76 = .ok (.if_icmp .ge 42, 3) := by decide +kernel
theorem dX2_copyTo_79 : decode cX2_copyTo 79 = .ok (.aload_n 0, 1) := by decide +kernel
theorem dX2_copyTo_80 : decode cX2_copyTo 80 = .ok (.getfield 19, 3) := by decide +kernel
theorem dX2_copyTo_83 : decode cX2_copyTo 83 = .ok (.iload_n 2, 1) := by decide +kernel
theorem dX2_copyTo_84 : decode cX2_copyTo 84 = .ok (.aaload, 1) := by decide +kernel
theorem dX2_copyTo_85 : decode cX2_copyTo 85 = .ok (.ifnull 27, 3) := by decide +kernel
theorem dX2_copyTo_88 : decode cX2_copyTo 88 = .ok (.aload_n 1, 1) := by decide +kernel
theorem dX2_copyTo_89 : decode cX2_copyTo 89 = .ok (.getfield 19, 3) := by decide +kernel
theorem dX2_copyTo_92 : decode cX2_copyTo 92 = .ok (.iload_n 2, 1) := by decide +kernel
theorem dX2_copyTo_93 : decode cX2_copyTo 93 = .ok (.aaload, 1) := by decide +kernel
theorem dX2_copyTo_94 : decode cX2_copyTo 94 = .ok (.ifnull 18, 3) := by decide +kernel
theorem dX2_copyTo_97 : decode cX2_copyTo 97 = .ok (.aload_n 0, 1) := by decide +kernel
theorem dX2_copyTo_98 : decode cX2_copyTo 98 = .ok (.getfield 19, 3) := by decide +kernel
theorem dX2_copyTo_101 : decode cX2_copyTo 101 = .ok (.iload_n 2, 1) := by decide +kernel
theorem dX2_copyTo_102 : decode cX2_copyTo 102 = .ok (.aaload, 1) := by decide +kernel
theorem dX2_copyTo_103 : decode cX2_copyTo 103 = .ok (.aload_n 1, 1) := by decide +kernel
theorem dX2_copyTo_104 : decode cX2_copyTo 104 = .ok (.getfield 19, 3) := by decide +kernel
theorem dX2_copyTo_107 : decode cX2_copyTo 107 = .ok (.iload_n 2, 1) := by decide +kernel
theorem dX2_copyTo_108 : decode cX2_copyTo 108 = .ok (.aaload, 1) := by decide +kernel
theorem dX2_copyTo_109 : decode cX2_copyTo 109 = .ok (.invokevirtual 160, 3) := by decide +kernel
theorem dX2_copyTo_112 : decode cX2_copyTo 112 = .ok (.iinc 2 1, 3) := by decide +kernel
theorem dX2_copyTo_115 : decode cX2_copyTo 115 = .ok (.goto (-54), 3) := by decide +kernel
theorem dX2_copyTo_118 : decode cX2_copyTo 118 = .ok (.iconst 0, 1) := by decide +kernel
theorem dX2_copyTo_119 : decode cX2_copyTo 119 = .ok (.istore_n 2, 1) := by decide +kernel
theorem dX2_copyTo_120 : decode cX2_copyTo 120 = .ok (.iload_n 2, 1) := by decide +kernel
theorem dX2_copyTo_121 : decode cX2_copyTo 121 = .ok (.aload_n 0, 1) := by decide +kernel
theorem dX2_copyTo_122 : decode cX2_copyTo 122 = .ok (.getfield 25, 3) := by decide +kernel
theorem dX2_copyTo_125 : decode cX2_copyTo 125 = .ok (.arraylength, 1) := by decide +kernel
theorem dX2_copyTo_126 : decode cX2_copyTo 126 = .ok (.if_icmp .ge 51, 3) := by decide +kernel
theorem dX2_copyTo_129 : decode cX2_copyTo 129 = .ok (.iload_n 2, 1) := by decide +kernel
theorem dX2_copyTo_130 : decode cX2_copyTo 130 = .ok (.aload_n 1, 1) := by decide +kernel
theorem dX2_copyTo_131 : decode cX2_copyTo 131 = .ok (.getfield 25, 3) := by decide +kernel
theorem dX2_copyTo_134 : decode cX2_copyTo 134 = .ok (.arraylength, 1) := by decide +kernel
theorem dX2_copyTo_135 : decode cX2_copyTo 135 = .ok (.if_icmp .ge 42, 3) := by decide +kernel
theorem dX2_copyTo_138 : decode cX2_copyTo 138 = .ok (.aload_n 0, 1) := by decide +kernel
theorem dX2_copyTo_139 : decode cX2_copyTo 139 = .ok (.getfield 25, 3) := by decide +kernel
theorem dX2_copyTo_142 : decode cX2_copyTo 142 = .ok (.iload_n 2, 1) := by decide +kernel
theorem dX2_copyTo_143 : decode cX2_copyTo 143 = .ok (.aaload, 1) := by decide +kernel
theorem dX2_copyTo_144 : decode cX2_copyTo 144 = .ok (.ifnull 27, 3) := by decide +kernel
theorem dX2_copyTo_147 : decode cX2_copyTo 147 = .ok (.aload_n 1, 1) := by decide +kernel
theorem dX2_copyTo_148 : decode cX2_copyTo 148 = .ok (.getfield 25, 3) := by decide +kernel
theorem dX2_copyTo_151 : decode cX2_copyTo 151 = .ok (.iload_n 2, 1) := by decide +kernel
theorem dX2_copyTo_152 : decode cX2_copyTo 152 = .ok (.aaload, 1) := by decide +kernel
theorem dX2_copyTo_153 : decode cX2_copyTo 153 = .ok (.ifnull 18, 3) := by decide +kernel
theorem dX2_copyTo_156 : decode cX2_copyTo 156 = .ok (.aload_n 0, 1) := by decide +kernel
theorem dX2_copyTo_157 : decode cX2_copyTo 157 = .ok (.getfield 25, 3) := by decide +kernel
theorem dX2_copyTo_160 : decode cX2_copyTo 160 = .ok (.iload_n 2, 1) := by decide +kernel
theorem dX2_copyTo_161 : decode cX2_copyTo 161 = .ok (.aaload, 1) := by decide +kernel
theorem dX2_copyTo_162 : decode cX2_copyTo 162 = .ok (.aload_n 1, 1) := by decide +kernel
theorem dX2_copyTo_163 : decode cX2_copyTo 163 = .ok (.getfield 25, 3) := by decide +kernel
theorem dX2_copyTo_166 : decode cX2_copyTo 166 = .ok (.iload_n 2, 1) := by decide +kernel
theorem dX2_copyTo_167 : decode cX2_copyTo 167 = .ok (.aaload, 1) := by decide +kernel
theorem dX2_copyTo_168 : decode cX2_copyTo 168 = .ok (.invokevirtual 163, 3) := by decide +kernel
theorem dX2_copyTo_171 : decode cX2_copyTo 171 = .ok (.iinc 2 1, 3) := by decide +kernel
theorem dX2_copyTo_174 : decode cX2_copyTo 174 = .ok (.goto (-54), 3) := by decide +kernel
theorem dX2_copyTo_177 : decode cX2_copyTo 177 = .ok (.aload_n 1, 1) := by decide +kernel
theorem dX2_copyTo_178 : decode cX2_copyTo 178 = .ok (.aload_n 0, 1) := by decide +kernel
theorem dX2_copyTo_179 : decode cX2_copyTo 179 = .ok (.getfield 32, 3) := by decide +kernel
theorem dX2_copyTo_182 : decode cX2_copyTo 182 = .ok (.putfield 32, 3) := by decide +kernel
theorem dX2_copyTo_185 : decode cX2_copyTo 185 = .ok (.aload_n 1, 1) := by decide +kernel
theorem dX2_copyTo_186 : decode cX2_copyTo 186 = .ok (.aload_n 0, 1) := by decide +kernel
theorem dX2_copyTo_187 : decode cX2_copyTo 187 = .ok (.getfield 36, 3) := by decide +kernel
theorem dX2_copyTo_190 : decode cX2_copyTo 190 = .ok (.putfield 36, 3) := by decide +kernel
theorem dX2_copyTo_193 : decode cX2_copyTo 193 = .ok (.aload_n 1, 1) := by decide +kernel
theorem dX2_copyTo_194 : decode cX2_copyTo 194 = .ok (.aload_n 0, 1) := by decide +kernel
theorem dX2_copyTo_195 : decode cX2_copyTo 195 = .ok (.getfield 39, 3) := by decide +kernel
theorem dX2_copyTo_198 : decode cX2_copyTo 198 = .ok (.putfield 39, 3) := by decide +kernel
theorem dX2_copyTo_201 : decode cX2_copyTo 201 = .ok (.aload_n 1, 1) := by decide +kernel
theorem dX2_copyTo_202 : decode cX2_copyTo 202 = .ok (.aload_n 0, 1) := by decide +kernel
theorem dX2_copyTo_203 : decode cX2_copyTo 203 = .ok (.getfield 42, 3) := by decide +kernel
theorem dX2_copyTo_206 : decode cX2_copyTo 206 = .ok (.putfield 42, 3) := by decide +kernel
theorem dX2_copyTo_209 : decode cX2_copyTo 209 = .ok (.aload_n 1, 1) := by decide +kernel
theorem dX2_copyTo_210 : decode cX2_copyTo 210 = .ok (.aload_n 0, 1) := by decide +kernel
theorem dX2_copyTo_211 : decode cX2_copyTo 211 = .ok (.getfield 45, 3) := by decide +kernel
theorem dX2_copyTo_214 : decode cX2_copyTo 214 = .ok (.putfield 45, 3) := by decide +kernel
theorem dX2_copyTo_217 : decode cX2_copyTo 217 = .ok (.aload_n 1, 1) := by decide +kernel
theorem dX2_copyTo_218 : decode cX2_copyTo 218 = .ok (.aload_n 0, 1) := by decide +kernel
theorem dX2_copyTo_219 : decode cX2_copyTo 219 = .ok (.getfield 49, 3) := by decide +kernel
theorem dX2_copyTo_222 : decode cX2_copyTo 222 = .ok (.putfield 49, 3) := by decide +kernel
theorem dX2_copyTo_225 : decode cX2_copyTo 225 = .ok (.return_, 1) := by decide +kernel
theorem dX3_init_0 : decode cX3_init 0 = .ok (.aload_n 0, 1) := by decide +kernel
theorem dX3_init_1 : decode cX3_init 1 = .ok (.invokespecial 3, 3) := by decide +kernel
theorem dX3_init_4 : decode cX3_init 4 = .ok (.aload_n 0, 1) := by decide +kernel
theorem dX3_init_5 : decode cX3_init 5 = .ok (.iconst 5, 1) := by decide +kernel
theorem dX3_init_6 : decode cX3_init 6 = .ok (.anewarray 9, 3) := by decide +kernel
theorem dX3_init_9 : decode cX3_init 9 = .ok (.putfield 11, 3) := by decide +kernel
theorem dX3_init_12 : decode cX3_init 12 = .ok (.iconst 0, 1) := by decide +kernel
theorem dX3_init_13 : decode cX3_init 13 = .ok (.istore_n 1, 1) := by decide +kernel
theorem dX3_init_14 : decode cX3_init 14 = .ok (.iload_n 1, 1) := by decide +kernel
theorem dX3_init_15 : decode cX3_init 15 = .ok (.aload_n 0, 1) := by decide +kernel
theorem dX3_init_16 : decode cX3_init 16 = .ok (.getfield 11, 3) := by decide +kernel
theorem dX3_init_19 : decode cX3_init 19 = .ok (.arraylength, 1) := by decide +kernel
theorem dX3_init_20 : decode cX3_init 20 = .ok (.if_icmp .ge 22, 3) := by decide +kernel
theorem dX3_init_23 : decode cX3_init 23 = .ok (.aload_n 0, 1) := by decide +kernel
theorem dX3_init_24 : decode cX3_init 24 = .ok (.getfield 11, 3) := by decide +kernel
theorem dX3_init_27 : decode cX3_init 27 = .ok (.iload_n 1, 1) := by decide +kernel
theorem dX3_init_28 : decode cX3_init 28 = .ok (.new 9, 3) := by decide +kernel
theorem dX3_init_31 : decode cX3_init 31 = .ok (.dup, 1) := by decide +kernel
theorem dX3_init_32 : decode cX3_init 32 = .ok (.invokespecial 17, 3) := by decide +kernel
theorem dX3_init_35 : decode cX3_init 35 = .ok (.aastore, 1) := by decide +kernel
theorem dX3_init_36 : decode cX3_init 36 = .ok (.iinc 1 1, 3) := by decide +kernel
theorem dX3_init_39 : decode cX3_init 39 = .ok (.goto (-25), 3) := by decide +kernel
theorem dX3_init_42 : decode cX3_init 42 = .ok (.aload_n 0, 1) := by decide +kernel
theorem dX3_init_43 : decode cX3_init 43 = .ok (.iconst 0, 1) := by decide +kernel
theorem dX3_init_44 : decode cX3_init 44 = .ok (.putfield 18, 3) := by decide +kernel
theorem dX3_init_47 : decode cX3_init 47 = .ok (.aload_n 0, 1) := by decide +kernel
theorem dX3_init_48 : decode cX3_init 48 = .ok (.iconst 0, 1) := by decide +kernel
theorem dX3_init_49 : decode cX3_init 49 = .ok (.putfield 22, 3) := by decide +kernel
theorem dX3_init_52 : decode cX3_init 52 = .ok (.return_, 1) := by decide +kernel
theorem dX3_stateAt_0 : decode cX3_stateAt 0 = .ok (.aload_n 0, 1) := by decide +kernel
theorem dX3_stateAt_1 : decode cX3_stateAt 1 = .ok (.getfield 18, 3) := by decide +kernel
theorem dX3_stateAt_4 : decode cX3_stateAt 4 = .ok (.iload_n 1, 1) := by decide +kernel
theorem dX3_stateAt_5 : decode cX3_stateAt 5 = .ok (.iadd, 1) := by decide +kernel
theorem dX3_stateAt_6 : decode cX3_stateAt 6 = .ok (.iconst 5, 1) := by decide +kernel
theorem dX3_stateAt_7 : decode cX3_stateAt 7 = .ok (.irem, 1) := by decide +kernel
theorem dX3_stateAt_8 : decode cX3_stateAt 8 = .ok (.istore_n 2, 1) := by decide +kernel
theorem dX3_stateAt_9 : decode cX3_stateAt 9 = .ok (.iload_n 2, 1) := by decide +kernel
theorem dX3_stateAt_10 : decode cX3_stateAt 10 = .ok (.ifCond .lt 21, 3) := by decide +kernel
theorem dX3_stateAt_13 : decode cX3_stateAt 13 = .ok (.iload_n 2, 1) := by decide +kernel
theorem dX3_stateAt_14 : decode cX3_stateAt 14 = .ok (.aload_n 0, 1) := by decide +kernel
theorem dX3_stateAt_15 : decode cX3_stateAt 15 = .ok (.getfield 11, 3) := by decide +kernel
theorem dX3_stateAt_18 : decode cX3_stateAt 18 = .ok (.arraylength, 1) := by decide +kernel
theorem dX3_stateAt_19 : decode cX3_stateAt 19 = .ok (.if_icmp .ge 12, 3) := by decide +kernel
theorem dX3_stateAt_22 : decode cX3_stateAt 22 = .ok (.aload_n 0, 1) := by decide +kernel
theorem dX3_stateAt_23 : decode cX3_stateAt 23 = .ok (.getfield 11, 3) := by decide +kernel
theorem dX3_stateAt_26 : decode cX3_stateAt 26 = .ok (.iload_n 2, 1) := by decide +kernel
theorem dX3_stateAt_27 : decode cX3_stateAt 27 = .ok (.aaload, 1) := by decide +kernel
theorem dX3_stateAt_28 : decode cX3_stateAt 28 = .ok (.goto 4, 3) := by decide +kernel
theorem dX3_stateAt_31 : decode cX3_stateAt 31 = .ok (.aconst_null, 1) := by decide +kernel
theorem dX3_stateAt_32 : decode cX3_stateAt 32 = .ok (.areturn, 1) := by decide +kernel
theorem dX3_add_0 : decode cX3_add 0 = .ok (.aload_n 0, 1) := by decide +kernel
theorem dX3_add_1 : decode cX3_add 1 = .ok (.getfield 22, 3) := by decide +kernel
theorem dX3_add_4 : decode cX3_add 4 = .ok (.iconst 5, 1) := by decide +kernel
theorem dX3_add_5 : decode cX3_add 5 = .ok (.if_icmp .ne 25, 3) := by decide +kernel
theorem dX3_add_8 : decode cX3_add 8 = .ok (.aload_n 0, 1) := by decide +kernel
theorem dX3_add_9 : decode cX3_add 9 = .ok (.aload_n 0, 1) := by decide +kernel
theorem dX3_add_10 : decode cX3_add 10 = .ok (.getfield 18, 3) := by decide +kernel
theorem dX3_add_13 : decode cX3_add 13 = .ok (.iconst 1, 1) := by decide +kernel
theorem dX3_add_14 : decode cX3_add 14 = .ok (.iadd, 1) := by decide +kernel
theorem dX3_add_15 : decode cX3_add 15 = .ok (.iconst 5, 1) := by decide +kernel
theorem dX3_add_16 : decode cX3_add 16 = .ok (.irem, 1) := by decide +kernel
theorem dX3_add_17 : decode cX3_add 17 = .ok (.putfield 18, 3) := by decide +kernel
theorem dX3_add_20 : decode cX3_add 20 = .ok (.aload_n 0, 1) := by decide +kernel
theorem dX3_add_21 : decode cX3_add 21 = .ok (.dup, 1) := by decide +kernel
theorem dX3_add_22 : decode cX3_add 22 = .ok (.getfield 22, 3) := by decide +kernel
theorem dX3_add_25 : decode cX3_add 25 = .ok (.iconst 1, 1) := by decide +kernel
theorem dX3_add_26 : decode cX3_add 26 = .ok (.isub, 1) := by decide +kernel
theorem dX3_add_27 : decode cX3_add 27 = .ok (.putfield 22, 3) := by decide +kernel
theorem dX3_add_30 : decode cX3_add 30 = .ok (.aload_n 0, 1) := by decide +kernel
theorem dX3_add_31 : decode cX3_add 31 = .ok (.aload_n 0, 1) := by decide +kernel
theorem dX3_add_32 : decode cX3_add 32 = .ok (.getfield 22, 3) := by decide +kernel
theorem dX3_add_35 : decode cX3_add 35 = .ok (.invokevirtual 25, 3) := by decide +kernel
theorem dX3_add_38 : decode cX3_add 38 = .ok (.astore_n 2, 1) := by decide +kernel
theorem dX3_add_39 : decode cX3_add 39 = .ok (.aload_n 2, 1) := by decide +kernel
theorem dX3_add_40 : decode cX3_add 40 = .ok (.ifnull 18, 3) := by decide +kernel
theorem dX3_add_43 : decode cX3_add 43 = .ok (.aload_n 1, 1) := by decide +kernel
theorem dX3_add_44 : decode cX3_add 44 = .ok (.aload_n 2, 1) := by decide +kernel
theorem dX3_add_45 : decode cX3_add 45 = .ok (.invokevirtual 29, 3) := by decide +kernel
theorem dX3_add_48 : decode cX3_add 48 = .ok (.aload_n 0, 1) := by decide +kernel
theorem dX3_add_49 : decode cX3_add 49 = .ok (.dup, 1) := by decide +kernel
theorem dX3_add_50 : decode cX3_add 50 = .ok (.getfield 22, 3) := by decide +kernel
theorem dX3_add_53 : decode cX3_add 53 = .ok (.iconst 1, 1) := by decide +kernel
theorem dX3_add_54 : decode cX3_add 54 = .ok (.iadd, 1) := by decide +kernel
theorem dX3_add_55 : decode cX3_add 55 = .ok (.putfield 22, 3) := by decide +kernel
theorem dX3_add_58 : decode cX3_add 58 = .ok (.return_, 1) := by decide +kernel
theorem dX3_takeLatest_0 : decode cX3_takeLatest 0 = .ok (.aload_n 0, 1) := by decide +kernel
theorem dX3_takeLatest_1 : decode cX3_takeLatest 1 = .ok (.getfield 22, 3) := by decide +kernel
theorem dX3_takeLatest_4 : decode cX3_takeLatest 4 = .ok (.ifCond .ne 4, 3) := by decide +kernel
theorem dX3_takeLatest_7 : decode cX3_takeLatest 7 = .ok (.return_, 1) := by decide +kernel
theorem dX3_takeLatest_8 : decode cX3_takeLatest 8 = .ok (.aload_n 0, 1) := by decide +kernel
theorem dX3_takeLatest_9 : decode cX3_takeLatest 9 = .ok (.dup, 1) := by decide +kernel
theorem dX3_takeLatest_10 : decode cX3_takeLatest 10 = .ok (.getfield 22, 3) := by decide +kernel
theorem dX3_takeLatest_13 : decode cX3_takeLatest 13 = .ok (.iconst 1, 1) := by decide +kernel
theorem dX3_takeLatest_14 : decode cX3_takeLatest 14 = .ok (.isub, 1) := by decide +kernel
theorem dX3_takeLatest_15 : decode cX3_takeLatest 15 = .ok (.putfield 22, 3) := by decide +kernel
theorem dX3_takeLatest_18 : decode cX3_takeLatest 18 = .ok (.aload_n 0, 1) := by decide +kernel
theorem dX3_takeLatest_19 : decode cX3_takeLatest 19 = .ok (.aload_n 0, 1) := by decide +kernel
theorem dX3_takeLatest_20 : decode cX3_takeLatest 20 = .ok (.getfield 22, 3) := by decide +kernel
theorem dX3_takeLatest_23 : decode cX3_takeLatest 23 = .ok (.invokevirtual 25, 3) := by decide +kernel
theorem dX3_takeLatest_26 : decode cX3_takeLatest 26 = .ok (.astore_n 2, 1) := by decide +kernel
theorem dX3_takeLatest_27 : decode cX3_takeLatest 27 = .ok (.aload_n 2, 1) := by decide +kernel
theorem dX3_takeLatest_28 : decode cX3_takeLatest 28 = .ok (.ifnull 8, 3) := by decide +kernel
theorem dX3_takeLatest_31 : decode cX3_takeLatest 31 = .ok (.aload_n 2, 1) := by decide +kernel
theorem dX3_takeLatest_32 : decode cX3_takeLatest 32 = .ok (.aload_n 1, 1) := by decide +kernel
theorem dX3_takeLatest_33 : decode cX3_takeLatest 33 = .ok (.invokevirtual 29, 3) := by decide +kernel
theorem dX3_takeLatest_36 : decode cX3_takeLatest 36 = .ok (.return_, 1) := by decide +kernel
theorem dX4_init_0 : decode cX4_init 0 = .ok (.aload_n 0, 1) := by decide +kernel
theorem dX4_init_1 : decode cX4_init 1 = .ok (.invokespecial 3, 3) := by decide +kernel
theorem dX4_init_4 : decode cX4_init 4 = .ok (.aload_n 0, 1) := by decide +kernel
theorem dX4_init_5 : decode cX4_init 5 = .ok (.bipush 60, 2) := by decide +kernel
theorem dX4_init_7 : decode cX4_init 7 = .ok (.newarray .char, 2) := by decide +kernel
theorem dX4_init_9 : decode cX4_init 9 = .ok (.putfield 9, 3) := by decide +kernel
theorem dX4_init_12 : decode cX4_init 12 = .ok (.aload_n 0, 1) := by decide +kernel
theorem dX4_init_13 : decode cX4_init 13 = .ok (.iconst 0, 1) := by decide +kernel
theorem dX4_init_14 : decode cX4_init 14 = .ok (.putfield 15, 3) := by decide +kernel
theorem dX4_init_17 : decode cX4_init 17 = .ok (.aload_n 0, 1) := by decide +kernel
theorem dX4_init_18 : decode cX4_init 18 = .ok (.iconst 0, 1) := by decide +kernel
theorem dX4_init_19 : decode cX4_init 19 = .ok (.putfield 19, 3) := by decide +kernel
theorem dX4_init_22 : decode cX4_init 22 = .ok (.aload_n 0, 1) := by decide +kernel
theorem dX4_init_23 : decode cX4_init 23 = .ok (.iconst (-1), 1) := by decide +kernel
theorem dX4_init_24 : decode cX4_init 24 = .ok (.putfield 22, 3) := by decide +kernel
theorem dX4_init_27 : decode cX4_init 27 = .ok (.aload_n 0, 1) := by decide +kernel
theorem dX4_init_28 : decode cX4_init 28 = .ok (.iconst (-1), 1) := by decide +kernel
theorem dX4_init_29 : decode cX4_init 29 = .ok (.putfield 25, 3) := by decide +kernel
theorem dX4_init_32 : decode cX4_init 32 = .ok (.aload_n 0, 1) := by decide +kernel
theorem dX4_init_33 : decode cX4_init 33 = .ok (.iconst (-1), 1) := by decide +kernel
theorem dX4_init_34 : decode cX4_init 34 = .ok (.putfield 28, 3) := by decide +kernel
theorem dX4_init_37 : decode cX4_init 37 = .ok (.return_, 1) := by decide +kernel
theorem dX4_append_0 : decode cX4_append 0 = .ok (.aload_n 0, 1) := by decide +kernel
theorem dX4_append_1 : decode cX4_append 1 = .ok (.getfield 15, 3) := by decide +kernel
theorem dX4_append_4 : decode cX4_append 4 = .ok (.ifCond .lt 15, 3) := by decide +kernel
theorem dX4_append_7 : decode cX4_append 7 = .ok (.aload_n 0, 1) := by decide +kernel
theorem dX4_append_8 : decode cX4_append 8 = .ok (.getfield 15, 3) := by decide +kernel
theorem dX4_append_11 : decode cX4_append 11 = .ok (.aload_n 0, 1) := by decide +kernel
theorem dX4_append_12 : decode cX4_append 12 = .ok (.getfield 9, 3) := by decide +kernel
theorem dX4_append_15 : decode cX4_append 15 = .ok (.arraylength, 1) := by decide +kernel
theorem dX4_append_16 : decode cX4_append 16 = .ok (.if_icmp .lt 6, 3) := by decide +kernel
theorem dX4_append_19 : decode cX4_append 19 = .ok (.ldc 31, 2) := by decide +kernel
theorem dX4_append_21 : decode cX4_append 21 = .ok (.ireturn, 1) := by decide +kernel
theorem dX4_append_22 : decode cX4_append 22 = .ok (.aload_n 0, 1) := by decide +kernel
theorem dX4_append_23 : decode cX4_append 23 = .ok (.getfield 9, 3) := by decide +kernel
theorem dX4_append_26 : decode cX4_append 26 = .ok (.aload_n 0, 1) := by decide +kernel
theorem dX4_append_27 : decode cX4_append 27 = .ok (.getfield 15, 3) := by decide +kernel
theorem dX4_append_30 : decode cX4_append 30 = .ok (.iload_n 1, 1) := by decide +kernel
theorem dX4_append_31 : decode cX4_append 31 = .ok (.castore, 1) := by decide +kernel
theorem dX4_append_32 : decode cX4_append 32 = .ok (.aload_n 0, 1) := by decide +kernel
theorem dX4_append_33 : decode cX4_append 33 = .ok (.dup, 1) := by decide +kernel
theorem dX4_append_34 : decode cX4_append 34 = .ok (.getfield 15, 3) := by decide +kernel
theorem dX4_append_37 : decode cX4_append 37 = .ok (.iconst 1, 1) := by decide +kernel
theorem dX4_append_38 : decode cX4_append 38 = .ok (.iadd, 1) := by decide +kernel
theorem dX4_append_39 : decode cX4_append 39 = .ok (.putfield 15, 3) := by decide +kernel
theorem dX4_append_42 : decode cX4_append 42 = .ok (.aload_n 0, 1) := by decide +kernel
theorem dX4_append_43 : decode cX4_append 43 = .ok (.getfield 15, 3) := by decide +kernel
theorem dX4_append_46 : decode cX4_append 46 = .ok (.ireturn, 1) := by decide +kernel
theorem dX4_removeAll_0 : decode cX4_removeAll 0 = .ok (.aload_n 0, 1) := by decide +kernel
theorem dX4_removeAll_1 : decode cX4_removeAll 1 = .ok (.getfield 15, 3) := by decide +kernel
theorem dX4_removeAll_4 : decode cX4_removeAll 4 = .ok (.istore_n 1, 1) := by decide +kernel
theorem dX4_removeAll_5 : decode cX4_removeAll 5 = .ok (.aload_n 0, 1) := by decide +kernel
theorem dX4_removeAll_6 : decode cX4_removeAll 6 = .ok (.iconst 0, 1) := by decide +kernel
theorem dX4_removeAll_7 : decode cX4_removeAll 7 = .ok (.putfield 15, 3) := by decide +kernel
theorem dX4_removeAll_10 : decode cX4_removeAll 10 = .ok (.iload_n 1, 1) := by decide +kernel
theorem dX4_removeAll_11 : decode cX4_removeAll 11 = .ok (.ireturn, 1) := by decide +kernel
theorem dX4_rewind_0 : decode cX4_rewind 0 = .ok (.aload_n 0, 1) := by decide +kernel
theorem dX4_rewind_1 : decode cX4_rewind 1 = .ok (.iconst 0, 1) := by decide +kernel
theorem dX4_rewind_2 : decode cX4_rewind 2 = .ok (.putfield 19, 3) := by decide +kernel
theorem dX4_rewind_5 : decode cX4_rewind 5 = .ok (.return_, 1) := by decide +kernel
theorem dX4_hasMore_0 : decode cX4_hasMore 0 = .ok (.aload_n 0, 1) := by decide +kernel
theorem dX4_hasMore_1 : decode cX4_hasMore 1 = .ok (.getfield 19, 3) := by decide +kernel
theorem dX4_hasMore_4 : decode cX4_hasMore 4 = .ok (.aload_n 0, 1) := by decide +kernel
theorem dX4_hasMore_5 : decode cX4_hasMore 5 = .ok (.getfield 15, 3) := by decide +kernel
theorem dX4_hasMore_8 : decode cX4_hasMore 8 = .ok (.if_icmp .ge 7, 3) := by decide +kernel
theorem dX4_hasMore_11 : decode cX4_hasMore 11 = .ok (.iconst 1, 1) := by decide +kernel
theorem dX4_hasMore_12 : decode cX4_hasMore 12 = .ok (.goto 4, 3) := by decide +kernel
theorem dX4_hasMore_15 : decode cX4_hasMore 15 = .ok (.iconst 0, 1) := by decide +kernel
theorem dX4_hasMore_16 : decode cX4_hasMore 16 = .ok (.ireturn, 1) := by decide +kernel
theorem dX4_findFault_0 : decode cX4_findFault 0 = .ok (.aload_n 0, 1) := by decide +kernel
theorem dX4_findFault_1 : decode cX4_findFault 1 = .ok (.invokevirtual 32, 3) := by decide +kernel
theorem dX4_findFault_4 : decode cX4_findFault 4 = .ok (.aload_n 0, 1) := by decide +kernel
theorem dX4_findFault_5 : decode cX4_findFault 5 = .ok (.invokevirtual 35, 3) := by decide +kernel
theorem dX4_findFault_8 : decode cX4_findFault 8 = .ok (.istore_n 1, 1) := by decide +kernel
theorem dX4_findFault_9 : decode cX4_findFault 9 = .ok (.iconst 0, 1) := by decide +kernel
theorem dX4_findFault_10 : decode cX4_findFault 10 = .ok (.istore_n 2, 1) := by decide +kernel
theorem dX4_findFault_11 : decode cX4_findFault 11 = .ok (.iload_n 2, 1) := by decide +kernel
theorem dX4_findFault_12 : decode cX4_findFault 12 = .ok (.bipush 60, 2) := by decide +kernel
theorem dX4_findFault_14 : decode cX4_findFault 14 = .ok (.if_icmp .ge 25, 3) := by decide +kernel
theorem dX4_findFault_17 : decode cX4_findFault 17 = .ok (.iload_n 1, 1) := by decide +kernel
theorem dX4_findFault_18 : decode cX4_findFault 18 = .ok (.ifCond .eq 21, 3) := by decide +kernel
theorem dX4_findFault_21 : decode cX4_findFault 21 = .ok (.aload_n 0, 1) := by decide +kernel
theorem dX4_findFault_22 : decode cX4_findFault 22 = .ok (.invokevirtual 39, 3) := by decide +kernel
theorem dX4_findFault_25 : decode cX4_findFault 25 = .ok (.ifCond .eq 14, 3) := by decide +kernel
theorem dX4_findFault_28 : decode cX4_findFault 28 = .ok (.aload_n 0, 1) := by decide +kernel
theorem dX4_findFault_29 : decode cX4_findFault 29 = .ok (.invokevirtual 35, 3) := by decide +kernel
theorem dX4_findFault_32 : decode cX4_findFault 32 = .ok (.istore_n 1, 1) := by decide +kernel
theorem dX4_findFault_33 : decode cX4_findFault 33 = .ok (.iinc 2 1, 3) := by decide +kernel
theorem dX4_findFault_36 : decode cX4_findFault 36 = .ok (.goto (-25), 3) := by decide +kernel
theorem dX4_findFault_39 : decode cX4_findFault 39 = .ok (.iload_n 1, 1) := by decide +kernel
theorem dX4_findFault_40 : decode cX4_findFault 40 = .ok (.ifCond .eq 7, 3) := by decide +kernel
theorem dX4_findFault_43 : decode cX4_findFault 43 = .ok (.iconst (-1), 1) := by decide +kernel
theorem dX4_findFault_44 : decode cX4_findFault 44 = .ok (.goto 7, 3) := by decide +kernel
theorem dX4_findFault_47 : decode cX4_findFault 47 = .ok (.aload_n 0, 1) := by decide +kernel
theorem dX4_findFault_48 : decode cX4_findFault 48 = .ok (.getfield 19, 3) := by decide +kernel
theorem dX4_findFault_51 : decode cX4_findFault 51 = .ok (.ireturn, 1) := by decide +kernel
theorem dX4_readOrder_0 : decode cX4_readOrder 0 = .ok (.aload_n 0, 1) := by decide +kernel
theorem dX4_readOrder_1 : decode cX4_readOrder 1 = .ok (.getfield 19, 3) := by decide +kernel
theorem dX4_readOrder_4 : decode cX4_readOrder 4 = .ok (.ifCond .le 14, 3) := by decide +kernel
theorem dX4_readOrder_7 : decode cX4_readOrder 7 = .ok (.aload_n 0, 1) := by decide +kernel
theorem dX4_readOrder_8 : decode cX4_readOrder 8 = .ok (.bipush 59, 2) := by decide +kernel
theorem dX4_readOrder_10 : decode cX4_readOrder 10 = .ok (.invokevirtual 42, 3) := by decide +kernel
theorem dX4_readOrder_13 : decode cX4_readOrder 13 = .ok (.ifCond .ne 5, 3) := by decide +kernel
theorem dX4_readOrder_16 : decode cX4_readOrder 16 = .ok (.iconst 0, 1) := by decide +kernel
theorem dX4_readOrder_17 : decode cX4_readOrder 17 = .ok (.ireturn, 1) := by decide +kernel
theorem dX4_readOrder_18 : decode cX4_readOrder 18 = .ok (.aload_n 0, 1) := by decide +kernel
theorem dX4_readOrder_19 : decode cX4_readOrder 19 = .ok (.invokevirtual 46, 3) := by decide +kernel
theorem dX4_readOrder_22 : decode cX4_readOrder 22 = .ok (.aload_n 0, 1) := by decide +kernel
theorem dX4_readOrder_23 : decode cX4_readOrder 23 = .ok (.getfield 22, 3) := by decide +kernel
theorem dX4_readOrder_26 : decode cX4_readOrder 26 = .ok (.tableswitch 121 0 6 #[42, 42, 65, 71, 42, 95, 95], 42) := by decide +kernel
theorem dX4_readOrder_68 : decode cX4_readOrder 68 = .ok (.aload_n 0, 1) := by decide +kernel
theorem dX4_readOrder_69 : decode cX4_readOrder 69 = .ok (.iconst 3, 1) := by decide +kernel
theorem dX4_readOrder_70 : decode cX4_readOrder 70 = .ok (.invokevirtual 49, 3) := by decide +kernel
theorem dX4_readOrder_73 : decode cX4_readOrder 73 = .ok (.ifCond .eq 16, 3) := by decide +kernel
theorem dX4_readOrder_76 : decode cX4_readOrder 76 = .ok (.aload_n 0, 1) := by decide +kernel
theorem dX4_readOrder_77 : decode cX4_readOrder 77 = .ok (.iconst 0, 1) := by decide +kernel
theorem dX4_readOrder_78 : decode cX4_readOrder 78 = .ok (.iconst 1, 1) := by decide +kernel
theorem dX4_readOrder_79 : decode cX4_readOrder 79 = .ok (.invokevirtual 53, 3) := by decide +kernel
theorem dX4_readOrder_82 : decode cX4_readOrder 82 = .ok (.ifCond .eq 7, 3) := by decide +kernel
theorem dX4_readOrder_85 : decode cX4_readOrder 85 = .ok (.iconst 1, 1) := by decide +kernel
theorem dX4_readOrder_86 : decode cX4_readOrder 86 = .ok (.goto 4, 3) := by decide +kernel
theorem dX4_readOrder_89 : decode cX4_readOrder 89 = .ok (.iconst 0, 1) := by decide +kernel
theorem dX4_readOrder_90 : decode cX4_readOrder 90 = .ok (.ireturn, 1) := by decide +kernel
theorem dX4_readOrder_91 : decode cX4_readOrder 91 = .ok (.aload_n 0, 1) := by decide +kernel
theorem dX4_readOrder_92 : decode cX4_readOrder 92 = .ok (.iconst 3, 1) := by decide +kernel
theorem dX4_readOrder_93 : decode cX4_readOrder 93 = .ok (.invokevirtual 49, 3) := by decide +kernel
theorem dX4_readOrder_96 : decode cX4_readOrder 96 = .ok (.ireturn, 1) := by decide +kernel
theorem dX4_readOrder_97 : decode cX4_readOrder 97 = .ok (.aload_n 0, 1) := by decide +kernel
theorem dX4_readOrder_98 : decode cX4_readOrder 98 = .ok (.bipush 11, 2) := by decide +kernel
theorem dX4_readOrder_100 : decode cX4_readOrder 100 = .ok (.invokevirtual 49, 3) := by decide +kernel
theorem dX4_readOrder_103 : decode cX4_readOrder 103 = .ok (.ifCond .eq 16, 3) := by decide +kernel
theorem dX4_readOrder_106 : decode cX4_readOrder 106 = .ok (.aload_n 0, 1) := by decide +kernel
theorem dX4_readOrder_107 : decode cX4_readOrder 107 = .ok (.iconst 0, 1) := by decide +kernel
theorem dX4_readOrder_108 : decode cX4_readOrder 108 = .ok (.iconst 3, 1) := by decide +kernel
theorem dX4_readOrder_109 : decode cX4_readOrder 109 = .ok (.invokevirtual 53, 3) := by decide +kernel
theorem dX4_readOrder_112 : decode cX4_readOrder 112 = .ok (.ifCond .eq 7, 3) := by decide +kernel
theorem dX4_readOrder_115 : decode cX4_readOrder 115 = .ok (.iconst 1, 1) := by decide +kernel
theorem dX4_readOrder_116 : decode cX4_readOrder 116 = .ok (.goto 4, 3) := by decide +kernel
theorem dX4_readOrder_119 : decode cX4_readOrder 119 = .ok (.iconst 0, 1) := by decide +kernel
theorem dX4_readOrder_120 : decode cX4_readOrder 120 = .ok (.ireturn, 1) := by decide +kernel
theorem dX4_readOrder_121 : decode cX4_readOrder 121 = .ok (.aload_n 0, 1) := by decide +kernel
theorem dX4_readOrder_122 : decode cX4_readOrder 122 = .ok (.bipush 11, 2) := by decide +kernel
theorem dX4_readOrder_124 : decode cX4_readOrder 124 = .ok (.invokevirtual 49, 3) := by decide +kernel
theorem dX4_readOrder_127 : decode cX4_readOrder 127 = .ok (.ifCond .eq 18, 3) := by decide +kernel
theorem dX4_readOrder_130 : decode cX4_readOrder 130 = .ok (.aload_n 0, 1) := by decide +kernel
theorem dX4_readOrder_131 : decode cX4_readOrder 131 = .ok (.iconst 1, 1) := by decide +kernel
theorem dX4_readOrder_132 : decode cX4_readOrder 132 = .ok (.sipush 999, 3) := by decide +kernel
theorem dX4_readOrder_135 : decode cX4_readOrder 135 = .ok (.invokevirtual 53, 3) := by decide +kernel
theorem dX4_readOrder_138 : decode cX4_readOrder 138 = .ok (.ifCond .eq 7, 3) := by decide +kernel
theorem dX4_readOrder_141 : decode cX4_readOrder 141 = .ok (.iconst 1, 1) := by decide +kernel
theorem dX4_readOrder_142 : decode cX4_readOrder 142 = .ok (.goto 4, 3) := by decide +kernel
theorem dX4_readOrder_145 : decode cX4_readOrder 145 = .ok (.iconst 0, 1) := by decide +kernel
theorem dX4_readOrder_146 : decode cX4_readOrder 146 = .ok (.ireturn, 1) := by decide +kernel
theorem dX4_readOrder_147 : decode cX4_readOrder 147 = .ok (.iconst 0, 1) := by decide +kernel
theorem dX4_readOrder_148 : decode cX4_readOrder 148 = .ok (.ireturn, 1) := by decide +kernel
theorem dX4_readVerb_0 : decode cX4_readVerb 0 = .ok (.aload_n 0, 1) := by decide +kernel
theorem dX4_readVerb_1 : decode cX4_readVerb 1 = .ok (.invokevirtual 57, 3) := by decide +kernel
theorem dX4_readVerb_4 : decode cX4_readVerb 4 = .ok (.istore_n 1, 1) := by decide +kernel
theorem dX4_readVerb_5 : decode cX4_readVerb 5 = .ok (.aload_n 0, 1) := by decide +kernel
theorem dX4_readVerb_6 : decode cX4_readVerb 6 = .ok (.iconst (-1), 1) := by decide +kernel
theorem dX4_readVerb_7 : decode cX4_readVerb 7 = .ok (.putfield 22, 3) := by decide +kernel
theorem dX4_readVerb_10 : decode cX4_readVerb 10 = .ok (.iconst 0, 1) := by decide +kernel
theorem dX4_readVerb_11 : decode cX4_readVerb 11 = .ok (.istore_n 2, 1) := by decide +kernel
theorem dX4_readVerb_12 : decode cX4_readVerb 12 = .ok (.iload_n 2, 1) := by decide +kernel
theorem dX4_readVerb_13 : decode cX4_readVerb 13 = .ok (.bipush 7, 2) := by decide +kernel
theorem dX4_readVerb_15 : decode cX4_readVerb 15 = .ok (.if_icmp .ge 26, 3) := by decide +kernel
theorem dX4_readVerb_18 : decode cX4_readVerb 18 = .ok (.aload_n 0, 1) := by decide +kernel
theorem dX4_readVerb_19 : decode cX4_readVerb 19 = .ok (.iload_n 2, 1) := by decide +kernel
theorem dX4_readVerb_20 : decode cX4_readVerb 20 = .ok (.invokestatic 61, 3) := by decide +kernel
theorem dX4_readVerb_23 : decode cX4_readVerb 23 = .ok (.iload_n 1, 1) := by decide +kernel
theorem dX4_readVerb_24 : decode cX4_readVerb 24 = .ok (.invokevirtual 65, 3) := by decide +kernel
theorem dX4_readVerb_27 : decode cX4_readVerb 27 = .ok (.ifCond .eq 8, 3) := by decide +kernel
theorem dX4_readVerb_30 : decode cX4_readVerb 30 = .ok (.aload_n 0, 1) := by decide +kernel
theorem dX4_readVerb_31 : decode cX4_readVerb 31 = .ok (.iload_n 2, 1) := by decide +kernel
theorem dX4_readVerb_32 : decode cX4_readVerb 32 = .ok (.putfield 22, 3) := by decide +kernel
theorem dX4_readVerb_35 : decode cX4_readVerb 35 = .ok (.iinc 2 1, 3) := by decide +kernel
theorem dX4_readVerb_38 : decode cX4_readVerb 38 = .ok (.goto (-26), 3) := by decide +kernel
theorem dX4_readVerb_41 : decode cX4_readVerb 41 = .ok (.aload_n 0, 1) := by decide +kernel
theorem dX4_readVerb_42 : decode cX4_readVerb 42 = .ok (.getfield 22, 3) := by decide +kernel
theorem dX4_readVerb_45 : decode cX4_readVerb 45 = .ok (.iconst (-1), 1) := by decide +kernel
theorem dX4_readVerb_46 : decode cX4_readVerb 46 = .ok (.if_icmp .eq 8, 3) := by decide +kernel
theorem dX4_readVerb_49 : decode cX4_readVerb 49 = .ok (.aload_n 0, 1) := by decide +kernel
theorem dX4_readVerb_50 : decode cX4_readVerb 50 = .ok (.iload_n 1, 1) := by decide +kernel
theorem dX4_readVerb_51 : decode cX4_readVerb 51 = .ok (.putfield 19, 3) := by decide +kernel
theorem dX4_readVerb_54 : decode cX4_readVerb 54 = .ok (.return_, 1) := by decide +kernel
theorem dX4_readFirst_0 : decode cX4_readFirst 0 = .ok (.aload_n 0, 1) := by decide +kernel
theorem dX4_readFirst_1 : decode cX4_readFirst 1 = .ok (.aload_n 0, 1) := by decide +kernel
theorem dX4_readFirst_2 : decode cX4_readFirst 2 = .ok (.iconst 0, 1) := by decide +kernel
theorem dX4_readFirst_3 : decode cX4_readFirst 3 = .ok (.iload_n 1, 1) := by decide +kernel
theorem dX4_readFirst_4 : decode cX4_readFirst 4 = .ok (.invokevirtual 69, 3) := by decide +kernel
theorem dX4_readFirst_7 : decode cX4_readFirst 7 = .ok (.putfield 25, 3) := by decide +kernel
theorem dX4_readFirst_10 : decode cX4_readFirst 10 = .ok (.aload_n 0, 1) := by decide +kernel
theorem dX4_readFirst_11 : decode cX4_readFirst 11 = .ok (.getfield 25, 3) := by decide +kernel
theorem dX4_readFirst_14 : decode cX4_readFirst 14 = .ok (.iconst (-1), 1) := by decide +kernel
theorem dX4_readFirst_15 : decode cX4_readFirst 15 = .ok (.if_icmp .eq 7, 3) := by decide +kernel
theorem dX4_readFirst_18 : decode cX4_readFirst 18 = .ok (.iconst 1, 1) := by decide +kernel
theorem dX4_readFirst_19 : decode cX4_readFirst 19 = .ok (.goto 4, 3) := by decide +kernel
theorem dX4_readFirst_22 : decode cX4_readFirst 22 = .ok (.iconst 0, 1) := by decide +kernel
theorem dX4_readFirst_23 : decode cX4_readFirst 23 = .ok (.ireturn, 1) := by decide +kernel
theorem dX4_readSecond_0 : decode cX4_readSecond 0 = .ok (.aload_n 0, 1) := by decide +kernel
theorem dX4_readSecond_1 : decode cX4_readSecond 1 = .ok (.aload_n 0, 1) := by decide +kernel
theorem dX4_readSecond_2 : decode cX4_readSecond 2 = .ok (.iload_n 1, 1) := by decide +kernel
theorem dX4_readSecond_3 : decode cX4_readSecond 3 = .ok (.iload_n 2, 1) := by decide +kernel
theorem dX4_readSecond_4 : decode cX4_readSecond 4 = .ok (.invokevirtual 69, 3) := by decide +kernel
theorem dX4_readSecond_7 : decode cX4_readSecond 7 = .ok (.putfield 28, 3) := by decide +kernel
theorem dX4_readSecond_10 : decode cX4_readSecond 10 = .ok (.aload_n 0, 1) := by decide +kernel
theorem dX4_readSecond_11 : decode cX4_readSecond 11 = .ok (.getfield 28, 3) := by decide +kernel
theorem dX4_readSecond_14 : decode cX4_readSecond 14 = .ok (.iconst (-1), 1) := by decide +kernel
theorem dX4_readSecond_15 : decode cX4_readSecond 15 = .ok (.if_icmp .eq 7, 3) := by decide +kernel
theorem dX4_readSecond_18 : decode cX4_readSecond 18 = .ok (.iconst 1, 1) := by decide +kernel
theorem dX4_readSecond_19 : decode cX4_readSecond 19 = .ok (.goto 4, 3) := by decide +kernel
theorem dX4_readSecond_22 : decode cX4_readSecond 22 = .ok (.iconst 0, 1) := by decide +kernel
theorem dX4_readSecond_23 : decode cX4_readSecond 23 = .ok (.ireturn, 1) := by decide +kernel
theorem dX4_readNumber_0 : decode cX4_readNumber 0 = .ok (.aload_n 0, 1) := by decide +kernel
theorem dX4_readNumber_1 : decode cX4_readNumber 1 = .ok (.bipush 32, 2) := by decide +kernel
theorem dX4_readNumber_3 : decode cX4_readNumber 3 = .ok (.invokevirtual 42, 3) := by decide +kernel
theorem dX4_readNumber_6 : decode cX4_readNumber 6 = .ok (.ifCond .ne 5, 3) := by decide +kernel
theorem dX4_readNumber_9 : decode cX4_readNumber 9 = .ok (.iconst (-1), 1) := by decide +kernel
theorem dX4_readNumber_10 : decode cX4_readNumber 10 = .ok (.ireturn, 1) := by decide +kernel
theorem dX4_readNumber_11 : decode cX4_readNumber 11 = .ok (.aload_n 0, 1) := by decide +kernel
theorem dX4_readNumber_12 : decode cX4_readNumber 12 = .ok (.invokevirtual 57, 3) := by decide +kernel
theorem dX4_readNumber_15 : decode cX4_readNumber 15 = .ok (.istore_n 3, 1) := by decide +kernel
theorem dX4_readNumber_16 : decode cX4_readNumber 16 = .ok (.iload_n 3, 1) := by decide +kernel
theorem dX4_readNumber_17 : decode cX4_readNumber 17 = .ok (.aload_n 0, 1) := by decide +kernel
theorem dX4_readNumber_18 : decode cX4_readNumber 18 = .ok (.getfield 19, 3) := by decide +kernel
theorem dX4_readNumber_21 : decode cX4_readNumber 21 = .ok (.if_icmp .eq 13, 3) := by decide +kernel
theorem dX4_readNumber_24 : decode cX4_readNumber 24 = .ok (.iload_n 3, 1) := by decide +kernel
theorem dX4_readNumber_25 : decode cX4_readNumber 25 = .ok (.aload_n 0, 1) := by decide +kernel
theorem dX4_readNumber_26 : decode cX4_readNumber 26 = .ok (.getfield 19, 3) := by decide +kernel
theorem dX4_readNumber_29 : decode cX4_readNumber 29 = .ok (.isub, 1) := by decide +kernel
theorem dX4_readNumber_30 : decode cX4_readNumber 30 = .ok (.iconst 3, 1) := by decide +kernel
theorem dX4_readNumber_31 : decode cX4_readNumber 31 = .ok (.if_icmp .le 5, 3) := by decide +kernel
theorem dX4_readNumber_34 : decode cX4_readNumber 34 = .ok (.iconst (-1), 1) := by decide +kernel
theorem dX4_readNumber_35 : decode cX4_readNumber 35 = .ok (.ireturn, 1) := by decide +kernel
theorem dX4_readNumber_36 : decode cX4_readNumber 36 = .ok (.iconst 0, 1) := by decide +kernel
theorem dX4_readNumber_37 : decode cX4_readNumber 37 = .ok (.istore 4, 2) := by decide +kernel
theorem dX4_readNumber_39 : decode cX4_readNumber 39 = .ok (.aload_n 0, 1) := by decide +kernel
theorem dX4_readNumber_40 : decode cX4_readNumber 40 = .ok (.getfield 19, 3) := by decide +kernel
theorem dX4_readNumber_43 : decode cX4_readNumber 43 = .ok (.istore 5, 2) := by decide +kernel
theorem dX4_readNumber_45 : decode cX4_readNumber 45 = .ok (.iload 5, 2) := by decide +kernel
theorem dX4_readNumber_47 : decode cX4_readNumber 47 = .ok (.iload_n 3, 1) := by decide +kernel
theorem dX4_readNumber_48 : decode cX4_readNumber 48 = .ok (.if_icmp .ge 46, 3) := by decide +kernel
theorem dX4_readNumber_51 : decode cX4_readNumber 51 = .ok (.aload_n 0, 1) := by decide +kernel
theorem dX4_readNumber_52 : decode cX4_readNumber 52 = .ok (.iload 5, 2) := by decide +kernel
theorem dX4_readNumber_54 : decode cX4_readNumber 54 = .ok (.invokevirtual 73, 3) := by decide +kernel
theorem dX4_readNumber_57 : decode cX4_readNumber 57 = .ok (.istore 6, 2) := by decide +kernel
theorem dX4_readNumber_59 : decode cX4_readNumber 59 = .ok (.iload 6, 2) := by decide +kernel
theorem dX4_readNumber_61 : decode cX4_readNumber 61 = .ok (.bipush 48, 2) := by decide +kernel
theorem dX4_readNumber_63 : decode cX4_readNumber 63 = .ok (.if_icmp .lt 10, 3) := by decide +kernel
theorem dX4_readNumber_66 : decode cX4_readNumber 66 = .ok (.iload 6, 2) := by decide +kernel
theorem dX4_readNumber_68 : decode cX4_readNumber 68 = .ok (.bipush 57, 2) := by decide +kernel
theorem dX4_readNumber_70 : decode cX4_readNumber 70 = .ok (.if_icmp .le 5, 3) := by decide +kernel
theorem dX4_readNumber_73 : decode cX4_readNumber 73 = .ok (.iconst (-1), 1) := by decide +kernel
theorem dX4_readNumber_74 : decode cX4_readNumber 74 = .ok (.ireturn, 1) := by decide +kernel
theorem dX4_readNumber_75 : decode cX4_readNumber 75 = .ok (.iload 4, 2) := by decide +kernel
theorem dX4_readNumber_77 : decode cX4_readNumber 77 = .ok (.bipush 10, 2) := by decide +kernel
theorem dX4_readNumber_79 : decode cX4_readNumber 79 = .ok (.imul, 1) := by decide +kernel
theorem dX4_readNumber_80 : decode cX4_readNumber 80 = .ok (.iload 6, 2) := by decide +kernel
theorem dX4_readNumber_82 : decode cX4_readNumber 82 = .ok (.bipush 48, 2) := by decide +kernel
theorem dX4_readNumber_84 : decode cX4_readNumber 84 = .ok (.isub, 1) := by decide +kernel
theorem dX4_readNumber_85 : decode cX4_readNumber 85 = .ok (.iadd, 1) := by decide +kernel
theorem dX4_readNumber_86 : decode cX4_readNumber 86 = .ok (.istore 4, 2) := by decide +kernel
theorem dX4_readNumber_88 : decode cX4_readNumber 88 = .ok (.iinc 5 1, 3) := by decide +kernel
theorem dX4_readNumber_91 : decode cX4_readNumber 91 = .ok (.goto (-46), 3) := by decide +kernel
theorem dX4_readNumber_94 : decode cX4_readNumber 94 = .ok (.iload 4, 2) := by decide +kernel
theorem dX4_readNumber_96 : decode cX4_readNumber 96 = .ok (.iload_n 1, 1) := by decide +kernel
theorem dX4_readNumber_97 : decode cX4_readNumber 97 = .ok (.iload_n 2, 1) := by decide +kernel
theorem dX4_readNumber_98 : decode cX4_readNumber 98 = .ok (.invokestatic 77, 3) := by decide +kernel
theorem dX4_readNumber_101 : decode cX4_readNumber 101 = .ok (.ifCond .ne 5, 3) := by decide +kernel
theorem dX4_readNumber_104 : decode cX4_readNumber 104 = .ok (.iconst (-1), 1) := by decide +kernel
theorem dX4_readNumber_105 : decode cX4_readNumber 105 = .ok (.ireturn, 1) := by decide +kernel
theorem dX4_readNumber_106 : decode cX4_readNumber 106 = .ok (.aload_n 0, 1) := by decide +kernel
theorem dX4_readNumber_107 : decode cX4_readNumber 107 = .ok (.iload_n 3, 1) := by decide +kernel
theorem dX4_readNumber_108 : decode cX4_readNumber 108 = .ok (.putfield 19, 3) := by decide +kernel
theorem dX4_readNumber_111 : decode cX4_readNumber 111 = .ok (.iload 4, 2) := by decide +kernel
theorem dX4_readNumber_113 : decode cX4_readNumber 113 = .ok (.ireturn, 1) := by decide +kernel
theorem dX4_readSign_0 : decode cX4_readSign 0 = .ok (.aload_n 0, 1) := by decide +kernel
theorem dX4_readSign_1 : decode cX4_readSign 1 = .ok (.invokevirtual 39, 3) := by decide +kernel
theorem dX4_readSign_4 : decode cX4_readSign 4 = .ok (.ifCond .eq 15, 3) := by decide +kernel
theorem dX4_readSign_7 : decode cX4_readSign 7 = .ok (.aload_n 0, 1) := by decide +kernel
theorem dX4_readSign_8 : decode cX4_readSign 8 = .ok (.aload_n 0, 1) := by decide +kernel
theorem dX4_readSign_9 : decode cX4_readSign 9 = .ok (.getfield 19, 3) := by decide +kernel
theorem dX4_readSign_12 : decode cX4_readSign 12 = .ok (.invokevirtual 73, 3) := by decide +kernel
theorem dX4_readSign_15 : decode cX4_readSign 15 = .ok (.iload_n 1, 1) := by decide +kernel
theorem dX4_readSign_16 : decode cX4_readSign 16 = .ok (.if_icmp .eq 5, 3) := by decide +kernel
theorem dX4_readSign_19 : decode cX4_readSign 19 = .ok (.iconst 0, 1) := by decide +kernel
theorem dX4_readSign_20 : decode cX4_readSign 20 = .ok (.ireturn, 1) := by decide +kernel
theorem dX4_readSign_21 : decode cX4_readSign 21 = .ok (.aload_n 0, 1) := by decide +kernel
theorem dX4_readSign_22 : decode cX4_readSign 22 = .ok (.dup, 1) := by decide +kernel
theorem dX4_readSign_23 : decode cX4_readSign 23 = .ok (.getfield 19, 3) := by decide +kernel
theorem dX4_readSign_26 : decode cX4_readSign 26 = .ok (.iconst 1, 1) := by decide +kernel
theorem dX4_readSign_27 : decode cX4_readSign 27 = .ok (.iadd, 1) := by decide +kernel
theorem dX4_readSign_28 : decode cX4_readSign 28 = .ok (.putfield 19, 3) := by decide +kernel
theorem dX4_readSign_31 : decode cX4_readSign 31 = .ok (.iconst 1, 1) := by decide +kernel
theorem dX4_readSign_32 : decode cX4_readSign 32 = .ok (.ireturn, 1) := by decide +kernel
theorem dX4_endOfToken_0 : decode cX4_endOfToken 0 = .ok (.aload_n 0, 1) := by decide +kernel
theorem dX4_endOfToken_1 : decode cX4_endOfToken 1 = .ok (.getfield 19, 3) := by decide +kernel
theorem dX4_endOfToken_4 : decode cX4_endOfToken 4 = .ok (.istore_n 1, 1) := by decide +kernel
theorem dX4_endOfToken_5 : decode cX4_endOfToken 5 = .ok (.iload_n 1, 1) := by decide +kernel
theorem dX4_endOfToken_6 : decode cX4_endOfToken 6 = .ok (.aload_n 0, 1) := by decide +kernel
theorem dX4_endOfToken_7 : decode cX4_endOfToken 7 = .ok (.getfield 15, 3) := by decide +kernel
theorem dX4_endOfToken_10 : decode cX4_endOfToken 10 = .ok (.if_icmp .ge 29, 3) := by decide +kernel
theorem dX4_endOfToken_13 : decode cX4_endOfToken 13 = .ok (.aload_n 0, 1) := by decide +kernel
theorem dX4_endOfToken_14 : decode cX4_endOfToken 14 = .ok (.iload_n 1, 1) := by decide +kernel
theorem dX4_endOfToken_15 : decode cX4_endOfToken 15 = .ok (.invokevirtual 73, 3) := by decide +kernel
theorem dX4_endOfToken_18 : decode cX4_endOfToken 18 = .ok (.bipush 32, 2) := by decide +kernel
theorem dX4_endOfToken_20 : decode cX4_endOfToken 20 = .ok (.if_icmp .eq 19, 3) := by decide +kernel
theorem dX4_endOfToken_23 : decode cX4_endOfToken 23 = .ok (.aload_n 0, 1) := by decide +kernel
theorem dX4_endOfToken_24 : decode cX4_endOfToken 24 = .ok (.iload_n 1, 1) := by decide +kernel
theorem dX4_endOfToken_25 : decode cX4_endOfToken 25 = .ok (.invokevirtual 73, 3) := by decide +kernel
theorem dX4_endOfToken_28 : decode cX4_endOfToken 28 = .ok (.bipush 59, 2) := by decide +kernel
theorem dX4_endOfToken_30 : decode cX4_endOfToken 30 = .ok (.if_icmp .eq 9, 3) := by decide +kernel
theorem dX4_endOfToken_33 : decode cX4_endOfToken 33 = .ok (.iinc 1 1, 3) := by decide +kernel
theorem dX4_endOfToken_36 : decode cX4_endOfToken 36 = .ok (.goto (-31), 3) := by decide +kernel
theorem dX4_endOfToken_39 : decode cX4_endOfToken 39 = .ok (.iload_n 1, 1) := by decide +kernel
theorem dX4_endOfToken_40 : decode cX4_endOfToken 40 = .ok (.ireturn, 1) := by decide +kernel
theorem dX4_stands_0 : decode cX4_stands 0 = .ok (.aload_n 1, 1) := by decide +kernel
theorem dX4_stands_1 : decode cX4_stands 1 = .ok (.invokevirtual 81, 3) := by decide +kernel
theorem dX4_stands_4 : decode cX4_stands 4 = .ok (.iload_n 2, 1) := by decide +kernel
theorem dX4_stands_5 : decode cX4_stands 5 = .ok (.aload_n 0, 1) := by decide +kernel
theorem dX4_stands_6 : decode cX4_stands 6 = .ok (.getfield 19, 3) := by decide +kernel
theorem dX4_stands_9 : decode cX4_stands 9 = .ok (.isub, 1) := by decide +kernel
theorem dX4_stands_10 : decode cX4_stands 10 = .ok (.if_icmp .eq 5, 3) := by decide +kernel
theorem dX4_stands_13 : decode cX4_stands 13 = .ok (.iconst 0, 1) := by decide +kernel
theorem dX4_stands_14 : decode cX4_stands 14 = .ok (.ireturn, 1) := by decide +kernel
theorem dX4_stands_15 : decode cX4_stands 15 = .ok (.iconst 0, 1) := by decide +kernel
theorem dX4_stands_16 : decode cX4_stands 16 = .ok (.istore_n 3, 1) := by decide +kernel
theorem dX4_stands_17 : decode cX4_stands 17 = .ok (.iload_n 3, 1) := by decide +kernel
theorem dX4_stands_18 : decode cX4_stands 18 = .ok (.aload_n 1, 1) := by decide +kernel
theorem dX4_stands_19 : decode cX4_stands 19 = .ok (.invokevirtual 81, 3) := by decide +kernel
theorem dX4_stands_22 : decode cX4_stands 22 = .ok (.if_icmp .ge 29, 3) := by decide +kernel
theorem dX4_stands_25 : decode cX4_stands 25 = .ok (.aload_n 0, 1) := by decide +kernel
theorem dX4_stands_26 : decode cX4_stands 26 = .ok (.aload_n 0, 1) := by decide +kernel
theorem dX4_stands_27 : decode cX4_stands 27 = .ok (.getfield 19, 3) := by decide +kernel
theorem dX4_stands_30 : decode cX4_stands 30 = .ok (.iload_n 3, 1) := by decide +kernel
theorem dX4_stands_31 : decode cX4_stands 31 = .ok (.iadd, 1) := by decide +kernel
theorem dX4_stands_32 : decode cX4_stands 32 = .ok (.invokevirtual 73, 3) := by decide +kernel
theorem dX4_stands_35 : decode cX4_stands 35 = .ok (.aload_n 1, 1) := by decide +kernel
theorem dX4_stands_36 : decode cX4_stands 36 = .ok (.iload_n 3, 1) := by decide +kernel
theorem dX4_stands_37 : decode cX4_stands 37 = .ok (.invokevirtual 85, 3) := by decide +kernel
theorem dX4_stands_40 : decode cX4_stands 40 = .ok (.if_icmp .eq 5, 3) := by decide +kernel
theorem dX4_stands_43 : decode cX4_stands 43 = .ok (.iconst 0, 1) := by decide +kernel
theorem dX4_stands_44 : decode cX4_stands 44 = .ok (.ireturn, 1) := by decide +kernel
theorem dX4_stands_45 : decode cX4_stands 45 = .ok (.iinc 3 1, 3) := by decide +kernel
theorem dX4_stands_48 : decode cX4_stands 48 = .ok (.goto (-31), 3) := by decide +kernel
theorem dX4_stands_51 : decode cX4_stands 51 = .ok (.iconst 1, 1) := by decide +kernel
theorem dX4_stands_52 : decode cX4_stands 52 = .ok (.ireturn, 1) := by decide +kernel
theorem dX4_signAt_0 : decode cX4_signAt 0 = .ok (.iload_n 1, 1) := by decide +kernel
theorem dX4_signAt_1 : decode cX4_signAt 1 = .ok (.ifCond .lt 29, 3) := by decide +kernel
theorem dX4_signAt_4 : decode cX4_signAt 4 = .ok (.iload_n 1, 1) := by decide +kernel
theorem dX4_signAt_5 : decode cX4_signAt 5 = .ok (.aload_n 0, 1) := by decide +kernel
theorem dX4_signAt_6 : decode cX4_signAt 6 = .ok (.getfield 15, 3) := by decide +kernel
theorem dX4_signAt_9 : decode cX4_signAt 9 = .ok (.if_icmp .ge 21, 3) := by decide +kernel
theorem dX4_signAt_12 : decode cX4_signAt 12 = .ok (.iload_n 1, 1) := by decide +kernel
theorem dX4_signAt_13 : decode cX4_signAt 13 = .ok (.aload_n 0, 1) := by decide +kernel
theorem dX4_signAt_14 : decode cX4_signAt 14 = .ok (.getfield 9, 3) := by decide +kernel
theorem dX4_signAt_17 : decode cX4_signAt 17 = .ok (.arraylength, 1) := by decide +kernel
theorem dX4_signAt_18 : decode cX4_signAt 18 = .ok (.if_icmp .ge 12, 3) := by decide +kernel
theorem dX4_signAt_21 : decode cX4_signAt 21 = .ok (.aload_n 0, 1) := by decide +kernel
theorem dX4_signAt_22 : decode cX4_signAt 22 = .ok (.getfield 9, 3) := by decide +kernel
theorem dX4_signAt_25 : decode cX4_signAt 25 = .ok (.iload_n 1, 1) := by decide +kernel
theorem dX4_signAt_26 : decode cX4_signAt 26 = .ok (.caload, 1) := by decide +kernel
theorem dX4_signAt_27 : decode cX4_signAt 27 = .ok (.goto 4, 3) := by decide +kernel
theorem dX4_signAt_30 : decode cX4_signAt 30 = .ok (.iconst 0, 1) := by decide +kernel
theorem dX4_signAt_31 : decode cX4_signAt 31 = .ok (.ireturn, 1) := by decide +kernel
theorem dX4_wordOf_0 : decode cX4_wordOf 0 = .ok (.iload_n 0, 1) := by decide +kernel
theorem dX4_wordOf_1 : decode cX4_wordOf 1 = .ok (.tableswitch 64 0 6 #[43, 46, 49, 52, 55, 58, 61], 43) := by decide +kernel
theorem dX4_wordOf_44 : decode cX4_wordOf 44 = .ok (.ldc 88, 2) := by decide +kernel
theorem dX4_wordOf_46 : decode cX4_wordOf 46 = .ok (.areturn, 1) := by decide +kernel
theorem dX4_wordOf_47 : decode cX4_wordOf 47 = .ok (.ldc 90, 2) := by decide +kernel
theorem dX4_wordOf_49 : decode cX4_wordOf 49 = .ok (.areturn, 1) := by decide +kernel
theorem dX4_wordOf_50 : decode cX4_wordOf 50 = .ok (.ldc 92, 2) := by decide +kernel
theorem dX4_wordOf_52 : decode cX4_wordOf 52 = .ok (.areturn, 1) := by decide +kernel
theorem dX4_wordOf_53 : decode cX4_wordOf 53 = .ok (.ldc 94, 2) := by decide +kernel
theorem dX4_wordOf_55 : decode cX4_wordOf 55 = .ok (.areturn, 1) := by decide +kernel
theorem dX4_wordOf_56 : decode cX4_wordOf 56 = .ok (.ldc 96, 2) := by decide +kernel
theorem dX4_wordOf_58 : decode cX4_wordOf 58 = .ok (.areturn, 1) := by decide +kernel
theorem dX4_wordOf_59 : decode cX4_wordOf 59 = .ok (.ldc 98, 2) := by decide +kernel
theorem dX4_wordOf_61 : decode cX4_wordOf 61 = .ok (.areturn, 1) := by decide +kernel
theorem dX4_wordOf_62 : decode cX4_wordOf 62 = .ok (.ldc 100, 2) := by decide +kernel
theorem dX4_wordOf_64 : decode cX4_wordOf 64 = .ok (.areturn, 1) := by decide +kernel
theorem dX4_wordOf_65 : decode cX4_wordOf 65 = .ok (.ldc 102, 2) := by decide +kernel
theorem dX4_wordOf_67 : decode cX4_wordOf 67 = .ok (.areturn, 1) := by decide +kernel
theorem dX5_init_0 : decode cX5_init 0 = .ok (.aload_n 0, 1) := by decide +kernel
theorem dX5_init_1 : decode cX5_init 1 = .ok (.invokespecial 3, 3) := by decide +kernel
theorem dX5_init_4 : decode cX5_init 4 = .ok (.return_, 1) := by decide +kernel
theorem dX5_begin_0 : decode cX5_begin 0 = .ok (.aload_n 0, 1) := by decide +kernel
theorem dX5_begin_1 : decode cX5_begin 1 = .ok (.iconst 0, 1) := by decide +kernel
theorem dX5_begin_2 : decode cX5_begin 2 = .ok (.putfield 9, 3) := by decide +kernel
theorem dX5_begin_5 : decode cX5_begin 5 = .ok (.aload_n 0, 1) := by decide +kernel
theorem dX5_begin_6 : decode cX5_begin 6 = .ok (.iconst 0, 1) := by decide +kernel
theorem dX5_begin_7 : decode cX5_begin 7 = .ok (.putfield 15, 3) := by decide +kernel
theorem dX5_begin_10 : decode cX5_begin 10 = .ok (.aload_n 0, 1) := by decide +kernel
theorem dX5_begin_11 : decode cX5_begin 11 = .ok (.iconst 0, 1) := by decide +kernel
theorem dX5_begin_12 : decode cX5_begin 12 = .ok (.putfield 18, 3) := by decide +kernel
theorem dX5_begin_15 : decode cX5_begin 15 = .ok (.return_, 1) := by decide +kernel
theorem dX5_height_0 : decode cX5_height 0 = .ok (.aload_n 0, 1) := by decide +kernel
theorem dX5_height_1 : decode cX5_height 1 = .ok (.getfield 9, 3) := by decide +kernel
theorem dX5_height_4 : decode cX5_height 4 = .ok (.aload_n 0, 1) := by decide +kernel
theorem dX5_height_5 : decode cX5_height 5 = .ok (.getfield 15, 3) := by decide +kernel
theorem dX5_height_8 : decode cX5_height 8 = .ok (.iadd, 1) := by decide +kernel
theorem dX5_height_9 : decode cX5_height 9 = .ok (.ireturn, 1) := by decide +kernel
theorem dX5_countPassage_0 : decode cX5_countPassage 0 = .ok (.aload_n 0, 1) := by decide +kernel
theorem dX5_countPassage_1 : decode cX5_countPassage 1 = .ok (.dup, 1) := by decide +kernel
theorem dX5_countPassage_2 : decode cX5_countPassage 2 = .ok (.getfield 18, 3) := by decide +kernel
theorem dX5_countPassage_5 : decode cX5_countPassage 5 = .ok (.iconst 1, 1) := by decide +kernel
theorem dX5_countPassage_6 : decode cX5_countPassage 6 = .ok (.iadd, 1) := by decide +kernel
theorem dX5_countPassage_7 : decode cX5_countPassage 7 = .ok (.putfield 18, 3) := by decide +kernel
theorem dX5_countPassage_10 : decode cX5_countPassage 10 = .ok (.aload_n 0, 1) := by decide +kernel
theorem dX5_countPassage_11 : decode cX5_countPassage 11 = .ok (.getfield 18, 3) := by decide +kernel
theorem dX5_countPassage_14 : decode cX5_countPassage 14 = .ok (.bipush 8, 2) := by decide +kernel
theorem dX5_countPassage_16 : decode cX5_countPassage 16 = .ok (.irem, 1) := by decide +kernel
theorem dX5_countPassage_17 : decode cX5_countPassage 17 = .ok (.ifCond .ne 13, 3) := by decide +kernel
theorem dX5_countPassage_20 : decode cX5_countPassage 20 = .ok (.aload_n 0, 1) := by decide +kernel
theorem dX5_countPassage_21 : decode cX5_countPassage 21 = .ok (.dup, 1) := by decide +kernel
theorem dX5_countPassage_22 : decode cX5_countPassage 22 = .ok (.getfield 15, 3) := by decide +kernel
theorem dX5_countPassage_25 : decode cX5_countPassage 25 = .ok (.iconst 1, 1) := by decide +kernel
theorem dX5_countPassage_26 : decode cX5_countPassage 26 = .ok (.iadd, 1) := by decide +kernel
theorem dX5_countPassage_27 : decode cX5_countPassage 27 = .ok (.putfield 15, 3) := by decide +kernel
theorem dX5_countPassage_30 : decode cX5_countPassage 30 = .ok (.return_, 1) := by decide +kernel
theorem dX5_copyTo_0 : decode cX5_copyTo 0 = .ok (.aload_n 1, 1) := by decide +kernel
theorem dX5_copyTo_1 : decode cX5_copyTo 1 = .ok (.aload_n 0, 1) := by decide +kernel
theorem dX5_copyTo_2 : decode cX5_copyTo 2 = .ok (.getfield 9, 3) := by decide +kernel
theorem dX5_copyTo_5 : decode cX5_copyTo 5 = .ok (.putfield 9, 3) := by decide +kernel
theorem dX5_copyTo_8 : decode cX5_copyTo 8 = .ok (.aload_n 1, 1) := by decide +kernel
theorem dX5_copyTo_9 : decode cX5_copyTo 9 = .ok (.aload_n 0, 1) := by decide +kernel
theorem dX5_copyTo_10 : decode cX5_copyTo 10 = .ok (.getfield 15, 3) := by decide +kernel
theorem dX5_copyTo_13 : decode cX5_copyTo 13 = .ok (.putfield 15, 3) := by decide +kernel
theorem dX5_copyTo_16 : decode cX5_copyTo 16 = .ok (.aload_n 1, 1) := by decide +kernel
theorem dX5_copyTo_17 : decode cX5_copyTo 17 = .ok (.aload_n 0, 1) := by decide +kernel
theorem dX5_copyTo_18 : decode cX5_copyTo 18 = .ok (.getfield 18, 3) := by decide +kernel
theorem dX5_copyTo_21 : decode cX5_copyTo 21 = .ok (.putfield 18, 3) := by decide +kernel
theorem dX5_copyTo_24 : decode cX5_copyTo 24 = .ok (.return_, 1) := by decide +kernel
theorem dX6_init_0 : decode cX6_init 0 = .ok (.aload_n 0, 1) := by decide +kernel
theorem dX6_init_1 : decode cX6_init 1 = .ok (.invokespecial 3, 3) := by decide +kernel
theorem dX6_init_4 : decode cX6_init 4 = .ok (.return_, 1) := by decide +kernel
theorem dX6_begin_0 : decode cX6_begin 0 = .ok (.aload_n 0, 1) := by decide +kernel
theorem dX6_begin_1 : decode cX6_begin 1 = .ok (.iload_n 1, 1) := by decide +kernel
theorem dX6_begin_2 : decode cX6_begin 2 = .ok (.i2l, 1) := by decide +kernel
theorem dX6_begin_3 : decode cX6_begin 3 = .ok (.putfield 9, 3) := by decide +kernel
theorem dX6_begin_6 : decode cX6_begin 6 = .ok (.aload_n 0, 1) := by decide +kernel
theorem dX6_begin_7 : decode cX6_begin 7 = .ok (.iload_n 2, 1) := by decide +kernel
theorem dX6_begin_8 : decode cX6_begin 8 = .ok (.i2l, 1) := by decide +kernel
theorem dX6_begin_9 : decode cX6_begin 9 = .ok (.putfield 15, 3) := by decide +kernel
theorem dX6_begin_12 : decode cX6_begin 12 = .ok (.aload_n 0, 1) := by decide +kernel
theorem dX6_begin_13 : decode cX6_begin 13 = .ok (.iload_n 3, 1) := by decide +kernel
theorem dX6_begin_14 : decode cX6_begin 14 = .ok (.i2l, 1) := by decide +kernel
theorem dX6_begin_15 : decode cX6_begin 15 = .ok (.putfield 18, 3) := by decide +kernel
theorem dX6_begin_18 : decode cX6_begin 18 = .ok (.aload_n 0, 1) := by decide +kernel
theorem dX6_begin_19 : decode cX6_begin 19 = .ok (.lconst 0, 1) := by decide +kernel
theorem dX6_begin_20 : decode cX6_begin 20 = .ok (.putfield 21, 3) := by decide +kernel
theorem dX6_begin_23 : decode cX6_begin 23 = .ok (.aload_n 0, 1) := by decide +kernel
theorem dX6_begin_24 : decode cX6_begin 24 = .ok (.iconst 0, 1) := by decide +kernel
theorem dX6_begin_25 : decode cX6_begin 25 = .ok (.putfield 24, 3) := by decide +kernel
theorem dX6_begin_28 : decode cX6_begin 28 = .ok (.return_, 1) := by decide +kernel
theorem dX6_depth_0 : decode cX6_depth 0 = .ok (.aload_n 0, 1) := by decide +kernel
theorem dX6_depth_1 : decode cX6_depth 1 = .ok (.getfield 18, 3) := by decide +kernel
theorem dX6_depth_4 : decode cX6_depth 4 = .ok (.aload_n 0, 1) := by decide +kernel
theorem dX6_depth_5 : decode cX6_depth 5 = .ok (.getfield 21, 3) := by decide +kernel
theorem dX6_depth_8 : decode cX6_depth 8 = .ok (.ladd, 1) := by decide +kernel
theorem dX6_depth_9 : decode cX6_depth 9 = .ok (.ldc2_w 28, 3) := by decide +kernel
theorem dX6_depth_12 : decode cX6_depth 12 = .ok (.lmul, 1) := by decide +kernel
theorem dX6_depth_13 : decode cX6_depth 13 = .ok (.aload_n 0, 1) := by decide +kernel
theorem dX6_depth_14 : decode cX6_depth 14 = .ok (.getfield 9, 3) := by decide +kernel
theorem dX6_depth_17 : decode cX6_depth 17 = .ok (.invokestatic 30, 3) := by decide +kernel
theorem dX6_depth_20 : decode cX6_depth 20 = .ok (.lreturn, 1) := by decide +kernel
theorem dX6_level_0 : decode cX6_level 0 = .ok (.aload_n 0, 1) := by decide +kernel
theorem dX6_level_1 : decode cX6_level 1 = .ok (.getfield 15, 3) := by decide +kernel
theorem dX6_level_4 : decode cX6_level 4 = .ok (.aload_n 0, 1) := by decide +kernel
theorem dX6_level_5 : decode cX6_level 5 = .ok (.invokevirtual 34, 3) := by decide +kernel
theorem dX6_level_8 : decode cX6_level 8 = .ok (.ladd, 1) := by decide +kernel
theorem dX6_level_9 : decode cX6_level 9 = .ok (.lreturn, 1) := by decide +kernel
theorem dX6_takeIn_0 : decode cX6_takeIn 0 = .ok (.aload_n 0, 1) := by decide +kernel
theorem dX6_takeIn_1 : decode cX6_takeIn 1 = .ok (.dup, 1) := by decide +kernel
theorem dX6_takeIn_2 : decode cX6_takeIn 2 = .ok (.getfield 21, 3) := by decide +kernel
theorem dX6_takeIn_5 : decode cX6_takeIn 5 = .ok (.iload_n 1, 1) := by decide +kernel
theorem dX6_takeIn_6 : decode cX6_takeIn 6 = .ok (.i2l, 1) := by decide +kernel
theorem dX6_takeIn_7 : decode cX6_takeIn 7 = .ok (.ladd, 1) := by decide +kernel
theorem dX6_takeIn_8 : decode cX6_takeIn 8 = .ok (.putfield 21, 3) := by decide +kernel
theorem dX6_takeIn_11 : decode cX6_takeIn 11 = .ok (.aload_n 0, 1) := by decide +kernel
theorem dX6_takeIn_12 : decode cX6_takeIn 12 = .ok (.dup, 1) := by decide +kernel
theorem dX6_takeIn_13 : decode cX6_takeIn 13 = .ok (.getfield 24, 3) := by decide +kernel
theorem dX6_takeIn_16 : decode cX6_takeIn 16 = .ok (.iconst 1, 1) := by decide +kernel
theorem dX6_takeIn_17 : decode cX6_takeIn 17 = .ok (.iadd, 1) := by decide +kernel
theorem dX6_takeIn_18 : decode cX6_takeIn 18 = .ok (.putfield 24, 3) := by decide +kernel
theorem dX6_takeIn_21 : decode cX6_takeIn 21 = .ok (.return_, 1) := by decide +kernel
theorem dX6_letOut_0 : decode cX6_letOut 0 = .ok (.aload_n 0, 1) := by decide +kernel
theorem dX6_letOut_1 : decode cX6_letOut 1 = .ok (.dup, 1) := by decide +kernel
theorem dX6_letOut_2 : decode cX6_letOut 2 = .ok (.getfield 21, 3) := by decide +kernel
theorem dX6_letOut_5 : decode cX6_letOut 5 = .ok (.iload_n 1, 1) := by decide +kernel
theorem dX6_letOut_6 : decode cX6_letOut 6 = .ok (.i2l, 1) := by decide +kernel
theorem dX6_letOut_7 : decode cX6_letOut 7 = .ok (.lsub, 1) := by decide +kernel
theorem dX6_letOut_8 : decode cX6_letOut 8 = .ok (.putfield 21, 3) := by decide +kernel
theorem dX6_letOut_11 : decode cX6_letOut 11 = .ok (.aload_n 0, 1) := by decide +kernel
theorem dX6_letOut_12 : decode cX6_letOut 12 = .ok (.dup, 1) := by decide +kernel
theorem dX6_letOut_13 : decode cX6_letOut 13 = .ok (.getfield 24, 3) := by decide +kernel
theorem dX6_letOut_16 : decode cX6_letOut 16 = .ok (.iconst 1, 1) := by decide +kernel
theorem dX6_letOut_17 : decode cX6_letOut 17 = .ok (.isub, 1) := by decide +kernel
theorem dX6_letOut_18 : decode cX6_letOut 18 = .ok (.putfield 24, 3) := by decide +kernel
theorem dX6_letOut_21 : decode cX6_letOut 21 = .ok (.return_, 1) := by decide +kernel
theorem dX6_flowFrom_0 : decode cX6_flowFrom 0 = .ok (.aload_n 0, 1) := by decide +kernel
theorem dX6_flowFrom_1 : decode cX6_flowFrom 1 = .ok (.getfield 18, 3) := by decide +kernel
theorem dX6_flowFrom_4 : decode cX6_flowFrom 4 = .ok (.aload_n 1, 1) := by decide +kernel
theorem dX6_flowFrom_5 : decode cX6_flowFrom 5 = .ok (.getfield 18, 3) := by decide +kernel
theorem dX6_flowFrom_8 : decode cX6_flowFrom 8 = .ok (.ladd, 1) := by decide +kernel
theorem dX6_flowFrom_9 : decode cX6_flowFrom 9 = .ok (.lstore_n 2, 1) := by decide +kernel
theorem dX6_flowFrom_10 : decode cX6_flowFrom 10 = .ok (.lload_n 2, 1) := by decide +kernel
theorem dX6_flowFrom_11 : decode cX6_flowFrom 11 = .ok (.aload_n 0, 1) := by decide +kernel
theorem dX6_flowFrom_12 : decode cX6_flowFrom 12 = .ok (.getfield 21, 3) := by decide +kernel
theorem dX6_flowFrom_15 : decode cX6_flowFrom 15 = .ok (.ladd, 1) := by decide +kernel
theorem dX6_flowFrom_16 : decode cX6_flowFrom 16 = .ok (.aload_n 1, 1) := by decide +kernel
theorem dX6_flowFrom_17 : decode cX6_flowFrom 17 = .ok (.getfield 21, 3) := by decide +kernel
theorem dX6_flowFrom_20 : decode cX6_flowFrom 20 = .ok (.ladd, 1) := by decide +kernel
theorem dX6_flowFrom_21 : decode cX6_flowFrom 21 = .ok (.lstore 4, 2) := by decide +kernel
theorem dX6_flowFrom_23 : decode cX6_flowFrom 23 = .ok (.aload_n 0, 1) := by decide +kernel
theorem dX6_flowFrom_24 : decode cX6_flowFrom 24 = .ok (.getfield 9, 3) := by decide +kernel
theorem dX6_flowFrom_27 : decode cX6_flowFrom 27 = .ok (.aload_n 0, 1) := by decide +kernel
theorem dX6_flowFrom_28 : decode cX6_flowFrom 28 = .ok (.getfield 15, 3) := by decide +kernel
theorem dX6_flowFrom_31 : decode cX6_flowFrom 31 = .ok (.lmul, 1) := by decide +kernel
theorem dX6_flowFrom_32 : decode cX6_flowFrom 32 = .ok (.aload_n 1, 1) := by decide +kernel
theorem dX6_flowFrom_33 : decode cX6_flowFrom 33 = .ok (.getfield 9, 3) := by decide +kernel
theorem dX6_flowFrom_36 : decode cX6_flowFrom 36 = .ok (.aload_n 1, 1) := by decide +kernel
theorem dX6_flowFrom_37 : decode cX6_flowFrom 37 = .ok (.getfield 15, 3) := by decide +kernel
theorem dX6_flowFrom_40 : decode cX6_flowFrom 40 = .ok (.lmul, 1) := by decide +kernel
theorem dX6_flowFrom_41 : decode cX6_flowFrom 41 = .ok (.ladd, 1) := by decide +kernel
theorem dX6_flowFrom_42 : decode cX6_flowFrom 42 = .ok (.lstore 6, 2) := by decide +kernel
theorem dX6_flowFrom_44 : decode cX6_flowFrom 44 = .ok (.lload 4, 2) := by decide +kernel
theorem dX6_flowFrom_46 : decode cX6_flowFrom 46 = .ok (.ldc2_w 28, 3) := by decide +kernel
theorem dX6_flowFrom_49 : decode cX6_flowFrom 49 = .ok (.lmul, 1) := by decide +kernel
theorem dX6_flowFrom_50 : decode cX6_flowFrom 50 = .ok (.lload 6, 2) := by decide +kernel
theorem dX6_flowFrom_52 : decode cX6_flowFrom 52 = .ok (.ladd, 1) := by decide +kernel
theorem dX6_flowFrom_53 : decode cX6_flowFrom 53 = .ok (.aload_n 0, 1) := by decide +kernel
theorem dX6_flowFrom_54 : decode cX6_flowFrom 54 = .ok (.getfield 9, 3) := by decide +kernel
theorem dX6_flowFrom_57 : decode cX6_flowFrom 57 = .ok (.aload_n 1, 1) := by decide +kernel
theorem dX6_flowFrom_58 : decode cX6_flowFrom 58 = .ok (.getfield 9, 3) := by decide +kernel
theorem dX6_flowFrom_61 : decode cX6_flowFrom 61 = .ok (.ladd, 1) := by decide +kernel
theorem dX6_flowFrom_62 : decode cX6_flowFrom 62 = .ok (.invokestatic 30, 3) := by decide +kernel
theorem dX6_flowFrom_65 : decode cX6_flowFrom 65 = .ok (.lstore 8, 2) := by decide +kernel
theorem dX6_flowFrom_67 : decode cX6_flowFrom 67 = .ok (.aload_n 0, 1) := by decide +kernel
theorem dX6_flowFrom_68 : decode cX6_flowFrom 68 = .ok (.getfield 9, 3) := by decide +kernel
theorem dX6_flowFrom_71 : decode cX6_flowFrom 71 = .ok (.lload 8, 2) := by decide +kernel
theorem dX6_flowFrom_73 : decode cX6_flowFrom 73 = .ok (.aload_n 0, 1) := by decide +kernel
theorem dX6_flowFrom_74 : decode cX6_flowFrom 74 = .ok (.getfield 15, 3) := by decide +kernel
theorem dX6_flowFrom_77 : decode cX6_flowFrom 77 = .ok (.lsub, 1) := by decide +kernel
theorem dX6_flowFrom_78 : decode cX6_flowFrom 78 = .ok (.lmul, 1) := by decide +kernel
theorem dX6_flowFrom_79 : decode cX6_flowFrom 79 = .ok (.ldc2_w 28, 3) := by decide +kernel
theorem dX6_flowFrom_82 : decode cX6_flowFrom 82 = .ok (.invokestatic 30, 3) := by decide +kernel
theorem dX6_flowFrom_85 : decode cX6_flowFrom 85 = .ok (.aload_n 0, 1) := by decide +kernel
theorem dX6_flowFrom_86 : decode cX6_flowFrom 86 = .ok (.getfield 21, 3) := by decide +kernel
theorem dX6_flowFrom_89 : decode cX6_flowFrom 89 = .ok (.lsub, 1) := by decide +kernel
theorem dX6_flowFrom_90 : decode cX6_flowFrom 90 = .ok (.lstore 10, 2) := by decide +kernel
theorem dX6_flowFrom_92 : decode cX6_flowFrom 92 = .ok (.lload 10, 2) := by decide +kernel
theorem dX6_flowFrom_94 : decode cX6_flowFrom 94 = .ok (.lconst 0, 1) := by decide +kernel
theorem dX6_flowFrom_95 : decode cX6_flowFrom 95 = .ok (.invokestatic 38, 3) := by decide +kernel
theorem dX6_flowFrom_98 : decode cX6_flowFrom 98 = .ok (.lload_n 2, 1) := by decide +kernel
theorem dX6_flowFrom_99 : decode cX6_flowFrom 99 = .ok (.invokestatic 43, 3) := by decide +kernel
theorem dX6_flowFrom_102 : decode cX6_flowFrom 102 = .ok (.aload_n 0, 1) := by decide +kernel
theorem dX6_flowFrom_103 : decode cX6_flowFrom 103 = .ok (.getfield 18, 3) := by decide +kernel
theorem dX6_flowFrom_106 : decode cX6_flowFrom 106 = .ok (.lsub, 1) := by decide +kernel
theorem dX6_flowFrom_107 : decode cX6_flowFrom 107 = .ok (.lreturn, 1) := by decide +kernel
theorem dX6_shareWith_0 : decode cX6_shareWith 0 = .ok (.aload_n 0, 1) := by decide +kernel
theorem dX6_shareWith_1 : decode cX6_shareWith 1 = .ok (.aload_n 1, 1) := by decide +kernel
theorem dX6_shareWith_2 : decode cX6_shareWith 2 = .ok (.invokevirtual 46, 3) := by decide +kernel
theorem dX6_shareWith_5 : decode cX6_shareWith 5 = .ok (.lstore_n 2, 1) := by decide +kernel
theorem dX6_shareWith_6 : decode cX6_shareWith 6 = .ok (.aload_n 0, 1) := by decide +kernel
theorem dX6_shareWith_7 : decode cX6_shareWith 7 = .ok (.dup, 1) := by decide +kernel
theorem dX6_shareWith_8 : decode cX6_shareWith 8 = .ok (.getfield 18, 3) := by decide +kernel
theorem dX6_shareWith_11 : decode cX6_shareWith 11 = .ok (.lload_n 2, 1) := by decide +kernel
theorem dX6_shareWith_12 : decode cX6_shareWith 12 = .ok (.ladd, 1) := by decide +kernel
theorem dX6_shareWith_13 : decode cX6_shareWith 13 = .ok (.putfield 18, 3) := by decide +kernel
theorem dX6_shareWith_16 : decode cX6_shareWith 16 = .ok (.aload_n 1, 1) := by decide +kernel
theorem dX6_shareWith_17 : decode cX6_shareWith 17 = .ok (.dup, 1) := by decide +kernel
theorem dX6_shareWith_18 : decode cX6_shareWith 18 = .ok (.getfield 18, 3) := by decide +kernel
theorem dX6_shareWith_21 : decode cX6_shareWith 21 = .ok (.lload_n 2, 1) := by decide +kernel
theorem dX6_shareWith_22 : decode cX6_shareWith 22 = .ok (.lsub, 1) := by decide +kernel
theorem dX6_shareWith_23 : decode cX6_shareWith 23 = .ok (.putfield 18, 3) := by decide +kernel
theorem dX6_shareWith_26 : decode cX6_shareWith 26 = .ok (.return_, 1) := by decide +kernel
theorem dX6_property_0 : decode cX6_property 0 = .ok (.iload_n 1, 1) := by decide +kernel
theorem dX6_property_1 : decode cX6_property 1 = .ok (.tableswitch 74 0 5 #[39, 45, 51, 57, 62, 68], 39) := by decide +kernel
theorem dX6_property_40 : decode cX6_property 40 = .ok (.aload_n 0, 1) := by decide +kernel
theorem dX6_property_41 : decode cX6_property 41 = .ok (.invokevirtual 50, 3) := by decide +kernel
theorem dX6_property_44 : decode cX6_property 44 = .ok (.l2i, 1) := by decide +kernel
theorem dX6_property_45 : decode cX6_property 45 = .ok (.ireturn, 1) := by decide +kernel
theorem dX6_property_46 : decode cX6_property 46 = .ok (.aload_n 0, 1) := by decide +kernel
theorem dX6_property_47 : decode cX6_property 47 = .ok (.getfield 18, 3) := by decide +kernel
theorem dX6_property_50 : decode cX6_property 50 = .ok (.l2i, 1) := by decide +kernel
theorem dX6_property_51 : decode cX6_property 51 = .ok (.ireturn, 1) := by decide +kernel
theorem dX6_property_52 : decode cX6_property 52 = .ok (.aload_n 0, 1) := by decide +kernel
theorem dX6_property_53 : decode cX6_property 53 = .ok (.getfield 21, 3) := by decide +kernel
theorem dX6_property_56 : decode cX6_property 56 = .ok (.l2i, 1) := by decide +kernel
theorem dX6_property_57 : decode cX6_property 57 = .ok (.ireturn, 1) := by decide +kernel
theorem dX6_property_58 : decode cX6_property 58 = .ok (.aload_n 0, 1) := by decide +kernel
theorem dX6_property_59 : decode cX6_property 59 = .ok (.getfield 24, 3) := by decide +kernel
theorem dX6_property_62 : decode cX6_property 62 = .ok (.ireturn, 1) := by decide +kernel
theorem dX6_property_63 : decode cX6_property 63 = .ok (.aload_n 0, 1) := by decide +kernel
theorem dX6_property_64 : decode cX6_property 64 = .ok (.getfield 9, 3) := by decide +kernel
theorem dX6_property_67 : decode cX6_property 67 = .ok (.l2i, 1) := by decide +kernel
theorem dX6_property_68 : decode cX6_property 68 = .ok (.ireturn, 1) := by decide +kernel
theorem dX6_property_69 : decode cX6_property 69 = .ok (.aload_n 0, 1) := by decide +kernel
theorem dX6_property_70 : decode cX6_property 70 = .ok (.getfield 15, 3) := by decide +kernel
theorem dX6_property_73 : decode cX6_property 73 = .ok (.l2i, 1) := by decide +kernel
theorem dX6_property_74 : decode cX6_property 74 = .ok (.ireturn, 1) := by decide +kernel
theorem dX6_property_75 : decode cX6_property 75 = .ok (.ldc 53, 2) := by decide +kernel
theorem dX6_property_77 : decode cX6_property 77 = .ok (.ireturn, 1) := by decide +kernel
theorem dX6_copyTo_0 : decode cX6_copyTo 0 = .ok (.aload_n 1, 1) := by decide +kernel
theorem dX6_copyTo_1 : decode cX6_copyTo 1 = .ok (.aload_n 0, 1) := by decide +kernel
theorem dX6_copyTo_2 : decode cX6_copyTo 2 = .ok (.getfield 9, 3) := by decide +kernel
theorem dX6_copyTo_5 : decode cX6_copyTo 5 = .ok (.putfield 9, 3) := by decide +kernel
theorem dX6_copyTo_8 : decode cX6_copyTo 8 = .ok (.aload_n 1, 1) := by decide +kernel
theorem dX6_copyTo_9 : decode cX6_copyTo 9 = .ok (.aload_n 0, 1) := by decide +kernel
theorem dX6_copyTo_10 : decode cX6_copyTo 10 = .ok (.getfield 15, 3) := by decide +kernel
theorem dX6_copyTo_13 : decode cX6_copyTo 13 = .ok (.putfield 15, 3) := by decide +kernel
theorem dX6_copyTo_16 : decode cX6_copyTo 16 = .ok (.aload_n 1, 1) := by decide +kernel
theorem dX6_copyTo_17 : decode cX6_copyTo 17 = .ok (.aload_n 0, 1) := by decide +kernel
theorem dX6_copyTo_18 : decode cX6_copyTo 18 = .ok (.getfield 18, 3) := by decide +kernel
theorem dX6_copyTo_21 : decode cX6_copyTo 21 = .ok (.putfield 18, 3) := by decide +kernel
theorem dX6_copyTo_24 : decode cX6_copyTo 24 = .ok (.aload_n 1, 1) := by decide +kernel
theorem dX6_copyTo_25 : decode cX6_copyTo 25 = .ok (.aload_n 0, 1) := by decide +kernel
theorem dX6_copyTo_26 : decode cX6_copyTo 26 = .ok (.getfield 21, 3) := by decide +kernel
theorem dX6_copyTo_29 : decode cX6_copyTo 29 = .ok (.putfield 21, 3) := by decide +kernel
theorem dX6_copyTo_32 : decode cX6_copyTo 32 = .ok (.aload_n 1, 1) := by decide +kernel
theorem dX6_copyTo_33 : decode cX6_copyTo 33 = .ok (.aload_n 0, 1) := by decide +kernel
theorem dX6_copyTo_34 : decode cX6_copyTo 34 = .ok (.getfield 24, 3) := by decide +kernel
theorem dX6_copyTo_37 : decode cX6_copyTo 37 = .ok (.putfield 24, 3) := by decide +kernel
theorem dX6_copyTo_40 : decode cX6_copyTo 40 = .ok (.return_, 1) := by decide +kernel
theorem dX7_init_0 : decode cX7_init 0 = .ok (.aload_n 0, 1) := by decide +kernel
theorem dX7_init_1 : decode cX7_init 1 = .ok (.invokespecial 1, 3) := by decide +kernel
theorem dX7_init_4 : decode cX7_init 4 = .ok (.aload_n 0, 1) := by decide +kernel
theorem dX7_init_5 : decode cX7_init 5 = .ok (.new 7, 3) := by decide +kernel
theorem dX7_init_8 : decode cX7_init 8 = .ok (.dup, 1) := by decide +kernel
theorem dX7_init_9 : decode cX7_init 9 = .ok (.invokespecial 9, 3) := by decide +kernel
theorem dX7_init_12 : decode cX7_init 12 = .ok (.putfield 10, 3) := by decide +kernel
theorem dX7_init_15 : decode cX7_init 15 = .ok (.aload_n 0, 1) := by decide +kernel
theorem dX7_init_16 : decode cX7_init 16 = .ok (.new 16, 3) := by decide +kernel
theorem dX7_init_19 : decode cX7_init 19 = .ok (.dup, 1) := by decide +kernel
theorem dX7_init_20 : decode cX7_init 20 = .ok (.invokespecial 18, 3) := by decide +kernel
theorem dX7_init_23 : decode cX7_init 23 = .ok (.putfield 19, 3) := by decide +kernel
theorem dX7_init_26 : decode cX7_init 26 = .ok (.aload_n 0, 1) := by decide +kernel
theorem dX7_init_27 : decode cX7_init 27 = .ok (.iconst 2, 1) := by decide +kernel
theorem dX7_init_28 : decode cX7_init 28 = .ok (.anewarray 7, 3) := by decide +kernel
theorem dX7_init_31 : decode cX7_init 31 = .ok (.putfield 23, 3) := by decide +kernel
theorem dX7_init_34 : decode cX7_init 34 = .ok (.aload_n 0, 1) := by decide +kernel
theorem dX7_init_35 : decode cX7_init 35 = .ok (.new 27, 3) := by decide +kernel
theorem dX7_init_38 : decode cX7_init 38 = .ok (.dup, 1) := by decide +kernel
theorem dX7_init_39 : decode cX7_init 39 = .ok (.invokespecial 29, 3) := by decide +kernel
theorem dX7_init_42 : decode cX7_init 42 = .ok (.putfield 30, 3) := by decide +kernel
theorem dX7_init_45 : decode cX7_init 45 = .ok (.aload_n 0, 1) := by decide +kernel
theorem dX7_init_46 : decode cX7_init 46 = .ok (.iconst 0, 1) := by decide +kernel
theorem dX7_init_47 : decode cX7_init 47 = .ok (.putfield 34, 3) := by decide +kernel
theorem dX7_init_50 : decode cX7_init 50 = .ok (.aload_n 0, 1) := by decide +kernel
theorem dX7_init_51 : decode cX7_init 51 = .ok (.iconst 0, 1) := by decide +kernel
theorem dX7_init_52 : decode cX7_init 52 = .ok (.putfield 38, 3) := by decide +kernel
theorem dX7_init_55 : decode cX7_init 55 = .ok (.return_, 1) := by decide +kernel
theorem dX7_addReach_0 : decode cX7_addReach 0 = .ok (.iload_n 1, 1) := by decide +kernel
theorem dX7_addReach_1 : decode cX7_addReach 1 = .ok (.iload_n 2, 1) := by decide +kernel
theorem dX7_addReach_2 : decode cX7_addReach 2 = .ok (.iload_n 3, 1) := by decide +kernel
theorem dX7_addReach_3 : decode cX7_addReach 3 = .ok (.invokestatic 42, 3) := by decide +kernel
theorem dX7_addReach_6 : decode cX7_addReach 6 = .ok (.ifCond .ne 6, 3) := by decide +kernel
theorem dX7_addReach_9 : decode cX7_addReach 9 = .ok (.ldc 46, 2) := by decide +kernel
theorem dX7_addReach_11 : decode cX7_addReach 11 = .ok (.ireturn, 1) := by decide +kernel
theorem dX7_addReach_12 : decode cX7_addReach 12 = .ok (.aload_n 0, 1) := by decide +kernel
theorem dX7_addReach_13 : decode cX7_addReach 13 = .ok (.getfield 10, 3) := by decide +kernel
theorem dX7_addReach_16 : decode cX7_addReach 16 = .ok (.getfield 47, 3) := by decide +kernel
theorem dX7_addReach_19 : decode cX7_addReach 19 = .ok (.ifCond .le 6, 3) := by decide +kernel
theorem dX7_addReach_22 : decode cX7_addReach 22 = .ok (.ldc 50, 2) := by decide +kernel
theorem dX7_addReach_24 : decode cX7_addReach 24 = .ok (.ireturn, 1) := by decide +kernel
theorem dX7_addReach_25 : decode cX7_addReach 25 = .ok (.aload_n 0, 1) := by decide +kernel
theorem dX7_addReach_26 : decode cX7_addReach 26 = .ok (.invokevirtual 51, 3) := by decide +kernel
theorem dX7_addReach_29 : decode cX7_addReach 29 = .ok (.aload_n 0, 1) := by decide +kernel
theorem dX7_addReach_30 : decode cX7_addReach 30 = .ok (.getfield 10, 3) := by decide +kernel
theorem dX7_addReach_33 : decode cX7_addReach 33 = .ok (.iload_n 1, 1) := by decide +kernel
theorem dX7_addReach_34 : decode cX7_addReach 34 = .ok (.iload_n 2, 1) := by decide +kernel
theorem dX7_addReach_35 : decode cX7_addReach 35 = .ok (.iload_n 3, 1) := by decide +kernel
theorem dX7_addReach_36 : decode cX7_addReach 36 = .ok (.invokevirtual 54, 3) := by decide +kernel
theorem dX7_addReach_39 : decode cX7_addReach 39 = .ok (.aload_n 0, 1) := by decide +kernel
theorem dX7_addReach_40 : decode cX7_addReach 40 = .ok (.getfield 10, 3) := by decide +kernel
theorem dX7_addReach_43 : decode cX7_addReach 43 = .ok (.invokevirtual 58, 3) := by decide +kernel
theorem dX7_addReach_46 : decode cX7_addReach 46 = .ok (.iconst 0, 1) := by decide +kernel
theorem dX7_addReach_47 : decode cX7_addReach 47 = .ok (.ireturn, 1) := by decide +kernel
theorem dX7_addChamber_0 : decode cX7_addChamber 0 = .ok (.iload_n 1, 1) := by decide +kernel
theorem dX7_addChamber_1 : decode cX7_addChamber 1 = .ok (.iload_n 3, 1) := by decide +kernel
theorem dX7_addChamber_2 : decode cX7_addChamber 2 = .ok (.invokestatic 61, 3) := by decide +kernel
theorem dX7_addChamber_5 : decode cX7_addChamber 5 = .ok (.ifCond .eq 15, 3) := by decide +kernel
theorem dX7_addChamber_8 : decode cX7_addChamber 8 = .ok (.iload_n 2, 1) := by decide +kernel
theorem dX7_addChamber_9 : decode cX7_addChamber 9 = .ok (.bipush 10, 2) := by decide +kernel
theorem dX7_addChamber_11 : decode cX7_addChamber 11 = .ok (.sipush 200, 3) := by decide +kernel
theorem dX7_addChamber_14 : decode cX7_addChamber 14 = .ok (.invokestatic 65, 3) := by decide +kernel
theorem dX7_addChamber_17 : decode cX7_addChamber 17 = .ok (.ifCond .ne 6, 3) := by decide +kernel
theorem dX7_addChamber_20 : decode cX7_addChamber 20 = .ok (.ldc 46, 2) := by decide +kernel
theorem dX7_addChamber_22 : decode cX7_addChamber 22 = .ok (.ireturn, 1) := by decide +kernel
theorem dX7_addChamber_23 : decode cX7_addChamber 23 = .ok (.iload 4, 2) := by decide +kernel
theorem dX7_addChamber_25 : decode cX7_addChamber 25 = .ok (.iload 5, 2) := by decide +kernel
theorem dX7_addChamber_27 : decode cX7_addChamber 27 = .ok (.iload 6, 2) := by decide +kernel
theorem dX7_addChamber_29 : decode cX7_addChamber 29 = .ok (.invokestatic 42, 3) := by decide +kernel
theorem dX7_addChamber_32 : decode cX7_addChamber 32 = .ok (.ifCond .ne 6, 3) := by decide +kernel
theorem dX7_addChamber_35 : decode cX7_addChamber 35 = .ok (.ldc 46, 2) := by decide +kernel
theorem dX7_addChamber_37 : decode cX7_addChamber 37 = .ok (.ireturn, 1) := by decide +kernel
theorem dX7_addChamber_38 : decode cX7_addChamber 38 = .ok (.aload_n 0, 1) := by decide +kernel
theorem dX7_addChamber_39 : decode cX7_addChamber 39 = .ok (.getfield 10, 3) := by decide +kernel
theorem dX7_addChamber_42 : decode cX7_addChamber 42 = .ok (.getfield 47, 3) := by decide +kernel
theorem dX7_addChamber_45 : decode cX7_addChamber 45 = .ok (.ifCond .eq 14, 3) := by decide +kernel
theorem dX7_addChamber_48 : decode cX7_addChamber 48 = .ok (.aload_n 0, 1) := by decide +kernel
theorem dX7_addChamber_49 : decode cX7_addChamber 49 = .ok (.getfield 10, 3) := by decide +kernel
theorem dX7_addChamber_52 : decode cX7_addChamber 52 = .ok (.getfield 68, 3) := by decide +kernel
theorem dX7_addChamber_55 : decode cX7_addChamber 55 = .ok (.iconst 4, 1) := by decide +kernel
theorem dX7_addChamber_56 : decode cX7_addChamber 56 = .ok (.if_icmp .lt 6, 3) := by decide +kernel
theorem dX7_addChamber_59 : decode cX7_addChamber 59 = .ok (.ldc 50, 2) := by decide +kernel
theorem dX7_addChamber_61 : decode cX7_addChamber 61 = .ok (.ireturn, 1) := by decide +kernel
theorem dX7_addChamber_62 : decode cX7_addChamber 62 = .ok (.aload_n 0, 1) := by decide +kernel
theorem dX7_addChamber_63 : decode cX7_addChamber 63 = .ok (.invokevirtual 51, 3) := by decide +kernel
theorem dX7_addChamber_66 : decode cX7_addChamber 66 = .ok (.aload_n 0, 1) := by decide +kernel
theorem dX7_addChamber_67 : decode cX7_addChamber 67 = .ok (.getfield 10, 3) := by decide +kernel
theorem dX7_addChamber_70 : decode cX7_addChamber 70 = .ok (.getfield 68, 3) := by decide +kernel
theorem dX7_addChamber_73 : decode cX7_addChamber 73 = .ok (.istore 7, 2) := by decide +kernel
theorem dX7_addChamber_75 : decode cX7_addChamber 75 = .ok (.aload_n 0, 1) := by decide +kernel
theorem dX7_addChamber_76 : decode cX7_addChamber 76 = .ok (.getfield 10, 3) := by decide +kernel
theorem dX7_addChamber_79 : decode cX7_addChamber 79 = .ok (.iload_n 1, 1) := by decide +kernel
theorem dX7_addChamber_80 : decode cX7_addChamber 80 = .ok (.iload_n 2, 1) := by decide +kernel
theorem dX7_addChamber_81 : decode cX7_addChamber 81 = .ok (.iload_n 3, 1) := by decide +kernel
theorem dX7_addChamber_82 : decode cX7_addChamber 82 = .ok (.invokevirtual 71, 3) := by decide +kernel
theorem dX7_addChamber_85 : decode cX7_addChamber 85 = .ok (.aload_n 0, 1) := by decide +kernel
theorem dX7_addChamber_86 : decode cX7_addChamber 86 = .ok (.getfield 10, 3) := by decide +kernel
theorem dX7_addChamber_89 : decode cX7_addChamber 89 = .ok (.iload 4, 2) := by decide +kernel
theorem dX7_addChamber_91 : decode cX7_addChamber 91 = .ok (.iload 5, 2) := by decide +kernel
theorem dX7_addChamber_93 : decode cX7_addChamber 93 = .ok (.iload 6, 2) := by decide +kernel
theorem dX7_addChamber_95 : decode cX7_addChamber 95 = .ok (.invokevirtual 54, 3) := by decide +kernel
theorem dX7_addChamber_98 : decode cX7_addChamber 98 = .ok (.aload_n 0, 1) := by decide +kernel
theorem dX7_addChamber_99 : decode cX7_addChamber 99 = .ok (.getfield 10, 3) := by decide +kernel
theorem dX7_addChamber_102 : decode cX7_addChamber 102 = .ok (.invokevirtual 58, 3) := by decide +kernel
theorem dX7_addChamber_105 : decode cX7_addChamber 105 = .ok (.iload 7, 2) := by decide +kernel
theorem dX7_addChamber_107 : decode cX7_addChamber 107 = .ok (.ireturn, 1) := by decide +kernel
theorem dX7_setSill_0 : decode cX7_setSill 0 = .ok (.aload_n 0, 1) := by decide +kernel
theorem dX7_setSill_1 : decode cX7_setSill 1 = .ok (.getfield 10, 3) := by decide +kernel
theorem dX7_setSill_4 : decode cX7_setSill 4 = .ok (.iload_n 1, 1) := by decide +kernel
theorem dX7_setSill_5 : decode cX7_setSill 5 = .ok (.iload_n 2, 1) := by decide +kernel
theorem dX7_setSill_6 : decode cX7_setSill 6 = .ok (.invokevirtual 74, 3) := by decide +kernel
theorem dX7_setSill_9 : decode cX7_setSill 9 = .ok (.astore 4, 2) := by decide +kernel
theorem dX7_setSill_11 : decode cX7_setSill 11 = .ok (.aload 4, 2) := by decide +kernel
theorem dX7_setSill_13 : decode cX7_setSill 13 = .ok (.ifnonnull 6, 3) := by decide +kernel
theorem dX7_setSill_16 : decode cX7_setSill 16 = .ok (.ldc 78, 2) := by decide +kernel
theorem dX7_setSill_18 : decode cX7_setSill 18 = .ok (.ireturn, 1) := by decide +kernel
theorem dX7_setSill_19 : decode cX7_setSill 19 = .ok (.iload_n 3, 1) := by decide +kernel
theorem dX7_setSill_20 : decode cX7_setSill 20 = .ok (.iconst 0, 1) := by decide +kernel
theorem dX7_setSill_21 : decode cX7_setSill 21 = .ok (.sipush 5000, 3) := by decide +kernel
theorem dX7_setSill_24 : decode cX7_setSill 24 = .ok (.invokestatic 65, 3) := by decide +kernel
theorem dX7_setSill_27 : decode cX7_setSill 27 = .ok (.ifCond .ne 6, 3) := by decide +kernel
theorem dX7_setSill_30 : decode cX7_setSill 30 = .ok (.ldc 46, 2) := by decide +kernel
theorem dX7_setSill_32 : decode cX7_setSill 32 = .ok (.ireturn, 1) := by decide +kernel
theorem dX7_setSill_33 : decode cX7_setSill 33 = .ok (.aload_n 0, 1) := by decide +kernel
theorem dX7_setSill_34 : decode cX7_setSill 34 = .ok (.invokevirtual 51, 3) := by decide +kernel
theorem dX7_setSill_37 : decode cX7_setSill 37 = .ok (.aload 4, 2) := by decide +kernel
theorem dX7_setSill_39 : decode cX7_setSill 39 = .ok (.getfield 79, 3) := by decide +kernel
theorem dX7_setSill_42 : decode cX7_setSill 42 = .ok (.istore 5, 2) := by decide +kernel
theorem dX7_setSill_44 : decode cX7_setSill 44 = .ok (.aload 4, 2) := by decide +kernel
theorem dX7_setSill_46 : decode cX7_setSill 46 = .ok (.iload_n 3, 1) := by decide +kernel
theorem dX7_setSill_47 : decode cX7_setSill 47 = .ok (.putfield 79, 3) := by decide +kernel
theorem dX7_setSill_50 : decode cX7_setSill 50 = .ok (.aload_n 0, 1) := by decide +kernel
theorem dX7_setSill_51 : decode cX7_setSill 51 = .ok (.getfield 10, 3) := by decide +kernel
theorem dX7_setSill_54 : decode cX7_setSill 54 = .ok (.invokevirtual 58, 3) := by decide +kernel
theorem dX7_setSill_57 : decode cX7_setSill 57 = .ok (.iload 5, 2) := by decide +kernel
theorem dX7_setSill_59 : decode cX7_setSill 59 = .ok (.ireturn, 1) := by decide +kernel
theorem dX7_setClearance_0 : decode cX7_setClearance 0 = .ok (.iload_n 1, 1) := by decide +kernel
theorem dX7_setClearance_1 : decode cX7_setClearance 1 = .ok (.iconst 0, 1) := by decide +kernel
theorem dX7_setClearance_2 : decode cX7_setClearance 2 = .ok (.bipush 50, 2) := by decide +kernel
theorem dX7_setClearance_4 : decode cX7_setClearance 4 = .ok (.invokestatic 65, 3) := by decide +kernel
theorem dX7_setClearance_7 : decode cX7_setClearance 7 = .ok (.ifCond .ne 6, 3) := by decide +kernel
theorem dX7_setClearance_10 : decode cX7_setClearance 10 = .ok (.ldc 46, 2) := by decide +kernel
theorem dX7_setClearance_12 : decode cX7_setClearance 12 = .ok (.ireturn, 1) := by decide +kernel
theorem dX7_setClearance_13 : decode cX7_setClearance 13 = .ok (.aload_n 0, 1) := by decide +kernel
theorem dX7_setClearance_14 : decode cX7_setClearance 14 = .ok (.invokevirtual 51, 3) := by decide +kernel
theorem dX7_setClearance_17 : decode cX7_setClearance 17 = .ok (.aload_n 0, 1) := by decide +kernel
theorem dX7_setClearance_18 : decode cX7_setClearance 18 = .ok (.getfield 10, 3) := by decide +kernel
theorem dX7_setClearance_21 : decode cX7_setClearance 21 = .ok (.getfield 84, 3) := by decide +kernel
theorem dX7_setClearance_24 : decode cX7_setClearance 24 = .ok (.istore_n 2, 1) := by decide +kernel
theorem dX7_setClearance_25 : decode cX7_setClearance 25 = .ok (.aload_n 0, 1) := by decide +kernel
theorem dX7_setClearance_26 : decode cX7_setClearance 26 = .ok (.getfield 10, 3) := by decide +kernel
theorem dX7_setClearance_29 : decode cX7_setClearance 29 = .ok (.iload_n 1, 1) := by decide +kernel
theorem dX7_setClearance_30 : decode cX7_setClearance 30 = .ok (.putfield 84, 3) := by decide +kernel
theorem dX7_setClearance_33 : decode cX7_setClearance 33 = .ok (.aload_n 0, 1) := by decide +kernel
theorem dX7_setClearance_34 : decode cX7_setClearance 34 = .ok (.getfield 10, 3) := by decide +kernel
theorem dX7_setClearance_37 : decode cX7_setClearance 37 = .ok (.invokevirtual 58, 3) := by decide +kernel
theorem dX7_setClearance_40 : decode cX7_setClearance 40 = .ok (.iload_n 2, 1) := by decide +kernel
theorem dX7_setClearance_41 : decode cX7_setClearance 41 = .ok (.ireturn, 1) := by decide +kernel
theorem dX7_dredge_0 : decode cX7_dredge 0 = .ok (.aload_n 0, 1) := by decide +kernel
theorem dX7_dredge_1 : decode cX7_dredge 1 = .ok (.getfield 10, 3) := by decide +kernel
theorem dX7_dredge_4 : decode cX7_dredge 4 = .ok (.iload_n 1, 1) := by decide +kernel
theorem dX7_dredge_5 : decode cX7_dredge 5 = .ok (.iload_n 2, 1) := by decide +kernel
theorem dX7_dredge_6 : decode cX7_dredge 6 = .ok (.invokevirtual 74, 3) := by decide +kernel
theorem dX7_dredge_9 : decode cX7_dredge 9 = .ok (.astore_n 3, 1) := by decide +kernel
theorem dX7_dredge_10 : decode cX7_dredge 10 = .ok (.aload_n 3, 1) := by decide +kernel
theorem dX7_dredge_11 : decode cX7_dredge 11 = .ok (.ifnonnull 6, 3) := by decide +kernel
theorem dX7_dredge_14 : decode cX7_dredge 14 = .ok (.ldc 78, 2) := by decide +kernel
theorem dX7_dredge_16 : decode cX7_dredge 16 = .ok (.ireturn, 1) := by decide +kernel
theorem dX7_dredge_17 : decode cX7_dredge 17 = .ok (.aload_n 3, 1) := by decide +kernel
theorem dX7_dredge_18 : decode cX7_dredge 18 = .ok (.getfield 87, 3) := by decide +kernel
theorem dX7_dredge_21 : decode cX7_dredge 21 = .ok (.ifCond .ne 6, 3) := by decide +kernel
theorem dX7_dredge_24 : decode cX7_dredge 24 = .ok (.ldc 90, 2) := by decide +kernel
theorem dX7_dredge_26 : decode cX7_dredge 26 = .ok (.ireturn, 1) := by decide +kernel
theorem dX7_dredge_27 : decode cX7_dredge 27 = .ok (.aload_n 0, 1) := by decide +kernel
theorem dX7_dredge_28 : decode cX7_dredge 28 = .ok (.invokevirtual 51, 3) := by decide +kernel
theorem dX7_dredge_31 : decode cX7_dredge 31 = .ok (.aload_n 3, 1) := by decide +kernel
theorem dX7_dredge_32 : decode cX7_dredge 32 = .ok (.getfield 87, 3) := by decide +kernel
theorem dX7_dredge_35 : decode cX7_dredge 35 = .ok (.istore 4, 2) := by decide +kernel
theorem dX7_dredge_37 : decode cX7_dredge 37 = .ok (.aload_n 3, 1) := by decide +kernel
theorem dX7_dredge_38 : decode cX7_dredge 38 = .ok (.iconst 0, 1) := by decide +kernel
theorem dX7_dredge_39 : decode cX7_dredge 39 = .ok (.putfield 87, 3) := by decide +kernel
theorem dX7_dredge_42 : decode cX7_dredge 42 = .ok (.aload_n 0, 1) := by decide +kernel
theorem dX7_dredge_43 : decode cX7_dredge 43 = .ok (.getfield 10, 3) := by decide +kernel
theorem dX7_dredge_46 : decode cX7_dredge 46 = .ok (.invokevirtual 58, 3) := by decide +kernel
theorem dX7_dredge_49 : decode cX7_dredge 49 = .ok (.iload 4, 2) := by decide +kernel
theorem dX7_dredge_51 : decode cX7_dredge 51 = .ok (.ireturn, 1) := by decide +kernel
theorem dX7_supply_0 : decode cX7_supply 0 = .ok (.aload_n 0, 1) := by decide +kernel
theorem dX7_supply_1 : decode cX7_supply 1 = .ok (.getfield 10, 3) := by decide +kernel
theorem dX7_supply_4 : decode cX7_supply 4 = .ok (.iload_n 1, 1) := by decide +kernel
theorem dX7_supply_5 : decode cX7_supply 5 = .ok (.invokevirtual 91, 3) := by decide +kernel
theorem dX7_supply_8 : decode cX7_supply 8 = .ok (.astore_n 3, 1) := by decide +kernel
theorem dX7_supply_9 : decode cX7_supply 9 = .ok (.aload_n 3, 1) := by decide +kernel
theorem dX7_supply_10 : decode cX7_supply 10 = .ok (.ifnonnull 6, 3) := by decide +kernel
theorem dX7_supply_13 : decode cX7_supply 13 = .ok (.ldc 78, 2) := by decide +kernel
theorem dX7_supply_15 : decode cX7_supply 15 = .ok (.ireturn, 1) := by decide +kernel
theorem dX7_supply_16 : decode cX7_supply 16 = .ok (.iload_n 2, 1) := by decide +kernel
theorem dX7_supply_17 : decode cX7_supply 17 = .ok (.ldc 95, 2) := by decide +kernel
theorem dX7_supply_19 : decode cX7_supply 19 = .ok (.ldc 96, 2) := by decide +kernel
theorem dX7_supply_21 : decode cX7_supply 21 = .ok (.invokestatic 65, 3) := by decide +kernel
theorem dX7_supply_24 : decode cX7_supply 24 = .ok (.ifCond .ne 6, 3) := by decide +kernel
theorem dX7_supply_27 : decode cX7_supply 27 = .ok (.ldc 46, 2) := by decide +kernel
theorem dX7_supply_29 : decode cX7_supply 29 = .ok (.ireturn, 1) := by decide +kernel
theorem dX7_supply_30 : decode cX7_supply 30 = .ok (.aload_n 3, 1) := by decide +kernel
theorem dX7_supply_31 : decode cX7_supply 31 = .ok (.getfield 97, 3) := by decide +kernel
theorem dX7_supply_34 : decode cX7_supply 34 = .ok (.iload_n 2, 1) := by decide +kernel
theorem dX7_supply_35 : decode cX7_supply 35 = .ok (.i2l, 1) := by decide +kernel
theorem dX7_supply_36 : decode cX7_supply 36 = .ok (.ladd, 1) := by decide +kernel
theorem dX7_supply_37 : decode cX7_supply 37 = .ok (.lstore 4, 2) := by decide +kernel
theorem dX7_supply_39 : decode cX7_supply 39 = .ok (.lload 4, 2) := by decide +kernel
theorem dX7_supply_41 : decode cX7_supply 41 = .ok (.lconst 0, 1) := by decide +kernel
theorem dX7_supply_42 : decode cX7_supply 42 = .ok (.lcmp, 1) := by decide +kernel
theorem dX7_supply_43 : decode cX7_supply 43 = .ok (.ifCond .lt 12, 3) := by decide +kernel
theorem dX7_supply_46 : decode cX7_supply 46 = .ok (.lload 4, 2) := by decide +kernel
theorem dX7_supply_48 : decode cX7_supply 48 = .ok (.ldc2_w 103, 3) := by decide +kernel
theorem dX7_supply_51 : decode cX7_supply 51 = .ok (.lcmp, 1) := by decide +kernel
theorem dX7_supply_52 : decode cX7_supply 52 = .ok (.ifCond .le 10, 3) := by decide +kernel
theorem dX7_supply_55 : decode cX7_supply 55 = .ok (.aload_n 0, 1) := by decide +kernel
theorem dX7_supply_56 : decode cX7_supply 56 = .ok (.bipush 8, 2) := by decide +kernel
theorem dX7_supply_58 : decode cX7_supply 58 = .ok (.invokevirtual 105, 3) := by decide +kernel
theorem dX7_supply_61 : decode cX7_supply 61 = .ok (.ireturn, 1) := by decide +kernel
theorem dX7_supply_62 : decode cX7_supply 62 = .ok (.aload_n 0, 1) := by decide +kernel
theorem dX7_supply_63 : decode cX7_supply 63 = .ok (.invokevirtual 51, 3) := by decide +kernel
theorem dX7_supply_66 : decode cX7_supply 66 = .ok (.aload_n 3, 1) := by decide +kernel
theorem dX7_supply_67 : decode cX7_supply 67 = .ok (.lload 4, 2) := by decide +kernel
theorem dX7_supply_69 : decode cX7_supply 69 = .ok (.putfield 97, 3) := by decide +kernel
theorem dX7_supply_72 : decode cX7_supply 72 = .ok (.aload_n 0, 1) := by decide +kernel
theorem dX7_supply_73 : decode cX7_supply 73 = .ok (.getfield 10, 3) := by decide +kernel
theorem dX7_supply_76 : decode cX7_supply 76 = .ok (.dup, 1) := by decide +kernel
theorem dX7_supply_77 : decode cX7_supply 77 = .ok (.getfield 109, 3) := by decide +kernel
theorem dX7_supply_80 : decode cX7_supply 80 = .ok (.iload_n 2, 1) := by decide +kernel
theorem dX7_supply_81 : decode cX7_supply 81 = .ok (.i2l, 1) := by decide +kernel
theorem dX7_supply_82 : decode cX7_supply 82 = .ok (.ladd, 1) := by decide +kernel
theorem dX7_supply_83 : decode cX7_supply 83 = .ok (.putfield 109, 3) := by decide +kernel
theorem dX7_supply_86 : decode cX7_supply 86 = .ok (.aload_n 0, 1) := by decide +kernel
theorem dX7_supply_87 : decode cX7_supply 87 = .ok (.getfield 10, 3) := by decide +kernel
theorem dX7_supply_90 : decode cX7_supply 90 = .ok (.invokevirtual 58, 3) := by decide +kernel
theorem dX7_supply_93 : decode cX7_supply 93 = .ok (.aload_n 3, 1) := by decide +kernel
theorem dX7_supply_94 : decode cX7_supply 94 = .ok (.invokevirtual 112, 3) := by decide +kernel
theorem dX7_supply_97 : decode cX7_supply 97 = .ok (.l2i, 1) := by decide +kernel
theorem dX7_supply_98 : decode cX7_supply 98 = .ok (.ireturn, 1) := by decide +kernel
theorem dX7_addBarge_0 : decode cX7_addBarge 0 = .ok (.aload_n 0, 1) := by decide +kernel
theorem dX7_addBarge_1 : decode cX7_addBarge 1 = .ok (.getfield 10, 3) := by decide +kernel
theorem dX7_addBarge_4 : decode cX7_addBarge 4 = .ok (.iload_n 1, 1) := by decide +kernel
theorem dX7_addBarge_5 : decode cX7_addBarge 5 = .ok (.invokevirtual 91, 3) := by decide +kernel
theorem dX7_addBarge_8 : decode cX7_addBarge 8 = .ok (.ifnonnull 6, 3) := by decide +kernel
theorem dX7_addBarge_11 : decode cX7_addBarge 11 = .ok (.ldc 78, 2) := by decide +kernel
theorem dX7_addBarge_13 : decode cX7_addBarge 13 = .ok (.ireturn, 1) := by decide +kernel
theorem dX7_addBarge_14 : decode cX7_addBarge 14 = .ok (.iload_n 2, 1) := by decide +kernel
theorem dX7_addBarge_15 : decode cX7_addBarge 15 = .ok (.iconst 5, 1) := by decide +kernel
theorem dX7_addBarge_16 : decode cX7_addBarge 16 = .ok (.bipush 60, 2) := by decide +kernel
theorem dX7_addBarge_18 : decode cX7_addBarge 18 = .ok (.invokestatic 65, 3) := by decide +kernel
theorem dX7_addBarge_21 : decode cX7_addBarge 21 = .ok (.ifCond .eq 15, 3) := by decide +kernel
theorem dX7_addBarge_24 : decode cX7_addBarge 24 = .ok (.iload_n 3, 1) := by decide +kernel
theorem dX7_addBarge_25 : decode cX7_addBarge 25 = .ok (.bipush 10, 2) := by decide +kernel
theorem dX7_addBarge_27 : decode cX7_addBarge 27 = .ok (.sipush 500, 3) := by decide +kernel
theorem dX7_addBarge_30 : decode cX7_addBarge 30 = .ok (.invokestatic 65, 3) := by decide +kernel
theorem dX7_addBarge_33 : decode cX7_addBarge 33 = .ok (.ifCond .ne 6, 3) := by decide +kernel
theorem dX7_addBarge_36 : decode cX7_addBarge 36 = .ok (.ldc 46, 2) := by decide +kernel
theorem dX7_addBarge_38 : decode cX7_addBarge 38 = .ok (.ireturn, 1) := by decide +kernel
theorem dX7_addBarge_39 : decode cX7_addBarge 39 = .ok (.iload 4, 2) := by decide +kernel
theorem dX7_addBarge_41 : decode cX7_addBarge 41 = .ok (.iconst 1, 1) := by decide +kernel
theorem dX7_addBarge_42 : decode cX7_addBarge 42 = .ok (.bipush 20, 2) := by decide +kernel
theorem dX7_addBarge_44 : decode cX7_addBarge 44 = .ok (.invokestatic 65, 3) := by decide +kernel
theorem dX7_addBarge_47 : decode cX7_addBarge 47 = .ok (.ifCond .eq 16, 3) := by decide +kernel
theorem dX7_addBarge_50 : decode cX7_addBarge 50 = .ok (.iload 5, 2) := by decide +kernel
theorem dX7_addBarge_52 : decode cX7_addBarge 52 = .ok (.bipush 10, 2) := by decide +kernel
theorem dX7_addBarge_54 : decode cX7_addBarge 54 = .ok (.sipush 1000, 3) := by decide +kernel
theorem dX7_addBarge_57 : decode cX7_addBarge 57 = .ok (.invokestatic 65, 3) := by decide +kernel
theorem dX7_addBarge_60 : decode cX7_addBarge 60 = .ok (.ifCond .ne 6, 3) := by decide +kernel
theorem dX7_addBarge_63 : decode cX7_addBarge 63 = .ok (.ldc 46, 2) := by decide +kernel
theorem dX7_addBarge_65 : decode cX7_addBarge 65 = .ok (.ireturn, 1) := by decide +kernel
theorem dX7_addBarge_66 : decode cX7_addBarge 66 = .ok (.aload_n 0, 1) := by decide +kernel
theorem dX7_addBarge_67 : decode cX7_addBarge 67 = .ok (.getfield 10, 3) := by decide +kernel
theorem dX7_addBarge_70 : decode cX7_addBarge 70 = .ok (.getfield 116, 3) := by decide +kernel
theorem dX7_addBarge_73 : decode cX7_addBarge 73 = .ok (.bipush 12, 2) := by decide +kernel
theorem dX7_addBarge_75 : decode cX7_addBarge 75 = .ok (.if_icmp .lt 6, 3) := by decide +kernel
theorem dX7_addBarge_78 : decode cX7_addBarge 78 = .ok (.ldc 50, 2) := by decide +kernel
theorem dX7_addBarge_80 : decode cX7_addBarge 80 = .ok (.ireturn, 1) := by decide +kernel
theorem dX7_addBarge_81 : decode cX7_addBarge 81 = .ok (.aload_n 0, 1) := by decide +kernel
theorem dX7_addBarge_82 : decode cX7_addBarge 82 = .ok (.invokevirtual 51, 3) := by decide +kernel
theorem dX7_addBarge_85 : decode cX7_addBarge 85 = .ok (.aload_n 0, 1) := by decide +kernel
theorem dX7_addBarge_86 : decode cX7_addBarge 86 = .ok (.getfield 10, 3) := by decide +kernel
theorem dX7_addBarge_89 : decode cX7_addBarge 89 = .ok (.getfield 116, 3) := by decide +kernel
theorem dX7_addBarge_92 : decode cX7_addBarge 92 = .ok (.istore 6, 2) := by decide +kernel
theorem dX7_addBarge_94 : decode cX7_addBarge 94 = .ok (.aload_n 0, 1) := by decide +kernel
theorem dX7_addBarge_95 : decode cX7_addBarge 95 = .ok (.getfield 10, 3) := by decide +kernel
theorem dX7_addBarge_98 : decode cX7_addBarge 98 = .ok (.iload_n 1, 1) := by decide +kernel
theorem dX7_addBarge_99 : decode cX7_addBarge 99 = .ok (.iload_n 2, 1) := by decide +kernel
theorem dX7_addBarge_100 : decode cX7_addBarge 100 = .ok (.iload_n 3, 1) := by decide +kernel
theorem dX7_addBarge_101 : decode cX7_addBarge 101 = .ok (.iload 4, 2) := by decide +kernel
theorem dX7_addBarge_103 : decode cX7_addBarge 103 = .ok (.iload 5, 2) := by decide +kernel
theorem dX7_addBarge_105 : decode cX7_addBarge 105 = .ok (.invokevirtual 119, 3) := by decide +kernel
theorem dX7_addBarge_108 : decode cX7_addBarge 108 = .ok (.aload_n 0, 1) := by decide +kernel
theorem dX7_addBarge_109 : decode cX7_addBarge 109 = .ok (.getfield 10, 3) := by decide +kernel
theorem dX7_addBarge_112 : decode cX7_addBarge 112 = .ok (.invokevirtual 58, 3) := by decide +kernel
theorem dX7_addBarge_115 : decode cX7_addBarge 115 = .ok (.iload 6, 2) := by decide +kernel
theorem dX7_addBarge_117 : decode cX7_addBarge 117 = .ok (.ireturn, 1) := by decide +kernel
theorem dX7_load_0 : decode cX7_load 0 = .ok (.aload_n 0, 1) := by decide +kernel
theorem dX7_load_1 : decode cX7_load 1 = .ok (.getfield 10, 3) := by decide +kernel
theorem dX7_load_4 : decode cX7_load 4 = .ok (.iload_n 1, 1) := by decide +kernel
theorem dX7_load_5 : decode cX7_load 5 = .ok (.invokevirtual 123, 3) := by decide +kernel
theorem dX7_load_8 : decode cX7_load 8 = .ok (.astore_n 3, 1) := by decide +kernel
theorem dX7_load_9 : decode cX7_load 9 = .ok (.aload_n 3, 1) := by decide +kernel
theorem dX7_load_10 : decode cX7_load 10 = .ok (.ifnonnull 6, 3) := by decide +kernel
theorem dX7_load_13 : decode cX7_load 13 = .ok (.ldc 78, 2) := by decide +kernel
theorem dX7_load_15 : decode cX7_load 15 = .ok (.ireturn, 1) := by decide +kernel
theorem dX7_load_16 : decode cX7_load 16 = .ok (.iload_n 2, 1) := by decide +kernel
theorem dX7_load_17 : decode cX7_load 17 = .ok (.invokestatic 127, 3) := by decide +kernel
theorem dX7_load_20 : decode cX7_load 20 = .ok (.ifCond .ne 6, 3) := by decide +kernel
theorem dX7_load_23 : decode cX7_load 23 = .ok (.ldc 46, 2) := by decide +kernel
theorem dX7_load_25 : decode cX7_load 25 = .ok (.ireturn, 1) := by decide +kernel
theorem dX7_load_26 : decode cX7_load 26 = .ok (.aload_n 0, 1) := by decide +kernel
theorem dX7_load_27 : decode cX7_load 27 = .ok (.getfield 10, 3) := by decide +kernel
theorem dX7_load_30 : decode cX7_load 30 = .ok (.aload_n 3, 1) := by decide +kernel
theorem dX7_load_31 : decode cX7_load 31 = .ok (.getfield 131, 3) := by decide +kernel
theorem dX7_load_34 : decode cX7_load 34 = .ok (.invokevirtual 136, 3) := by decide +kernel
theorem dX7_load_37 : decode cX7_load 37 = .ok (.astore 4, 2) := by decide +kernel
theorem dX7_load_39 : decode cX7_load 39 = .ok (.aload 4, 2) := by decide +kernel
theorem dX7_load_41 : decode cX7_load 41 = .ok (.ifnull 10, 3) := by decide +kernel
theorem dX7_load_44 : decode cX7_load 44 = .ok (.aload_n 3, 1) := by decide +kernel
theorem dX7_load_45 : decode cX7_load 45 = .ok (.invokevirtual 139, 3) := by decide +kernel
theorem dX7_load_48 : decode cX7_load 48 = .ok (.ifCond .eq 9, 3) := by decide +kernel
theorem dX7_load_51 : decode cX7_load 51 = .ok (.aload_n 0, 1) := by decide +kernel
theorem dX7_load_52 : decode cX7_load 52 = .ok (.iconst 4, 1) := by decide +kernel
theorem dX7_load_53 : decode cX7_load 53 = .ok (.invokevirtual 105, 3) := by decide +kernel
theorem dX7_load_56 : decode cX7_load 56 = .ok (.ireturn, 1) := by decide +kernel
theorem dX7_load_57 : decode cX7_load 57 = .ok (.aload_n 3, 1) := by decide +kernel
theorem dX7_load_58 : decode cX7_load 58 = .ok (.getfield 143, 3) := by decide +kernel
theorem dX7_load_61 : decode cX7_load 61 = .ok (.iload_n 2, 1) := by decide +kernel
theorem dX7_load_62 : decode cX7_load 62 = .ok (.iadd, 1) := by decide +kernel
theorem dX7_load_63 : decode cX7_load 63 = .ok (.ifCond .lt 11, 3) := by decide +kernel
theorem dX7_load_66 : decode cX7_load 66 = .ok (.iload_n 2, 1) := by decide +kernel
theorem dX7_load_67 : decode cX7_load 67 = .ok (.aload_n 3, 1) := by decide +kernel
theorem dX7_load_68 : decode cX7_load 68 = .ok (.invokevirtual 146, 3) := by decide +kernel
theorem dX7_load_71 : decode cX7_load 71 = .ok (.if_icmp .le 10, 3) := by decide +kernel
theorem dX7_load_74 : decode cX7_load 74 = .ok (.aload_n 0, 1) := by decide +kernel
theorem dX7_load_75 : decode cX7_load 75 = .ok (.bipush 8, 2) := by decide +kernel
theorem dX7_load_77 : decode cX7_load 77 = .ok (.invokevirtual 105, 3) := by decide +kernel
theorem dX7_load_80 : decode cX7_load 80 = .ok (.ireturn, 1) := by decide +kernel
theorem dX7_load_81 : decode cX7_load 81 = .ok (.aload_n 0, 1) := by decide +kernel
theorem dX7_load_82 : decode cX7_load 82 = .ok (.invokevirtual 51, 3) := by decide +kernel
theorem dX7_load_85 : decode cX7_load 85 = .ok (.aload_n 3, 1) := by decide +kernel
theorem dX7_load_86 : decode cX7_load 86 = .ok (.dup, 1) := by decide +kernel
theorem dX7_load_87 : decode cX7_load 87 = .ok (.getfield 143, 3) := by decide +kernel
theorem dX7_load_90 : decode cX7_load 90 = .ok (.iload_n 2, 1) := by decide +kernel
theorem dX7_load_91 : decode cX7_load 91 = .ok (.iadd, 1) := by decide +kernel
theorem dX7_load_92 : decode cX7_load 92 = .ok (.putfield 143, 3) := by decide +kernel
theorem dX7_load_95 : decode cX7_load 95 = .ok (.aload 4, 2) := by decide +kernel
theorem dX7_load_97 : decode cX7_load 97 = .ok (.dup, 1) := by decide +kernel
theorem dX7_load_98 : decode cX7_load 98 = .ok (.getfield 150, 3) := by decide +kernel
theorem dX7_load_101 : decode cX7_load 101 = .ok (.iload_n 2, 1) := by decide +kernel
theorem dX7_load_102 : decode cX7_load 102 = .ok (.i2l, 1) := by decide +kernel
theorem dX7_load_103 : decode cX7_load 103 = .ok (.ladd, 1) := by decide +kernel
theorem dX7_load_104 : decode cX7_load 104 = .ok (.putfield 150, 3) := by decide +kernel
theorem dX7_load_107 : decode cX7_load 107 = .ok (.aload_n 0, 1) := by decide +kernel
theorem dX7_load_108 : decode cX7_load 108 = .ok (.getfield 10, 3) := by decide +kernel
theorem dX7_load_111 : decode cX7_load 111 = .ok (.invokevirtual 58, 3) := by decide +kernel
theorem dX7_load_114 : decode cX7_load 114 = .ok (.aload_n 3, 1) := by decide +kernel
theorem dX7_load_115 : decode cX7_load 115 = .ok (.invokevirtual 153, 3) := by decide +kernel
theorem dX7_load_118 : decode cX7_load 118 = .ok (.ireturn, 1) := by decide +kernel
theorem dX7_pump_0 : decode cX7_pump 0 = .ok (.aload_n 0, 1) := by decide +kernel
theorem dX7_pump_1 : decode cX7_pump 1 = .ok (.getfield 10, 3) := by decide +kernel
theorem dX7_pump_4 : decode cX7_pump 4 = .ok (.iload_n 1, 1) := by decide +kernel
theorem dX7_pump_5 : decode cX7_pump 5 = .ok (.invokevirtual 123, 3) := by decide +kernel
theorem dX7_pump_8 : decode cX7_pump 8 = .ok (.astore_n 3, 1) := by decide +kernel
theorem dX7_pump_9 : decode cX7_pump 9 = .ok (.aload_n 3, 1) := by decide +kernel
theorem dX7_pump_10 : decode cX7_pump 10 = .ok (.ifnonnull 6, 3) := by decide +kernel
theorem dX7_pump_13 : decode cX7_pump 13 = .ok (.ldc 78, 2) := by decide +kernel
theorem dX7_pump_15 : decode cX7_pump 15 = .ok (.ireturn, 1) := by decide +kernel
theorem dX7_pump_16 : decode cX7_pump 16 = .ok (.iload_n 2, 1) := by decide +kernel
theorem dX7_pump_17 : decode cX7_pump 17 = .ok (.invokestatic 127, 3) := by decide +kernel
theorem dX7_pump_20 : decode cX7_pump 20 = .ok (.ifCond .ne 6, 3) := by decide +kernel
theorem dX7_pump_23 : decode cX7_pump 23 = .ok (.ldc 46, 2) := by decide +kernel
theorem dX7_pump_25 : decode cX7_pump 25 = .ok (.ireturn, 1) := by decide +kernel
theorem dX7_pump_26 : decode cX7_pump 26 = .ok (.aload_n 0, 1) := by decide +kernel
theorem dX7_pump_27 : decode cX7_pump 27 = .ok (.getfield 10, 3) := by decide +kernel
theorem dX7_pump_30 : decode cX7_pump 30 = .ok (.aload_n 3, 1) := by decide +kernel
theorem dX7_pump_31 : decode cX7_pump 31 = .ok (.getfield 131, 3) := by decide +kernel
theorem dX7_pump_34 : decode cX7_pump 34 = .ok (.invokevirtual 136, 3) := by decide +kernel
theorem dX7_pump_37 : decode cX7_pump 37 = .ok (.astore 4, 2) := by decide +kernel
theorem dX7_pump_39 : decode cX7_pump 39 = .ok (.aload 4, 2) := by decide +kernel
theorem dX7_pump_41 : decode cX7_pump 41 = .ok (.ifnull 14, 3) := by decide +kernel
theorem dX7_pump_44 : decode cX7_pump 44 = .ok (.iload_n 2, 1) := by decide +kernel
theorem dX7_pump_45 : decode cX7_pump 45 = .ok (.i2l, 1) := by decide +kernel
theorem dX7_pump_46 : decode cX7_pump 46 = .ok (.aload 4, 2) := by decide +kernel
theorem dX7_pump_48 : decode cX7_pump 48 = .ok (.getfield 97, 3) := by decide +kernel
theorem dX7_pump_51 : decode cX7_pump 51 = .ok (.lcmp, 1) := by decide +kernel
theorem dX7_pump_52 : decode cX7_pump 52 = .ok (.ifCond .le 10, 3) := by decide +kernel
theorem dX7_pump_55 : decode cX7_pump 55 = .ok (.aload_n 0, 1) := by decide +kernel
theorem dX7_pump_56 : decode cX7_pump 56 = .ok (.bipush 8, 2) := by decide +kernel
theorem dX7_pump_58 : decode cX7_pump 58 = .ok (.invokevirtual 105, 3) := by decide +kernel
theorem dX7_pump_61 : decode cX7_pump 61 = .ok (.ireturn, 1) := by decide +kernel
theorem dX7_pump_62 : decode cX7_pump 62 = .ok (.aload_n 3, 1) := by decide +kernel
theorem dX7_pump_63 : decode cX7_pump 63 = .ok (.getfield 156, 3) := by decide +kernel
theorem dX7_pump_66 : decode cX7_pump 66 = .ok (.iload_n 2, 1) := by decide +kernel
theorem dX7_pump_67 : decode cX7_pump 67 = .ok (.iadd, 1) := by decide +kernel
theorem dX7_pump_68 : decode cX7_pump 68 = .ok (.ifCond .lt 11, 3) := by decide +kernel
theorem dX7_pump_71 : decode cX7_pump 71 = .ok (.iload_n 2, 1) := by decide +kernel
theorem dX7_pump_72 : decode cX7_pump 72 = .ok (.aload_n 3, 1) := by decide +kernel
theorem dX7_pump_73 : decode cX7_pump 73 = .ok (.invokevirtual 146, 3) := by decide +kernel
theorem dX7_pump_76 : decode cX7_pump 76 = .ok (.if_icmp .le 10, 3) := by decide +kernel
theorem dX7_pump_79 : decode cX7_pump 79 = .ok (.aload_n 0, 1) := by decide +kernel
theorem dX7_pump_80 : decode cX7_pump 80 = .ok (.bipush 8, 2) := by decide +kernel
theorem dX7_pump_82 : decode cX7_pump 82 = .ok (.invokevirtual 105, 3) := by decide +kernel
theorem dX7_pump_85 : decode cX7_pump 85 = .ok (.ireturn, 1) := by decide +kernel
theorem dX7_pump_86 : decode cX7_pump 86 = .ok (.aload_n 0, 1) := by decide +kernel
theorem dX7_pump_87 : decode cX7_pump 87 = .ok (.invokevirtual 51, 3) := by decide +kernel
theorem dX7_pump_90 : decode cX7_pump 90 = .ok (.aload_n 3, 1) := by decide +kernel
theorem dX7_pump_91 : decode cX7_pump 91 = .ok (.dup, 1) := by decide +kernel
theorem dX7_pump_92 : decode cX7_pump 92 = .ok (.getfield 156, 3) := by decide +kernel
theorem dX7_pump_95 : decode cX7_pump 95 = .ok (.iload_n 2, 1) := by decide +kernel
theorem dX7_pump_96 : decode cX7_pump 96 = .ok (.iadd, 1) := by decide +kernel
theorem dX7_pump_97 : decode cX7_pump 97 = .ok (.putfield 156, 3) := by decide +kernel
theorem dX7_pump_100 : decode cX7_pump 100 = .ok (.aload 4, 2) := by decide +kernel
theorem dX7_pump_102 : decode cX7_pump 102 = .ok (.dup, 1) := by decide +kernel
theorem dX7_pump_103 : decode cX7_pump 103 = .ok (.getfield 150, 3) := by decide +kernel
theorem dX7_pump_106 : decode cX7_pump 106 = .ok (.iload_n 2, 1) := by decide +kernel
theorem dX7_pump_107 : decode cX7_pump 107 = .ok (.i2l, 1) := by decide +kernel
theorem dX7_pump_108 : decode cX7_pump 108 = .ok (.ladd, 1) := by decide +kernel
theorem dX7_pump_109 : decode cX7_pump 109 = .ok (.putfield 150, 3) := by decide +kernel
theorem dX7_pump_112 : decode cX7_pump 112 = .ok (.aload 4, 2) := by decide +kernel
theorem dX7_pump_114 : decode cX7_pump 114 = .ok (.dup, 1) := by decide +kernel
theorem dX7_pump_115 : decode cX7_pump 115 = .ok (.getfield 97, 3) := by decide +kernel
theorem dX7_pump_118 : decode cX7_pump 118 = .ok (.iload_n 2, 1) := by decide +kernel
theorem dX7_pump_119 : decode cX7_pump 119 = .ok (.i2l, 1) := by decide +kernel
theorem dX7_pump_120 : decode cX7_pump 120 = .ok (.lsub, 1) := by decide +kernel
theorem dX7_pump_121 : decode cX7_pump 121 = .ok (.putfield 97, 3) := by decide +kernel
theorem dX7_pump_124 : decode cX7_pump 124 = .ok (.aload_n 0, 1) := by decide +kernel
theorem dX7_pump_125 : decode cX7_pump 125 = .ok (.getfield 10, 3) := by decide +kernel
theorem dX7_pump_128 : decode cX7_pump 128 = .ok (.invokevirtual 58, 3) := by decide +kernel
theorem dX7_pump_131 : decode cX7_pump 131 = .ok (.aload_n 3, 1) := by decide +kernel
theorem dX7_pump_132 : decode cX7_pump 132 = .ok (.invokevirtual 153, 3) := by decide +kernel
theorem dX7_pump_135 : decode cX7_pump 135 = .ok (.ireturn, 1) := by decide +kernel
theorem dX7_sluice_0 : decode cX7_sluice 0 = .ok (.aload_n 0, 1) := by decide +kernel
theorem dX7_sluice_1 : decode cX7_sluice 1 = .ok (.getfield 10, 3) := by decide +kernel
theorem dX7_sluice_4 : decode cX7_sluice 4 = .ok (.iload_n 1, 1) := by decide +kernel
theorem dX7_sluice_5 : decode cX7_sluice 5 = .ok (.invokevirtual 159, 3) := by decide +kernel
theorem dX7_sluice_8 : decode cX7_sluice 8 = .ok (.astore_n 3, 1) := by decide +kernel
theorem dX7_sluice_9 : decode cX7_sluice 9 = .ok (.aload_n 0, 1) := by decide +kernel
theorem dX7_sluice_10 : decode cX7_sluice 10 = .ok (.getfield 10, 3) := by decide +kernel
theorem dX7_sluice_13 : decode cX7_sluice 13 = .ok (.iload_n 1, 1) := by decide +kernel
theorem dX7_sluice_14 : decode cX7_sluice 14 = .ok (.iload_n 2, 1) := by decide +kernel
theorem dX7_sluice_15 : decode cX7_sluice 15 = .ok (.invokevirtual 163, 3) := by decide +kernel
theorem dX7_sluice_18 : decode cX7_sluice 18 = .ok (.astore 4, 2) := by decide +kernel
theorem dX7_sluice_20 : decode cX7_sluice 20 = .ok (.aload_n 3, 1) := by decide +kernel
theorem dX7_sluice_21 : decode cX7_sluice 21 = .ok (.ifnull 8, 3) := by decide +kernel
theorem dX7_sluice_24 : decode cX7_sluice 24 = .ok (.aload 4, 2) := by decide +kernel
theorem dX7_sluice_26 : decode cX7_sluice 26 = .ok (.ifnonnull 6, 3) := by decide +kernel
theorem dX7_sluice_29 : decode cX7_sluice 29 = .ok (.ldc 78, 2) := by decide +kernel
theorem dX7_sluice_31 : decode cX7_sluice 31 = .ok (.ireturn, 1) := by decide +kernel
theorem dX7_sluice_32 : decode cX7_sluice 32 = .ok (.aload_n 3, 1) := by decide +kernel
theorem dX7_sluice_33 : decode cX7_sluice 33 = .ok (.getfield 167, 3) := by decide +kernel
theorem dX7_sluice_36 : decode cX7_sluice 36 = .ok (.iconst (-1), 1) := by decide +kernel
theorem dX7_sluice_37 : decode cX7_sluice 37 = .ok (.if_icmp .eq 9, 3) := by decide +kernel
theorem dX7_sluice_40 : decode cX7_sluice 40 = .ok (.aload_n 0, 1) := by decide +kernel
theorem dX7_sluice_41 : decode cX7_sluice 41 = .ok (.iconst 1, 1) := by decide +kernel
theorem dX7_sluice_42 : decode cX7_sluice 42 = .ok (.invokevirtual 105, 3) := by decide +kernel
theorem dX7_sluice_45 : decode cX7_sluice 45 = .ok (.ireturn, 1) := by decide +kernel
theorem dX7_sluice_46 : decode cX7_sluice 46 = .ok (.aload_n 0, 1) := by decide +kernel
theorem dX7_sluice_47 : decode cX7_sluice 47 = .ok (.invokevirtual 51, 3) := by decide +kernel
theorem dX7_sluice_50 : decode cX7_sluice 50 = .ok (.aload_n 3, 1) := by decide +kernel
theorem dX7_sluice_51 : decode cX7_sluice 51 = .ok (.getfield 172, 3) := by decide +kernel
theorem dX7_sluice_54 : decode cX7_sluice 54 = .ok (.aload 4, 2) := by decide +kernel
theorem dX7_sluice_56 : decode cX7_sluice 56 = .ok (.invokevirtual 176, 3) := by decide +kernel
theorem dX7_sluice_59 : decode cX7_sluice 59 = .ok (.aload_n 0, 1) := by decide +kernel
theorem dX7_sluice_60 : decode cX7_sluice 60 = .ok (.getfield 10, 3) := by decide +kernel
theorem dX7_sluice_63 : decode cX7_sluice 63 = .ok (.invokevirtual 58, 3) := by decide +kernel
theorem dX7_sluice_66 : decode cX7_sluice 66 = .ok (.aload_n 3, 1) := by decide +kernel
theorem dX7_sluice_67 : decode cX7_sluice 67 = .ok (.getfield 172, 3) := by decide +kernel
theorem dX7_sluice_70 : decode cX7_sluice 70 = .ok (.invokevirtual 112, 3) := by decide +kernel
theorem dX7_sluice_73 : decode cX7_sluice 73 = .ok (.l2i, 1) := by decide +kernel
theorem dX7_sluice_74 : decode cX7_sluice 74 = .ok (.ireturn, 1) := by decide +kernel
theorem dX7_open_0 : decode cX7_open 0 = .ok (.aload_n 0, 1) := by decide +kernel
theorem dX7_open_1 : decode cX7_open 1 = .ok (.getfield 10, 3) := by decide +kernel
theorem dX7_open_4 : decode cX7_open 4 = .ok (.iload_n 1, 1) := by decide +kernel
theorem dX7_open_5 : decode cX7_open 5 = .ok (.invokevirtual 159, 3) := by decide +kernel
theorem dX7_open_8 : decode cX7_open 8 = .ok (.astore_n 3, 1) := by decide +kernel
theorem dX7_open_9 : decode cX7_open 9 = .ok (.aload_n 0, 1) := by decide +kernel
theorem dX7_open_10 : decode cX7_open 10 = .ok (.getfield 10, 3) := by decide +kernel
theorem dX7_open_13 : decode cX7_open 13 = .ok (.iload_n 1, 1) := by decide +kernel
theorem dX7_open_14 : decode cX7_open 14 = .ok (.iload_n 2, 1) := by decide +kernel
theorem dX7_open_15 : decode cX7_open 15 = .ok (.invokevirtual 163, 3) := by decide +kernel
theorem dX7_open_18 : decode cX7_open 18 = .ok (.astore 4, 2) := by decide +kernel
theorem dX7_open_20 : decode cX7_open 20 = .ok (.aload_n 3, 1) := by decide +kernel
theorem dX7_open_21 : decode cX7_open 21 = .ok (.ifnull 8, 3) := by decide +kernel
theorem dX7_open_24 : decode cX7_open 24 = .ok (.aload 4, 2) := by decide +kernel
theorem dX7_open_26 : decode cX7_open 26 = .ok (.ifnonnull 6, 3) := by decide +kernel
theorem dX7_open_29 : decode cX7_open 29 = .ok (.ldc 78, 2) := by decide +kernel
theorem dX7_open_31 : decode cX7_open 31 = .ok (.ireturn, 1) := by decide +kernel
theorem dX7_open_32 : decode cX7_open 32 = .ok (.aload_n 3, 1) := by decide +kernel
theorem dX7_open_33 : decode cX7_open 33 = .ok (.getfield 167, 3) := by decide +kernel
theorem dX7_open_36 : decode cX7_open 36 = .ok (.iconst (-1), 1) := by decide +kernel
theorem dX7_open_37 : decode cX7_open 37 = .ok (.if_icmp .eq 9, 3) := by decide +kernel
theorem dX7_open_40 : decode cX7_open 40 = .ok (.aload_n 0, 1) := by decide +kernel
theorem dX7_open_41 : decode cX7_open 41 = .ok (.iconst 1, 1) := by decide +kernel
theorem dX7_open_42 : decode cX7_open 42 = .ok (.invokevirtual 105, 3) := by decide +kernel
theorem dX7_open_45 : decode cX7_open 45 = .ok (.ireturn, 1) := by decide +kernel
theorem dX7_open_46 : decode cX7_open 46 = .ok (.aload_n 3, 1) := by decide +kernel
theorem dX7_open_47 : decode cX7_open 47 = .ok (.getfield 172, 3) := by decide +kernel
theorem dX7_open_50 : decode cX7_open 50 = .ok (.invokevirtual 112, 3) := by decide +kernel
theorem dX7_open_53 : decode cX7_open 53 = .ok (.aload 4, 2) := by decide +kernel
theorem dX7_open_55 : decode cX7_open 55 = .ok (.invokevirtual 112, 3) := by decide +kernel
theorem dX7_open_58 : decode cX7_open 58 = .ok (.lsub, 1) := by decide +kernel
theorem dX7_open_59 : decode cX7_open 59 = .ok (.invokestatic 180, 3) := by decide +kernel
theorem dX7_open_62 : decode cX7_open 62 = .ok (.ldc2_w 186, 3) := by decide +kernel
theorem dX7_open_65 : decode cX7_open 65 = .ok (.lcmp, 1) := by decide +kernel
theorem dX7_open_66 : decode cX7_open 66 = .ok (.ifCond .le 9, 3) := by decide +kernel
theorem dX7_open_69 : decode cX7_open 69 = .ok (.aload_n 0, 1) := by decide +kernel
theorem dX7_open_70 : decode cX7_open 70 = .ok (.iconst 3, 1) := by decide +kernel
theorem dX7_open_71 : decode cX7_open 71 = .ok (.invokevirtual 105, 3) := by decide +kernel
theorem dX7_open_74 : decode cX7_open 74 = .ok (.ireturn, 1) := by decide +kernel
theorem dX7_open_75 : decode cX7_open 75 = .ok (.aload_n 0, 1) := by decide +kernel
theorem dX7_open_76 : decode cX7_open 76 = .ok (.invokevirtual 51, 3) := by decide +kernel
theorem dX7_open_79 : decode cX7_open 79 = .ok (.aload_n 3, 1) := by decide +kernel
theorem dX7_open_80 : decode cX7_open 80 = .ok (.iload_n 2, 1) := by decide +kernel
theorem dX7_open_81 : decode cX7_open 81 = .ok (.putfield 167, 3) := by decide +kernel
theorem dX7_open_84 : decode cX7_open 84 = .ok (.aload_n 0, 1) := by decide +kernel
theorem dX7_open_85 : decode cX7_open 85 = .ok (.getfield 10, 3) := by decide +kernel
theorem dX7_open_88 : decode cX7_open 88 = .ok (.invokevirtual 58, 3) := by decide +kernel
theorem dX7_open_91 : decode cX7_open 91 = .ok (.aload_n 3, 1) := by decide +kernel
theorem dX7_open_92 : decode cX7_open 92 = .ok (.getfield 172, 3) := by decide +kernel
theorem dX7_open_95 : decode cX7_open 95 = .ok (.invokevirtual 112, 3) := by decide +kernel
theorem dX7_open_98 : decode cX7_open 98 = .ok (.l2i, 1) := by decide +kernel
theorem dX7_open_99 : decode cX7_open 99 = .ok (.ireturn, 1) := by decide +kernel
theorem dX7_close_0 : decode cX7_close 0 = .ok (.aload_n 0, 1) := by decide +kernel
theorem dX7_close_1 : decode cX7_close 1 = .ok (.getfield 10, 3) := by decide +kernel
theorem dX7_close_4 : decode cX7_close 4 = .ok (.iload_n 1, 1) := by decide +kernel
theorem dX7_close_5 : decode cX7_close 5 = .ok (.invokevirtual 159, 3) := by decide +kernel
theorem dX7_close_8 : decode cX7_close 8 = .ok (.astore_n 2, 1) := by decide +kernel
theorem dX7_close_9 : decode cX7_close 9 = .ok (.aload_n 2, 1) := by decide +kernel
theorem dX7_close_10 : decode cX7_close 10 = .ok (.ifnonnull 6, 3) := by decide +kernel
theorem dX7_close_13 : decode cX7_close 13 = .ok (.ldc 78, 2) := by decide +kernel
theorem dX7_close_15 : decode cX7_close 15 = .ok (.ireturn, 1) := by decide +kernel
theorem dX7_close_16 : decode cX7_close 16 = .ok (.aload_n 2, 1) := by decide +kernel
theorem dX7_close_17 : decode cX7_close 17 = .ok (.getfield 167, 3) := by decide +kernel
theorem dX7_close_20 : decode cX7_close 20 = .ok (.iconst (-1), 1) := by decide +kernel
theorem dX7_close_21 : decode cX7_close 21 = .ok (.if_icmp .ne 9, 3) := by decide +kernel
theorem dX7_close_24 : decode cX7_close 24 = .ok (.aload_n 0, 1) := by decide +kernel
theorem dX7_close_25 : decode cX7_close 25 = .ok (.iconst 2, 1) := by decide +kernel
theorem dX7_close_26 : decode cX7_close 26 = .ok (.invokevirtual 105, 3) := by decide +kernel
theorem dX7_close_29 : decode cX7_close 29 = .ok (.ireturn, 1) := by decide +kernel
theorem dX7_close_30 : decode cX7_close 30 = .ok (.aload_n 0, 1) := by decide +kernel
theorem dX7_close_31 : decode cX7_close 31 = .ok (.invokevirtual 51, 3) := by decide +kernel
theorem dX7_close_34 : decode cX7_close 34 = .ok (.aload_n 2, 1) := by decide +kernel
theorem dX7_close_35 : decode cX7_close 35 = .ok (.getfield 167, 3) := by decide +kernel
theorem dX7_close_38 : decode cX7_close 38 = .ok (.istore_n 3, 1) := by decide +kernel
theorem dX7_close_39 : decode cX7_close 39 = .ok (.aload_n 2, 1) := by decide +kernel
theorem dX7_close_40 : decode cX7_close 40 = .ok (.iconst (-1), 1) := by decide +kernel
theorem dX7_close_41 : decode cX7_close 41 = .ok (.putfield 167, 3) := by decide +kernel
theorem dX7_close_44 : decode cX7_close 44 = .ok (.aload_n 0, 1) := by decide +kernel
theorem dX7_close_45 : decode cX7_close 45 = .ok (.getfield 10, 3) := by decide +kernel
theorem dX7_close_48 : decode cX7_close 48 = .ok (.invokevirtual 58, 3) := by decide +kernel
theorem dX7_close_51 : decode cX7_close 51 = .ok (.iload_n 3, 1) := by decide +kernel
theorem dX7_close_52 : decode cX7_close 52 = .ok (.ireturn, 1) := by decide +kernel
theorem dX7_enter_0 : decode cX7_enter 0 = .ok (.aload_n 0, 1) := by decide +kernel
theorem dX7_enter_1 : decode cX7_enter 1 = .ok (.getfield 10, 3) := by decide +kernel
theorem dX7_enter_4 : decode cX7_enter 4 = .ok (.iload_n 1, 1) := by decide +kernel
theorem dX7_enter_5 : decode cX7_enter 5 = .ok (.invokevirtual 123, 3) := by decide +kernel
theorem dX7_enter_8 : decode cX7_enter 8 = .ok (.astore_n 3, 1) := by decide +kernel
theorem dX7_enter_9 : decode cX7_enter 9 = .ok (.aload_n 0, 1) := by decide +kernel
theorem dX7_enter_10 : decode cX7_enter 10 = .ok (.getfield 10, 3) := by decide +kernel
theorem dX7_enter_13 : decode cX7_enter 13 = .ok (.iload_n 2, 1) := by decide +kernel
theorem dX7_enter_14 : decode cX7_enter 14 = .ok (.invokevirtual 159, 3) := by decide +kernel
theorem dX7_enter_17 : decode cX7_enter 17 = .ok (.astore 4, 2) := by decide +kernel
theorem dX7_enter_19 : decode cX7_enter 19 = .ok (.aload_n 3, 1) := by decide +kernel
theorem dX7_enter_20 : decode cX7_enter 20 = .ok (.ifnull 8, 3) := by decide +kernel
theorem dX7_enter_23 : decode cX7_enter 23 = .ok (.aload 4, 2) := by decide +kernel
theorem dX7_enter_25 : decode cX7_enter 25 = .ok (.ifnonnull 6, 3) := by decide +kernel
theorem dX7_enter_28 : decode cX7_enter 28 = .ok (.ldc 78, 2) := by decide +kernel
theorem dX7_enter_30 : decode cX7_enter 30 = .ok (.ireturn, 1) := by decide +kernel
theorem dX7_enter_31 : decode cX7_enter 31 = .ok (.aload 4, 2) := by decide +kernel
theorem dX7_enter_33 : decode cX7_enter 33 = .ok (.aload 4, 2) := by decide +kernel
theorem dX7_enter_35 : decode cX7_enter 35 = .ok (.getfield 167, 3) := by decide +kernel
theorem dX7_enter_38 : decode cX7_enter 38 = .ok (.invokevirtual 188, 3) := by decide +kernel
theorem dX7_enter_41 : decode cX7_enter 41 = .ok (.astore 5, 2) := by decide +kernel
theorem dX7_enter_43 : decode cX7_enter 43 = .ok (.aload 5, 2) := by decide +kernel
theorem dX7_enter_45 : decode cX7_enter 45 = .ok (.ifnonnull 9, 3) := by decide +kernel
theorem dX7_enter_48 : decode cX7_enter 48 = .ok (.aload_n 0, 1) := by decide +kernel
theorem dX7_enter_49 : decode cX7_enter 49 = .ok (.iconst 2, 1) := by decide +kernel
theorem dX7_enter_50 : decode cX7_enter 50 = .ok (.invokevirtual 105, 3) := by decide +kernel
theorem dX7_enter_53 : decode cX7_enter 53 = .ok (.ireturn, 1) := by decide +kernel
theorem dX7_enter_54 : decode cX7_enter 54 = .ok (.aload_n 3, 1) := by decide +kernel
theorem dX7_enter_55 : decode cX7_enter 55 = .ok (.getfield 131, 3) := by decide +kernel
theorem dX7_enter_58 : decode cX7_enter 58 = .ok (.iload_n 2, 1) := by decide +kernel
theorem dX7_enter_59 : decode cX7_enter 59 = .ok (.aload 4, 2) := by decide +kernel
theorem dX7_enter_61 : decode cX7_enter 61 = .ok (.getfield 167, 3) := by decide +kernel
theorem dX7_enter_64 : decode cX7_enter 64 = .ok (.iadd, 1) := by decide +kernel
theorem dX7_enter_65 : decode cX7_enter 65 = .ok (.if_icmp .eq 9, 3) := by decide +kernel
theorem dX7_enter_68 : decode cX7_enter 68 = .ok (.aload_n 0, 1) := by decide +kernel
theorem dX7_enter_69 : decode cX7_enter 69 = .ok (.iconst 4, 1) := by decide +kernel
theorem dX7_enter_70 : decode cX7_enter 70 = .ok (.invokevirtual 105, 3) := by decide +kernel
theorem dX7_enter_73 : decode cX7_enter 73 = .ok (.ireturn, 1) := by decide +kernel
theorem dX7_enter_74 : decode cX7_enter 74 = .ok (.aload_n 0, 1) := by decide +kernel
theorem dX7_enter_75 : decode cX7_enter 75 = .ok (.getfield 10, 3) := by decide +kernel
theorem dX7_enter_78 : decode cX7_enter 78 = .ok (.aload_n 3, 1) := by decide +kernel
theorem dX7_enter_79 : decode cX7_enter 79 = .ok (.invokevirtual 192, 3) := by decide +kernel
theorem dX7_enter_82 : decode cX7_enter 82 = .ok (.ifCond .eq 9, 3) := by decide +kernel
theorem dX7_enter_85 : decode cX7_enter 85 = .ok (.aload_n 0, 1) := by decide +kernel
theorem dX7_enter_86 : decode cX7_enter 86 = .ok (.iconst 5, 1) := by decide +kernel
theorem dX7_enter_87 : decode cX7_enter 87 = .ok (.invokevirtual 105, 3) := by decide +kernel
theorem dX7_enter_90 : decode cX7_enter 90 = .ok (.ireturn, 1) := by decide +kernel
theorem dX7_enter_91 : decode cX7_enter 91 = .ok (.aload_n 3, 1) := by decide +kernel
theorem dX7_enter_92 : decode cX7_enter 92 = .ok (.getfield 196, 3) := by decide +kernel
theorem dX7_enter_95 : decode cX7_enter 95 = .ok (.aload 4, 2) := by decide +kernel
theorem dX7_enter_97 : decode cX7_enter 97 = .ok (.getfield 199, 3) := by decide +kernel
theorem dX7_enter_100 : decode cX7_enter 100 = .ok (.if_icmp .le 10, 3) := by decide +kernel
theorem dX7_enter_103 : decode cX7_enter 103 = .ok (.aload_n 0, 1) := by decide +kernel
theorem dX7_enter_104 : decode cX7_enter 104 = .ok (.bipush 6, 2) := by decide +kernel
theorem dX7_enter_106 : decode cX7_enter 106 = .ok (.invokevirtual 105, 3) := by decide +kernel
theorem dX7_enter_109 : decode cX7_enter 109 = .ok (.ireturn, 1) := by decide +kernel
theorem dX7_enter_110 : decode cX7_enter 110 = .ok (.aload_n 3, 1) := by decide +kernel
theorem dX7_enter_111 : decode cX7_enter 111 = .ok (.invokevirtual 153, 3) := by decide +kernel
theorem dX7_enter_114 : decode cX7_enter 114 = .ok (.i2l, 1) := by decide +kernel
theorem dX7_enter_115 : decode cX7_enter 115 = .ok (.aload_n 0, 1) := by decide +kernel
theorem dX7_enter_116 : decode cX7_enter 116 = .ok (.getfield 10, 3) := by decide +kernel
theorem dX7_enter_119 : decode cX7_enter 119 = .ok (.aload 4, 2) := by decide +kernel
theorem dX7_enter_121 : decode cX7_enter 121 = .ok (.aload 5, 2) := by decide +kernel
theorem dX7_enter_123 : decode cX7_enter 123 = .ok (.invokevirtual 202, 3) := by decide +kernel
theorem dX7_enter_126 : decode cX7_enter 126 = .ok (.lcmp, 1) := by decide +kernel
theorem dX7_enter_127 : decode cX7_enter 127 = .ok (.ifCond .le 10, 3) := by decide +kernel
theorem dX7_enter_130 : decode cX7_enter 130 = .ok (.aload_n 0, 1) := by decide +kernel
theorem dX7_enter_131 : decode cX7_enter 131 = .ok (.bipush 7, 2) := by decide +kernel
theorem dX7_enter_133 : decode cX7_enter 133 = .ok (.invokevirtual 105, 3) := by decide +kernel
theorem dX7_enter_136 : decode cX7_enter 136 = .ok (.ireturn, 1) := by decide +kernel
theorem dX7_enter_137 : decode cX7_enter 137 = .ok (.aload_n 0, 1) := by decide +kernel
theorem dX7_enter_138 : decode cX7_enter 138 = .ok (.invokevirtual 51, 3) := by decide +kernel
theorem dX7_enter_141 : decode cX7_enter 141 = .ok (.aload 4, 2) := by decide +kernel
theorem dX7_enter_143 : decode cX7_enter 143 = .ok (.iload_n 1, 1) := by decide +kernel
theorem dX7_enter_144 : decode cX7_enter 144 = .ok (.aload_n 3, 1) := by decide +kernel
theorem dX7_enter_145 : decode cX7_enter 145 = .ok (.getfield 196, 3) := by decide +kernel
theorem dX7_enter_148 : decode cX7_enter 148 = .ok (.aload 4, 2) := by decide +kernel
theorem dX7_enter_150 : decode cX7_enter 150 = .ok (.getfield 167, 3) := by decide +kernel
theorem dX7_enter_153 : decode cX7_enter 153 = .ok (.invokevirtual 206, 3) := by decide +kernel
theorem dX7_enter_156 : decode cX7_enter 156 = .ok (.aload_n 0, 1) := by decide +kernel
theorem dX7_enter_157 : decode cX7_enter 157 = .ok (.getfield 10, 3) := by decide +kernel
theorem dX7_enter_160 : decode cX7_enter 160 = .ok (.aload_n 3, 1) := by decide +kernel
theorem dX7_enter_161 : decode cX7_enter 161 = .ok (.bipush 100, 2) := by decide +kernel
theorem dX7_enter_163 : decode cX7_enter 163 = .ok (.iload_n 2, 1) := by decide +kernel
theorem dX7_enter_164 : decode cX7_enter 164 = .ok (.iadd, 1) := by decide +kernel
theorem dX7_enter_165 : decode cX7_enter 165 = .ok (.invokevirtual 209, 3) := by decide +kernel
theorem dX7_enter_168 : decode cX7_enter 168 = .ok (.aload 5, 2) := by decide +kernel
theorem dX7_enter_170 : decode cX7_enter 170 = .ok (.invokevirtual 213, 3) := by decide +kernel
theorem dX7_enter_173 : decode cX7_enter 173 = .ok (.aload_n 0, 1) := by decide +kernel
theorem dX7_enter_174 : decode cX7_enter 174 = .ok (.getfield 10, 3) := by decide +kernel
theorem dX7_enter_177 : decode cX7_enter 177 = .ok (.invokevirtual 58, 3) := by decide +kernel
theorem dX7_enter_180 : decode cX7_enter 180 = .ok (.aload 4, 2) := by decide +kernel
theorem dX7_enter_182 : decode cX7_enter 182 = .ok (.getfield 199, 3) := by decide +kernel
theorem dX7_enter_185 : decode cX7_enter 185 = .ok (.ireturn, 1) := by decide +kernel
theorem dX7_leave_0 : decode cX7_leave 0 = .ok (.aload_n 0, 1) := by decide +kernel
theorem dX7_leave_1 : decode cX7_leave 1 = .ok (.getfield 10, 3) := by decide +kernel
theorem dX7_leave_4 : decode cX7_leave 4 = .ok (.iload_n 1, 1) := by decide +kernel
theorem dX7_leave_5 : decode cX7_leave 5 = .ok (.invokevirtual 159, 3) := by decide +kernel
theorem dX7_leave_8 : decode cX7_leave 8 = .ok (.astore_n 3, 1) := by decide +kernel
theorem dX7_leave_9 : decode cX7_leave 9 = .ok (.aload_n 0, 1) := by decide +kernel
theorem dX7_leave_10 : decode cX7_leave 10 = .ok (.getfield 10, 3) := by decide +kernel
theorem dX7_leave_13 : decode cX7_leave 13 = .ok (.iload_n 1, 1) := by decide +kernel
theorem dX7_leave_14 : decode cX7_leave 14 = .ok (.iload_n 2, 1) := by decide +kernel
theorem dX7_leave_15 : decode cX7_leave 15 = .ok (.invokevirtual 74, 3) := by decide +kernel
theorem dX7_leave_18 : decode cX7_leave 18 = .ok (.astore 4, 2) := by decide +kernel
theorem dX7_leave_20 : decode cX7_leave 20 = .ok (.aload_n 3, 1) := by decide +kernel
theorem dX7_leave_21 : decode cX7_leave 21 = .ok (.ifnull 8, 3) := by decide +kernel
theorem dX7_leave_24 : decode cX7_leave 24 = .ok (.aload 4, 2) := by decide +kernel
theorem dX7_leave_26 : decode cX7_leave 26 = .ok (.ifnonnull 6, 3) := by decide +kernel
theorem dX7_leave_29 : decode cX7_leave 29 = .ok (.ldc 78, 2) := by decide +kernel
theorem dX7_leave_31 : decode cX7_leave 31 = .ok (.ireturn, 1) := by decide +kernel
theorem dX7_leave_32 : decode cX7_leave 32 = .ok (.aload_n 3, 1) := by decide +kernel
theorem dX7_leave_33 : decode cX7_leave 33 = .ok (.getfield 167, 3) := by decide +kernel
theorem dX7_leave_36 : decode cX7_leave 36 = .ok (.iload_n 2, 1) := by decide +kernel
theorem dX7_leave_37 : decode cX7_leave 37 = .ok (.if_icmp .eq 9, 3) := by decide +kernel
theorem dX7_leave_40 : decode cX7_leave 40 = .ok (.aload_n 0, 1) := by decide +kernel
theorem dX7_leave_41 : decode cX7_leave 41 = .ok (.iconst 2, 1) := by decide +kernel
theorem dX7_leave_42 : decode cX7_leave 42 = .ok (.invokevirtual 105, 3) := by decide +kernel
theorem dX7_leave_45 : decode cX7_leave 45 = .ok (.ireturn, 1) := by decide +kernel
theorem dX7_leave_46 : decode cX7_leave 46 = .ok (.aload_n 3, 1) := by decide +kernel
theorem dX7_leave_47 : decode cX7_leave 47 = .ok (.iload_n 2, 1) := by decide +kernel
theorem dX7_leave_48 : decode cX7_leave 48 = .ok (.invokevirtual 216, 3) := by decide +kernel
theorem dX7_leave_51 : decode cX7_leave 51 = .ok (.istore 5, 2) := by decide +kernel
theorem dX7_leave_53 : decode cX7_leave 53 = .ok (.aload_n 0, 1) := by decide +kernel
theorem dX7_leave_54 : decode cX7_leave 54 = .ok (.getfield 10, 3) := by decide +kernel
theorem dX7_leave_57 : decode cX7_leave 57 = .ok (.iload 5, 2) := by decide +kernel
theorem dX7_leave_59 : decode cX7_leave 59 = .ok (.invokevirtual 123, 3) := by decide +kernel
theorem dX7_leave_62 : decode cX7_leave 62 = .ok (.astore 6, 2) := by decide +kernel
theorem dX7_leave_64 : decode cX7_leave 64 = .ok (.aload 6, 2) := by decide +kernel
theorem dX7_leave_66 : decode cX7_leave 66 = .ok (.ifnonnull 9, 3) := by decide +kernel
theorem dX7_leave_69 : decode cX7_leave 69 = .ok (.aload_n 0, 1) := by decide +kernel
theorem dX7_leave_70 : decode cX7_leave 70 = .ok (.iconst 4, 1) := by decide +kernel
theorem dX7_leave_71 : decode cX7_leave 71 = .ok (.invokevirtual 105, 3) := by decide +kernel
theorem dX7_leave_74 : decode cX7_leave 74 = .ok (.ireturn, 1) := by decide +kernel
theorem dX7_leave_75 : decode cX7_leave 75 = .ok (.aload_n 0, 1) := by decide +kernel
theorem dX7_leave_76 : decode cX7_leave 76 = .ok (.getfield 10, 3) := by decide +kernel
theorem dX7_leave_79 : decode cX7_leave 79 = .ok (.aload 6, 2) := by decide +kernel
theorem dX7_leave_81 : decode cX7_leave 81 = .ok (.invokevirtual 192, 3) := by decide +kernel
theorem dX7_leave_84 : decode cX7_leave 84 = .ok (.ifCond .eq 9, 3) := by decide +kernel
theorem dX7_leave_87 : decode cX7_leave 87 = .ok (.aload_n 0, 1) := by decide +kernel
theorem dX7_leave_88 : decode cX7_leave 88 = .ok (.iconst 5, 1) := by decide +kernel
theorem dX7_leave_89 : decode cX7_leave 89 = .ok (.invokevirtual 105, 3) := by decide +kernel
theorem dX7_leave_92 : decode cX7_leave 92 = .ok (.ireturn, 1) := by decide +kernel
theorem dX7_leave_93 : decode cX7_leave 93 = .ok (.aload 6, 2) := by decide +kernel
theorem dX7_leave_95 : decode cX7_leave 95 = .ok (.invokevirtual 153, 3) := by decide +kernel
theorem dX7_leave_98 : decode cX7_leave 98 = .ok (.i2l, 1) := by decide +kernel
theorem dX7_leave_99 : decode cX7_leave 99 = .ok (.aload_n 0, 1) := by decide +kernel
theorem dX7_leave_100 : decode cX7_leave 100 = .ok (.getfield 10, 3) := by decide +kernel
theorem dX7_leave_103 : decode cX7_leave 103 = .ok (.aload_n 3, 1) := by decide +kernel
theorem dX7_leave_104 : decode cX7_leave 104 = .ok (.aload 4, 2) := by decide +kernel
theorem dX7_leave_106 : decode cX7_leave 106 = .ok (.invokevirtual 202, 3) := by decide +kernel
theorem dX7_leave_109 : decode cX7_leave 109 = .ok (.lcmp, 1) := by decide +kernel
theorem dX7_leave_110 : decode cX7_leave 110 = .ok (.ifCond .le 10, 3) := by decide +kernel
theorem dX7_leave_113 : decode cX7_leave 113 = .ok (.aload_n 0, 1) := by decide +kernel
theorem dX7_leave_114 : decode cX7_leave 114 = .ok (.bipush 7, 2) := by decide +kernel
theorem dX7_leave_116 : decode cX7_leave 116 = .ok (.invokevirtual 105, 3) := by decide +kernel
theorem dX7_leave_119 : decode cX7_leave 119 = .ok (.ireturn, 1) := by decide +kernel
theorem dX7_leave_120 : decode cX7_leave 120 = .ok (.aload_n 0, 1) := by decide +kernel
theorem dX7_leave_121 : decode cX7_leave 121 = .ok (.invokevirtual 51, 3) := by decide +kernel
theorem dX7_leave_124 : decode cX7_leave 124 = .ok (.aload_n 3, 1) := by decide +kernel
theorem dX7_leave_125 : decode cX7_leave 125 = .ok (.aload 6, 2) := by decide +kernel
theorem dX7_leave_127 : decode cX7_leave 127 = .ok (.getfield 196, 3) := by decide +kernel
theorem dX7_leave_130 : decode cX7_leave 130 = .ok (.iload_n 2, 1) := by decide +kernel
theorem dX7_leave_131 : decode cX7_leave 131 = .ok (.invokevirtual 219, 3) := by decide +kernel
theorem dX7_leave_134 : decode cX7_leave 134 = .ok (.aload_n 0, 1) := by decide +kernel
theorem dX7_leave_135 : decode cX7_leave 135 = .ok (.getfield 10, 3) := by decide +kernel
theorem dX7_leave_138 : decode cX7_leave 138 = .ok (.aload 6, 2) := by decide +kernel
theorem dX7_leave_140 : decode cX7_leave 140 = .ok (.iload_n 1, 1) := by decide +kernel
theorem dX7_leave_141 : decode cX7_leave 141 = .ok (.iload_n 2, 1) := by decide +kernel
theorem dX7_leave_142 : decode cX7_leave 142 = .ok (.iadd, 1) := by decide +kernel
theorem dX7_leave_143 : decode cX7_leave 143 = .ok (.invokevirtual 209, 3) := by decide +kernel
theorem dX7_leave_146 : decode cX7_leave 146 = .ok (.aload 4, 2) := by decide +kernel
theorem dX7_leave_148 : decode cX7_leave 148 = .ok (.invokevirtual 213, 3) := by decide +kernel
theorem dX7_leave_151 : decode cX7_leave 151 = .ok (.aload_n 0, 1) := by decide +kernel
theorem dX7_leave_152 : decode cX7_leave 152 = .ok (.getfield 10, 3) := by decide +kernel
theorem dX7_leave_155 : decode cX7_leave 155 = .ok (.invokevirtual 58, 3) := by decide +kernel
theorem dX7_leave_158 : decode cX7_leave 158 = .ok (.iload 5, 2) := by decide +kernel
theorem dX7_leave_160 : decode cX7_leave 160 = .ok (.ireturn, 1) := by decide +kernel
theorem dX7_type_0 : decode cX7_type 0 = .ok (.aload_n 0, 1) := by decide +kernel
theorem dX7_type_1 : decode cX7_type 1 = .ok (.getfield 30, 3) := by decide +kernel
theorem dX7_type_4 : decode cX7_type 4 = .ok (.iload_n 1, 1) := by decide +kernel
theorem dX7_type_5 : decode cX7_type 5 = .ok (.invokevirtual 223, 3) := by decide +kernel
theorem dX7_type_8 : decode cX7_type 8 = .ok (.ireturn, 1) := by decide +kernel
theorem dX7_clearText_0 : decode cX7_clearText 0 = .ok (.aload_n 0, 1) := by decide +kernel
theorem dX7_clearText_1 : decode cX7_clearText 1 = .ok (.getfield 30, 3) := by decide +kernel
theorem dX7_clearText_4 : decode cX7_clearText 4 = .ok (.invokevirtual 227, 3) := by decide +kernel
theorem dX7_clearText_7 : decode cX7_clearText 7 = .ok (.ireturn, 1) := by decide +kernel
theorem dX7_runOrders_0 : decode cX7_runOrders 0 = .ok (.aload_n 0, 1) := by decide +kernel
theorem dX7_runOrders_1 : decode cX7_runOrders 1 = .ok (.getfield 30, 3) := by decide +kernel
theorem dX7_runOrders_4 : decode cX7_runOrders 4 = .ok (.invokevirtual 230, 3) := by decide +kernel
theorem dX7_runOrders_7 : decode cX7_runOrders 7 = .ok (.istore_n 1, 1) := by decide +kernel
theorem dX7_runOrders_8 : decode cX7_runOrders 8 = .ok (.iload_n 1, 1) := by decide +kernel
theorem dX7_runOrders_9 : decode cX7_runOrders 9 = .ok (.iconst (-1), 1) := by decide +kernel
theorem dX7_runOrders_10 : decode cX7_runOrders 10 = .ok (.if_icmp .eq 8, 3) := by decide +kernel
theorem dX7_runOrders_13 : decode cX7_runOrders 13 = .ok (.bipush (-100), 2) := by decide +kernel
theorem dX7_runOrders_15 : decode cX7_runOrders 15 = .ok (.iload_n 1, 1) := by decide +kernel
theorem dX7_runOrders_16 : decode cX7_runOrders 16 = .ok (.isub, 1) := by decide +kernel
theorem dX7_runOrders_17 : decode cX7_runOrders 17 = .ok (.ireturn, 1) := by decide +kernel
theorem dX7_runOrders_18 : decode cX7_runOrders 18 = .ok (.aload_n 0, 1) := by decide +kernel
theorem dX7_runOrders_19 : decode cX7_runOrders 19 = .ok (.invokevirtual 51, 3) := by decide +kernel
theorem dX7_runOrders_22 : decode cX7_runOrders 22 = .ok (.aload_n 0, 1) := by decide +kernel
theorem dX7_runOrders_23 : decode cX7_runOrders 23 = .ok (.iconst 1, 1) := by decide +kernel
theorem dX7_runOrders_24 : decode cX7_runOrders 24 = .ok (.putfield 38, 3) := by decide +kernel
theorem dX7_runOrders_27 : decode cX7_runOrders 27 = .ok (.aload_n 0, 1) := by decide +kernel
theorem dX7_runOrders_28 : decode cX7_runOrders 28 = .ok (.getfield 30, 3) := by decide +kernel
theorem dX7_runOrders_31 : decode cX7_runOrders 31 = .ok (.invokevirtual 233, 3) := by decide +kernel
theorem dX7_runOrders_34 : decode cX7_runOrders 34 = .ok (.iconst 0, 1) := by decide +kernel
theorem dX7_runOrders_35 : decode cX7_runOrders 35 = .ok (.istore_n 2, 1) := by decide +kernel
theorem dX7_runOrders_36 : decode cX7_runOrders 36 = .ok (.iload_n 2, 1) := by decide +kernel
theorem dX7_runOrders_37 : decode cX7_runOrders 37 = .ok (.bipush 60, 2) := by decide +kernel
theorem dX7_runOrders_39 : decode cX7_runOrders 39 = .ok (.if_icmp .ge 36, 3) := by decide +kernel
theorem dX7_runOrders_42 : decode cX7_runOrders 42 = .ok (.aload_n 0, 1) := by decide +kernel
theorem dX7_runOrders_43 : decode cX7_runOrders 43 = .ok (.getfield 30, 3) := by decide +kernel
theorem dX7_runOrders_46 : decode cX7_runOrders 46 = .ok (.invokevirtual 236, 3) := by decide +kernel
theorem dX7_runOrders_49 : decode cX7_runOrders 49 = .ok (.ifCond .eq 26, 3) := by decide +kernel
theorem dX7_runOrders_52 : decode cX7_runOrders 52 = .ok (.aload_n 0, 1) := by decide +kernel
theorem dX7_runOrders_53 : decode cX7_runOrders 53 = .ok (.getfield 30, 3) := by decide +kernel
theorem dX7_runOrders_56 : decode cX7_runOrders 56 = .ok (.invokevirtual 239, 3) := by decide +kernel
theorem dX7_runOrders_59 : decode cX7_runOrders 59 = .ok (.ifCond .eq 16, 3) := by decide +kernel
theorem dX7_runOrders_62 : decode cX7_runOrders 62 = .ok (.aload_n 0, 1) := by decide +kernel
theorem dX7_runOrders_63 : decode cX7_runOrders 63 = .ok (.invokevirtual 242, 3) := by decide +kernel
theorem dX7_runOrders_66 : decode cX7_runOrders 66 = .ok (.ifCond .lt 9, 3) := by decide +kernel
theorem dX7_runOrders_69 : decode cX7_runOrders 69 = .ok (.iinc 2 1, 3) := by decide +kernel
theorem dX7_runOrders_72 : decode cX7_runOrders 72 = .ok (.goto (-36), 3) := by decide +kernel
theorem dX7_runOrders_75 : decode cX7_runOrders 75 = .ok (.aload_n 0, 1) := by decide +kernel
theorem dX7_runOrders_76 : decode cX7_runOrders 76 = .ok (.iconst 0, 1) := by decide +kernel
theorem dX7_runOrders_77 : decode cX7_runOrders 77 = .ok (.putfield 38, 3) := by decide +kernel
theorem dX7_runOrders_80 : decode cX7_runOrders 80 = .ok (.aload_n 0, 1) := by decide +kernel
theorem dX7_runOrders_81 : decode cX7_runOrders 81 = .ok (.getfield 10, 3) := by decide +kernel
theorem dX7_runOrders_84 : decode cX7_runOrders 84 = .ok (.invokevirtual 58, 3) := by decide +kernel
theorem dX7_runOrders_87 : decode cX7_runOrders 87 = .ok (.iload_n 2, 1) := by decide +kernel
theorem dX7_runOrders_88 : decode cX7_runOrders 88 = .ok (.ireturn, 1) := by decide +kernel
theorem dX7_undo_0 : decode cX7_undo 0 = .ok (.aload_n 0, 1) := by decide +kernel
theorem dX7_undo_1 : decode cX7_undo 1 = .ok (.getfield 19, 3) := by decide +kernel
theorem dX7_undo_4 : decode cX7_undo 4 = .ok (.getfield 245, 3) := by decide +kernel
theorem dX7_undo_7 : decode cX7_undo 7 = .ok (.ifCond .ne 6, 3) := by decide +kernel
theorem dX7_undo_10 : decode cX7_undo 10 = .ok (.ldc 90, 2) := by decide +kernel
theorem dX7_undo_12 : decode cX7_undo 12 = .ok (.ireturn, 1) := by decide +kernel
theorem dX7_undo_13 : decode cX7_undo 13 = .ok (.aload_n 0, 1) := by decide +kernel
theorem dX7_undo_14 : decode cX7_undo 14 = .ok (.getfield 19, 3) := by decide +kernel
theorem dX7_undo_17 : decode cX7_undo 17 = .ok (.aload_n 0, 1) := by decide +kernel
theorem dX7_undo_18 : decode cX7_undo 18 = .ok (.getfield 10, 3) := by decide +kernel
theorem dX7_undo_21 : decode cX7_undo 21 = .ok (.invokevirtual 248, 3) := by decide +kernel
theorem dX7_undo_24 : decode cX7_undo 24 = .ok (.aload_n 0, 1) := by decide +kernel
theorem dX7_undo_25 : decode cX7_undo 25 = .ok (.getfield 19, 3) := by decide +kernel
theorem dX7_undo_28 : decode cX7_undo 28 = .ok (.getfield 245, 3) := by decide +kernel
theorem dX7_undo_31 : decode cX7_undo 31 = .ok (.ireturn, 1) := by decide +kernel
theorem dX7_keep_0 : decode cX7_keep 0 = .ok (.iload_n 1, 1) := by decide +kernel
theorem dX7_keep_1 : decode cX7_keep 1 = .ok (.ifCond .lt 12, 3) := by decide +kernel
theorem dX7_keep_4 : decode cX7_keep 4 = .ok (.iload_n 1, 1) := by decide +kernel
theorem dX7_keep_5 : decode cX7_keep 5 = .ok (.aload_n 0, 1) := by decide +kernel
theorem dX7_keep_6 : decode cX7_keep 6 = .ok (.getfield 23, 3) := by decide +kernel
theorem dX7_keep_9 : decode cX7_keep 9 = .ok (.arraylength, 1) := by decide +kernel
theorem dX7_keep_10 : decode cX7_keep 10 = .ok (.if_icmp .lt 6, 3) := by decide +kernel
theorem dX7_keep_13 : decode cX7_keep 13 = .ok (.ldc 78, 2) := by decide +kernel
theorem dX7_keep_15 : decode cX7_keep 15 = .ok (.ireturn, 1) := by decide +kernel
theorem dX7_keep_16 : decode cX7_keep 16 = .ok (.aload_n 0, 1) := by decide +kernel
theorem dX7_keep_17 : decode cX7_keep 17 = .ok (.getfield 23, 3) := by decide +kernel
theorem dX7_keep_20 : decode cX7_keep 20 = .ok (.iload_n 1, 1) := by decide +kernel
theorem dX7_keep_21 : decode cX7_keep 21 = .ok (.aaload, 1) := by decide +kernel
theorem dX7_keep_22 : decode cX7_keep 22 = .ok (.astore_n 2, 1) := by decide +kernel
theorem dX7_keep_23 : decode cX7_keep 23 = .ok (.aload_n 2, 1) := by decide +kernel
theorem dX7_keep_24 : decode cX7_keep 24 = .ok (.ifnonnull 18, 3) := by decide +kernel
theorem dX7_keep_27 : decode cX7_keep 27 = .ok (.new 7, 3) := by decide +kernel
theorem dX7_keep_30 : decode cX7_keep 30 = .ok (.dup, 1) := by decide +kernel
theorem dX7_keep_31 : decode cX7_keep 31 = .ok (.invokespecial 9, 3) := by decide +kernel
theorem dX7_keep_34 : decode cX7_keep 34 = .ok (.astore_n 2, 1) := by decide +kernel
theorem dX7_keep_35 : decode cX7_keep 35 = .ok (.aload_n 0, 1) := by decide +kernel
theorem dX7_keep_36 : decode cX7_keep 36 = .ok (.getfield 23, 3) := by decide +kernel
theorem dX7_keep_39 : decode cX7_keep 39 = .ok (.iload_n 1, 1) := by decide +kernel
theorem dX7_keep_40 : decode cX7_keep 40 = .ok (.aload_n 2, 1) := by decide +kernel
theorem dX7_keep_41 : decode cX7_keep 41 = .ok (.aastore, 1) := by decide +kernel
theorem dX7_keep_42 : decode cX7_keep 42 = .ok (.aload_n 0, 1) := by decide +kernel
theorem dX7_keep_43 : decode cX7_keep 43 = .ok (.getfield 10, 3) := by decide +kernel
theorem dX7_keep_46 : decode cX7_keep 46 = .ok (.aload_n 2, 1) := by decide +kernel
theorem dX7_keep_47 : decode cX7_keep 47 = .ok (.invokevirtual 252, 3) := by decide +kernel
theorem dX7_keep_50 : decode cX7_keep 50 = .ok (.aload_n 0, 1) := by decide +kernel
theorem dX7_keep_51 : decode cX7_keep 51 = .ok (.getfield 10, 3) := by decide +kernel
theorem dX7_keep_54 : decode cX7_keep 54 = .ok (.getfield 116, 3) := by decide +kernel
theorem dX7_keep_57 : decode cX7_keep 57 = .ok (.ireturn, 1) := by decide +kernel
theorem dX7_restore_0 : decode cX7_restore 0 = .ok (.iload_n 1, 1) := by decide +kernel
theorem dX7_restore_1 : decode cX7_restore 1 = .ok (.ifCond .lt 12, 3) := by decide +kernel
theorem dX7_restore_4 : decode cX7_restore 4 = .ok (.iload_n 1, 1) := by decide +kernel
theorem dX7_restore_5 : decode cX7_restore 5 = .ok (.aload_n 0, 1) := by decide +kernel
theorem dX7_restore_6 : decode cX7_restore 6 = .ok (.getfield 23, 3) := by decide +kernel
theorem dX7_restore_9 : decode cX7_restore 9 = .ok (.arraylength, 1) := by decide +kernel
theorem dX7_restore_10 : decode cX7_restore 10 = .ok (.if_icmp .lt 6, 3) := by decide +kernel
theorem dX7_restore_13 : decode cX7_restore 13 = .ok (.ldc 78, 2) := by decide +kernel
theorem dX7_restore_15 : decode cX7_restore 15 = .ok (.ireturn, 1) := by decide +kernel
theorem dX7_restore_16 : decode cX7_restore 16 = .ok (.aload_n 0, 1) := by decide +kernel
theorem dX7_restore_17 : decode cX7_restore 17 = .ok (.getfield 23, 3) := by decide +kernel
theorem dX7_restore_20 : decode cX7_restore 20 = .ok (.iload_n 1, 1) := by decide +kernel
theorem dX7_restore_21 : decode cX7_restore 21 = .ok (.aaload, 1) := by decide +kernel
theorem dX7_restore_22 : decode cX7_restore 22 = .ok (.astore_n 2, 1) := by decide +kernel
theorem dX7_restore_23 : decode cX7_restore 23 = .ok (.aload_n 2, 1) := by decide +kernel
theorem dX7_restore_24 : decode cX7_restore 24 = .ok (.ifnonnull 6, 3) := by decide +kernel
theorem dX7_restore_27 : decode cX7_restore 27 = .ok (.ldc 90, 2) := by decide +kernel
theorem dX7_restore_29 : decode cX7_restore 29 = .ok (.ireturn, 1) := by decide +kernel
theorem dX7_restore_30 : decode cX7_restore 30 = .ok (.aload_n 0, 1) := by decide +kernel
theorem dX7_restore_31 : decode cX7_restore 31 = .ok (.invokevirtual 51, 3) := by decide +kernel
theorem dX7_restore_34 : decode cX7_restore 34 = .ok (.aload_n 2, 1) := by decide +kernel
theorem dX7_restore_35 : decode cX7_restore 35 = .ok (.aload_n 0, 1) := by decide +kernel
theorem dX7_restore_36 : decode cX7_restore 36 = .ok (.getfield 10, 3) := by decide +kernel
theorem dX7_restore_39 : decode cX7_restore 39 = .ok (.invokevirtual 252, 3) := by decide +kernel
theorem dX7_restore_42 : decode cX7_restore 42 = .ok (.aload_n 0, 1) := by decide +kernel
theorem dX7_restore_43 : decode cX7_restore 43 = .ok (.getfield 10, 3) := by decide +kernel
theorem dX7_restore_46 : decode cX7_restore 46 = .ok (.getfield 116, 3) := by decide +kernel
theorem dX7_restore_49 : decode cX7_restore 49 = .ok (.ireturn, 1) := by decide +kernel
theorem dX7_reach_0 : decode cX7_reach 0 = .ok (.aload_n 0, 1) := by decide +kernel
theorem dX7_reach_1 : decode cX7_reach 1 = .ok (.getfield 10, 3) := by decide +kernel
theorem dX7_reach_4 : decode cX7_reach 4 = .ok (.iload_n 1, 1) := by decide +kernel
theorem dX7_reach_5 : decode cX7_reach 5 = .ok (.invokevirtual 91, 3) := by decide +kernel
theorem dX7_reach_8 : decode cX7_reach 8 = .ok (.astore_n 3, 1) := by decide +kernel
theorem dX7_reach_9 : decode cX7_reach 9 = .ok (.aload_n 3, 1) := by decide +kernel
theorem dX7_reach_10 : decode cX7_reach 10 = .ok (.ifnonnull 6, 3) := by decide +kernel
theorem dX7_reach_13 : decode cX7_reach 13 = .ok (.ldc 78, 2) := by decide +kernel
theorem dX7_reach_15 : decode cX7_reach 15 = .ok (.ireturn, 1) := by decide +kernel
theorem dX7_reach_16 : decode cX7_reach 16 = .ok (.aload_n 3, 1) := by decide +kernel
theorem dX7_reach_17 : decode cX7_reach 17 = .ok (.iload_n 2, 1) := by decide +kernel
theorem dX7_reach_18 : decode cX7_reach 18 = .ok (.invokevirtual 255, 3) := by decide +kernel
theorem dX7_reach_21 : decode cX7_reach 21 = .ok (.ireturn, 1) := by decide +kernel
theorem dX7_chamber_0 : decode cX7_chamber 0 = .ok (.aload_n 0, 1) := by decide +kernel
theorem dX7_chamber_1 : decode cX7_chamber 1 = .ok (.getfield 10, 3) := by decide +kernel
theorem dX7_chamber_4 : decode cX7_chamber 4 = .ok (.iload_n 1, 1) := by decide +kernel
theorem dX7_chamber_5 : decode cX7_chamber 5 = .ok (.invokevirtual 159, 3) := by decide +kernel
theorem dX7_chamber_8 : decode cX7_chamber 8 = .ok (.astore_n 3, 1) := by decide +kernel
theorem dX7_chamber_9 : decode cX7_chamber 9 = .ok (.aload_n 3, 1) := by decide +kernel
theorem dX7_chamber_10 : decode cX7_chamber 10 = .ok (.ifnonnull 6, 3) := by decide +kernel
theorem dX7_chamber_13 : decode cX7_chamber 13 = .ok (.ldc 78, 2) := by decide +kernel
theorem dX7_chamber_15 : decode cX7_chamber 15 = .ok (.ireturn, 1) := by decide +kernel
theorem dX7_chamber_16 : decode cX7_chamber 16 = .ok (.iload_n 2, 1) := by decide +kernel
theorem dX7_chamber_17 : decode cX7_chamber 17 = .ok (.tableswitch 103 6 12 #[43, 48, 53, 71, 79, 87, 95], 43) := by decide +kernel
theorem dX7_chamber_60 : decode cX7_chamber 60 = .ok (.aload_n 3, 1) := by decide +kernel
theorem dX7_chamber_61 : decode cX7_chamber 61 = .ok (.getfield 258, 3) := by decide +kernel
theorem dX7_chamber_64 : decode cX7_chamber 64 = .ok (.ireturn, 1) := by decide +kernel
theorem dX7_chamber_65 : decode cX7_chamber 65 = .ok (.aload_n 3, 1) := by decide +kernel
theorem dX7_chamber_66 : decode cX7_chamber 66 = .ok (.getfield 199, 3) := by decide +kernel
theorem dX7_chamber_69 : decode cX7_chamber 69 = .ok (.ireturn, 1) := by decide +kernel
theorem dX7_chamber_70 : decode cX7_chamber 70 = .ok (.aload_n 3, 1) := by decide +kernel
theorem dX7_chamber_71 : decode cX7_chamber 71 = .ok (.getfield 167, 3) := by decide +kernel
theorem dX7_chamber_74 : decode cX7_chamber 74 = .ok (.iconst (-1), 1) := by decide +kernel
theorem dX7_chamber_75 : decode cX7_chamber 75 = .ok (.if_icmp .ne 8, 3) := by decide +kernel
theorem dX7_chamber_78 : decode cX7_chamber 78 = .ok (.ldc 90, 2) := by decide +kernel
theorem dX7_chamber_80 : decode cX7_chamber 80 = .ok (.goto 7, 3) := by decide +kernel
theorem dX7_chamber_83 : decode cX7_chamber 83 = .ok (.aload_n 3, 1) := by decide +kernel
theorem dX7_chamber_84 : decode cX7_chamber 84 = .ok (.getfield 167, 3) := by decide +kernel
theorem dX7_chamber_87 : decode cX7_chamber 87 = .ok (.ireturn, 1) := by decide +kernel
theorem dX7_chamber_88 : decode cX7_chamber 88 = .ok (.aload_n 3, 1) := by decide +kernel
theorem dX7_chamber_89 : decode cX7_chamber 89 = .ok (.getfield 259, 3) := by decide +kernel
theorem dX7_chamber_92 : decode cX7_chamber 92 = .ok (.invokevirtual 263, 3) := by decide +kernel
theorem dX7_chamber_95 : decode cX7_chamber 95 = .ok (.ireturn, 1) := by decide +kernel
theorem dX7_chamber_96 : decode cX7_chamber 96 = .ok (.aload_n 3, 1) := by decide +kernel
theorem dX7_chamber_97 : decode cX7_chamber 97 = .ok (.getfield 266, 3) := by decide +kernel
theorem dX7_chamber_100 : decode cX7_chamber 100 = .ok (.invokevirtual 263, 3) := by decide +kernel
theorem dX7_chamber_103 : decode cX7_chamber 103 = .ok (.ireturn, 1) := by decide +kernel
theorem dX7_chamber_104 : decode cX7_chamber 104 = .ok (.aload_n 3, 1) := by decide +kernel
theorem dX7_chamber_105 : decode cX7_chamber 105 = .ok (.getfield 259, 3) := by decide +kernel
theorem dX7_chamber_108 : decode cX7_chamber 108 = .ok (.getfield 269, 3) := by decide +kernel
theorem dX7_chamber_111 : decode cX7_chamber 111 = .ok (.ireturn, 1) := by decide +kernel
theorem dX7_chamber_112 : decode cX7_chamber 112 = .ok (.aload_n 3, 1) := by decide +kernel
theorem dX7_chamber_113 : decode cX7_chamber 113 = .ok (.getfield 266, 3) := by decide +kernel
theorem dX7_chamber_116 : decode cX7_chamber 116 = .ok (.getfield 269, 3) := by decide +kernel
theorem dX7_chamber_119 : decode cX7_chamber 119 = .ok (.ireturn, 1) := by decide +kernel
theorem dX7_chamber_120 : decode cX7_chamber 120 = .ok (.aload_n 3, 1) := by decide +kernel
theorem dX7_chamber_121 : decode cX7_chamber 121 = .ok (.getfield 172, 3) := by decide +kernel
theorem dX7_chamber_124 : decode cX7_chamber 124 = .ok (.iload_n 2, 1) := by decide +kernel
theorem dX7_chamber_125 : decode cX7_chamber 125 = .ok (.invokevirtual 255, 3) := by decide +kernel
theorem dX7_chamber_128 : decode cX7_chamber 128 = .ok (.ireturn, 1) := by decide +kernel
theorem dX7_lying_0 : decode cX7_lying 0 = .ok (.aload_n 0, 1) := by decide +kernel
theorem dX7_lying_1 : decode cX7_lying 1 = .ok (.getfield 10, 3) := by decide +kernel
theorem dX7_lying_4 : decode cX7_lying 4 = .ok (.iload_n 1, 1) := by decide +kernel
theorem dX7_lying_5 : decode cX7_lying 5 = .ok (.invokevirtual 159, 3) := by decide +kernel
theorem dX7_lying_8 : decode cX7_lying 8 = .ok (.astore_n 3, 1) := by decide +kernel
theorem dX7_lying_9 : decode cX7_lying 9 = .ok (.aload_n 3, 1) := by decide +kernel
theorem dX7_lying_10 : decode cX7_lying 10 = .ok (.ifnonnull 6, 3) := by decide +kernel
theorem dX7_lying_13 : decode cX7_lying 13 = .ok (.ldc 78, 2) := by decide +kernel
theorem dX7_lying_15 : decode cX7_lying 15 = .ok (.ireturn, 1) := by decide +kernel
theorem dX7_lying_16 : decode cX7_lying 16 = .ok (.iload_n 2, 1) := by decide +kernel
theorem dX7_lying_17 : decode cX7_lying 17 = .ok (.ifCond .ge 6, 3) := by decide +kernel
theorem dX7_lying_20 : decode cX7_lying 20 = .ok (.ldc 46, 2) := by decide +kernel
theorem dX7_lying_22 : decode cX7_lying 22 = .ok (.ireturn, 1) := by decide +kernel
theorem dX7_lying_23 : decode cX7_lying 23 = .ok (.aload_n 3, 1) := by decide +kernel
theorem dX7_lying_24 : decode cX7_lying 24 = .ok (.iload_n 2, 1) := by decide +kernel
theorem dX7_lying_25 : decode cX7_lying 25 = .ok (.invokevirtual 272, 3) := by decide +kernel
theorem dX7_lying_28 : decode cX7_lying 28 = .ok (.istore 4, 2) := by decide +kernel
theorem dX7_lying_30 : decode cX7_lying 30 = .ok (.iload 4, 2) := by decide +kernel
theorem dX7_lying_32 : decode cX7_lying 32 = .ok (.iconst (-1), 1) := by decide +kernel
theorem dX7_lying_33 : decode cX7_lying 33 = .ok (.if_icmp .ne 8, 3) := by decide +kernel
theorem dX7_lying_36 : decode cX7_lying 36 = .ok (.ldc 90, 2) := by decide +kernel
theorem dX7_lying_38 : decode cX7_lying 38 = .ok (.goto 5, 3) := by decide +kernel
theorem dX7_lying_41 : decode cX7_lying 41 = .ok (.iload 4, 2) := by decide +kernel
theorem dX7_lying_43 : decode cX7_lying 43 = .ok (.ireturn, 1) := by decide +kernel
theorem dX7_barge_0 : decode cX7_barge 0 = .ok (.aload_n 0, 1) := by decide +kernel
theorem dX7_barge_1 : decode cX7_barge 1 = .ok (.getfield 10, 3) := by decide +kernel
theorem dX7_barge_4 : decode cX7_barge 4 = .ok (.iload_n 1, 1) := by decide +kernel
theorem dX7_barge_5 : decode cX7_barge 5 = .ok (.invokevirtual 123, 3) := by decide +kernel
theorem dX7_barge_8 : decode cX7_barge 8 = .ok (.astore_n 3, 1) := by decide +kernel
theorem dX7_barge_9 : decode cX7_barge 9 = .ok (.aload_n 3, 1) := by decide +kernel
theorem dX7_barge_10 : decode cX7_barge 10 = .ok (.ifnonnull 6, 3) := by decide +kernel
theorem dX7_barge_13 : decode cX7_barge 13 = .ok (.ldc 78, 2) := by decide +kernel
theorem dX7_barge_15 : decode cX7_barge 15 = .ok (.ireturn, 1) := by decide +kernel
theorem dX7_barge_16 : decode cX7_barge 16 = .ok (.aload_n 0, 1) := by decide +kernel
theorem dX7_barge_17 : decode cX7_barge 17 = .ok (.getfield 10, 3) := by decide +kernel
theorem dX7_barge_20 : decode cX7_barge 20 = .ok (.aload_n 3, 1) := by decide +kernel
theorem dX7_barge_21 : decode cX7_barge 21 = .ok (.iload_n 2, 1) := by decide +kernel
theorem dX7_barge_22 : decode cX7_barge 22 = .ok (.invokevirtual 275, 3) := by decide +kernel
theorem dX7_barge_25 : decode cX7_barge 25 = .ok (.ireturn, 1) := by decide +kernel
theorem dX7_margin_0 : decode cX7_margin 0 = .ok (.aload_n 0, 1) := by decide +kernel
theorem dX7_margin_1 : decode cX7_margin 1 = .ok (.getfield 10, 3) := by decide +kernel
theorem dX7_margin_4 : decode cX7_margin 4 = .ok (.iload_n 1, 1) := by decide +kernel
theorem dX7_margin_5 : decode cX7_margin 5 = .ok (.invokevirtual 123, 3) := by decide +kernel
theorem dX7_margin_8 : decode cX7_margin 8 = .ok (.astore 4, 2) := by decide +kernel
theorem dX7_margin_10 : decode cX7_margin 10 = .ok (.aload_n 0, 1) := by decide +kernel
theorem dX7_margin_11 : decode cX7_margin 11 = .ok (.getfield 10, 3) := by decide +kernel
theorem dX7_margin_14 : decode cX7_margin 14 = .ok (.iload_n 2, 1) := by decide +kernel
theorem dX7_margin_15 : decode cX7_margin 15 = .ok (.invokevirtual 159, 3) := by decide +kernel
theorem dX7_margin_18 : decode cX7_margin 18 = .ok (.astore 5, 2) := by decide +kernel
theorem dX7_margin_20 : decode cX7_margin 20 = .ok (.aload_n 0, 1) := by decide +kernel
theorem dX7_margin_21 : decode cX7_margin 21 = .ok (.getfield 10, 3) := by decide +kernel
theorem dX7_margin_24 : decode cX7_margin 24 = .ok (.iload_n 2, 1) := by decide +kernel
theorem dX7_margin_25 : decode cX7_margin 25 = .ok (.iload_n 3, 1) := by decide +kernel
theorem dX7_margin_26 : decode cX7_margin 26 = .ok (.invokevirtual 74, 3) := by decide +kernel
theorem dX7_margin_29 : decode cX7_margin 29 = .ok (.astore 6, 2) := by decide +kernel
theorem dX7_margin_31 : decode cX7_margin 31 = .ok (.aload 4, 2) := by decide +kernel
theorem dX7_margin_33 : decode cX7_margin 33 = .ok (.ifnull 13, 3) := by decide +kernel
theorem dX7_margin_36 : decode cX7_margin 36 = .ok (.aload 5, 2) := by decide +kernel
theorem dX7_margin_38 : decode cX7_margin 38 = .ok (.ifnull 8, 3) := by decide +kernel
theorem dX7_margin_41 : decode cX7_margin 41 = .ok (.aload 6, 2) := by decide +kernel
theorem dX7_margin_43 : decode cX7_margin 43 = .ok (.ifnonnull 6, 3) := by decide +kernel
theorem dX7_margin_46 : decode cX7_margin 46 = .ok (.ldc 78, 2) := by decide +kernel
theorem dX7_margin_48 : decode cX7_margin 48 = .ok (.ireturn, 1) := by decide +kernel
theorem dX7_margin_49 : decode cX7_margin 49 = .ok (.aload_n 0, 1) := by decide +kernel
theorem dX7_margin_50 : decode cX7_margin 50 = .ok (.getfield 10, 3) := by decide +kernel
theorem dX7_margin_53 : decode cX7_margin 53 = .ok (.aload 5, 2) := by decide +kernel
theorem dX7_margin_55 : decode cX7_margin 55 = .ok (.aload 6, 2) := by decide +kernel
theorem dX7_margin_57 : decode cX7_margin 57 = .ok (.invokevirtual 202, 3) := by decide +kernel
theorem dX7_margin_60 : decode cX7_margin 60 = .ok (.aload 4, 2) := by decide +kernel
theorem dX7_margin_62 : decode cX7_margin 62 = .ok (.getfield 279, 3) := by decide +kernel
theorem dX7_margin_65 : decode cX7_margin 65 = .ok (.i2l, 1) := by decide +kernel
theorem dX7_margin_66 : decode cX7_margin 66 = .ok (.lmul, 1) := by decide +kernel
theorem dX7_margin_67 : decode cX7_margin 67 = .ok (.lstore 7, 2) := by decide +kernel
theorem dX7_margin_69 : decode cX7_margin 69 = .ok (.aload 4, 2) := by decide +kernel
theorem dX7_margin_71 : decode cX7_margin 71 = .ok (.invokevirtual 282, 3) := by decide +kernel
theorem dX7_margin_74 : decode cX7_margin 74 = .ok (.i2l, 1) := by decide +kernel
theorem dX7_margin_75 : decode cX7_margin 75 = .ok (.lload 7, 2) := by decide +kernel
theorem dX7_margin_77 : decode cX7_margin 77 = .ok (.lcmp, 1) := by decide +kernel
theorem dX7_margin_78 : decode cX7_margin 78 = .ok (.ifCond .le 6, 3) := by decide +kernel
theorem dX7_margin_81 : decode cX7_margin 81 = .ok (.ldc 90, 2) := by decide +kernel
theorem dX7_margin_83 : decode cX7_margin 83 = .ok (.ireturn, 1) := by decide +kernel
theorem dX7_margin_84 : decode cX7_margin 84 = .ok (.lload 7, 2) := by decide +kernel
theorem dX7_margin_86 : decode cX7_margin 86 = .ok (.aload 4, 2) := by decide +kernel
theorem dX7_margin_88 : decode cX7_margin 88 = .ok (.invokevirtual 282, 3) := by decide +kernel
theorem dX7_margin_91 : decode cX7_margin 91 = .ok (.i2l, 1) := by decide +kernel
theorem dX7_margin_92 : decode cX7_margin 92 = .ok (.lsub, 1) := by decide +kernel
theorem dX7_margin_93 : decode cX7_margin 93 = .ok (.aload 4, 2) := by decide +kernel
theorem dX7_margin_95 : decode cX7_margin 95 = .ok (.invokevirtual 146, 3) := by decide +kernel
theorem dX7_margin_98 : decode cX7_margin 98 = .ok (.i2l, 1) := by decide +kernel
theorem dX7_margin_99 : decode cX7_margin 99 = .ok (.invokestatic 285, 3) := by decide +kernel
theorem dX7_margin_102 : decode cX7_margin 102 = .ok (.l2i, 1) := by decide +kernel
theorem dX7_margin_103 : decode cX7_margin 103 = .ok (.ireturn, 1) := by decide +kernel
theorem dX7_flow_0 : decode cX7_flow 0 = .ok (.aload_n 0, 1) := by decide +kernel
theorem dX7_flow_1 : decode cX7_flow 1 = .ok (.getfield 10, 3) := by decide +kernel
theorem dX7_flow_4 : decode cX7_flow 4 = .ok (.iload_n 1, 1) := by decide +kernel
theorem dX7_flow_5 : decode cX7_flow 5 = .ok (.invokevirtual 159, 3) := by decide +kernel
theorem dX7_flow_8 : decode cX7_flow 8 = .ok (.astore_n 3, 1) := by decide +kernel
theorem dX7_flow_9 : decode cX7_flow 9 = .ok (.aload_n 0, 1) := by decide +kernel
theorem dX7_flow_10 : decode cX7_flow 10 = .ok (.getfield 10, 3) := by decide +kernel
theorem dX7_flow_13 : decode cX7_flow 13 = .ok (.iload_n 1, 1) := by decide +kernel
theorem dX7_flow_14 : decode cX7_flow 14 = .ok (.iload_n 2, 1) := by decide +kernel
theorem dX7_flow_15 : decode cX7_flow 15 = .ok (.invokevirtual 163, 3) := by decide +kernel
theorem dX7_flow_18 : decode cX7_flow 18 = .ok (.astore 4, 2) := by decide +kernel
theorem dX7_flow_20 : decode cX7_flow 20 = .ok (.aload_n 3, 1) := by decide +kernel
theorem dX7_flow_21 : decode cX7_flow 21 = .ok (.ifnull 8, 3) := by decide +kernel
theorem dX7_flow_24 : decode cX7_flow 24 = .ok (.aload 4, 2) := by decide +kernel
theorem dX7_flow_26 : decode cX7_flow 26 = .ok (.ifnonnull 6, 3) := by decide +kernel
theorem dX7_flow_29 : decode cX7_flow 29 = .ok (.ldc 78, 2) := by decide +kernel
theorem dX7_flow_31 : decode cX7_flow 31 = .ok (.ireturn, 1) := by decide +kernel
theorem dX7_flow_32 : decode cX7_flow 32 = .ok (.aload_n 3, 1) := by decide +kernel
theorem dX7_flow_33 : decode cX7_flow 33 = .ok (.getfield 172, 3) := by decide +kernel
theorem dX7_flow_36 : decode cX7_flow 36 = .ok (.aload 4, 2) := by decide +kernel
theorem dX7_flow_38 : decode cX7_flow 38 = .ok (.invokevirtual 289, 3) := by decide +kernel
theorem dX7_flow_41 : decode cX7_flow 41 = .ok (.l2i, 1) := by decide +kernel
theorem dX7_flow_42 : decode cX7_flow 42 = .ok (.ireturn, 1) := by decide +kernel
theorem dX7_account_0 : decode cX7_account 0 = .ok (.iload_n 1, 1) := by decide +kernel
theorem dX7_account_1 : decode cX7_account 1 = .ok (.tableswitch 104 0 6 #[43, 51, 60, 69, 78, 86, 94], 43) := by decide +kernel
theorem dX7_account_44 : decode cX7_account 44 = .ok (.aload_n 0, 1) := by decide +kernel
theorem dX7_account_45 : decode cX7_account 45 = .ok (.getfield 10, 3) := by decide +kernel
theorem dX7_account_48 : decode cX7_account 48 = .ok (.invokevirtual 293, 3) := by decide +kernel
theorem dX7_account_51 : decode cX7_account 51 = .ok (.lreturn, 1) := by decide +kernel
theorem dX7_account_52 : decode cX7_account 52 = .ok (.aload_n 0, 1) := by decide +kernel
theorem dX7_account_53 : decode cX7_account 53 = .ok (.getfield 10, 3) := by decide +kernel
theorem dX7_account_56 : decode cX7_account 56 = .ok (.iconst 4, 1) := by decide +kernel
theorem dX7_account_57 : decode cX7_account 57 = .ok (.invokevirtual 296, 3) := by decide +kernel
theorem dX7_account_60 : decode cX7_account 60 = .ok (.lreturn, 1) := by decide +kernel
theorem dX7_account_61 : decode cX7_account 61 = .ok (.aload_n 0, 1) := by decide +kernel
theorem dX7_account_62 : decode cX7_account 62 = .ok (.getfield 10, 3) := by decide +kernel
theorem dX7_account_65 : decode cX7_account 65 = .ok (.iconst 3, 1) := by decide +kernel
theorem dX7_account_66 : decode cX7_account 66 = .ok (.invokevirtual 296, 3) := by decide +kernel
theorem dX7_account_69 : decode cX7_account 69 = .ok (.lreturn, 1) := by decide +kernel
theorem dX7_account_70 : decode cX7_account 70 = .ok (.aload_n 0, 1) := by decide +kernel
theorem dX7_account_71 : decode cX7_account 71 = .ok (.getfield 10, 3) := by decide +kernel
theorem dX7_account_74 : decode cX7_account 74 = .ok (.iconst 1, 1) := by decide +kernel
theorem dX7_account_75 : decode cX7_account 75 = .ok (.invokevirtual 296, 3) := by decide +kernel
theorem dX7_account_78 : decode cX7_account 78 = .ok (.lreturn, 1) := by decide +kernel
theorem dX7_account_79 : decode cX7_account 79 = .ok (.aload_n 0, 1) := by decide +kernel
theorem dX7_account_80 : decode cX7_account 80 = .ok (.getfield 10, 3) := by decide +kernel
theorem dX7_account_83 : decode cX7_account 83 = .ok (.getfield 109, 3) := by decide +kernel
theorem dX7_account_86 : decode cX7_account 86 = .ok (.lreturn, 1) := by decide +kernel
theorem dX7_account_87 : decode cX7_account 87 = .ok (.aload_n 0, 1) := by decide +kernel
theorem dX7_account_88 : decode cX7_account 88 = .ok (.getfield 10, 3) := by decide +kernel
theorem dX7_account_91 : decode cX7_account 91 = .ok (.getfield 300, 3) := by decide +kernel
theorem dX7_account_94 : decode cX7_account 94 = .ok (.lreturn, 1) := by decide +kernel
theorem dX7_account_95 : decode cX7_account 95 = .ok (.aload_n 0, 1) := by decide +kernel
theorem dX7_account_96 : decode cX7_account 96 = .ok (.getfield 10, 3) := by decide +kernel
theorem dX7_account_99 : decode cX7_account 99 = .ok (.bipush 8, 2) := by decide +kernel
theorem dX7_account_101 : decode cX7_account 101 = .ok (.invokevirtual 296, 3) := by decide +kernel
theorem dX7_account_104 : decode cX7_account 104 = .ok (.lreturn, 1) := by decide +kernel
theorem dX7_account_105 : decode cX7_account 105 = .ok (.ldc2_w 303, 3) := by decide +kernel
theorem dX7_account_108 : decode cX7_account 108 = .ok (.lreturn, 1) := by decide +kernel
theorem dX7_count_0 : decode cX7_count 0 = .ok (.iload_n 1, 1) := by decide +kernel
theorem dX7_count_1 : decode cX7_count 1 = .ok (.tableswitch 135 0 9 #[55, 63, 71, 79, 87, 98, 106, 114, 119, 127], 55) := by decide +kernel
theorem dX7_count_56 : decode cX7_count 56 = .ok (.aload_n 0, 1) := by decide +kernel
theorem dX7_count_57 : decode cX7_count 57 = .ok (.getfield 10, 3) := by decide +kernel
theorem dX7_count_60 : decode cX7_count 60 = .ok (.getfield 47, 3) := by decide +kernel
theorem dX7_count_63 : decode cX7_count 63 = .ok (.ireturn, 1) := by decide +kernel
theorem dX7_count_64 : decode cX7_count 64 = .ok (.aload_n 0, 1) := by decide +kernel
theorem dX7_count_65 : decode cX7_count 65 = .ok (.getfield 10, 3) := by decide +kernel
theorem dX7_count_68 : decode cX7_count 68 = .ok (.getfield 68, 3) := by decide +kernel
theorem dX7_count_71 : decode cX7_count 71 = .ok (.ireturn, 1) := by decide +kernel
theorem dX7_count_72 : decode cX7_count 72 = .ok (.aload_n 0, 1) := by decide +kernel
theorem dX7_count_73 : decode cX7_count 73 = .ok (.getfield 10, 3) := by decide +kernel
theorem dX7_count_76 : decode cX7_count 76 = .ok (.getfield 116, 3) := by decide +kernel
theorem dX7_count_79 : decode cX7_count 79 = .ok (.ireturn, 1) := by decide +kernel
theorem dX7_count_80 : decode cX7_count 80 = .ok (.aload_n 0, 1) := by decide +kernel
theorem dX7_count_81 : decode cX7_count 81 = .ok (.getfield 10, 3) := by decide +kernel
theorem dX7_count_84 : decode cX7_count 84 = .ok (.invokevirtual 305, 3) := by decide +kernel
theorem dX7_count_87 : decode cX7_count 87 = .ok (.ireturn, 1) := by decide +kernel
theorem dX7_count_88 : decode cX7_count 88 = .ok (.aload_n 0, 1) := by decide +kernel
theorem dX7_count_89 : decode cX7_count 89 = .ok (.getfield 10, 3) := by decide +kernel
theorem dX7_count_92 : decode cX7_count 92 = .ok (.bipush 6, 2) := by decide +kernel
theorem dX7_count_94 : decode cX7_count 94 = .ok (.invokevirtual 296, 3) := by decide +kernel
theorem dX7_count_97 : decode cX7_count 97 = .ok (.l2i, 1) := by decide +kernel
theorem dX7_count_98 : decode cX7_count 98 = .ok (.ireturn, 1) := by decide +kernel
theorem dX7_count_99 : decode cX7_count 99 = .ok (.aload_n 0, 1) := by decide +kernel
theorem dX7_count_100 : decode cX7_count 100 = .ok (.getfield 10, 3) := by decide +kernel
theorem dX7_count_103 : decode cX7_count 103 = .ok (.invokevirtual 308, 3) := by decide +kernel
theorem dX7_count_106 : decode cX7_count 106 = .ok (.ireturn, 1) := by decide +kernel
theorem dX7_count_107 : decode cX7_count 107 = .ok (.aload_n 0, 1) := by decide +kernel
theorem dX7_count_108 : decode cX7_count 108 = .ok (.getfield 10, 3) := by decide +kernel
theorem dX7_count_111 : decode cX7_count 111 = .ok (.getfield 84, 3) := by decide +kernel
theorem dX7_count_114 : decode cX7_count 114 = .ok (.ireturn, 1) := by decide +kernel
theorem dX7_count_115 : decode cX7_count 115 = .ok (.aload_n 0, 1) := by decide +kernel
theorem dX7_count_116 : decode cX7_count 116 = .ok (.getfield 34, 3) := by decide +kernel
theorem dX7_count_119 : decode cX7_count 119 = .ok (.ireturn, 1) := by decide +kernel
theorem dX7_count_120 : decode cX7_count 120 = .ok (.aload_n 0, 1) := by decide +kernel
theorem dX7_count_121 : decode cX7_count 121 = .ok (.getfield 19, 3) := by decide +kernel
theorem dX7_count_124 : decode cX7_count 124 = .ok (.getfield 245, 3) := by decide +kernel
theorem dX7_count_127 : decode cX7_count 127 = .ok (.ireturn, 1) := by decide +kernel
theorem dX7_count_128 : decode cX7_count 128 = .ok (.aload_n 0, 1) := by decide +kernel
theorem dX7_count_129 : decode cX7_count 129 = .ok (.getfield 30, 3) := by decide +kernel
theorem dX7_count_132 : decode cX7_count 132 = .ok (.getfield 311, 3) := by decide +kernel
theorem dX7_count_135 : decode cX7_count 135 = .ok (.ireturn, 1) := by decide +kernel
theorem dX7_count_136 : decode cX7_count 136 = .ok (.ldc 46, 2) := by decide +kernel
theorem dX7_count_138 : decode cX7_count 138 = .ok (.ireturn, 1) := by decide +kernel
theorem dX7_isWithin_0 : decode cX7_isWithin 0 = .ok (.iload_n 0, 1) := by decide +kernel
theorem dX7_isWithin_1 : decode cX7_isWithin 1 = .ok (.iload_n 1, 1) := by decide +kernel
theorem dX7_isWithin_2 : decode cX7_isWithin 2 = .ok (.if_icmp .lt 12, 3) := by decide +kernel
theorem dX7_isWithin_5 : decode cX7_isWithin 5 = .ok (.iload_n 0, 1) := by decide +kernel
theorem dX7_isWithin_6 : decode cX7_isWithin 6 = .ok (.iload_n 2, 1) := by decide +kernel
theorem dX7_isWithin_7 : decode cX7_isWithin 7 = .ok (.if_icmp .gt 7, 3) := by decide +kernel
theorem dX7_isWithin_10 : decode cX7_isWithin 10 = .ok (.iconst 1, 1) := by decide +kernel
theorem dX7_isWithin_11 : decode cX7_isWithin 11 = .ok (.goto 4, 3) := by decide +kernel
theorem dX7_isWithin_14 : decode cX7_isWithin 14 = .ok (.iconst 0, 1) := by decide +kernel
theorem dX7_isWithin_15 : decode cX7_isWithin 15 = .ok (.ireturn, 1) := by decide +kernel
theorem dX7_isBasin_0 : decode cX7_isBasin 0 = .ok (.iload_n 0, 1) := by decide +kernel
theorem dX7_isBasin_1 : decode cX7_isBasin 1 = .ok (.bipush 100, 2) := by decide +kernel
theorem dX7_isBasin_3 : decode cX7_isBasin 3 = .ok (.ldc_w 312, 3) := by decide +kernel
theorem dX7_isBasin_6 : decode cX7_isBasin 6 = .ok (.invokestatic 65, 3) := by decide +kernel
theorem dX7_isBasin_9 : decode cX7_isBasin 9 = .ok (.ifCond .eq 18, 3) := by decide +kernel
theorem dX7_isBasin_12 : decode cX7_isBasin 12 = .ok (.iload_n 1, 1) := by decide +kernel
theorem dX7_isBasin_13 : decode cX7_isBasin 13 = .ok (.iconst 0, 1) := by decide +kernel
theorem dX7_isBasin_14 : decode cX7_isBasin 14 = .ok (.sipush 5000, 3) := by decide +kernel
theorem dX7_isBasin_17 : decode cX7_isBasin 17 = .ok (.invokestatic 65, 3) := by decide +kernel
theorem dX7_isBasin_20 : decode cX7_isBasin 20 = .ok (.ifCond .eq 7, 3) := by decide +kernel
theorem dX7_isBasin_23 : decode cX7_isBasin 23 = .ok (.iconst 1, 1) := by decide +kernel
theorem dX7_isBasin_24 : decode cX7_isBasin 24 = .ok (.goto 4, 3) := by decide +kernel
theorem dX7_isBasin_27 : decode cX7_isBasin 27 = .ok (.iconst 0, 1) := by decide +kernel
theorem dX7_isBasin_28 : decode cX7_isBasin 28 = .ok (.ireturn, 1) := by decide +kernel
theorem dX7_isReach_0 : decode cX7_isReach 0 = .ok (.iload_n 0, 1) := by decide +kernel
theorem dX7_isReach_1 : decode cX7_isReach 1 = .ok (.iload_n 1, 1) := by decide +kernel
theorem dX7_isReach_2 : decode cX7_isReach 2 = .ok (.invokestatic 61, 3) := by decide +kernel
theorem dX7_isReach_5 : decode cX7_isReach 5 = .ok (.ifCond .eq 18, 3) := by decide +kernel
theorem dX7_isReach_8 : decode cX7_isReach 8 = .ok (.iload_n 2, 1) := by decide +kernel
theorem dX7_isReach_9 : decode cX7_isReach 9 = .ok (.iconst 0, 1) := by decide +kernel
theorem dX7_isReach_10 : decode cX7_isReach 10 = .ok (.ldc_w 313, 3) := by decide +kernel
theorem dX7_isReach_13 : decode cX7_isReach 13 = .ok (.invokestatic 65, 3) := by decide +kernel
theorem dX7_isReach_16 : decode cX7_isReach 16 = .ok (.ifCond .eq 7, 3) := by decide +kernel
theorem dX7_isReach_19 : decode cX7_isReach 19 = .ok (.iconst 1, 1) := by decide +kernel
theorem dX7_isReach_20 : decode cX7_isReach 20 = .ok (.goto 4, 3) := by decide +kernel
theorem dX7_isReach_23 : decode cX7_isReach 23 = .ok (.iconst 0, 1) := by decide +kernel
theorem dX7_isReach_24 : decode cX7_isReach 24 = .ok (.ireturn, 1) := by decide +kernel
theorem dX7_isTons_0 : decode cX7_isTons 0 = .ok (.iload_n 0, 1) := by decide +kernel
theorem dX7_isTons_1 : decode cX7_isTons 1 = .ok (.ifCond .eq 20, 3) := by decide +kernel
theorem dX7_isTons_4 : decode cX7_isTons 4 = .ok (.iload_n 0, 1) := by decide +kernel
theorem dX7_isTons_5 : decode cX7_isTons 5 = .ok (.sipush (-1000), 3) := by decide +kernel
theorem dX7_isTons_8 : decode cX7_isTons 8 = .ok (.sipush 1000, 3) := by decide +kernel
theorem dX7_isTons_11 : decode cX7_isTons 11 = .ok (.invokestatic 65, 3) := by decide +kernel
theorem dX7_isTons_14 : decode cX7_isTons 14 = .ok (.ifCond .eq 7, 3) := by decide +kernel
theorem dX7_isTons_17 : decode cX7_isTons 17 = .ok (.iconst 1, 1) := by decide +kernel
theorem dX7_isTons_18 : decode cX7_isTons 18 = .ok (.goto 4, 3) := by decide +kernel
theorem dX7_isTons_21 : decode cX7_isTons 21 = .ok (.iconst 0, 1) := by decide +kernel
theorem dX7_isTons_22 : decode cX7_isTons 22 = .ok (.ireturn, 1) := by decide +kernel
theorem dX7_divideDown_0 : decode cX7_divideDown 0 = .ok (.lload_n 2, 1) := by decide +kernel
theorem dX7_divideDown_1 : decode cX7_divideDown 1 = .ok (.lconst 1, 1) := by decide +kernel
theorem dX7_divideDown_2 : decode cX7_divideDown 2 = .ok (.lcmp, 1) := by decide +kernel
theorem dX7_divideDown_3 : decode cX7_divideDown 3 = .ok (.ifCond .ge 7, 3) := by decide +kernel
theorem dX7_divideDown_6 : decode cX7_divideDown 6 = .ok (.lconst 0, 1) := by decide +kernel
theorem dX7_divideDown_7 : decode cX7_divideDown 7 = .ok (.goto 8, 3) := by decide +kernel
theorem dX7_divideDown_10 : decode cX7_divideDown 10 = .ok (.lload_n 0, 1) := by decide +kernel
theorem dX7_divideDown_11 : decode cX7_divideDown 11 = .ok (.lload_n 2, 1) := by decide +kernel
theorem dX7_divideDown_12 : decode cX7_divideDown 12 = .ok (.invokestatic 314, 3) := by decide +kernel
theorem dX7_divideDown_15 : decode cX7_divideDown 15 = .ok (.lreturn, 1) := by decide +kernel
theorem dX7_refuse_0 : decode cX7_refuse 0 = .ok (.aload_n 0, 1) := by decide +kernel
theorem dX7_refuse_1 : decode cX7_refuse 1 = .ok (.iload_n 1, 1) := by decide +kernel
theorem dX7_refuse_2 : decode cX7_refuse 2 = .ok (.putfield 34, 3) := by decide +kernel
theorem dX7_refuse_5 : decode cX7_refuse 5 = .ok (.ldc_w 317, 3) := by decide +kernel
theorem dX7_refuse_8 : decode cX7_refuse 8 = .ok (.ireturn, 1) := by decide +kernel
theorem dX7_record_0 : decode cX7_record 0 = .ok (.aload_n 0, 1) := by decide +kernel
theorem dX7_record_1 : decode cX7_record 1 = .ok (.getfield 38, 3) := by decide +kernel
theorem dX7_record_4 : decode cX7_record 4 = .ok (.ifCond .ne 14, 3) := by decide +kernel
theorem dX7_record_7 : decode cX7_record 7 = .ok (.aload_n 0, 1) := by decide +kernel
theorem dX7_record_8 : decode cX7_record 8 = .ok (.getfield 19, 3) := by decide +kernel
theorem dX7_record_11 : decode cX7_record 11 = .ok (.aload_n 0, 1) := by decide +kernel
theorem dX7_record_12 : decode cX7_record 12 = .ok (.getfield 10, 3) := by decide +kernel
theorem dX7_record_15 : decode cX7_record 15 = .ok (.invokevirtual 318, 3) := by decide +kernel
theorem dX7_record_18 : decode cX7_record 18 = .ok (.return_, 1) := by decide +kernel
theorem dX7_carryOut_0 : decode cX7_carryOut 0 = .ok (.aload_n 0, 1) := by decide +kernel
theorem dX7_carryOut_1 : decode cX7_carryOut 1 = .ok (.getfield 30, 3) := by decide +kernel
theorem dX7_carryOut_4 : decode cX7_carryOut 4 = .ok (.getfield 321, 3) := by decide +kernel
theorem dX7_carryOut_7 : decode cX7_carryOut 7 = .ok (.tableswitch 167 0 6 #[41, 60, 79, 91, 110, 129, 148], 41) := by decide +kernel
theorem dX7_carryOut_48 : decode cX7_carryOut 48 = .ok (.aload_n 0, 1) := by decide +kernel
theorem dX7_carryOut_49 : decode cX7_carryOut 49 = .ok (.aload_n 0, 1) := by decide +kernel
theorem dX7_carryOut_50 : decode cX7_carryOut 50 = .ok (.getfield 30, 3) := by decide +kernel
theorem dX7_carryOut_53 : decode cX7_carryOut 53 = .ok (.getfield 324, 3) := by decide +kernel
theorem dX7_carryOut_56 : decode cX7_carryOut 56 = .ok (.aload_n 0, 1) := by decide +kernel
theorem dX7_carryOut_57 : decode cX7_carryOut 57 = .ok (.getfield 30, 3) := by decide +kernel
theorem dX7_carryOut_60 : decode cX7_carryOut 60 = .ok (.getfield 327, 3) := by decide +kernel
theorem dX7_carryOut_63 : decode cX7_carryOut 63 = .ok (.invokevirtual 330, 3) := by decide +kernel
theorem dX7_carryOut_66 : decode cX7_carryOut 66 = .ok (.ireturn, 1) := by decide +kernel
theorem dX7_carryOut_67 : decode cX7_carryOut 67 = .ok (.aload_n 0, 1) := by decide +kernel
theorem dX7_carryOut_68 : decode cX7_carryOut 68 = .ok (.aload_n 0, 1) := by decide +kernel
theorem dX7_carryOut_69 : decode cX7_carryOut 69 = .ok (.getfield 30, 3) := by decide +kernel
theorem dX7_carryOut_72 : decode cX7_carryOut 72 = .ok (.getfield 324, 3) := by decide +kernel
theorem dX7_carryOut_75 : decode cX7_carryOut 75 = .ok (.aload_n 0, 1) := by decide +kernel
theorem dX7_carryOut_76 : decode cX7_carryOut 76 = .ok (.getfield 30, 3) := by decide +kernel
theorem dX7_carryOut_79 : decode cX7_carryOut 79 = .ok (.getfield 327, 3) := by decide +kernel
theorem dX7_carryOut_82 : decode cX7_carryOut 82 = .ok (.invokevirtual 334, 3) := by decide +kernel
theorem dX7_carryOut_85 : decode cX7_carryOut 85 = .ok (.ireturn, 1) := by decide +kernel
theorem dX7_carryOut_86 : decode cX7_carryOut 86 = .ok (.aload_n 0, 1) := by decide +kernel
theorem dX7_carryOut_87 : decode cX7_carryOut 87 = .ok (.aload_n 0, 1) := by decide +kernel
theorem dX7_carryOut_88 : decode cX7_carryOut 88 = .ok (.getfield 30, 3) := by decide +kernel
theorem dX7_carryOut_91 : decode cX7_carryOut 91 = .ok (.getfield 324, 3) := by decide +kernel
theorem dX7_carryOut_94 : decode cX7_carryOut 94 = .ok (.invokevirtual 337, 3) := by decide +kernel
theorem dX7_carryOut_97 : decode cX7_carryOut 97 = .ok (.ireturn, 1) := by decide +kernel
theorem dX7_carryOut_98 : decode cX7_carryOut 98 = .ok (.aload_n 0, 1) := by decide +kernel
theorem dX7_carryOut_99 : decode cX7_carryOut 99 = .ok (.aload_n 0, 1) := by decide +kernel
theorem dX7_carryOut_100 : decode cX7_carryOut 100 = .ok (.getfield 30, 3) := by decide +kernel
theorem dX7_carryOut_103 : decode cX7_carryOut 103 = .ok (.getfield 324, 3) := by decide +kernel
theorem dX7_carryOut_106 : decode cX7_carryOut 106 = .ok (.aload_n 0, 1) := by decide +kernel
theorem dX7_carryOut_107 : decode cX7_carryOut 107 = .ok (.getfield 30, 3) := by decide +kernel
theorem dX7_carryOut_110 : decode cX7_carryOut 110 = .ok (.getfield 327, 3) := by decide +kernel
theorem dX7_carryOut_113 : decode cX7_carryOut 113 = .ok (.invokevirtual 340, 3) := by decide +kernel
theorem dX7_carryOut_116 : decode cX7_carryOut 116 = .ok (.ireturn, 1) := by decide +kernel
theorem dX7_carryOut_117 : decode cX7_carryOut 117 = .ok (.aload_n 0, 1) := by decide +kernel
theorem dX7_carryOut_118 : decode cX7_carryOut 118 = .ok (.aload_n 0, 1) := by decide +kernel
theorem dX7_carryOut_119 : decode cX7_carryOut 119 = .ok (.getfield 30, 3) := by decide +kernel
theorem dX7_carryOut_122 : decode cX7_carryOut 122 = .ok (.getfield 324, 3) := by decide +kernel
theorem dX7_carryOut_125 : decode cX7_carryOut 125 = .ok (.aload_n 0, 1) := by decide +kernel
theorem dX7_carryOut_126 : decode cX7_carryOut 126 = .ok (.getfield 30, 3) := by decide +kernel
theorem dX7_carryOut_129 : decode cX7_carryOut 129 = .ok (.getfield 327, 3) := by decide +kernel
theorem dX7_carryOut_132 : decode cX7_carryOut 132 = .ok (.invokevirtual 343, 3) := by decide +kernel
theorem dX7_carryOut_135 : decode cX7_carryOut 135 = .ok (.ireturn, 1) := by decide +kernel
theorem dX7_carryOut_136 : decode cX7_carryOut 136 = .ok (.aload_n 0, 1) := by decide +kernel
theorem dX7_carryOut_137 : decode cX7_carryOut 137 = .ok (.aload_n 0, 1) := by decide +kernel
theorem dX7_carryOut_138 : decode cX7_carryOut 138 = .ok (.getfield 30, 3) := by decide +kernel
theorem dX7_carryOut_141 : decode cX7_carryOut 141 = .ok (.getfield 324, 3) := by decide +kernel
theorem dX7_carryOut_144 : decode cX7_carryOut 144 = .ok (.aload_n 0, 1) := by decide +kernel
theorem dX7_carryOut_145 : decode cX7_carryOut 145 = .ok (.getfield 30, 3) := by decide +kernel
theorem dX7_carryOut_148 : decode cX7_carryOut 148 = .ok (.getfield 327, 3) := by decide +kernel
theorem dX7_carryOut_151 : decode cX7_carryOut 151 = .ok (.invokevirtual 346, 3) := by decide +kernel
theorem dX7_carryOut_154 : decode cX7_carryOut 154 = .ok (.ireturn, 1) := by decide +kernel
theorem dX7_carryOut_155 : decode cX7_carryOut 155 = .ok (.aload_n 0, 1) := by decide +kernel
theorem dX7_carryOut_156 : decode cX7_carryOut 156 = .ok (.aload_n 0, 1) := by decide +kernel
theorem dX7_carryOut_157 : decode cX7_carryOut 157 = .ok (.getfield 30, 3) := by decide +kernel
theorem dX7_carryOut_160 : decode cX7_carryOut 160 = .ok (.getfield 324, 3) := by decide +kernel
theorem dX7_carryOut_163 : decode cX7_carryOut 163 = .ok (.aload_n 0, 1) := by decide +kernel
theorem dX7_carryOut_164 : decode cX7_carryOut 164 = .ok (.getfield 30, 3) := by decide +kernel
theorem dX7_carryOut_167 : decode cX7_carryOut 167 = .ok (.getfield 327, 3) := by decide +kernel
theorem dX7_carryOut_170 : decode cX7_carryOut 170 = .ok (.invokevirtual 349, 3) := by decide +kernel
theorem dX7_carryOut_173 : decode cX7_carryOut 173 = .ok (.ireturn, 1) := by decide +kernel
theorem dX7_carryOut_174 : decode cX7_carryOut 174 = .ok (.ldc 78, 2) := by decide +kernel
theorem dX7_carryOut_176 : decode cX7_carryOut 176 = .ok (.ireturn, 1) := by decide +kernel
theorem dX8_init_0 : decode cX8_init 0 = .ok (.aload_n 0, 1) := by decide +kernel
theorem dX8_init_1 : decode cX8_init 1 = .ok (.invokespecial 1, 3) := by decide +kernel
theorem dX8_init_4 : decode cX8_init 4 = .ok (.aload_n 0, 1) := by decide +kernel
theorem dX8_init_5 : decode cX8_init 5 = .ok (.sipush 213, 3) := by decide +kernel
theorem dX8_init_8 : decode cX8_init 8 = .ok (.newarray .int, 2) := by decide +kernel
theorem dX8_init_10 : decode cX8_init 10 = .ok (.putfield 7, 3) := by decide +kernel
theorem dX8_init_13 : decode cX8_init 13 = .ok (.aload_n 0, 1) := by decide +kernel
theorem dX8_init_14 : decode cX8_init 14 = .ok (.sipush 213, 3) := by decide +kernel
theorem dX8_init_17 : decode cX8_init 17 = .ok (.newarray .int, 2) := by decide +kernel
theorem dX8_init_19 : decode cX8_init 19 = .ok (.putfield 13, 3) := by decide +kernel
theorem dX8_init_22 : decode cX8_init 22 = .ok (.aload_n 0, 1) := by decide +kernel
theorem dX8_init_23 : decode cX8_init 23 = .ok (.sipush 1065, 3) := by decide +kernel
theorem dX8_init_26 : decode cX8_init 26 = .ok (.newarray .int, 2) := by decide +kernel
theorem dX8_init_28 : decode cX8_init 28 = .ok (.putfield 16, 3) := by decide +kernel
theorem dX8_init_31 : decode cX8_init 31 = .ok (.aload_n 0, 1) := by decide +kernel
theorem dX8_init_32 : decode cX8_init 32 = .ok (.sipush 426, 3) := by decide +kernel
theorem dX8_init_35 : decode cX8_init 35 = .ok (.newarray .int, 2) := by decide +kernel
theorem dX8_init_37 : decode cX8_init 37 = .ok (.putfield 19, 3) := by decide +kernel
theorem dX8_init_40 : decode cX8_init 40 = .ok (.aload_n 0, 1) := by decide +kernel
theorem dX8_init_41 : decode cX8_init 41 = .ok (.iconst 2, 1) := by decide +kernel
theorem dX8_init_42 : decode cX8_init 42 = .ok (.newarray .boolean, 2) := by decide +kernel
theorem dX8_init_44 : decode cX8_init 44 = .ok (.putfield 22, 3) := by decide +kernel
theorem dX8_init_47 : decode cX8_init 47 = .ok (.aload_n 0, 1) := by decide +kernel
theorem dX8_init_48 : decode cX8_init 48 = .ok (.bipush 60, 2) := by decide +kernel
theorem dX8_init_50 : decode cX8_init 50 = .ok (.newarray .char, 2) := by decide +kernel
theorem dX8_init_52 : decode cX8_init 52 = .ok (.putfield 26, 3) := by decide +kernel
theorem dX8_init_55 : decode cX8_init 55 = .ok (.aload_n 0, 1) := by decide +kernel
theorem dX8_init_56 : decode cX8_init 56 = .ok (.bipush 90, 2) := by decide +kernel
theorem dX8_init_58 : decode cX8_init 58 = .ok (.newarray .int, 2) := by decide +kernel
theorem dX8_init_60 : decode cX8_init 60 = .ok (.putfield 30, 3) := by decide +kernel
theorem dX8_init_63 : decode cX8_init 63 = .ok (.aload_n 0, 1) := by decide +kernel
theorem dX8_init_64 : decode cX8_init 64 = .ok (.getfield 7, 3) := by decide +kernel
theorem dX8_init_67 : decode cX8_init 67 = .ok (.iconst 3, 1) := by decide +kernel
theorem dX8_init_68 : decode cX8_init 68 = .ok (.bipush 10, 2) := by decide +kernel
theorem dX8_init_70 : decode cX8_init 70 = .ok (.iastore, 1) := by decide +kernel
theorem dX8_init_71 : decode cX8_init 71 = .ok (.return_, 1) := by decide +kernel
theorem dX8_in_0 : decode cX8_in 0 = .ok (.iload_n 0, 1) := by decide +kernel
theorem dX8_in_1 : decode cX8_in 1 = .ok (.iload_n 1, 1) := by decide +kernel
theorem dX8_in_2 : decode cX8_in 2 = .ok (.if_icmp .lt 12, 3) := by decide +kernel
theorem dX8_in_5 : decode cX8_in 5 = .ok (.iload_n 0, 1) := by decide +kernel
theorem dX8_in_6 : decode cX8_in 6 = .ok (.iload_n 2, 1) := by decide +kernel
theorem dX8_in_7 : decode cX8_in 7 = .ok (.if_icmp .gt 7, 3) := by decide +kernel
theorem dX8_in_10 : decode cX8_in 10 = .ok (.iconst 1, 1) := by decide +kernel
theorem dX8_in_11 : decode cX8_in 11 = .ok (.goto 4, 3) := by decide +kernel
theorem dX8_in_14 : decode cX8_in 14 = .ok (.iconst 0, 1) := by decide +kernel
theorem dX8_in_15 : decode cX8_in 15 = .ok (.ireturn, 1) := by decide +kernel
theorem dX8_down_0 : decode cX8_down 0 = .ok (.lload_n 0, 1) := by decide +kernel
theorem dX8_down_1 : decode cX8_down 1 = .ok (.lload_n 2, 1) := by decide +kernel
theorem dX8_down_2 : decode cX8_down 2 = .ok (.ldiv, 1) := by decide +kernel
theorem dX8_down_3 : decode cX8_down 3 = .ok (.lstore 4, 2) := by decide +kernel
theorem dX8_down_5 : decode cX8_down 5 = .ok (.lload_n 0, 1) := by decide +kernel
theorem dX8_down_6 : decode cX8_down 6 = .ok (.lload_n 2, 1) := by decide +kernel
theorem dX8_down_7 : decode cX8_down 7 = .ok (.lrem, 1) := by decide +kernel
theorem dX8_down_8 : decode cX8_down 8 = .ok (.lconst 0, 1) := by decide +kernel
theorem dX8_down_9 : decode cX8_down 9 = .ok (.lcmp, 1) := by decide +kernel
theorem dX8_down_10 : decode cX8_down 10 = .ok (.ifCond .ge 10, 3) := by decide +kernel
theorem dX8_down_13 : decode cX8_down 13 = .ok (.lload 4, 2) := by decide +kernel
theorem dX8_down_15 : decode cX8_down 15 = .ok (.lconst 1, 1) := by decide +kernel
theorem dX8_down_16 : decode cX8_down 16 = .ok (.lsub, 1) := by decide +kernel
theorem dX8_down_17 : decode cX8_down 17 = .ok (.goto 5, 3) := by decide +kernel
theorem dX8_down_20 : decode cX8_down 20 = .ok (.lload 4, 2) := by decide +kernel
theorem dX8_down_22 : decode cX8_down 22 = .ok (.lreturn, 1) := by decide +kernel
theorem dX8_refuse_0 : decode cX8_refuse 0 = .ok (.aload_n 0, 1) := by decide +kernel
theorem dX8_refuse_1 : decode cX8_refuse 1 = .ok (.iload_n 1, 1) := by decide +kernel
theorem dX8_refuse_2 : decode cX8_refuse 2 = .ok (.putfield 33, 3) := by decide +kernel
theorem dX8_refuse_5 : decode cX8_refuse 5 = .ok (.ldc 37, 2) := by decide +kernel
theorem dX8_refuse_7 : decode cX8_refuse 7 = .ok (.ireturn, 1) := by decide +kernel
theorem dX8_begin_0 : decode cX8_begin 0 = .ok (.iconst 0, 1) := by decide +kernel
theorem dX8_begin_1 : decode cX8_begin 1 = .ok (.istore_n 1, 1) := by decide +kernel
theorem dX8_begin_2 : decode cX8_begin 2 = .ok (.iload_n 1, 1) := by decide +kernel
theorem dX8_begin_3 : decode cX8_begin 3 = .ok (.sipush 213, 3) := by decide +kernel
theorem dX8_begin_6 : decode cX8_begin 6 = .ok (.if_icmp .ge 21, 3) := by decide +kernel
theorem dX8_begin_9 : decode cX8_begin 9 = .ok (.aload_n 0, 1) := by decide +kernel
theorem dX8_begin_10 : decode cX8_begin 10 = .ok (.getfield 13, 3) := by decide +kernel
theorem dX8_begin_13 : decode cX8_begin 13 = .ok (.iload_n 1, 1) := by decide +kernel
theorem dX8_begin_14 : decode cX8_begin 14 = .ok (.aload_n 0, 1) := by decide +kernel
theorem dX8_begin_15 : decode cX8_begin 15 = .ok (.getfield 7, 3) := by decide +kernel
theorem dX8_begin_18 : decode cX8_begin 18 = .ok (.iload_n 1, 1) := by decide +kernel
theorem dX8_begin_19 : decode cX8_begin 19 = .ok (.iaload, 1) := by decide +kernel
theorem dX8_begin_20 : decode cX8_begin 20 = .ok (.iastore, 1) := by decide +kernel
theorem dX8_begin_21 : decode cX8_begin 21 = .ok (.iinc 1 1, 3) := by decide +kernel
theorem dX8_begin_24 : decode cX8_begin 24 = .ok (.goto (-22), 3) := by decide +kernel
theorem dX8_begin_27 : decode cX8_begin 27 = .ok (.return_, 1) := by decide +kernel
theorem dX8_record_0 : decode cX8_record 0 = .ok (.aload_n 0, 1) := by decide +kernel
theorem dX8_record_1 : decode cX8_record 1 = .ok (.getfield 38, 3) := by decide +kernel
theorem dX8_record_4 : decode cX8_record 4 = .ok (.iconst 5, 1) := by decide +kernel
theorem dX8_record_5 : decode cX8_record 5 = .ok (.if_icmp .ne 49, 3) := by decide +kernel
theorem dX8_record_8 : decode cX8_record 8 = .ok (.aload_n 0, 1) := by decide +kernel
theorem dX8_record_9 : decode cX8_record 9 = .ok (.dup, 1) := by decide +kernel
theorem dX8_record_10 : decode cX8_record 10 = .ok (.getfield 38, 3) := by decide +kernel
theorem dX8_record_13 : decode cX8_record 13 = .ok (.iconst 1, 1) := by decide +kernel
theorem dX8_record_14 : decode cX8_record 14 = .ok (.isub, 1) := by decide +kernel
theorem dX8_record_15 : decode cX8_record 15 = .ok (.putfield 38, 3) := by decide +kernel
theorem dX8_record_18 : decode cX8_record 18 = .ok (.iconst 0, 1) := by decide +kernel
theorem dX8_record_19 : decode cX8_record 19 = .ok (.istore_n 1, 1) := by decide +kernel
theorem dX8_record_20 : decode cX8_record 20 = .ok (.iload_n 1, 1) := by decide +kernel
theorem dX8_record_21 : decode cX8_record 21 = .ok (.sipush 213, 3) := by decide +kernel
theorem dX8_record_24 : decode cX8_record 24 = .ok (.aload_n 0, 1) := by decide +kernel
theorem dX8_record_25 : decode cX8_record 25 = .ok (.getfield 38, 3) := by decide +kernel
theorem dX8_record_28 : decode cX8_record 28 = .ok (.imul, 1) := by decide +kernel
theorem dX8_record_29 : decode cX8_record 29 = .ok (.if_icmp .ge 25, 3) := by decide +kernel
theorem dX8_record_32 : decode cX8_record 32 = .ok (.aload_n 0, 1) := by decide +kernel
theorem dX8_record_33 : decode cX8_record 33 = .ok (.getfield 16, 3) := by decide +kernel
theorem dX8_record_36 : decode cX8_record 36 = .ok (.iload_n 1, 1) := by decide +kernel
theorem dX8_record_37 : decode cX8_record 37 = .ok (.aload_n 0, 1) := by decide +kernel
theorem dX8_record_38 : decode cX8_record 38 = .ok (.getfield 16, 3) := by decide +kernel
theorem dX8_record_41 : decode cX8_record 41 = .ok (.iload_n 1, 1) := by decide +kernel
theorem dX8_record_42 : decode cX8_record 42 = .ok (.sipush 213, 3) := by decide +kernel
theorem dX8_record_45 : decode cX8_record 45 = .ok (.iadd, 1) := by decide +kernel
theorem dX8_record_46 : decode cX8_record 46 = .ok (.iaload, 1) := by decide +kernel
theorem dX8_record_47 : decode cX8_record 47 = .ok (.iastore, 1) := by decide +kernel
theorem dX8_record_48 : decode cX8_record 48 = .ok (.iinc 1 1, 3) := by decide +kernel
theorem dX8_record_51 : decode cX8_record 51 = .ok (.goto (-31), 3) := by decide +kernel
theorem dX8_record_54 : decode cX8_record 54 = .ok (.iconst 0, 1) := by decide +kernel
theorem dX8_record_55 : decode cX8_record 55 = .ok (.istore_n 1, 1) := by decide +kernel
theorem dX8_record_56 : decode cX8_record 56 = .ok (.iload_n 1, 1) := by decide +kernel
theorem dX8_record_57 : decode cX8_record 57 = .ok (.sipush 213, 3) := by decide +kernel
theorem dX8_record_60 : decode cX8_record 60 = .ok (.if_icmp .ge 30, 3) := by decide +kernel
theorem dX8_record_63 : decode cX8_record 63 = .ok (.aload_n 0, 1) := by decide +kernel
theorem dX8_record_64 : decode cX8_record 64 = .ok (.getfield 16, 3) := by decide +kernel
theorem dX8_record_67 : decode cX8_record 67 = .ok (.sipush 213, 3) := by decide +kernel
theorem dX8_record_70 : decode cX8_record 70 = .ok (.aload_n 0, 1) := by decide +kernel
theorem dX8_record_71 : decode cX8_record 71 = .ok (.getfield 38, 3) := by decide +kernel
theorem dX8_record_74 : decode cX8_record 74 = .ok (.imul, 1) := by decide +kernel
theorem dX8_record_75 : decode cX8_record 75 = .ok (.iload_n 1, 1) := by decide +kernel
theorem dX8_record_76 : decode cX8_record 76 = .ok (.iadd, 1) := by decide +kernel
theorem dX8_record_77 : decode cX8_record 77 = .ok (.aload_n 0, 1) := by decide +kernel
theorem dX8_record_78 : decode cX8_record 78 = .ok (.getfield 13, 3) := by decide +kernel
theorem dX8_record_81 : decode cX8_record 81 = .ok (.iload_n 1, 1) := by decide +kernel
theorem dX8_record_82 : decode cX8_record 82 = .ok (.iaload, 1) := by decide +kernel
theorem dX8_record_83 : decode cX8_record 83 = .ok (.iastore, 1) := by decide +kernel
theorem dX8_record_84 : decode cX8_record 84 = .ok (.iinc 1 1, 3) := by decide +kernel
theorem dX8_record_87 : decode cX8_record 87 = .ok (.goto (-31), 3) := by decide +kernel
theorem dX8_record_90 : decode cX8_record 90 = .ok (.aload_n 0, 1) := by decide +kernel
theorem dX8_record_91 : decode cX8_record 91 = .ok (.dup, 1) := by decide +kernel
theorem dX8_record_92 : decode cX8_record 92 = .ok (.getfield 38, 3) := by decide +kernel
theorem dX8_record_95 : decode cX8_record 95 = .ok (.iconst 1, 1) := by decide +kernel
theorem dX8_record_96 : decode cX8_record 96 = .ok (.iadd, 1) := by decide +kernel
theorem dX8_record_97 : decode cX8_record 97 = .ok (.putfield 38, 3) := by decide +kernel
theorem dX8_record_100 : decode cX8_record 100 = .ok (.return_, 1) := by decide +kernel
theorem dX8_done_0 : decode cX8_done 0 = .ok (.iload_n 1, 1) := by decide +kernel
theorem dX8_done_1 : decode cX8_done 1 = .ok (.ldc 41, 2) := by decide +kernel
theorem dX8_done_3 : decode cX8_done 3 = .ok (.if_icmp .gt 5, 3) := by decide +kernel
theorem dX8_done_6 : decode cX8_done 6 = .ok (.iload_n 1, 1) := by decide +kernel
theorem dX8_done_7 : decode cX8_done 7 = .ok (.ireturn, 1) := by decide +kernel
theorem dX8_done_8 : decode cX8_done 8 = .ok (.aload_n 0, 1) := by decide +kernel
theorem dX8_done_9 : decode cX8_done 9 = .ok (.invokevirtual 42, 3) := by decide +kernel
theorem dX8_done_12 : decode cX8_done 12 = .ok (.aload_n 0, 1) := by decide +kernel
theorem dX8_done_13 : decode cX8_done 13 = .ok (.invokevirtual 45, 3) := by decide +kernel
theorem dX8_done_16 : decode cX8_done 16 = .ok (.iload_n 1, 1) := by decide +kernel
theorem dX8_done_17 : decode cX8_done 17 = .ok (.ireturn, 1) := by decide +kernel
theorem dX8_undo_0 : decode cX8_undo 0 = .ok (.aload_n 0, 1) := by decide +kernel
theorem dX8_undo_1 : decode cX8_undo 1 = .ok (.getfield 38, 3) := by decide +kernel
theorem dX8_undo_4 : decode cX8_undo 4 = .ok (.ifCond .ne 6, 3) := by decide +kernel
theorem dX8_undo_7 : decode cX8_undo 7 = .ok (.ldc 48, 2) := by decide +kernel
theorem dX8_undo_9 : decode cX8_undo 9 = .ok (.ireturn, 1) := by decide +kernel
theorem dX8_undo_10 : decode cX8_undo 10 = .ok (.aload_n 0, 1) := by decide +kernel
theorem dX8_undo_11 : decode cX8_undo 11 = .ok (.dup, 1) := by decide +kernel
theorem dX8_undo_12 : decode cX8_undo 12 = .ok (.getfield 38, 3) := by decide +kernel
theorem dX8_undo_15 : decode cX8_undo 15 = .ok (.iconst 1, 1) := by decide +kernel
theorem dX8_undo_16 : decode cX8_undo 16 = .ok (.isub, 1) := by decide +kernel
theorem dX8_undo_17 : decode cX8_undo 17 = .ok (.putfield 38, 3) := by decide +kernel
theorem dX8_undo_20 : decode cX8_undo 20 = .ok (.iconst 0, 1) := by decide +kernel
theorem dX8_undo_21 : decode cX8_undo 21 = .ok (.istore_n 1, 1) := by decide +kernel
theorem dX8_undo_22 : decode cX8_undo 22 = .ok (.iload_n 1, 1) := by decide +kernel
theorem dX8_undo_23 : decode cX8_undo 23 = .ok (.sipush 213, 3) := by decide +kernel
theorem dX8_undo_26 : decode cX8_undo 26 = .ok (.if_icmp .ge 30, 3) := by decide +kernel
theorem dX8_undo_29 : decode cX8_undo 29 = .ok (.aload_n 0, 1) := by decide +kernel
theorem dX8_undo_30 : decode cX8_undo 30 = .ok (.getfield 7, 3) := by decide +kernel
theorem dX8_undo_33 : decode cX8_undo 33 = .ok (.iload_n 1, 1) := by decide +kernel
theorem dX8_undo_34 : decode cX8_undo 34 = .ok (.aload_n 0, 1) := by decide +kernel
theorem dX8_undo_35 : decode cX8_undo 35 = .ok (.getfield 16, 3) := by decide +kernel
theorem dX8_undo_38 : decode cX8_undo 38 = .ok (.sipush 213, 3) := by decide +kernel
theorem dX8_undo_41 : decode cX8_undo 41 = .ok (.aload_n 0, 1) := by decide +kernel
theorem dX8_undo_42 : decode cX8_undo 42 = .ok (.getfield 38, 3) := by decide +kernel
theorem dX8_undo_45 : decode cX8_undo 45 = .ok (.imul, 1) := by decide +kernel
theorem dX8_undo_46 : decode cX8_undo 46 = .ok (.iload_n 1, 1) := by decide +kernel
theorem dX8_undo_47 : decode cX8_undo 47 = .ok (.iadd, 1) := by decide +kernel
theorem dX8_undo_48 : decode cX8_undo 48 = .ok (.iaload, 1) := by decide +kernel
theorem dX8_undo_49 : decode cX8_undo 49 = .ok (.iastore, 1) := by decide +kernel
theorem dX8_undo_50 : decode cX8_undo 50 = .ok (.iinc 1 1, 3) := by decide +kernel
theorem dX8_undo_53 : decode cX8_undo 53 = .ok (.goto (-31), 3) := by decide +kernel
theorem dX8_undo_56 : decode cX8_undo 56 = .ok (.aload_n 0, 1) := by decide +kernel
theorem dX8_undo_57 : decode cX8_undo 57 = .ok (.getfield 38, 3) := by decide +kernel
theorem dX8_undo_60 : decode cX8_undo 60 = .ok (.ireturn, 1) := by decide +kernel
theorem dX8_keep_0 : decode cX8_keep 0 = .ok (.iload_n 1, 1) := by decide +kernel
theorem dX8_keep_1 : decode cX8_keep 1 = .ok (.iconst 0, 1) := by decide +kernel
theorem dX8_keep_2 : decode cX8_keep 2 = .ok (.iconst 1, 1) := by decide +kernel
theorem dX8_keep_3 : decode cX8_keep 3 = .ok (.invokestatic 49, 3) := by decide +kernel
theorem dX8_keep_6 : decode cX8_keep 6 = .ok (.ifCond .ne 6, 3) := by decide +kernel
theorem dX8_keep_9 : decode cX8_keep 9 = .ok (.ldc 41, 2) := by decide +kernel
theorem dX8_keep_11 : decode cX8_keep 11 = .ok (.ireturn, 1) := by decide +kernel
theorem dX8_keep_12 : decode cX8_keep 12 = .ok (.aload_n 0, 1) := by decide +kernel
theorem dX8_keep_13 : decode cX8_keep 13 = .ok (.getfield 22, 3) := by decide +kernel
theorem dX8_keep_16 : decode cX8_keep 16 = .ok (.iload_n 1, 1) := by decide +kernel
theorem dX8_keep_17 : decode cX8_keep 17 = .ok (.iconst 1, 1) := by decide +kernel
theorem dX8_keep_18 : decode cX8_keep 18 = .ok (.bastore, 1) := by decide +kernel
theorem dX8_keep_19 : decode cX8_keep 19 = .ok (.iconst 0, 1) := by decide +kernel
theorem dX8_keep_20 : decode cX8_keep 20 = .ok (.istore_n 2, 1) := by decide +kernel
theorem dX8_keep_21 : decode cX8_keep 21 = .ok (.iload_n 2, 1) := by decide +kernel
theorem dX8_keep_22 : decode cX8_keep 22 = .ok (.sipush 213, 3) := by decide +kernel
theorem dX8_keep_25 : decode cX8_keep 25 = .ok (.if_icmp .ge 27, 3) := by decide +kernel
theorem dX8_keep_28 : decode cX8_keep 28 = .ok (.aload_n 0, 1) := by decide +kernel
theorem dX8_keep_29 : decode cX8_keep 29 = .ok (.getfield 19, 3) := by decide +kernel
theorem dX8_keep_32 : decode cX8_keep 32 = .ok (.sipush 213, 3) := by decide +kernel
theorem dX8_keep_35 : decode cX8_keep 35 = .ok (.iload_n 1, 1) := by decide +kernel
theorem dX8_keep_36 : decode cX8_keep 36 = .ok (.imul, 1) := by decide +kernel
theorem dX8_keep_37 : decode cX8_keep 37 = .ok (.iload_n 2, 1) := by decide +kernel
theorem dX8_keep_38 : decode cX8_keep 38 = .ok (.iadd, 1) := by decide +kernel
theorem dX8_keep_39 : decode cX8_keep 39 = .ok (.aload_n 0, 1) := by decide +kernel
theorem dX8_keep_40 : decode cX8_keep 40 = .ok (.getfield 7, 3) := by decide +kernel
theorem dX8_keep_43 : decode cX8_keep 43 = .ok (.iload_n 2, 1) := by decide +kernel
theorem dX8_keep_44 : decode cX8_keep 44 = .ok (.iaload, 1) := by decide +kernel
theorem dX8_keep_45 : decode cX8_keep 45 = .ok (.iastore, 1) := by decide +kernel
theorem dX8_keep_46 : decode cX8_keep 46 = .ok (.iinc 2 1, 3) := by decide +kernel
theorem dX8_keep_49 : decode cX8_keep 49 = .ok (.goto (-28), 3) := by decide +kernel
theorem dX8_keep_52 : decode cX8_keep 52 = .ok (.aload_n 0, 1) := by decide +kernel
theorem dX8_keep_53 : decode cX8_keep 53 = .ok (.getfield 7, 3) := by decide +kernel
theorem dX8_keep_56 : decode cX8_keep 56 = .ok (.iconst 2, 1) := by decide +kernel
theorem dX8_keep_57 : decode cX8_keep 57 = .ok (.iaload, 1) := by decide +kernel
theorem dX8_keep_58 : decode cX8_keep 58 = .ok (.ireturn, 1) := by decide +kernel
theorem dX8_restore_0 : decode cX8_restore 0 = .ok (.iload_n 1, 1) := by decide +kernel
theorem dX8_restore_1 : decode cX8_restore 1 = .ok (.iconst 0, 1) := by decide +kernel
theorem dX8_restore_2 : decode cX8_restore 2 = .ok (.iconst 1, 1) := by decide +kernel
theorem dX8_restore_3 : decode cX8_restore 3 = .ok (.invokestatic 49, 3) := by decide +kernel
theorem dX8_restore_6 : decode cX8_restore 6 = .ok (.ifCond .ne 6, 3) := by decide +kernel
theorem dX8_restore_9 : decode cX8_restore 9 = .ok (.ldc 41, 2) := by decide +kernel
theorem dX8_restore_11 : decode cX8_restore 11 = .ok (.ireturn, 1) := by decide +kernel
theorem dX8_restore_12 : decode cX8_restore 12 = .ok (.aload_n 0, 1) := by decide +kernel
theorem dX8_restore_13 : decode cX8_restore 13 = .ok (.getfield 22, 3) := by decide +kernel
theorem dX8_restore_16 : decode cX8_restore 16 = .ok (.iload_n 1, 1) := by decide +kernel
theorem dX8_restore_17 : decode cX8_restore 17 = .ok (.baload, 1) := by decide +kernel
theorem dX8_restore_18 : decode cX8_restore 18 = .ok (.ifCond .ne 6, 3) := by decide +kernel
theorem dX8_restore_21 : decode cX8_restore 21 = .ok (.ldc 48, 2) := by decide +kernel
theorem dX8_restore_23 : decode cX8_restore 23 = .ok (.ireturn, 1) := by decide +kernel
theorem dX8_restore_24 : decode cX8_restore 24 = .ok (.aload_n 0, 1) := by decide +kernel
theorem dX8_restore_25 : decode cX8_restore 25 = .ok (.invokevirtual 53, 3) := by decide +kernel
theorem dX8_restore_28 : decode cX8_restore 28 = .ok (.iconst 0, 1) := by decide +kernel
theorem dX8_restore_29 : decode cX8_restore 29 = .ok (.istore_n 2, 1) := by decide +kernel
theorem dX8_restore_30 : decode cX8_restore 30 = .ok (.iload_n 2, 1) := by decide +kernel
theorem dX8_restore_31 : decode cX8_restore 31 = .ok (.sipush 213, 3) := by decide +kernel
theorem dX8_restore_34 : decode cX8_restore 34 = .ok (.if_icmp .ge 27, 3) := by decide +kernel
theorem dX8_restore_37 : decode cX8_restore 37 = .ok (.aload_n 0, 1) := by decide +kernel
theorem dX8_restore_38 : decode cX8_restore 38 = .ok (.getfield 7, 3) := by decide +kernel
theorem dX8_restore_41 : decode cX8_restore 41 = .ok (.iload_n 2, 1) := by decide +kernel
theorem dX8_restore_42 : decode cX8_restore 42 = .ok (.aload_n 0, 1) := by decide +kernel
theorem dX8_restore_43 : decode cX8_restore 43 = .ok (.getfield 19, 3) := by decide +kernel
theorem dX8_restore_46 : decode cX8_restore 46 = .ok (.sipush 213, 3) := by decide +kernel
theorem dX8_restore_49 : decode cX8_restore 49 = .ok (.iload_n 1, 1) := by decide +kernel
theorem dX8_restore_50 : decode cX8_restore 50 = .ok (.imul, 1) := by decide +kernel
theorem dX8_restore_51 : decode cX8_restore 51 = .ok (.iload_n 2, 1) := by decide +kernel
theorem dX8_restore_52 : decode cX8_restore 52 = .ok (.iadd, 1) := by decide +kernel
theorem dX8_restore_53 : decode cX8_restore 53 = .ok (.iaload, 1) := by decide +kernel
theorem dX8_restore_54 : decode cX8_restore 54 = .ok (.iastore, 1) := by decide +kernel
theorem dX8_restore_55 : decode cX8_restore 55 = .ok (.iinc 2 1, 3) := by decide +kernel
theorem dX8_restore_58 : decode cX8_restore 58 = .ok (.goto (-28), 3) := by decide +kernel
theorem dX8_restore_61 : decode cX8_restore 61 = .ok (.aload_n 0, 1) := by decide +kernel
theorem dX8_restore_62 : decode cX8_restore 62 = .ok (.invokevirtual 42, 3) := by decide +kernel
theorem dX8_restore_65 : decode cX8_restore 65 = .ok (.aload_n 0, 1) := by decide +kernel
theorem dX8_restore_66 : decode cX8_restore 66 = .ok (.getfield 7, 3) := by decide +kernel
theorem dX8_restore_69 : decode cX8_restore 69 = .ok (.iconst 2, 1) := by decide +kernel
theorem dX8_restore_70 : decode cX8_restore 70 = .ok (.iaload, 1) := by decide +kernel
theorem dX8_restore_71 : decode cX8_restore 71 = .ok (.ireturn, 1) := by decide +kernel
theorem dX8_waterAt_0 : decode cX8_waterAt 0 = .ok (.iload_n 0, 1) := by decide +kernel
theorem dX8_waterAt_1 : decode cX8_waterAt 1 = .ok (.bipush 100, 2) := by decide +kernel
theorem dX8_waterAt_3 : decode cX8_waterAt 3 = .ok (.if_icmp .ge 12, 3) := by decide +kernel
theorem dX8_waterAt_6 : decode cX8_waterAt 6 = .ok (.bipush 6, 2) := by decide +kernel
theorem dX8_waterAt_8 : decode cX8_waterAt 8 = .ok (.iconst 3, 1) := by decide +kernel
theorem dX8_waterAt_9 : decode cX8_waterAt 9 = .ok (.iload_n 0, 1) := by decide +kernel
theorem dX8_waterAt_10 : decode cX8_waterAt 10 = .ok (.imul, 1) := by decide +kernel
theorem dX8_waterAt_11 : decode cX8_waterAt 11 = .ok (.iadd, 1) := by decide +kernel
theorem dX8_waterAt_12 : decode cX8_waterAt 12 = .ok (.goto 13, 3) := by decide +kernel
theorem dX8_waterAt_15 : decode cX8_waterAt 15 = .ok (.bipush 21, 2) := by decide +kernel
theorem dX8_waterAt_17 : decode cX8_waterAt 17 = .ok (.bipush 11, 2) := by decide +kernel
theorem dX8_waterAt_19 : decode cX8_waterAt 19 = .ok (.iload_n 0, 1) := by decide +kernel
theorem dX8_waterAt_20 : decode cX8_waterAt 20 = .ok (.bipush 100, 2) := by decide +kernel
theorem dX8_waterAt_22 : decode cX8_waterAt 22 = .ok (.isub, 1) := by decide +kernel
theorem dX8_waterAt_23 : decode cX8_waterAt 23 = .ok (.imul, 1) := by decide +kernel
theorem dX8_waterAt_24 : decode cX8_waterAt 24 = .ok (.iadd, 1) := by decide +kernel
theorem dX8_waterAt_25 : decode cX8_waterAt 25 = .ok (.ireturn, 1) := by decide +kernel
theorem dX8_noReach_0 : decode cX8_noReach 0 = .ok (.iload_n 1, 1) := by decide +kernel
theorem dX8_noReach_1 : decode cX8_noReach 1 = .ok (.iconst 0, 1) := by decide +kernel
theorem dX8_noReach_2 : decode cX8_noReach 2 = .ok (.aload_n 0, 1) := by decide +kernel
theorem dX8_noReach_3 : decode cX8_noReach 3 = .ok (.getfield 7, 3) := by decide +kernel
theorem dX8_noReach_6 : decode cX8_noReach 6 = .ok (.iconst 0, 1) := by decide +kernel
theorem dX8_noReach_7 : decode cX8_noReach 7 = .ok (.iaload, 1) := by decide +kernel
theorem dX8_noReach_8 : decode cX8_noReach 8 = .ok (.iconst 1, 1) := by decide +kernel
theorem dX8_noReach_9 : decode cX8_noReach 9 = .ok (.isub, 1) := by decide +kernel
theorem dX8_noReach_10 : decode cX8_noReach 10 = .ok (.invokestatic 49, 3) := by decide +kernel
theorem dX8_noReach_13 : decode cX8_noReach 13 = .ok (.ifCond .ne 7, 3) := by decide +kernel
theorem dX8_noReach_16 : decode cX8_noReach 16 = .ok (.iconst 1, 1) := by decide +kernel
theorem dX8_noReach_17 : decode cX8_noReach 17 = .ok (.goto 4, 3) := by decide +kernel
theorem dX8_noReach_20 : decode cX8_noReach 20 = .ok (.iconst 0, 1) := by decide +kernel
theorem dX8_noReach_21 : decode cX8_noReach 21 = .ok (.ireturn, 1) := by decide +kernel
theorem dX8_noChamber_0 : decode cX8_noChamber 0 = .ok (.iload_n 1, 1) := by decide +kernel
theorem dX8_noChamber_1 : decode cX8_noChamber 1 = .ok (.iconst 0, 1) := by decide +kernel
theorem dX8_noChamber_2 : decode cX8_noChamber 2 = .ok (.aload_n 0, 1) := by decide +kernel
theorem dX8_noChamber_3 : decode cX8_noChamber 3 = .ok (.getfield 7, 3) := by decide +kernel
theorem dX8_noChamber_6 : decode cX8_noChamber 6 = .ok (.iconst 1, 1) := by decide +kernel
theorem dX8_noChamber_7 : decode cX8_noChamber 7 = .ok (.iaload, 1) := by decide +kernel
theorem dX8_noChamber_8 : decode cX8_noChamber 8 = .ok (.iconst 1, 1) := by decide +kernel
theorem dX8_noChamber_9 : decode cX8_noChamber 9 = .ok (.isub, 1) := by decide +kernel
theorem dX8_noChamber_10 : decode cX8_noChamber 10 = .ok (.invokestatic 49, 3) := by decide +kernel
theorem dX8_noChamber_13 : decode cX8_noChamber 13 = .ok (.ifCond .ne 7, 3) := by decide +kernel
theorem dX8_noChamber_16 : decode cX8_noChamber 16 = .ok (.iconst 1, 1) := by decide +kernel
theorem dX8_noChamber_17 : decode cX8_noChamber 17 = .ok (.goto 4, 3) := by decide +kernel
theorem dX8_noChamber_20 : decode cX8_noChamber 20 = .ok (.iconst 0, 1) := by decide +kernel
theorem dX8_noChamber_21 : decode cX8_noChamber 21 = .ok (.ireturn, 1) := by decide +kernel
theorem dX8_noGate_0 : decode cX8_noGate 0 = .ok (.aload_n 0, 1) := by decide +kernel
theorem dX8_noGate_1 : decode cX8_noGate 1 = .ok (.iload_n 1, 1) := by decide +kernel
theorem dX8_noGate_2 : decode cX8_noGate 2 = .ok (.invokevirtual 56, 3) := by decide +kernel
theorem dX8_noGate_5 : decode cX8_noGate 5 = .ok (.ifCond .ne 12, 3) := by decide +kernel
theorem dX8_noGate_8 : decode cX8_noGate 8 = .ok (.iload_n 2, 1) := by decide +kernel
theorem dX8_noGate_9 : decode cX8_noGate 9 = .ok (.iconst 0, 1) := by decide +kernel
theorem dX8_noGate_10 : decode cX8_noGate 10 = .ok (.iconst 1, 1) := by decide +kernel
theorem dX8_noGate_11 : decode cX8_noGate 11 = .ok (.invokestatic 49, 3) := by decide +kernel
theorem dX8_noGate_14 : decode cX8_noGate 14 = .ok (.ifCond .ne 7, 3) := by decide +kernel
theorem dX8_noGate_17 : decode cX8_noGate 17 = .ok (.iconst 1, 1) := by decide +kernel
theorem dX8_noGate_18 : decode cX8_noGate 18 = .ok (.goto 4, 3) := by decide +kernel
theorem dX8_noGate_21 : decode cX8_noGate 21 = .ok (.iconst 0, 1) := by decide +kernel
theorem dX8_noGate_22 : decode cX8_noGate 22 = .ok (.ireturn, 1) := by decide +kernel
theorem dX8_noBarge_0 : decode cX8_noBarge 0 = .ok (.iload_n 1, 1) := by decide +kernel
theorem dX8_noBarge_1 : decode cX8_noBarge 1 = .ok (.iconst 0, 1) := by decide +kernel
theorem dX8_noBarge_2 : decode cX8_noBarge 2 = .ok (.aload_n 0, 1) := by decide +kernel
theorem dX8_noBarge_3 : decode cX8_noBarge 3 = .ok (.getfield 7, 3) := by decide +kernel
theorem dX8_noBarge_6 : decode cX8_noBarge 6 = .ok (.iconst 2, 1) := by decide +kernel
theorem dX8_noBarge_7 : decode cX8_noBarge 7 = .ok (.iaload, 1) := by decide +kernel
theorem dX8_noBarge_8 : decode cX8_noBarge 8 = .ok (.iconst 1, 1) := by decide +kernel
theorem dX8_noBarge_9 : decode cX8_noBarge 9 = .ok (.isub, 1) := by decide +kernel
theorem dX8_noBarge_10 : decode cX8_noBarge 10 = .ok (.invokestatic 49, 3) := by decide +kernel
theorem dX8_noBarge_13 : decode cX8_noBarge 13 = .ok (.ifCond .ne 7, 3) := by decide +kernel
theorem dX8_noBarge_16 : decode cX8_noBarge 16 = .ok (.iconst 1, 1) := by decide +kernel
theorem dX8_noBarge_17 : decode cX8_noBarge 17 = .ok (.goto 4, 3) := by decide +kernel
theorem dX8_noBarge_20 : decode cX8_noBarge 20 = .ok (.iconst 0, 1) := by decide +kernel
theorem dX8_noBarge_21 : decode cX8_noBarge 21 = .ok (.ireturn, 1) := by decide +kernel
theorem dX8_of_0 : decode cX8_of 0 = .ok (.aload_n 0, 1) := by decide +kernel
theorem dX8_of_1 : decode cX8_of 1 = .ok (.getfield 7, 3) := by decide +kernel
theorem dX8_of_4 : decode cX8_of 4 = .ok (.bipush 65, 2) := by decide +kernel
theorem dX8_of_6 : decode cX8_of 6 = .ok (.bipush 8, 2) := by decide +kernel
theorem dX8_of_8 : decode cX8_of 8 = .ok (.iload_n 1, 1) := by decide +kernel
theorem dX8_of_9 : decode cX8_of 9 = .ok (.imul, 1) := by decide +kernel
theorem dX8_of_10 : decode cX8_of 10 = .ok (.iadd, 1) := by decide +kernel
theorem dX8_of_11 : decode cX8_of 11 = .ok (.iload_n 2, 1) := by decide +kernel
theorem dX8_of_12 : decode cX8_of 12 = .ok (.iadd, 1) := by decide +kernel
theorem dX8_of_13 : decode cX8_of 13 = .ok (.iaload, 1) := by decide +kernel
theorem dX8_of_14 : decode cX8_of 14 = .ok (.ireturn, 1) := by decide +kernel
theorem dX8_put_0 : decode cX8_put 0 = .ok (.aload_n 0, 1) := by decide +kernel
theorem dX8_put_1 : decode cX8_put 1 = .ok (.getfield 7, 3) := by decide +kernel
theorem dX8_put_4 : decode cX8_put 4 = .ok (.bipush 65, 2) := by decide +kernel
theorem dX8_put_6 : decode cX8_put 6 = .ok (.bipush 8, 2) := by decide +kernel
theorem dX8_put_8 : decode cX8_put 8 = .ok (.iload_n 1, 1) := by decide +kernel
theorem dX8_put_9 : decode cX8_put 9 = .ok (.imul, 1) := by decide +kernel
theorem dX8_put_10 : decode cX8_put 10 = .ok (.iadd, 1) := by decide +kernel
theorem dX8_put_11 : decode cX8_put 11 = .ok (.iload_n 2, 1) := by decide +kernel
theorem dX8_put_12 : decode cX8_put 12 = .ok (.iadd, 1) := by decide +kernel
theorem dX8_put_13 : decode cX8_put 13 = .ok (.iload_n 3, 1) := by decide +kernel
theorem dX8_put_14 : decode cX8_put 14 = .ok (.iastore, 1) := by decide +kernel
theorem dX8_put_15 : decode cX8_put 15 = .ok (.return_, 1) := by decide +kernel
theorem dX8_chamberOf_0 : decode cX8_chamberOf 0 = .ok (.aload_n 0, 1) := by decide +kernel
theorem dX8_chamberOf_1 : decode cX8_chamberOf 1 = .ok (.getfield 7, 3) := by decide +kernel
theorem dX8_chamberOf_4 : decode cX8_chamberOf 4 = .ok (.bipush 21, 2) := by decide +kernel
theorem dX8_chamberOf_6 : decode cX8_chamberOf 6 = .ok (.bipush 11, 2) := by decide +kernel
theorem dX8_chamberOf_8 : decode cX8_chamberOf 8 = .ok (.iload_n 1, 1) := by decide +kernel
theorem dX8_chamberOf_9 : decode cX8_chamberOf 9 = .ok (.imul, 1) := by decide +kernel
theorem dX8_chamberOf_10 : decode cX8_chamberOf 10 = .ok (.iadd, 1) := by decide +kernel
theorem dX8_chamberOf_11 : decode cX8_chamberOf 11 = .ok (.iload_n 2, 1) := by decide +kernel
theorem dX8_chamberOf_12 : decode cX8_chamberOf 12 = .ok (.iadd, 1) := by decide +kernel
theorem dX8_chamberOf_13 : decode cX8_chamberOf 13 = .ok (.iaload, 1) := by decide +kernel
theorem dX8_chamberOf_14 : decode cX8_chamberOf 14 = .ok (.ireturn, 1) := by decide +kernel
theorem dX8_weight_0 : decode cX8_weight 0 = .ok (.aload_n 0, 1) := by decide +kernel
theorem dX8_weight_1 : decode cX8_weight 1 = .ok (.iload_n 1, 1) := by decide +kernel
theorem dX8_weight_2 : decode cX8_weight 2 = .ok (.iconst 1, 1) := by decide +kernel
theorem dX8_weight_3 : decode cX8_weight 3 = .ok (.invokevirtual 60, 3) := by decide +kernel
theorem dX8_weight_6 : decode cX8_weight 6 = .ok (.aload_n 0, 1) := by decide +kernel
theorem dX8_weight_7 : decode cX8_weight 7 = .ok (.iload_n 1, 1) := by decide +kernel
theorem dX8_weight_8 : decode cX8_weight 8 = .ok (.iconst 4, 1) := by decide +kernel
theorem dX8_weight_9 : decode cX8_weight 9 = .ok (.invokevirtual 60, 3) := by decide +kernel
theorem dX8_weight_12 : decode cX8_weight 12 = .ok (.iadd, 1) := by decide +kernel
theorem dX8_weight_13 : decode cX8_weight 13 = .ok (.aload_n 0, 1) := by decide +kernel
theorem dX8_weight_14 : decode cX8_weight 14 = .ok (.iload_n 1, 1) := by decide +kernel
theorem dX8_weight_15 : decode cX8_weight 15 = .ok (.iconst 5, 1) := by decide +kernel
theorem dX8_weight_16 : decode cX8_weight 16 = .ok (.invokevirtual 60, 3) := by decide +kernel
theorem dX8_weight_19 : decode cX8_weight 19 = .ok (.iadd, 1) := by decide +kernel
theorem dX8_weight_20 : decode cX8_weight 20 = .ok (.ireturn, 1) := by decide +kernel
theorem dX8_draught_0 : decode cX8_draught 0 = .ok (.aload_n 0, 1) := by decide +kernel
theorem dX8_draught_1 : decode cX8_draught 1 = .ok (.iload_n 1, 1) := by decide +kernel
theorem dX8_draught_2 : decode cX8_draught 2 = .ok (.invokevirtual 64, 3) := by decide +kernel
theorem dX8_draught_5 : decode cX8_draught 5 = .ok (.aload_n 0, 1) := by decide +kernel
theorem dX8_draught_6 : decode cX8_draught 6 = .ok (.iload_n 1, 1) := by decide +kernel
theorem dX8_draught_7 : decode cX8_draught 7 = .ok (.iconst 2, 1) := by decide +kernel
theorem dX8_draught_8 : decode cX8_draught 8 = .ok (.invokevirtual 60, 3) := by decide +kernel
theorem dX8_draught_11 : decode cX8_draught 11 = .ok (.iadd, 1) := by decide +kernel
theorem dX8_draught_12 : decode cX8_draught 12 = .ok (.iconst 1, 1) := by decide +kernel
theorem dX8_draught_13 : decode cX8_draught 13 = .ok (.isub, 1) := by decide +kernel
theorem dX8_draught_14 : decode cX8_draught 14 = .ok (.aload_n 0, 1) := by decide +kernel
theorem dX8_draught_15 : decode cX8_draught 15 = .ok (.iload_n 1, 1) := by decide +kernel
theorem dX8_draught_16 : decode cX8_draught 16 = .ok (.iconst 2, 1) := by decide +kernel
theorem dX8_draught_17 : decode cX8_draught 17 = .ok (.invokevirtual 60, 3) := by decide +kernel
theorem dX8_draught_20 : decode cX8_draught 20 = .ok (.idiv, 1) := by decide +kernel
theorem dX8_draught_21 : decode cX8_draught 21 = .ok (.ireturn, 1) := by decide +kernel
theorem dX8_floats_0 : decode cX8_floats 0 = .ok (.iconst 0, 1) := by decide +kernel
theorem dX8_floats_1 : decode cX8_floats 1 = .ok (.istore_n 2, 1) := by decide +kernel
theorem dX8_floats_2 : decode cX8_floats 2 = .ok (.iconst 0, 1) := by decide +kernel
theorem dX8_floats_3 : decode cX8_floats 3 = .ok (.istore_n 3, 1) := by decide +kernel
theorem dX8_floats_4 : decode cX8_floats 4 = .ok (.iload_n 3, 1) := by decide +kernel
theorem dX8_floats_5 : decode cX8_floats 5 = .ok (.aload_n 0, 1) := by decide +kernel
theorem dX8_floats_6 : decode cX8_floats 6 = .ok (.getfield 7, 3) := by decide +kernel
theorem dX8_floats_9 : decode cX8_floats 9 = .ok (.iconst 2, 1) := by decide +kernel
theorem dX8_floats_10 : decode cX8_floats 10 = .ok (.iaload, 1) := by decide +kernel
theorem dX8_floats_11 : decode cX8_floats 11 = .ok (.if_icmp .ge 32, 3) := by decide +kernel
theorem dX8_floats_14 : decode cX8_floats 14 = .ok (.iload_n 2, 1) := by decide +kernel
theorem dX8_floats_15 : decode cX8_floats 15 = .ok (.aload_n 0, 1) := by decide +kernel
theorem dX8_floats_16 : decode cX8_floats 16 = .ok (.iload_n 3, 1) := by decide +kernel
theorem dX8_floats_17 : decode cX8_floats 17 = .ok (.bipush 6, 2) := by decide +kernel
theorem dX8_floats_19 : decode cX8_floats 19 = .ok (.invokevirtual 60, 3) := by decide +kernel
theorem dX8_floats_22 : decode cX8_floats 22 = .ok (.iload_n 1, 1) := by decide +kernel
theorem dX8_floats_23 : decode cX8_floats 23 = .ok (.if_icmp .ne 11, 3) := by decide +kernel
theorem dX8_floats_26 : decode cX8_floats 26 = .ok (.aload_n 0, 1) := by decide +kernel
theorem dX8_floats_27 : decode cX8_floats 27 = .ok (.iload_n 3, 1) := by decide +kernel
theorem dX8_floats_28 : decode cX8_floats 28 = .ok (.invokevirtual 64, 3) := by decide +kernel
theorem dX8_floats_31 : decode cX8_floats 31 = .ok (.goto 4, 3) := by decide +kernel
theorem dX8_floats_34 : decode cX8_floats 34 = .ok (.iconst 0, 1) := by decide +kernel
theorem dX8_floats_35 : decode cX8_floats 35 = .ok (.iadd, 1) := by decide +kernel
theorem dX8_floats_36 : decode cX8_floats 36 = .ok (.istore_n 2, 1) := by decide +kernel
theorem dX8_floats_37 : decode cX8_floats 37 = .ok (.iinc 3 1, 3) := by decide +kernel
theorem dX8_floats_40 : decode cX8_floats 40 = .ok (.goto (-36), 3) := by decide +kernel
theorem dX8_floats_43 : decode cX8_floats 43 = .ok (.iload_n 2, 1) := by decide +kernel
theorem dX8_floats_44 : decode cX8_floats 44 = .ok (.ireturn, 1) := by decide +kernel
theorem dX8_bargesIn_0 : decode cX8_bargesIn 0 = .ok (.iconst 0, 1) := by decide +kernel
theorem dX8_bargesIn_1 : decode cX8_bargesIn 1 = .ok (.istore_n 2, 1) := by decide +kernel
theorem dX8_bargesIn_2 : decode cX8_bargesIn 2 = .ok (.iconst 0, 1) := by decide +kernel
theorem dX8_bargesIn_3 : decode cX8_bargesIn 3 = .ok (.istore_n 3, 1) := by decide +kernel
theorem dX8_bargesIn_4 : decode cX8_bargesIn 4 = .ok (.iload_n 3, 1) := by decide +kernel
theorem dX8_bargesIn_5 : decode cX8_bargesIn 5 = .ok (.aload_n 0, 1) := by decide +kernel
theorem dX8_bargesIn_6 : decode cX8_bargesIn 6 = .ok (.getfield 7, 3) := by decide +kernel
theorem dX8_bargesIn_9 : decode cX8_bargesIn 9 = .ok (.iconst 2, 1) := by decide +kernel
theorem dX8_bargesIn_10 : decode cX8_bargesIn 10 = .ok (.iaload, 1) := by decide +kernel
theorem dX8_bargesIn_11 : decode cX8_bargesIn 11 = .ok (.if_icmp .ge 28, 3) := by decide +kernel
theorem dX8_bargesIn_14 : decode cX8_bargesIn 14 = .ok (.iload_n 2, 1) := by decide +kernel
theorem dX8_bargesIn_15 : decode cX8_bargesIn 15 = .ok (.aload_n 0, 1) := by decide +kernel
theorem dX8_bargesIn_16 : decode cX8_bargesIn 16 = .ok (.iload_n 3, 1) := by decide +kernel
theorem dX8_bargesIn_17 : decode cX8_bargesIn 17 = .ok (.bipush 6, 2) := by decide +kernel
theorem dX8_bargesIn_19 : decode cX8_bargesIn 19 = .ok (.invokevirtual 60, 3) := by decide +kernel
theorem dX8_bargesIn_22 : decode cX8_bargesIn 22 = .ok (.iload_n 1, 1) := by decide +kernel
theorem dX8_bargesIn_23 : decode cX8_bargesIn 23 = .ok (.if_icmp .ne 7, 3) := by decide +kernel
theorem dX8_bargesIn_26 : decode cX8_bargesIn 26 = .ok (.iconst 1, 1) := by decide +kernel
theorem dX8_bargesIn_27 : decode cX8_bargesIn 27 = .ok (.goto 4, 3) := by decide +kernel
theorem dX8_bargesIn_30 : decode cX8_bargesIn 30 = .ok (.iconst 0, 1) := by decide +kernel
theorem dX8_bargesIn_31 : decode cX8_bargesIn 31 = .ok (.iadd, 1) := by decide +kernel
theorem dX8_bargesIn_32 : decode cX8_bargesIn 32 = .ok (.istore_n 2, 1) := by decide +kernel
theorem dX8_bargesIn_33 : decode cX8_bargesIn 33 = .ok (.iinc 3 1, 3) := by decide +kernel
theorem dX8_bargesIn_36 : decode cX8_bargesIn 36 = .ok (.goto (-32), 3) := by decide +kernel
theorem dX8_bargesIn_39 : decode cX8_bargesIn 39 = .ok (.iload_n 2, 1) := by decide +kernel
theorem dX8_bargesIn_40 : decode cX8_bargesIn 40 = .ok (.ireturn, 1) := by decide +kernel
theorem dX8_deep_0 : decode cX8_deep 0 = .ok (.iload_n 1, 1) := by decide +kernel
theorem dX8_deep_1 : decode cX8_deep 1 = .ok (.invokestatic 68, 3) := by decide +kernel
theorem dX8_deep_4 : decode cX8_deep 4 = .ok (.istore_n 2, 1) := by decide +kernel
theorem dX8_deep_5 : decode cX8_deep 5 = .ok (.aload_n 0, 1) := by decide +kernel
theorem dX8_deep_6 : decode cX8_deep 6 = .ok (.getfield 7, 3) := by decide +kernel
theorem dX8_deep_9 : decode cX8_deep 9 = .ok (.iload_n 2, 1) := by decide +kernel
theorem dX8_deep_10 : decode cX8_deep 10 = .ok (.iconst 2, 1) := by decide +kernel
theorem dX8_deep_11 : decode cX8_deep 11 = .ok (.iadd, 1) := by decide +kernel
theorem dX8_deep_12 : decode cX8_deep 12 = .ok (.iaload, 1) := by decide +kernel
theorem dX8_deep_13 : decode cX8_deep 13 = .ok (.i2l, 1) := by decide +kernel
theorem dX8_deep_14 : decode cX8_deep 14 = .ok (.aload_n 0, 1) := by decide +kernel
theorem dX8_deep_15 : decode cX8_deep 15 = .ok (.iload_n 1, 1) := by decide +kernel
theorem dX8_deep_16 : decode cX8_deep 16 = .ok (.invokevirtual 71, 3) := by decide +kernel
theorem dX8_deep_19 : decode cX8_deep 19 = .ok (.i2l, 1) := by decide +kernel
theorem dX8_deep_20 : decode cX8_deep 20 = .ok (.ladd, 1) := by decide +kernel
theorem dX8_deep_21 : decode cX8_deep 21 = .ok (.ldc2_w 74, 3) := by decide +kernel
theorem dX8_deep_24 : decode cX8_deep 24 = .ok (.lmul, 1) := by decide +kernel
theorem dX8_deep_25 : decode cX8_deep 25 = .ok (.aload_n 0, 1) := by decide +kernel
theorem dX8_deep_26 : decode cX8_deep 26 = .ok (.getfield 7, 3) := by decide +kernel
theorem dX8_deep_29 : decode cX8_deep 29 = .ok (.iload_n 2, 1) := by decide +kernel
theorem dX8_deep_30 : decode cX8_deep 30 = .ok (.iconst 0, 1) := by decide +kernel
theorem dX8_deep_31 : decode cX8_deep 31 = .ok (.iadd, 1) := by decide +kernel
theorem dX8_deep_32 : decode cX8_deep 32 = .ok (.iaload, 1) := by decide +kernel
theorem dX8_deep_33 : decode cX8_deep 33 = .ok (.i2l, 1) := by decide +kernel
theorem dX8_deep_34 : decode cX8_deep 34 = .ok (.ldiv, 1) := by decide +kernel
theorem dX8_deep_35 : decode cX8_deep 35 = .ok (.l2i, 1) := by decide +kernel
theorem dX8_deep_36 : decode cX8_deep 36 = .ok (.ireturn, 1) := by decide +kernel
theorem dX8_level_0 : decode cX8_level 0 = .ok (.aload_n 0, 1) := by decide +kernel
theorem dX8_level_1 : decode cX8_level 1 = .ok (.getfield 7, 3) := by decide +kernel
theorem dX8_level_4 : decode cX8_level 4 = .ok (.iload_n 1, 1) := by decide +kernel
theorem dX8_level_5 : decode cX8_level 5 = .ok (.invokestatic 68, 3) := by decide +kernel
theorem dX8_level_8 : decode cX8_level 8 = .ok (.iconst 1, 1) := by decide +kernel
theorem dX8_level_9 : decode cX8_level 9 = .ok (.iadd, 1) := by decide +kernel
theorem dX8_level_10 : decode cX8_level 10 = .ok (.iaload, 1) := by decide +kernel
theorem dX8_level_11 : decode cX8_level 11 = .ok (.aload_n 0, 1) := by decide +kernel
theorem dX8_level_12 : decode cX8_level 12 = .ok (.iload_n 1, 1) := by decide +kernel
theorem dX8_level_13 : decode cX8_level 13 = .ok (.invokevirtual 76, 3) := by decide +kernel
theorem dX8_level_16 : decode cX8_level 16 = .ok (.iadd, 1) := by decide +kernel
theorem dX8_level_17 : decode cX8_level 17 = .ok (.ireturn, 1) := by decide +kernel
theorem dX8_isAground_0 : decode cX8_isAground 0 = .ok (.aload_n 0, 1) := by decide +kernel
theorem dX8_isAground_1 : decode cX8_isAground 1 = .ok (.aload_n 0, 1) := by decide +kernel
theorem dX8_isAground_2 : decode cX8_isAground 2 = .ok (.iload_n 1, 1) := by decide +kernel
theorem dX8_isAground_3 : decode cX8_isAground 3 = .ok (.bipush 6, 2) := by decide +kernel
theorem dX8_isAground_5 : decode cX8_isAground 5 = .ok (.invokevirtual 60, 3) := by decide +kernel
theorem dX8_isAground_8 : decode cX8_isAground 8 = .ok (.invokevirtual 76, 3) := by decide +kernel
theorem dX8_isAground_11 : decode cX8_isAground 11 = .ok (.aload_n 0, 1) := by decide +kernel
theorem dX8_isAground_12 : decode cX8_isAground 12 = .ok (.iload_n 1, 1) := by decide +kernel
theorem dX8_isAground_13 : decode cX8_isAground 13 = .ok (.invokevirtual 79, 3) := by decide +kernel
theorem dX8_isAground_16 : decode cX8_isAground 16 = .ok (.if_icmp .ge 7, 3) := by decide +kernel
theorem dX8_isAground_19 : decode cX8_isAground 19 = .ok (.iconst 1, 1) := by decide +kernel
theorem dX8_isAground_20 : decode cX8_isAground 20 = .ok (.goto 4, 3) := by decide +kernel
theorem dX8_isAground_23 : decode cX8_isAground 23 = .ok (.iconst 0, 1) := by decide +kernel
theorem dX8_isAground_24 : decode cX8_isAground 24 = .ok (.ireturn, 1) := by decide +kernel
theorem dX8_shared_0 : decode cX8_shared 0 = .ok (.bipush 100, 2) := by decide +kernel
theorem dX8_shared_2 : decode cX8_shared 2 = .ok (.iload_n 1, 1) := by decide +kernel
theorem dX8_shared_3 : decode cX8_shared 3 = .ok (.iadd, 1) := by decide +kernel
theorem dX8_shared_4 : decode cX8_shared 4 = .ok (.invokestatic 68, 3) := by decide +kernel
theorem dX8_shared_7 : decode cX8_shared 7 = .ok (.istore_n 3, 1) := by decide +kernel
theorem dX8_shared_8 : decode cX8_shared 8 = .ok (.iload_n 1, 1) := by decide +kernel
theorem dX8_shared_9 : decode cX8_shared 9 = .ok (.iload_n 2, 1) := by decide +kernel
theorem dX8_shared_10 : decode cX8_shared 10 = .ok (.iadd, 1) := by decide +kernel
theorem dX8_shared_11 : decode cX8_shared 11 = .ok (.invokestatic 68, 3) := by decide +kernel
theorem dX8_shared_14 : decode cX8_shared 14 = .ok (.istore 4, 2) := by decide +kernel
theorem dX8_shared_16 : decode cX8_shared 16 = .ok (.aload_n 0, 1) := by decide +kernel
theorem dX8_shared_17 : decode cX8_shared 17 = .ok (.getfield 7, 3) := by decide +kernel
theorem dX8_shared_20 : decode cX8_shared 20 = .ok (.iload_n 3, 1) := by decide +kernel
theorem dX8_shared_21 : decode cX8_shared 21 = .ok (.iconst 0, 1) := by decide +kernel
theorem dX8_shared_22 : decode cX8_shared 22 = .ok (.iadd, 1) := by decide +kernel
theorem dX8_shared_23 : decode cX8_shared 23 = .ok (.iaload, 1) := by decide +kernel
theorem dX8_shared_24 : decode cX8_shared 24 = .ok (.i2l, 1) := by decide +kernel
theorem dX8_shared_25 : decode cX8_shared 25 = .ok (.lstore 5, 2) := by decide +kernel
theorem dX8_shared_27 : decode cX8_shared 27 = .ok (.aload_n 0, 1) := by decide +kernel
theorem dX8_shared_28 : decode cX8_shared 28 = .ok (.getfield 7, 3) := by decide +kernel
theorem dX8_shared_31 : decode cX8_shared 31 = .ok (.iload 4, 2) := by decide +kernel
theorem dX8_shared_33 : decode cX8_shared 33 = .ok (.iconst 0, 1) := by decide +kernel
theorem dX8_shared_34 : decode cX8_shared 34 = .ok (.iadd, 1) := by decide +kernel
theorem dX8_shared_35 : decode cX8_shared 35 = .ok (.iaload, 1) := by decide +kernel
theorem dX8_shared_36 : decode cX8_shared 36 = .ok (.i2l, 1) := by decide +kernel
theorem dX8_shared_37 : decode cX8_shared 37 = .ok (.lstore 7, 2) := by decide +kernel
theorem dX8_shared_39 : decode cX8_shared 39 = .ok (.aload_n 0, 1) := by decide +kernel
theorem dX8_shared_40 : decode cX8_shared 40 = .ok (.getfield 7, 3) := by decide +kernel
theorem dX8_shared_43 : decode cX8_shared 43 = .ok (.iload_n 3, 1) := by decide +kernel
theorem dX8_shared_44 : decode cX8_shared 44 = .ok (.iconst 2, 1) := by decide +kernel
theorem dX8_shared_45 : decode cX8_shared 45 = .ok (.iadd, 1) := by decide +kernel
theorem dX8_shared_46 : decode cX8_shared 46 = .ok (.iaload, 1) := by decide +kernel
theorem dX8_shared_47 : decode cX8_shared 47 = .ok (.i2l, 1) := by decide +kernel
theorem dX8_shared_48 : decode cX8_shared 48 = .ok (.aload_n 0, 1) := by decide +kernel
theorem dX8_shared_49 : decode cX8_shared 49 = .ok (.getfield 7, 3) := by decide +kernel
theorem dX8_shared_52 : decode cX8_shared 52 = .ok (.iload 4, 2) := by decide +kernel
theorem dX8_shared_54 : decode cX8_shared 54 = .ok (.iconst 2, 1) := by decide +kernel
theorem dX8_shared_55 : decode cX8_shared 55 = .ok (.iadd, 1) := by decide +kernel
theorem dX8_shared_56 : decode cX8_shared 56 = .ok (.iaload, 1) := by decide +kernel
theorem dX8_shared_57 : decode cX8_shared 57 = .ok (.i2l, 1) := by decide +kernel
theorem dX8_shared_58 : decode cX8_shared 58 = .ok (.ladd, 1) := by decide +kernel
theorem dX8_shared_59 : decode cX8_shared 59 = .ok (.lstore 9, 2) := by decide +kernel
theorem dX8_shared_61 : decode cX8_shared 61 = .ok (.lload 9, 2) := by decide +kernel
theorem dX8_shared_63 : decode cX8_shared 63 = .ok (.aload_n 0, 1) := by decide +kernel
theorem dX8_shared_64 : decode cX8_shared 64 = .ok (.bipush 100, 2) := by decide +kernel
theorem dX8_shared_66 : decode cX8_shared 66 = .ok (.iload_n 1, 1) := by decide +kernel
theorem dX8_shared_67 : decode cX8_shared 67 = .ok (.iadd, 1) := by decide +kernel
theorem dX8_shared_68 : decode cX8_shared 68 = .ok (.invokevirtual 71, 3) := by decide +kernel
theorem dX8_shared_71 : decode cX8_shared 71 = .ok (.i2l, 1) := by decide +kernel
theorem dX8_shared_72 : decode cX8_shared 72 = .ok (.ladd, 1) := by decide +kernel
theorem dX8_shared_73 : decode cX8_shared 73 = .ok (.aload_n 0, 1) := by decide +kernel
theorem dX8_shared_74 : decode cX8_shared 74 = .ok (.iload_n 1, 1) := by decide +kernel
theorem dX8_shared_75 : decode cX8_shared 75 = .ok (.iload_n 2, 1) := by decide +kernel
theorem dX8_shared_76 : decode cX8_shared 76 = .ok (.iadd, 1) := by decide +kernel
theorem dX8_shared_77 : decode cX8_shared 77 = .ok (.invokevirtual 71, 3) := by decide +kernel
theorem dX8_shared_80 : decode cX8_shared 80 = .ok (.i2l, 1) := by decide +kernel
theorem dX8_shared_81 : decode cX8_shared 81 = .ok (.ladd, 1) := by decide +kernel
theorem dX8_shared_82 : decode cX8_shared 82 = .ok (.lstore 11, 2) := by decide +kernel
theorem dX8_shared_84 : decode cX8_shared 84 = .ok (.lload 11, 2) := by decide +kernel
theorem dX8_shared_86 : decode cX8_shared 86 = .ok (.ldc2_w 74, 3) := by decide +kernel
theorem dX8_shared_89 : decode cX8_shared 89 = .ok (.lmul, 1) := by decide +kernel
theorem dX8_shared_90 : decode cX8_shared 90 = .ok (.lload 5, 2) := by decide +kernel
theorem dX8_shared_92 : decode cX8_shared 92 = .ok (.aload_n 0, 1) := by decide +kernel
theorem dX8_shared_93 : decode cX8_shared 93 = .ok (.getfield 7, 3) := by decide +kernel
theorem dX8_shared_96 : decode cX8_shared 96 = .ok (.iload_n 3, 1) := by decide +kernel
theorem dX8_shared_97 : decode cX8_shared 97 = .ok (.iconst 1, 1) := by decide +kernel
theorem dX8_shared_98 : decode cX8_shared 98 = .ok (.iadd, 1) := by decide +kernel
theorem dX8_shared_99 : decode cX8_shared 99 = .ok (.iaload, 1) := by decide +kernel
theorem dX8_shared_100 : decode cX8_shared 100 = .ok (.i2l, 1) := by decide +kernel
theorem dX8_shared_101 : decode cX8_shared 101 = .ok (.lmul, 1) := by decide +kernel
theorem dX8_shared_102 : decode cX8_shared 102 = .ok (.ladd, 1) := by decide +kernel
theorem dX8_shared_103 : decode cX8_shared 103 = .ok (.lload 7, 2) := by decide +kernel
theorem dX8_shared_105 : decode cX8_shared 105 = .ok (.aload_n 0, 1) := by decide +kernel
theorem dX8_shared_106 : decode cX8_shared 106 = .ok (.getfield 7, 3) := by decide +kernel
theorem dX8_shared_109 : decode cX8_shared 109 = .ok (.iload 4, 2) := by decide +kernel
theorem dX8_shared_111 : decode cX8_shared 111 = .ok (.iconst 1, 1) := by decide +kernel
theorem dX8_shared_112 : decode cX8_shared 112 = .ok (.iadd, 1) := by decide +kernel
theorem dX8_shared_113 : decode cX8_shared 113 = .ok (.iaload, 1) := by decide +kernel
theorem dX8_shared_114 : decode cX8_shared 114 = .ok (.i2l, 1) := by decide +kernel
theorem dX8_shared_115 : decode cX8_shared 115 = .ok (.lmul, 1) := by decide +kernel
theorem dX8_shared_116 : decode cX8_shared 116 = .ok (.ladd, 1) := by decide +kernel
theorem dX8_shared_117 : decode cX8_shared 117 = .ok (.lload 5, 2) := by decide +kernel
theorem dX8_shared_119 : decode cX8_shared 119 = .ok (.lload 7, 2) := by decide +kernel
theorem dX8_shared_121 : decode cX8_shared 121 = .ok (.ladd, 1) := by decide +kernel
theorem dX8_shared_122 : decode cX8_shared 122 = .ok (.invokestatic 82, 3) := by decide +kernel
theorem dX8_shared_125 : decode cX8_shared 125 = .ok (.lstore 13, 2) := by decide +kernel
theorem dX8_shared_127 : decode cX8_shared 127 = .ok (.lload 5, 2) := by decide +kernel
theorem dX8_shared_129 : decode cX8_shared 129 = .ok (.lload 13, 2) := by decide +kernel
theorem dX8_shared_131 : decode cX8_shared 131 = .ok (.aload_n 0, 1) := by decide +kernel
theorem dX8_shared_132 : decode cX8_shared 132 = .ok (.getfield 7, 3) := by decide +kernel
theorem dX8_shared_135 : decode cX8_shared 135 = .ok (.iload_n 3, 1) := by decide +kernel
theorem dX8_shared_136 : decode cX8_shared 136 = .ok (.iconst 1, 1) := by decide +kernel
theorem dX8_shared_137 : decode cX8_shared 137 = .ok (.iadd, 1) := by decide +kernel
theorem dX8_shared_138 : decode cX8_shared 138 = .ok (.iaload, 1) := by decide +kernel
theorem dX8_shared_139 : decode cX8_shared 139 = .ok (.i2l, 1) := by decide +kernel
theorem dX8_shared_140 : decode cX8_shared 140 = .ok (.lsub, 1) := by decide +kernel
theorem dX8_shared_141 : decode cX8_shared 141 = .ok (.lmul, 1) := by decide +kernel
theorem dX8_shared_142 : decode cX8_shared 142 = .ok (.ldc2_w 74, 3) := by decide +kernel
theorem dX8_shared_145 : decode cX8_shared 145 = .ok (.invokestatic 82, 3) := by decide +kernel
theorem dX8_shared_148 : decode cX8_shared 148 = .ok (.aload_n 0, 1) := by decide +kernel
theorem dX8_shared_149 : decode cX8_shared 149 = .ok (.bipush 100, 2) := by decide +kernel
theorem dX8_shared_151 : decode cX8_shared 151 = .ok (.iload_n 1, 1) := by decide +kernel
theorem dX8_shared_152 : decode cX8_shared 152 = .ok (.iadd, 1) := by decide +kernel
theorem dX8_shared_153 : decode cX8_shared 153 = .ok (.invokevirtual 71, 3) := by decide +kernel
theorem dX8_shared_156 : decode cX8_shared 156 = .ok (.i2l, 1) := by decide +kernel
theorem dX8_shared_157 : decode cX8_shared 157 = .ok (.lsub, 1) := by decide +kernel
theorem dX8_shared_158 : decode cX8_shared 158 = .ok (.lstore 15, 2) := by decide +kernel
theorem dX8_shared_160 : decode cX8_shared 160 = .ok (.lload 15, 2) := by decide +kernel
theorem dX8_shared_162 : decode cX8_shared 162 = .ok (.lconst 0, 1) := by decide +kernel
theorem dX8_shared_163 : decode cX8_shared 163 = .ok (.lcmp, 1) := by decide +kernel
theorem dX8_shared_164 : decode cX8_shared 164 = .ok (.ifCond .ge 7, 3) := by decide +kernel
theorem dX8_shared_167 : decode cX8_shared 167 = .ok (.lconst 0, 1) := by decide +kernel
theorem dX8_shared_168 : decode cX8_shared 168 = .ok (.goto 18, 3) := by decide +kernel
theorem dX8_shared_171 : decode cX8_shared 171 = .ok (.lload 15, 2) := by decide +kernel
theorem dX8_shared_173 : decode cX8_shared 173 = .ok (.lload 9, 2) := by decide +kernel
theorem dX8_shared_175 : decode cX8_shared 175 = .ok (.lcmp, 1) := by decide +kernel
theorem dX8_shared_176 : decode cX8_shared 176 = .ok (.ifCond .le 8, 3) := by decide +kernel
theorem dX8_shared_179 : decode cX8_shared 179 = .ok (.lload 9, 2) := by decide +kernel
theorem dX8_shared_181 : decode cX8_shared 181 = .ok (.goto 5, 3) := by decide +kernel
theorem dX8_shared_184 : decode cX8_shared 184 = .ok (.lload 15, 2) := by decide +kernel
theorem dX8_shared_186 : decode cX8_shared 186 = .ok (.l2i, 1) := by decide +kernel
theorem dX8_shared_187 : decode cX8_shared 187 = .ok (.ireturn, 1) := by decide +kernel
theorem dX8_share_0 : decode cX8_share 0 = .ok (.aload_n 0, 1) := by decide +kernel
theorem dX8_share_1 : decode cX8_share 1 = .ok (.iload_n 1, 1) := by decide +kernel
theorem dX8_share_2 : decode cX8_share 2 = .ok (.iload_n 2, 1) := by decide +kernel
theorem dX8_share_3 : decode cX8_share 3 = .ok (.invokevirtual 86, 3) := by decide +kernel
theorem dX8_share_6 : decode cX8_share 6 = .ok (.istore_n 3, 1) := by decide +kernel
theorem dX8_share_7 : decode cX8_share 7 = .ok (.bipush 100, 2) := by decide +kernel
theorem dX8_share_9 : decode cX8_share 9 = .ok (.iload_n 1, 1) := by decide +kernel
theorem dX8_share_10 : decode cX8_share 10 = .ok (.iadd, 1) := by decide +kernel
theorem dX8_share_11 : decode cX8_share 11 = .ok (.invokestatic 68, 3) := by decide +kernel
theorem dX8_share_14 : decode cX8_share 14 = .ok (.iconst 2, 1) := by decide +kernel
theorem dX8_share_15 : decode cX8_share 15 = .ok (.iadd, 1) := by decide +kernel
theorem dX8_share_16 : decode cX8_share 16 = .ok (.istore 4, 2) := by decide +kernel
theorem dX8_share_18 : decode cX8_share 18 = .ok (.aload_n 0, 1) := by decide +kernel
theorem dX8_share_19 : decode cX8_share 19 = .ok (.getfield 7, 3) := by decide +kernel
theorem dX8_share_22 : decode cX8_share 22 = .ok (.iload_n 1, 1) := by decide +kernel
theorem dX8_share_23 : decode cX8_share 23 = .ok (.iload_n 2, 1) := by decide +kernel
theorem dX8_share_24 : decode cX8_share 24 = .ok (.iadd, 1) := by decide +kernel
theorem dX8_share_25 : decode cX8_share 25 = .ok (.invokestatic 68, 3) := by decide +kernel
theorem dX8_share_28 : decode cX8_share 28 = .ok (.iconst 2, 1) := by decide +kernel
theorem dX8_share_29 : decode cX8_share 29 = .ok (.iadd, 1) := by decide +kernel
theorem dX8_share_30 : decode cX8_share 30 = .ok (.dup2, 1) := by decide +kernel
theorem dX8_share_31 : decode cX8_share 31 = .ok (.iaload, 1) := by decide +kernel
theorem dX8_share_32 : decode cX8_share 32 = .ok (.aload_n 0, 1) := by decide +kernel
theorem dX8_share_33 : decode cX8_share 33 = .ok (.getfield 7, 3) := by decide +kernel
theorem dX8_share_36 : decode cX8_share 36 = .ok (.iload 4, 2) := by decide +kernel
theorem dX8_share_38 : decode cX8_share 38 = .ok (.iaload, 1) := by decide +kernel
theorem dX8_share_39 : decode cX8_share 39 = .ok (.iload_n 3, 1) := by decide +kernel
theorem dX8_share_40 : decode cX8_share 40 = .ok (.isub, 1) := by decide +kernel
theorem dX8_share_41 : decode cX8_share 41 = .ok (.iadd, 1) := by decide +kernel
theorem dX8_share_42 : decode cX8_share 42 = .ok (.iastore, 1) := by decide +kernel
theorem dX8_share_43 : decode cX8_share 43 = .ok (.aload_n 0, 1) := by decide +kernel
theorem dX8_share_44 : decode cX8_share 44 = .ok (.getfield 7, 3) := by decide +kernel
theorem dX8_share_47 : decode cX8_share 47 = .ok (.iload 4, 2) := by decide +kernel
theorem dX8_share_49 : decode cX8_share 49 = .ok (.iload_n 3, 1) := by decide +kernel
theorem dX8_share_50 : decode cX8_share 50 = .ok (.iastore, 1) := by decide +kernel
theorem dX8_share_51 : decode cX8_share 51 = .ok (.return_, 1) := by decide +kernel
theorem dX8_openGate_0 : decode cX8_openGate 0 = .ok (.aload_n 0, 1) := by decide +kernel
theorem dX8_openGate_1 : decode cX8_openGate 1 = .ok (.iload_n 1, 1) := by decide +kernel
theorem dX8_openGate_2 : decode cX8_openGate 2 = .ok (.bipush 8, 2) := by decide +kernel
theorem dX8_openGate_4 : decode cX8_openGate 4 = .ok (.invokevirtual 89, 3) := by decide +kernel
theorem dX8_openGate_7 : decode cX8_openGate 7 = .ok (.ireturn, 1) := by decide +kernel
theorem dX8_shareAll_0 : decode cX8_shareAll 0 = .ok (.iconst 0, 1) := by decide +kernel
theorem dX8_shareAll_1 : decode cX8_shareAll 1 = .ok (.istore_n 1, 1) := by decide +kernel
theorem dX8_shareAll_2 : decode cX8_shareAll 2 = .ok (.iload_n 1, 1) := by decide +kernel
theorem dX8_shareAll_3 : decode cX8_shareAll 3 = .ok (.aload_n 0, 1) := by decide +kernel
theorem dX8_shareAll_4 : decode cX8_shareAll 4 = .ok (.getfield 7, 3) := by decide +kernel
theorem dX8_shareAll_7 : decode cX8_shareAll 7 = .ok (.iconst 1, 1) := by decide +kernel
theorem dX8_shareAll_8 : decode cX8_shareAll 8 = .ok (.iaload, 1) := by decide +kernel
theorem dX8_shareAll_9 : decode cX8_shareAll 9 = .ok (.if_icmp .ge 27, 3) := by decide +kernel
theorem dX8_shareAll_12 : decode cX8_shareAll 12 = .ok (.aload_n 0, 1) := by decide +kernel
theorem dX8_shareAll_13 : decode cX8_shareAll 13 = .ok (.iload_n 1, 1) := by decide +kernel
theorem dX8_shareAll_14 : decode cX8_shareAll 14 = .ok (.invokevirtual 92, 3) := by decide +kernel
theorem dX8_shareAll_17 : decode cX8_shareAll 17 = .ok (.ifCond .lt 13, 3) := by decide +kernel
theorem dX8_shareAll_20 : decode cX8_shareAll 20 = .ok (.aload_n 0, 1) := by decide +kernel
theorem dX8_shareAll_21 : decode cX8_shareAll 21 = .ok (.iload_n 1, 1) := by decide +kernel
theorem dX8_shareAll_22 : decode cX8_shareAll 22 = .ok (.aload_n 0, 1) := by decide +kernel
theorem dX8_shareAll_23 : decode cX8_shareAll 23 = .ok (.iload_n 1, 1) := by decide +kernel
theorem dX8_shareAll_24 : decode cX8_shareAll 24 = .ok (.invokevirtual 92, 3) := by decide +kernel
theorem dX8_shareAll_27 : decode cX8_shareAll 27 = .ok (.invokevirtual 95, 3) := by decide +kernel
theorem dX8_shareAll_30 : decode cX8_shareAll 30 = .ok (.iinc 1 1, 3) := by decide +kernel
theorem dX8_shareAll_33 : decode cX8_shareAll 33 = .ok (.goto (-31), 3) := by decide +kernel
theorem dX8_shareAll_36 : decode cX8_shareAll 36 = .ok (.return_, 1) := by decide +kernel
theorem dX8_putReach_0 : decode cX8_putReach 0 = .ok (.bipush 6, 2) := by decide +kernel
theorem dX8_putReach_2 : decode cX8_putReach 2 = .ok (.iconst 3, 1) := by decide +kernel
theorem dX8_putReach_3 : decode cX8_putReach 3 = .ok (.aload_n 0, 1) := by decide +kernel
theorem dX8_putReach_4 : decode cX8_putReach 4 = .ok (.getfield 7, 3) := by decide +kernel
theorem dX8_putReach_7 : decode cX8_putReach 7 = .ok (.iconst 0, 1) := by decide +kernel
theorem dX8_putReach_8 : decode cX8_putReach 8 = .ok (.iaload, 1) := by decide +kernel
theorem dX8_putReach_9 : decode cX8_putReach 9 = .ok (.imul, 1) := by decide +kernel
theorem dX8_putReach_10 : decode cX8_putReach 10 = .ok (.iadd, 1) := by decide +kernel
theorem dX8_putReach_11 : decode cX8_putReach 11 = .ok (.istore 4, 2) := by decide +kernel
theorem dX8_putReach_13 : decode cX8_putReach 13 = .ok (.aload_n 0, 1) := by decide +kernel
theorem dX8_putReach_14 : decode cX8_putReach 14 = .ok (.getfield 7, 3) := by decide +kernel
theorem dX8_putReach_17 : decode cX8_putReach 17 = .ok (.iload 4, 2) := by decide +kernel
theorem dX8_putReach_19 : decode cX8_putReach 19 = .ok (.iconst 0, 1) := by decide +kernel
theorem dX8_putReach_20 : decode cX8_putReach 20 = .ok (.iadd, 1) := by decide +kernel
theorem dX8_putReach_21 : decode cX8_putReach 21 = .ok (.iload_n 1, 1) := by decide +kernel
theorem dX8_putReach_22 : decode cX8_putReach 22 = .ok (.iastore, 1) := by decide +kernel
theorem dX8_putReach_23 : decode cX8_putReach 23 = .ok (.aload_n 0, 1) := by decide +kernel
theorem dX8_putReach_24 : decode cX8_putReach 24 = .ok (.getfield 7, 3) := by decide +kernel
theorem dX8_putReach_27 : decode cX8_putReach 27 = .ok (.iload 4, 2) := by decide +kernel
theorem dX8_putReach_29 : decode cX8_putReach 29 = .ok (.iconst 1, 1) := by decide +kernel
theorem dX8_putReach_30 : decode cX8_putReach 30 = .ok (.iadd, 1) := by decide +kernel
theorem dX8_putReach_31 : decode cX8_putReach 31 = .ok (.iload_n 2, 1) := by decide +kernel
theorem dX8_putReach_32 : decode cX8_putReach 32 = .ok (.iastore, 1) := by decide +kernel
theorem dX8_putReach_33 : decode cX8_putReach 33 = .ok (.aload_n 0, 1) := by decide +kernel
theorem dX8_putReach_34 : decode cX8_putReach 34 = .ok (.getfield 7, 3) := by decide +kernel
theorem dX8_putReach_37 : decode cX8_putReach 37 = .ok (.iload 4, 2) := by decide +kernel
theorem dX8_putReach_39 : decode cX8_putReach 39 = .ok (.iconst 2, 1) := by decide +kernel
theorem dX8_putReach_40 : decode cX8_putReach 40 = .ok (.iadd, 1) := by decide +kernel
theorem dX8_putReach_41 : decode cX8_putReach 41 = .ok (.iload_n 3, 1) := by decide +kernel
theorem dX8_putReach_42 : decode cX8_putReach 42 = .ok (.iastore, 1) := by decide +kernel
theorem dX8_putReach_43 : decode cX8_putReach 43 = .ok (.aload_n 0, 1) := by decide +kernel
theorem dX8_putReach_44 : decode cX8_putReach 44 = .ok (.getfield 7, 3) := by decide +kernel
theorem dX8_putReach_47 : decode cX8_putReach 47 = .ok (.iconst 0, 1) := by decide +kernel
theorem dX8_putReach_48 : decode cX8_putReach 48 = .ok (.dup2, 1) := by decide +kernel
theorem dX8_putReach_49 : decode cX8_putReach 49 = .ok (.iaload, 1) := by decide +kernel
theorem dX8_putReach_50 : decode cX8_putReach 50 = .ok (.iconst 1, 1) := by decide +kernel
theorem dX8_putReach_51 : decode cX8_putReach 51 = .ok (.iadd, 1) := by decide +kernel
theorem dX8_putReach_52 : decode cX8_putReach 52 = .ok (.iastore, 1) := by decide +kernel
theorem dX8_putReach_53 : decode cX8_putReach 53 = .ok (.aload_n 0, 1) := by decide +kernel
theorem dX8_putReach_54 : decode cX8_putReach 54 = .ok (.getfield 7, 3) := by decide +kernel
theorem dX8_putReach_57 : decode cX8_putReach 57 = .ok (.iconst 5, 1) := by decide +kernel
theorem dX8_putReach_58 : decode cX8_putReach 58 = .ok (.dup2, 1) := by decide +kernel
theorem dX8_putReach_59 : decode cX8_putReach 59 = .ok (.iaload, 1) := by decide +kernel
theorem dX8_putReach_60 : decode cX8_putReach 60 = .ok (.iload_n 3, 1) := by decide +kernel
theorem dX8_putReach_61 : decode cX8_putReach 61 = .ok (.iadd, 1) := by decide +kernel
theorem dX8_putReach_62 : decode cX8_putReach 62 = .ok (.iastore, 1) := by decide +kernel
theorem dX8_putReach_63 : decode cX8_putReach 63 = .ok (.return_, 1) := by decide +kernel
theorem dX8_isReach_0 : decode cX8_isReach 0 = .ok (.iload_n 0, 1) := by decide +kernel
theorem dX8_isReach_1 : decode cX8_isReach 1 = .ok (.bipush 100, 2) := by decide +kernel
theorem dX8_isReach_3 : decode cX8_isReach 3 = .ok (.ldc 99, 2) := by decide +kernel
theorem dX8_isReach_5 : decode cX8_isReach 5 = .ok (.invokestatic 49, 3) := by decide +kernel
theorem dX8_isReach_8 : decode cX8_isReach 8 = .ok (.ifCond .eq 28, 3) := by decide +kernel
theorem dX8_isReach_11 : decode cX8_isReach 11 = .ok (.iload_n 1, 1) := by decide +kernel
theorem dX8_isReach_12 : decode cX8_isReach 12 = .ok (.iconst 0, 1) := by decide +kernel
theorem dX8_isReach_13 : decode cX8_isReach 13 = .ok (.sipush 5000, 3) := by decide +kernel
theorem dX8_isReach_16 : decode cX8_isReach 16 = .ok (.invokestatic 49, 3) := by decide +kernel
theorem dX8_isReach_19 : decode cX8_isReach 19 = .ok (.ifCond .eq 17, 3) := by decide +kernel
theorem dX8_isReach_22 : decode cX8_isReach 22 = .ok (.iload_n 2, 1) := by decide +kernel
theorem dX8_isReach_23 : decode cX8_isReach 23 = .ok (.iconst 0, 1) := by decide +kernel
theorem dX8_isReach_24 : decode cX8_isReach 24 = .ok (.ldc 100, 2) := by decide +kernel
theorem dX8_isReach_26 : decode cX8_isReach 26 = .ok (.invokestatic 49, 3) := by decide +kernel
theorem dX8_isReach_29 : decode cX8_isReach 29 = .ok (.ifCond .eq 7, 3) := by decide +kernel
theorem dX8_isReach_32 : decode cX8_isReach 32 = .ok (.iconst 1, 1) := by decide +kernel
theorem dX8_isReach_33 : decode cX8_isReach 33 = .ok (.goto 4, 3) := by decide +kernel
theorem dX8_isReach_36 : decode cX8_isReach 36 = .ok (.iconst 0, 1) := by decide +kernel
theorem dX8_isReach_37 : decode cX8_isReach 37 = .ok (.ireturn, 1) := by decide +kernel
theorem dX8_addReach_0 : decode cX8_addReach 0 = .ok (.iload_n 1, 1) := by decide +kernel
theorem dX8_addReach_1 : decode cX8_addReach 1 = .ok (.iload_n 2, 1) := by decide +kernel
theorem dX8_addReach_2 : decode cX8_addReach 2 = .ok (.iload_n 3, 1) := by decide +kernel
theorem dX8_addReach_3 : decode cX8_addReach 3 = .ok (.invokestatic 101, 3) := by decide +kernel
theorem dX8_addReach_6 : decode cX8_addReach 6 = .ok (.ifCond .ne 6, 3) := by decide +kernel
theorem dX8_addReach_9 : decode cX8_addReach 9 = .ok (.ldc 104, 2) := by decide +kernel
theorem dX8_addReach_11 : decode cX8_addReach 11 = .ok (.ireturn, 1) := by decide +kernel
theorem dX8_addReach_12 : decode cX8_addReach 12 = .ok (.aload_n 0, 1) := by decide +kernel
theorem dX8_addReach_13 : decode cX8_addReach 13 = .ok (.getfield 7, 3) := by decide +kernel
theorem dX8_addReach_16 : decode cX8_addReach 16 = .ok (.iconst 0, 1) := by decide +kernel
theorem dX8_addReach_17 : decode cX8_addReach 17 = .ok (.iaload, 1) := by decide +kernel
theorem dX8_addReach_18 : decode cX8_addReach 18 = .ok (.ifCond .le 6, 3) := by decide +kernel
theorem dX8_addReach_21 : decode cX8_addReach 21 = .ok (.ldc 105, 2) := by decide +kernel
theorem dX8_addReach_23 : decode cX8_addReach 23 = .ok (.ireturn, 1) := by decide +kernel
theorem dX8_addReach_24 : decode cX8_addReach 24 = .ok (.aload_n 0, 1) := by decide +kernel
theorem dX8_addReach_25 : decode cX8_addReach 25 = .ok (.invokevirtual 53, 3) := by decide +kernel
theorem dX8_addReach_28 : decode cX8_addReach 28 = .ok (.aload_n 0, 1) := by decide +kernel
theorem dX8_addReach_29 : decode cX8_addReach 29 = .ok (.iload_n 1, 1) := by decide +kernel
theorem dX8_addReach_30 : decode cX8_addReach 30 = .ok (.iload_n 2, 1) := by decide +kernel
theorem dX8_addReach_31 : decode cX8_addReach 31 = .ok (.iload_n 3, 1) := by decide +kernel
theorem dX8_addReach_32 : decode cX8_addReach 32 = .ok (.invokevirtual 106, 3) := by decide +kernel
theorem dX8_addReach_35 : decode cX8_addReach 35 = .ok (.aload_n 0, 1) := by decide +kernel
theorem dX8_addReach_36 : decode cX8_addReach 36 = .ok (.iconst 0, 1) := by decide +kernel
theorem dX8_addReach_37 : decode cX8_addReach 37 = .ok (.invokevirtual 110, 3) := by decide +kernel
theorem dX8_addReach_40 : decode cX8_addReach 40 = .ok (.ireturn, 1) := by decide +kernel
theorem dX8_addChamber_0 : decode cX8_addChamber 0 = .ok (.iload_n 1, 1) := by decide +kernel
theorem dX8_addChamber_1 : decode cX8_addChamber 1 = .ok (.bipush 100, 2) := by decide +kernel
theorem dX8_addChamber_3 : decode cX8_addChamber 3 = .ok (.ldc 99, 2) := by decide +kernel
theorem dX8_addChamber_5 : decode cX8_addChamber 5 = .ok (.invokestatic 49, 3) := by decide +kernel
theorem dX8_addChamber_8 : decode cX8_addChamber 8 = .ok (.ifCond .eq 38, 3) := by decide +kernel
theorem dX8_addChamber_11 : decode cX8_addChamber 11 = .ok (.iload_n 2, 1) := by decide +kernel
theorem dX8_addChamber_12 : decode cX8_addChamber 12 = .ok (.bipush 10, 2) := by decide +kernel
theorem dX8_addChamber_14 : decode cX8_addChamber 14 = .ok (.sipush 200, 3) := by decide +kernel
theorem dX8_addChamber_17 : decode cX8_addChamber 17 = .ok (.invokestatic 49, 3) := by decide +kernel
theorem dX8_addChamber_20 : decode cX8_addChamber 20 = .ok (.ifCond .eq 26, 3) := by decide +kernel
theorem dX8_addChamber_23 : decode cX8_addChamber 23 = .ok (.iload_n 3, 1) := by decide +kernel
theorem dX8_addChamber_24 : decode cX8_addChamber 24 = .ok (.iconst 0, 1) := by decide +kernel
theorem dX8_addChamber_25 : decode cX8_addChamber 25 = .ok (.sipush 5000, 3) := by decide +kernel
theorem dX8_addChamber_28 : decode cX8_addChamber 28 = .ok (.invokestatic 49, 3) := by decide +kernel
theorem dX8_addChamber_31 : decode cX8_addChamber 31 = .ok (.ifCond .eq 15, 3) := by decide +kernel
theorem dX8_addChamber_34 : decode cX8_addChamber 34 = .ok (.iload 4, 2) := by decide +kernel
theorem dX8_addChamber_36 : decode cX8_addChamber 36 = .ok (.iload 5, 2) := by decide +kernel
theorem dX8_addChamber_38 : decode cX8_addChamber 38 = .ok (.iload 6, 2) := by decide +kernel
theorem dX8_addChamber_40 : decode cX8_addChamber 40 = .ok (.invokestatic 101, 3) := by decide +kernel
theorem dX8_addChamber_43 : decode cX8_addChamber 43 = .ok (.ifCond .ne 6, 3) := by decide +kernel
theorem dX8_addChamber_46 : decode cX8_addChamber 46 = .ok (.ldc 104, 2) := by decide +kernel
theorem dX8_addChamber_48 : decode cX8_addChamber 48 = .ok (.ireturn, 1) := by decide +kernel
theorem dX8_addChamber_49 : decode cX8_addChamber 49 = .ok (.aload_n 0, 1) := by decide +kernel
theorem dX8_addChamber_50 : decode cX8_addChamber 50 = .ok (.getfield 7, 3) := by decide +kernel
theorem dX8_addChamber_53 : decode cX8_addChamber 53 = .ok (.iconst 1, 1) := by decide +kernel
theorem dX8_addChamber_54 : decode cX8_addChamber 54 = .ok (.iaload, 1) := by decide +kernel
theorem dX8_addChamber_55 : decode cX8_addChamber 55 = .ok (.iconst 4, 1) := by decide +kernel
theorem dX8_addChamber_56 : decode cX8_addChamber 56 = .ok (.if_icmp .eq 12, 3) := by decide +kernel
theorem dX8_addChamber_59 : decode cX8_addChamber 59 = .ok (.aload_n 0, 1) := by decide +kernel
theorem dX8_addChamber_60 : decode cX8_addChamber 60 = .ok (.getfield 7, 3) := by decide +kernel
theorem dX8_addChamber_63 : decode cX8_addChamber 63 = .ok (.iconst 0, 1) := by decide +kernel
theorem dX8_addChamber_64 : decode cX8_addChamber 64 = .ok (.iaload, 1) := by decide +kernel
theorem dX8_addChamber_65 : decode cX8_addChamber 65 = .ok (.ifCond .ne 6, 3) := by decide +kernel
theorem dX8_addChamber_68 : decode cX8_addChamber 68 = .ok (.ldc 105, 2) := by decide +kernel
theorem dX8_addChamber_70 : decode cX8_addChamber 70 = .ok (.ireturn, 1) := by decide +kernel
theorem dX8_addChamber_71 : decode cX8_addChamber 71 = .ok (.aload_n 0, 1) := by decide +kernel
theorem dX8_addChamber_72 : decode cX8_addChamber 72 = .ok (.invokevirtual 53, 3) := by decide +kernel
theorem dX8_addChamber_75 : decode cX8_addChamber 75 = .ok (.aload_n 0, 1) := by decide +kernel
theorem dX8_addChamber_76 : decode cX8_addChamber 76 = .ok (.getfield 7, 3) := by decide +kernel
theorem dX8_addChamber_79 : decode cX8_addChamber 79 = .ok (.iconst 1, 1) := by decide +kernel
theorem dX8_addChamber_80 : decode cX8_addChamber 80 = .ok (.iaload, 1) := by decide +kernel
theorem dX8_addChamber_81 : decode cX8_addChamber 81 = .ok (.istore 7, 2) := by decide +kernel
theorem dX8_addChamber_83 : decode cX8_addChamber 83 = .ok (.bipush 21, 2) := by decide +kernel
theorem dX8_addChamber_85 : decode cX8_addChamber 85 = .ok (.bipush 11, 2) := by decide +kernel
theorem dX8_addChamber_87 : decode cX8_addChamber 87 = .ok (.iload 7, 2) := by decide +kernel
theorem dX8_addChamber_89 : decode cX8_addChamber 89 = .ok (.imul, 1) := by decide +kernel
theorem dX8_addChamber_90 : decode cX8_addChamber 90 = .ok (.iadd, 1) := by decide +kernel
theorem dX8_addChamber_91 : decode cX8_addChamber 91 = .ok (.istore 8, 2) := by decide +kernel
theorem dX8_addChamber_93 : decode cX8_addChamber 93 = .ok (.iconst 0, 1) := by decide +kernel
theorem dX8_addChamber_94 : decode cX8_addChamber 94 = .ok (.istore 9, 2) := by decide +kernel
theorem dX8_addChamber_96 : decode cX8_addChamber 96 = .ok (.iload 9, 2) := by decide +kernel
theorem dX8_addChamber_98 : decode cX8_addChamber 98 = .ok (.bipush 11, 2) := by decide +kernel
theorem dX8_addChamber_100 : decode cX8_addChamber 100 = .ok (.if_icmp .ge 20, 3) := by decide +kernel
theorem dX8_addChamber_103 : decode cX8_addChamber 103 = .ok (.aload_n 0, 1) := by decide +kernel
theorem dX8_addChamber_104 : decode cX8_addChamber 104 = .ok (.getfield 7, 3) := by decide +kernel
theorem dX8_addChamber_107 : decode cX8_addChamber 107 = .ok (.iload 8, 2) := by decide +kernel
theorem dX8_addChamber_109 : decode cX8_addChamber 109 = .ok (.iload 9, 2) := by decide +kernel
theorem dX8_addChamber_111 : decode cX8_addChamber 111 = .ok (.iadd, 1) := by decide +kernel
theorem dX8_addChamber_112 : decode cX8_addChamber 112 = .ok (.iconst 0, 1) := by decide +kernel
theorem dX8_addChamber_113 : decode cX8_addChamber 113 = .ok (.iastore, 1) := by decide +kernel
theorem dX8_addChamber_114 : decode cX8_addChamber 114 = .ok (.iinc 9 1, 3) := by decide +kernel
theorem dX8_addChamber_117 : decode cX8_addChamber 117 = .ok (.goto (-21), 3) := by decide +kernel
theorem dX8_addChamber_120 : decode cX8_addChamber 120 = .ok (.aload_n 0, 1) := by decide +kernel
theorem dX8_addChamber_121 : decode cX8_addChamber 121 = .ok (.getfield 7, 3) := by decide +kernel
theorem dX8_addChamber_124 : decode cX8_addChamber 124 = .ok (.iload 8, 2) := by decide +kernel
theorem dX8_addChamber_126 : decode cX8_addChamber 126 = .ok (.iconst 0, 1) := by decide +kernel
theorem dX8_addChamber_127 : decode cX8_addChamber 127 = .ok (.iadd, 1) := by decide +kernel
theorem dX8_addChamber_128 : decode cX8_addChamber 128 = .ok (.iload_n 1, 1) := by decide +kernel
theorem dX8_addChamber_129 : decode cX8_addChamber 129 = .ok (.iastore, 1) := by decide +kernel
theorem dX8_addChamber_130 : decode cX8_addChamber 130 = .ok (.aload_n 0, 1) := by decide +kernel
theorem dX8_addChamber_131 : decode cX8_addChamber 131 = .ok (.getfield 7, 3) := by decide +kernel
theorem dX8_addChamber_134 : decode cX8_addChamber 134 = .ok (.iload 8, 2) := by decide +kernel
theorem dX8_addChamber_136 : decode cX8_addChamber 136 = .ok (.iconst 1, 1) := by decide +kernel
theorem dX8_addChamber_137 : decode cX8_addChamber 137 = .ok (.iadd, 1) := by decide +kernel
theorem dX8_addChamber_138 : decode cX8_addChamber 138 = .ok (.iload_n 3, 1) := by decide +kernel
theorem dX8_addChamber_139 : decode cX8_addChamber 139 = .ok (.iastore, 1) := by decide +kernel
theorem dX8_addChamber_140 : decode cX8_addChamber 140 = .ok (.aload_n 0, 1) := by decide +kernel
theorem dX8_addChamber_141 : decode cX8_addChamber 141 = .ok (.getfield 7, 3) := by decide +kernel
theorem dX8_addChamber_144 : decode cX8_addChamber 144 = .ok (.iload 8, 2) := by decide +kernel
theorem dX8_addChamber_146 : decode cX8_addChamber 146 = .ok (.iconst 3, 1) := by decide +kernel
theorem dX8_addChamber_147 : decode cX8_addChamber 147 = .ok (.iadd, 1) := by decide +kernel
theorem dX8_addChamber_148 : decode cX8_addChamber 148 = .ok (.iload_n 2, 1) := by decide +kernel
theorem dX8_addChamber_149 : decode cX8_addChamber 149 = .ok (.iastore, 1) := by decide +kernel
theorem dX8_addChamber_150 : decode cX8_addChamber 150 = .ok (.aload_n 0, 1) := by decide +kernel
theorem dX8_addChamber_151 : decode cX8_addChamber 151 = .ok (.getfield 7, 3) := by decide +kernel
theorem dX8_addChamber_154 : decode cX8_addChamber 154 = .ok (.iload 8, 2) := by decide +kernel
theorem dX8_addChamber_156 : decode cX8_addChamber 156 = .ok (.bipush 8, 2) := by decide +kernel
theorem dX8_addChamber_158 : decode cX8_addChamber 158 = .ok (.iadd, 1) := by decide +kernel
theorem dX8_addChamber_159 : decode cX8_addChamber 159 = .ok (.ldc 48, 2) := by decide +kernel
theorem dX8_addChamber_161 : decode cX8_addChamber 161 = .ok (.iastore, 1) := by decide +kernel
theorem dX8_addChamber_162 : decode cX8_addChamber 162 = .ok (.aload_n 0, 1) := by decide +kernel
theorem dX8_addChamber_163 : decode cX8_addChamber 163 = .ok (.getfield 7, 3) := by decide +kernel
theorem dX8_addChamber_166 : decode cX8_addChamber 166 = .ok (.sipush 161, 3) := by decide +kernel
theorem dX8_addChamber_169 : decode cX8_addChamber 169 = .ok (.bipush 13, 2) := by decide +kernel
theorem dX8_addChamber_171 : decode cX8_addChamber 171 = .ok (.iload 7, 2) := by decide +kernel
theorem dX8_addChamber_173 : decode cX8_addChamber 173 = .ok (.imul, 1) := by decide +kernel
theorem dX8_addChamber_174 : decode cX8_addChamber 174 = .ok (.iadd, 1) := by decide +kernel
theorem dX8_addChamber_175 : decode cX8_addChamber 175 = .ok (.iconst 0, 1) := by decide +kernel
theorem dX8_addChamber_176 : decode cX8_addChamber 176 = .ok (.iastore, 1) := by decide +kernel
theorem dX8_addChamber_177 : decode cX8_addChamber 177 = .ok (.aload_n 0, 1) := by decide +kernel
theorem dX8_addChamber_178 : decode cX8_addChamber 178 = .ok (.getfield 7, 3) := by decide +kernel
theorem dX8_addChamber_181 : decode cX8_addChamber 181 = .ok (.iconst 1, 1) := by decide +kernel
theorem dX8_addChamber_182 : decode cX8_addChamber 182 = .ok (.dup2, 1) := by decide +kernel
theorem dX8_addChamber_183 : decode cX8_addChamber 183 = .ok (.iaload, 1) := by decide +kernel
theorem dX8_addChamber_184 : decode cX8_addChamber 184 = .ok (.iconst 1, 1) := by decide +kernel
theorem dX8_addChamber_185 : decode cX8_addChamber 185 = .ok (.iadd, 1) := by decide +kernel
theorem dX8_addChamber_186 : decode cX8_addChamber 186 = .ok (.iastore, 1) := by decide +kernel
theorem dX8_addChamber_187 : decode cX8_addChamber 187 = .ok (.aload_n 0, 1) := by decide +kernel
theorem dX8_addChamber_188 : decode cX8_addChamber 188 = .ok (.iload 4, 2) := by decide +kernel
theorem dX8_addChamber_190 : decode cX8_addChamber 190 = .ok (.iload 5, 2) := by decide +kernel
theorem dX8_addChamber_192 : decode cX8_addChamber 192 = .ok (.iload 6, 2) := by decide +kernel
theorem dX8_addChamber_194 : decode cX8_addChamber 194 = .ok (.invokevirtual 106, 3) := by decide +kernel
theorem dX8_addChamber_197 : decode cX8_addChamber 197 = .ok (.aload_n 0, 1) := by decide +kernel
theorem dX8_addChamber_198 : decode cX8_addChamber 198 = .ok (.iload 7, 2) := by decide +kernel
theorem dX8_addChamber_200 : decode cX8_addChamber 200 = .ok (.invokevirtual 110, 3) := by decide +kernel
theorem dX8_addChamber_203 : decode cX8_addChamber 203 = .ok (.ireturn, 1) := by decide +kernel
theorem dX8_setSill_0 : decode cX8_setSill 0 = .ok (.aload_n 0, 1) := by decide +kernel
theorem dX8_setSill_1 : decode cX8_setSill 1 = .ok (.iload_n 1, 1) := by decide +kernel
theorem dX8_setSill_2 : decode cX8_setSill 2 = .ok (.iload_n 2, 1) := by decide +kernel
theorem dX8_setSill_3 : decode cX8_setSill 3 = .ok (.invokevirtual 113, 3) := by decide +kernel
theorem dX8_setSill_6 : decode cX8_setSill 6 = .ok (.ifCond .eq 6, 3) := by decide +kernel
theorem dX8_setSill_9 : decode cX8_setSill 9 = .ok (.ldc 41, 2) := by decide +kernel
theorem dX8_setSill_11 : decode cX8_setSill 11 = .ok (.ireturn, 1) := by decide +kernel
theorem dX8_setSill_12 : decode cX8_setSill 12 = .ok (.iload_n 3, 1) := by decide +kernel
theorem dX8_setSill_13 : decode cX8_setSill 13 = .ok (.iconst 0, 1) := by decide +kernel
theorem dX8_setSill_14 : decode cX8_setSill 14 = .ok (.sipush 5000, 3) := by decide +kernel
theorem dX8_setSill_17 : decode cX8_setSill 17 = .ok (.invokestatic 49, 3) := by decide +kernel
theorem dX8_setSill_20 : decode cX8_setSill 20 = .ok (.ifCond .ne 6, 3) := by decide +kernel
theorem dX8_setSill_23 : decode cX8_setSill 23 = .ok (.ldc 104, 2) := by decide +kernel
theorem dX8_setSill_25 : decode cX8_setSill 25 = .ok (.ireturn, 1) := by decide +kernel
theorem dX8_setSill_26 : decode cX8_setSill 26 = .ok (.aload_n 0, 1) := by decide +kernel
theorem dX8_setSill_27 : decode cX8_setSill 27 = .ok (.invokevirtual 53, 3) := by decide +kernel
theorem dX8_setSill_30 : decode cX8_setSill 30 = .ok (.aload_n 0, 1) := by decide +kernel
theorem dX8_setSill_31 : decode cX8_setSill 31 = .ok (.iload_n 1, 1) := by decide +kernel
theorem dX8_setSill_32 : decode cX8_setSill 32 = .ok (.iconst 4, 1) := by decide +kernel
theorem dX8_setSill_33 : decode cX8_setSill 33 = .ok (.iload_n 2, 1) := by decide +kernel
theorem dX8_setSill_34 : decode cX8_setSill 34 = .ok (.iadd, 1) := by decide +kernel
theorem dX8_setSill_35 : decode cX8_setSill 35 = .ok (.invokevirtual 89, 3) := by decide +kernel
theorem dX8_setSill_38 : decode cX8_setSill 38 = .ok (.istore 4, 2) := by decide +kernel
theorem dX8_setSill_40 : decode cX8_setSill 40 = .ok (.aload_n 0, 1) := by decide +kernel
theorem dX8_setSill_41 : decode cX8_setSill 41 = .ok (.getfield 7, 3) := by decide +kernel
theorem dX8_setSill_44 : decode cX8_setSill 44 = .ok (.bipush 21, 2) := by decide +kernel
theorem dX8_setSill_46 : decode cX8_setSill 46 = .ok (.bipush 11, 2) := by decide +kernel
theorem dX8_setSill_48 : decode cX8_setSill 48 = .ok (.iload_n 1, 1) := by decide +kernel
theorem dX8_setSill_49 : decode cX8_setSill 49 = .ok (.imul, 1) := by decide +kernel
theorem dX8_setSill_50 : decode cX8_setSill 50 = .ok (.iadd, 1) := by decide +kernel
theorem dX8_setSill_51 : decode cX8_setSill 51 = .ok (.iconst 4, 1) := by decide +kernel
theorem dX8_setSill_52 : decode cX8_setSill 52 = .ok (.iadd, 1) := by decide +kernel
theorem dX8_setSill_53 : decode cX8_setSill 53 = .ok (.iload_n 2, 1) := by decide +kernel
theorem dX8_setSill_54 : decode cX8_setSill 54 = .ok (.iadd, 1) := by decide +kernel
theorem dX8_setSill_55 : decode cX8_setSill 55 = .ok (.iload_n 3, 1) := by decide +kernel
theorem dX8_setSill_56 : decode cX8_setSill 56 = .ok (.iastore, 1) := by decide +kernel
theorem dX8_setSill_57 : decode cX8_setSill 57 = .ok (.aload_n 0, 1) := by decide +kernel
theorem dX8_setSill_58 : decode cX8_setSill 58 = .ok (.iload 4, 2) := by decide +kernel
theorem dX8_setSill_60 : decode cX8_setSill 60 = .ok (.invokevirtual 110, 3) := by decide +kernel
theorem dX8_setSill_63 : decode cX8_setSill 63 = .ok (.ireturn, 1) := by decide +kernel
theorem dX8_setClearance_0 : decode cX8_setClearance 0 = .ok (.iload_n 1, 1) := by decide +kernel
theorem dX8_setClearance_1 : decode cX8_setClearance 1 = .ok (.iconst 0, 1) := by decide +kernel
theorem dX8_setClearance_2 : decode cX8_setClearance 2 = .ok (.bipush 50, 2) := by decide +kernel
theorem dX8_setClearance_4 : decode cX8_setClearance 4 = .ok (.invokestatic 49, 3) := by decide +kernel
theorem dX8_setClearance_7 : decode cX8_setClearance 7 = .ok (.ifCond .ne 6, 3) := by decide +kernel
theorem dX8_setClearance_10 : decode cX8_setClearance 10 = .ok (.ldc 104, 2) := by decide +kernel
theorem dX8_setClearance_12 : decode cX8_setClearance 12 = .ok (.ireturn, 1) := by decide +kernel
theorem dX8_setClearance_13 : decode cX8_setClearance 13 = .ok (.aload_n 0, 1) := by decide +kernel
theorem dX8_setClearance_14 : decode cX8_setClearance 14 = .ok (.invokevirtual 53, 3) := by decide +kernel
theorem dX8_setClearance_17 : decode cX8_setClearance 17 = .ok (.aload_n 0, 1) := by decide +kernel
theorem dX8_setClearance_18 : decode cX8_setClearance 18 = .ok (.getfield 7, 3) := by decide +kernel
theorem dX8_setClearance_21 : decode cX8_setClearance 21 = .ok (.iconst 3, 1) := by decide +kernel
theorem dX8_setClearance_22 : decode cX8_setClearance 22 = .ok (.iaload, 1) := by decide +kernel
theorem dX8_setClearance_23 : decode cX8_setClearance 23 = .ok (.istore_n 2, 1) := by decide +kernel
theorem dX8_setClearance_24 : decode cX8_setClearance 24 = .ok (.aload_n 0, 1) := by decide +kernel
theorem dX8_setClearance_25 : decode cX8_setClearance 25 = .ok (.getfield 7, 3) := by decide +kernel
theorem dX8_setClearance_28 : decode cX8_setClearance 28 = .ok (.iconst 3, 1) := by decide +kernel
theorem dX8_setClearance_29 : decode cX8_setClearance 29 = .ok (.iload_n 1, 1) := by decide +kernel
theorem dX8_setClearance_30 : decode cX8_setClearance 30 = .ok (.iastore, 1) := by decide +kernel
theorem dX8_setClearance_31 : decode cX8_setClearance 31 = .ok (.aload_n 0, 1) := by decide +kernel
theorem dX8_setClearance_32 : decode cX8_setClearance 32 = .ok (.iload_n 2, 1) := by decide +kernel
theorem dX8_setClearance_33 : decode cX8_setClearance 33 = .ok (.invokevirtual 110, 3) := by decide +kernel
theorem dX8_setClearance_36 : decode cX8_setClearance 36 = .ok (.ireturn, 1) := by decide +kernel
theorem dX8_dredge_0 : decode cX8_dredge 0 = .ok (.aload_n 0, 1) := by decide +kernel
theorem dX8_dredge_1 : decode cX8_dredge 1 = .ok (.iload_n 1, 1) := by decide +kernel
theorem dX8_dredge_2 : decode cX8_dredge 2 = .ok (.iload_n 2, 1) := by decide +kernel
theorem dX8_dredge_3 : decode cX8_dredge 3 = .ok (.invokevirtual 113, 3) := by decide +kernel
theorem dX8_dredge_6 : decode cX8_dredge 6 = .ok (.ifCond .eq 6, 3) := by decide +kernel
theorem dX8_dredge_9 : decode cX8_dredge 9 = .ok (.ldc 41, 2) := by decide +kernel
theorem dX8_dredge_11 : decode cX8_dredge 11 = .ok (.ireturn, 1) := by decide +kernel
theorem dX8_dredge_12 : decode cX8_dredge 12 = .ok (.aload_n 0, 1) := by decide +kernel
theorem dX8_dredge_13 : decode cX8_dredge 13 = .ok (.iload_n 1, 1) := by decide +kernel
theorem dX8_dredge_14 : decode cX8_dredge 14 = .ok (.bipush 6, 2) := by decide +kernel
theorem dX8_dredge_16 : decode cX8_dredge 16 = .ok (.iload_n 2, 1) := by decide +kernel
theorem dX8_dredge_17 : decode cX8_dredge 17 = .ok (.iadd, 1) := by decide +kernel
theorem dX8_dredge_18 : decode cX8_dredge 18 = .ok (.invokevirtual 89, 3) := by decide +kernel
theorem dX8_dredge_21 : decode cX8_dredge 21 = .ok (.istore_n 3, 1) := by decide +kernel
theorem dX8_dredge_22 : decode cX8_dredge 22 = .ok (.iload_n 3, 1) := by decide +kernel
theorem dX8_dredge_23 : decode cX8_dredge 23 = .ok (.ifCond .ne 6, 3) := by decide +kernel
theorem dX8_dredge_26 : decode cX8_dredge 26 = .ok (.ldc 48, 2) := by decide +kernel
theorem dX8_dredge_28 : decode cX8_dredge 28 = .ok (.ireturn, 1) := by decide +kernel
theorem dX8_dredge_29 : decode cX8_dredge 29 = .ok (.aload_n 0, 1) := by decide +kernel
theorem dX8_dredge_30 : decode cX8_dredge 30 = .ok (.invokevirtual 53, 3) := by decide +kernel
theorem dX8_dredge_33 : decode cX8_dredge 33 = .ok (.aload_n 0, 1) := by decide +kernel
theorem dX8_dredge_34 : decode cX8_dredge 34 = .ok (.getfield 7, 3) := by decide +kernel
theorem dX8_dredge_37 : decode cX8_dredge 37 = .ok (.bipush 21, 2) := by decide +kernel
theorem dX8_dredge_39 : decode cX8_dredge 39 = .ok (.bipush 11, 2) := by decide +kernel
theorem dX8_dredge_41 : decode cX8_dredge 41 = .ok (.iload_n 1, 1) := by decide +kernel
theorem dX8_dredge_42 : decode cX8_dredge 42 = .ok (.imul, 1) := by decide +kernel
theorem dX8_dredge_43 : decode cX8_dredge 43 = .ok (.iadd, 1) := by decide +kernel
theorem dX8_dredge_44 : decode cX8_dredge 44 = .ok (.bipush 6, 2) := by decide +kernel
theorem dX8_dredge_46 : decode cX8_dredge 46 = .ok (.iadd, 1) := by decide +kernel
theorem dX8_dredge_47 : decode cX8_dredge 47 = .ok (.iload_n 2, 1) := by decide +kernel
theorem dX8_dredge_48 : decode cX8_dredge 48 = .ok (.iadd, 1) := by decide +kernel
theorem dX8_dredge_49 : decode cX8_dredge 49 = .ok (.iconst 0, 1) := by decide +kernel
theorem dX8_dredge_50 : decode cX8_dredge 50 = .ok (.iastore, 1) := by decide +kernel
theorem dX8_dredge_51 : decode cX8_dredge 51 = .ok (.aload_n 0, 1) := by decide +kernel
theorem dX8_dredge_52 : decode cX8_dredge 52 = .ok (.iload_n 3, 1) := by decide +kernel
theorem dX8_dredge_53 : decode cX8_dredge 53 = .ok (.invokevirtual 110, 3) := by decide +kernel
theorem dX8_dredge_56 : decode cX8_dredge 56 = .ok (.ireturn, 1) := by decide +kernel
theorem dX8_supply_0 : decode cX8_supply 0 = .ok (.aload_n 0, 1) := by decide +kernel
theorem dX8_supply_1 : decode cX8_supply 1 = .ok (.iload_n 1, 1) := by decide +kernel
theorem dX8_supply_2 : decode cX8_supply 2 = .ok (.invokevirtual 117, 3) := by decide +kernel
theorem dX8_supply_5 : decode cX8_supply 5 = .ok (.ifCond .eq 6, 3) := by decide +kernel
theorem dX8_supply_8 : decode cX8_supply 8 = .ok (.ldc 41, 2) := by decide +kernel
theorem dX8_supply_10 : decode cX8_supply 10 = .ok (.ireturn, 1) := by decide +kernel
theorem dX8_supply_11 : decode cX8_supply 11 = .ok (.iload_n 2, 1) := by decide +kernel
theorem dX8_supply_12 : decode cX8_supply 12 = .ok (.ldc 120, 2) := by decide +kernel
theorem dX8_supply_14 : decode cX8_supply 14 = .ok (.ldc 121, 2) := by decide +kernel
theorem dX8_supply_16 : decode cX8_supply 16 = .ok (.invokestatic 49, 3) := by decide +kernel
theorem dX8_supply_19 : decode cX8_supply 19 = .ok (.ifCond .ne 6, 3) := by decide +kernel
theorem dX8_supply_22 : decode cX8_supply 22 = .ok (.ldc 104, 2) := by decide +kernel
theorem dX8_supply_24 : decode cX8_supply 24 = .ok (.ireturn, 1) := by decide +kernel
theorem dX8_supply_25 : decode cX8_supply 25 = .ok (.iload_n 1, 1) := by decide +kernel
theorem dX8_supply_26 : decode cX8_supply 26 = .ok (.invokestatic 68, 3) := by decide +kernel
theorem dX8_supply_29 : decode cX8_supply 29 = .ok (.iconst 2, 1) := by decide +kernel
theorem dX8_supply_30 : decode cX8_supply 30 = .ok (.iadd, 1) := by decide +kernel
theorem dX8_supply_31 : decode cX8_supply 31 = .ok (.istore_n 3, 1) := by decide +kernel
theorem dX8_supply_32 : decode cX8_supply 32 = .ok (.aload_n 0, 1) := by decide +kernel
theorem dX8_supply_33 : decode cX8_supply 33 = .ok (.getfield 7, 3) := by decide +kernel
theorem dX8_supply_36 : decode cX8_supply 36 = .ok (.iload_n 3, 1) := by decide +kernel
theorem dX8_supply_37 : decode cX8_supply 37 = .ok (.iaload, 1) := by decide +kernel
theorem dX8_supply_38 : decode cX8_supply 38 = .ok (.iload_n 2, 1) := by decide +kernel
theorem dX8_supply_39 : decode cX8_supply 39 = .ok (.iadd, 1) := by decide +kernel
theorem dX8_supply_40 : decode cX8_supply 40 = .ok (.ifCond .lt 16, 3) := by decide +kernel
theorem dX8_supply_43 : decode cX8_supply 43 = .ok (.aload_n 0, 1) := by decide +kernel
theorem dX8_supply_44 : decode cX8_supply 44 = .ok (.getfield 7, 3) := by decide +kernel
theorem dX8_supply_47 : decode cX8_supply 47 = .ok (.iload_n 3, 1) := by decide +kernel
theorem dX8_supply_48 : decode cX8_supply 48 = .ok (.iaload, 1) := by decide +kernel
theorem dX8_supply_49 : decode cX8_supply 49 = .ok (.iload_n 2, 1) := by decide +kernel
theorem dX8_supply_50 : decode cX8_supply 50 = .ok (.iadd, 1) := by decide +kernel
theorem dX8_supply_51 : decode cX8_supply 51 = .ok (.ldc 122, 2) := by decide +kernel
theorem dX8_supply_53 : decode cX8_supply 53 = .ok (.if_icmp .le 10, 3) := by decide +kernel
theorem dX8_supply_56 : decode cX8_supply 56 = .ok (.aload_n 0, 1) := by decide +kernel
theorem dX8_supply_57 : decode cX8_supply 57 = .ok (.bipush 8, 2) := by decide +kernel
theorem dX8_supply_59 : decode cX8_supply 59 = .ok (.invokevirtual 123, 3) := by decide +kernel
theorem dX8_supply_62 : decode cX8_supply 62 = .ok (.ireturn, 1) := by decide +kernel
theorem dX8_supply_63 : decode cX8_supply 63 = .ok (.aload_n 0, 1) := by decide +kernel
theorem dX8_supply_64 : decode cX8_supply 64 = .ok (.invokevirtual 53, 3) := by decide +kernel
theorem dX8_supply_67 : decode cX8_supply 67 = .ok (.aload_n 0, 1) := by decide +kernel
theorem dX8_supply_68 : decode cX8_supply 68 = .ok (.getfield 7, 3) := by decide +kernel
theorem dX8_supply_71 : decode cX8_supply 71 = .ok (.iload_n 3, 1) := by decide +kernel
theorem dX8_supply_72 : decode cX8_supply 72 = .ok (.dup2, 1) := by decide +kernel
theorem dX8_supply_73 : decode cX8_supply 73 = .ok (.iaload, 1) := by decide +kernel
theorem dX8_supply_74 : decode cX8_supply 74 = .ok (.iload_n 2, 1) := by decide +kernel
theorem dX8_supply_75 : decode cX8_supply 75 = .ok (.iadd, 1) := by decide +kernel
theorem dX8_supply_76 : decode cX8_supply 76 = .ok (.iastore, 1) := by decide +kernel
theorem dX8_supply_77 : decode cX8_supply 77 = .ok (.aload_n 0, 1) := by decide +kernel
theorem dX8_supply_78 : decode cX8_supply 78 = .ok (.getfield 7, 3) := by decide +kernel
theorem dX8_supply_81 : decode cX8_supply 81 = .ok (.iconst 4, 1) := by decide +kernel
theorem dX8_supply_82 : decode cX8_supply 82 = .ok (.dup2, 1) := by decide +kernel
theorem dX8_supply_83 : decode cX8_supply 83 = .ok (.iaload, 1) := by decide +kernel
theorem dX8_supply_84 : decode cX8_supply 84 = .ok (.iload_n 2, 1) := by decide +kernel
theorem dX8_supply_85 : decode cX8_supply 85 = .ok (.iadd, 1) := by decide +kernel
theorem dX8_supply_86 : decode cX8_supply 86 = .ok (.iastore, 1) := by decide +kernel
theorem dX8_supply_87 : decode cX8_supply 87 = .ok (.aload_n 0, 1) := by decide +kernel
theorem dX8_supply_88 : decode cX8_supply 88 = .ok (.iconst 0, 1) := by decide +kernel
theorem dX8_supply_89 : decode cX8_supply 89 = .ok (.invokevirtual 110, 3) := by decide +kernel
theorem dX8_supply_92 : decode cX8_supply 92 = .ok (.istore 4, 2) := by decide +kernel
theorem dX8_supply_94 : decode cX8_supply 94 = .ok (.aload_n 0, 1) := by decide +kernel
theorem dX8_supply_95 : decode cX8_supply 95 = .ok (.iload_n 1, 1) := by decide +kernel
theorem dX8_supply_96 : decode cX8_supply 96 = .ok (.invokevirtual 126, 3) := by decide +kernel
theorem dX8_supply_99 : decode cX8_supply 99 = .ok (.ireturn, 1) := by decide +kernel
theorem dX8_addBarge_0 : decode cX8_addBarge 0 = .ok (.aload_n 0, 1) := by decide +kernel
theorem dX8_addBarge_1 : decode cX8_addBarge 1 = .ok (.iload_n 1, 1) := by decide +kernel
theorem dX8_addBarge_2 : decode cX8_addBarge 2 = .ok (.invokevirtual 117, 3) := by decide +kernel
theorem dX8_addBarge_5 : decode cX8_addBarge 5 = .ok (.ifCond .eq 6, 3) := by decide +kernel
theorem dX8_addBarge_8 : decode cX8_addBarge 8 = .ok (.ldc 41, 2) := by decide +kernel
theorem dX8_addBarge_10 : decode cX8_addBarge 10 = .ok (.ireturn, 1) := by decide +kernel
theorem dX8_addBarge_11 : decode cX8_addBarge 11 = .ok (.iload_n 2, 1) := by decide +kernel
theorem dX8_addBarge_12 : decode cX8_addBarge 12 = .ok (.iconst 5, 1) := by decide +kernel
theorem dX8_addBarge_13 : decode cX8_addBarge 13 = .ok (.bipush 60, 2) := by decide +kernel
theorem dX8_addBarge_15 : decode cX8_addBarge 15 = .ok (.invokestatic 49, 3) := by decide +kernel
theorem dX8_addBarge_18 : decode cX8_addBarge 18 = .ok (.ifCond .eq 39, 3) := by decide +kernel
theorem dX8_addBarge_21 : decode cX8_addBarge 21 = .ok (.iload_n 3, 1) := by decide +kernel
theorem dX8_addBarge_22 : decode cX8_addBarge 22 = .ok (.bipush 10, 2) := by decide +kernel
theorem dX8_addBarge_24 : decode cX8_addBarge 24 = .ok (.sipush 500, 3) := by decide +kernel
theorem dX8_addBarge_27 : decode cX8_addBarge 27 = .ok (.invokestatic 49, 3) := by decide +kernel
theorem dX8_addBarge_30 : decode cX8_addBarge 30 = .ok (.ifCond .eq 27, 3) := by decide +kernel
theorem dX8_addBarge_33 : decode cX8_addBarge 33 = .ok (.iload 4, 2) := by decide +kernel
theorem dX8_addBarge_35 : decode cX8_addBarge 35 = .ok (.iconst 1, 1) := by decide +kernel
theorem dX8_addBarge_36 : decode cX8_addBarge 36 = .ok (.bipush 20, 2) := by decide +kernel
theorem dX8_addBarge_38 : decode cX8_addBarge 38 = .ok (.invokestatic 49, 3) := by decide +kernel
theorem dX8_addBarge_41 : decode cX8_addBarge 41 = .ok (.ifCond .eq 16, 3) := by decide +kernel
theorem dX8_addBarge_44 : decode cX8_addBarge 44 = .ok (.iload 5, 2) := by decide +kernel
theorem dX8_addBarge_46 : decode cX8_addBarge 46 = .ok (.bipush 10, 2) := by decide +kernel
theorem dX8_addBarge_48 : decode cX8_addBarge 48 = .ok (.sipush 1000, 3) := by decide +kernel
theorem dX8_addBarge_51 : decode cX8_addBarge 51 = .ok (.invokestatic 49, 3) := by decide +kernel
theorem dX8_addBarge_54 : decode cX8_addBarge 54 = .ok (.ifCond .ne 6, 3) := by decide +kernel
theorem dX8_addBarge_57 : decode cX8_addBarge 57 = .ok (.ldc 104, 2) := by decide +kernel
theorem dX8_addBarge_59 : decode cX8_addBarge 59 = .ok (.ireturn, 1) := by decide +kernel
theorem dX8_addBarge_60 : decode cX8_addBarge 60 = .ok (.aload_n 0, 1) := by decide +kernel
theorem dX8_addBarge_61 : decode cX8_addBarge 61 = .ok (.getfield 7, 3) := by decide +kernel
theorem dX8_addBarge_64 : decode cX8_addBarge 64 = .ok (.iconst 2, 1) := by decide +kernel
theorem dX8_addBarge_65 : decode cX8_addBarge 65 = .ok (.iaload, 1) := by decide +kernel
theorem dX8_addBarge_66 : decode cX8_addBarge 66 = .ok (.bipush 12, 2) := by decide +kernel
theorem dX8_addBarge_68 : decode cX8_addBarge 68 = .ok (.if_icmp .ne 6, 3) := by decide +kernel
theorem dX8_addBarge_71 : decode cX8_addBarge 71 = .ok (.ldc 105, 2) := by decide +kernel
theorem dX8_addBarge_73 : decode cX8_addBarge 73 = .ok (.ireturn, 1) := by decide +kernel
theorem dX8_addBarge_74 : decode cX8_addBarge 74 = .ok (.aload_n 0, 1) := by decide +kernel
theorem dX8_addBarge_75 : decode cX8_addBarge 75 = .ok (.invokevirtual 53, 3) := by decide +kernel
theorem dX8_addBarge_78 : decode cX8_addBarge 78 = .ok (.aload_n 0, 1) := by decide +kernel
theorem dX8_addBarge_79 : decode cX8_addBarge 79 = .ok (.getfield 7, 3) := by decide +kernel
theorem dX8_addBarge_82 : decode cX8_addBarge 82 = .ok (.iconst 2, 1) := by decide +kernel
theorem dX8_addBarge_83 : decode cX8_addBarge 83 = .ok (.iaload, 1) := by decide +kernel
theorem dX8_addBarge_84 : decode cX8_addBarge 84 = .ok (.istore 6, 2) := by decide +kernel
theorem dX8_addBarge_86 : decode cX8_addBarge 86 = .ok (.iconst 0, 1) := by decide +kernel
theorem dX8_addBarge_87 : decode cX8_addBarge 87 = .ok (.istore 7, 2) := by decide +kernel
theorem dX8_addBarge_89 : decode cX8_addBarge 89 = .ok (.iload 7, 2) := by decide +kernel
theorem dX8_addBarge_91 : decode cX8_addBarge 91 = .ok (.bipush 8, 2) := by decide +kernel
theorem dX8_addBarge_93 : decode cX8_addBarge 93 = .ok (.if_icmp .ge 18, 3) := by decide +kernel
theorem dX8_addBarge_96 : decode cX8_addBarge 96 = .ok (.aload_n 0, 1) := by decide +kernel
theorem dX8_addBarge_97 : decode cX8_addBarge 97 = .ok (.iload 6, 2) := by decide +kernel
theorem dX8_addBarge_99 : decode cX8_addBarge 99 = .ok (.iload 7, 2) := by decide +kernel
theorem dX8_addBarge_101 : decode cX8_addBarge 101 = .ok (.iconst 0, 1) := by decide +kernel
theorem dX8_addBarge_102 : decode cX8_addBarge 102 = .ok (.invokevirtual 129, 3) := by decide +kernel
theorem dX8_addBarge_105 : decode cX8_addBarge 105 = .ok (.iinc 7 1, 3) := by decide +kernel
theorem dX8_addBarge_108 : decode cX8_addBarge 108 = .ok (.goto (-19), 3) := by decide +kernel
theorem dX8_addBarge_111 : decode cX8_addBarge 111 = .ok (.aload_n 0, 1) := by decide +kernel
theorem dX8_addBarge_112 : decode cX8_addBarge 112 = .ok (.iload 6, 2) := by decide +kernel
theorem dX8_addBarge_114 : decode cX8_addBarge 114 = .ok (.iconst 0, 1) := by decide +kernel
theorem dX8_addBarge_115 : decode cX8_addBarge 115 = .ok (.iload_n 2, 1) := by decide +kernel
theorem dX8_addBarge_116 : decode cX8_addBarge 116 = .ok (.invokevirtual 129, 3) := by decide +kernel
theorem dX8_addBarge_119 : decode cX8_addBarge 119 = .ok (.aload_n 0, 1) := by decide +kernel
theorem dX8_addBarge_120 : decode cX8_addBarge 120 = .ok (.iload 6, 2) := by decide +kernel
theorem dX8_addBarge_122 : decode cX8_addBarge 122 = .ok (.iconst 1, 1) := by decide +kernel
theorem dX8_addBarge_123 : decode cX8_addBarge 123 = .ok (.iload_n 3, 1) := by decide +kernel
theorem dX8_addBarge_124 : decode cX8_addBarge 124 = .ok (.invokevirtual 129, 3) := by decide +kernel
theorem dX8_addBarge_127 : decode cX8_addBarge 127 = .ok (.aload_n 0, 1) := by decide +kernel
theorem dX8_addBarge_128 : decode cX8_addBarge 128 = .ok (.iload 6, 2) := by decide +kernel
theorem dX8_addBarge_130 : decode cX8_addBarge 130 = .ok (.iconst 2, 1) := by decide +kernel
theorem dX8_addBarge_131 : decode cX8_addBarge 131 = .ok (.iload 4, 2) := by decide +kernel
theorem dX8_addBarge_133 : decode cX8_addBarge 133 = .ok (.invokevirtual 129, 3) := by decide +kernel
theorem dX8_addBarge_136 : decode cX8_addBarge 136 = .ok (.aload_n 0, 1) := by decide +kernel
theorem dX8_addBarge_137 : decode cX8_addBarge 137 = .ok (.iload 6, 2) := by decide +kernel
theorem dX8_addBarge_139 : decode cX8_addBarge 139 = .ok (.iconst 3, 1) := by decide +kernel
theorem dX8_addBarge_140 : decode cX8_addBarge 140 = .ok (.iload 5, 2) := by decide +kernel
theorem dX8_addBarge_142 : decode cX8_addBarge 142 = .ok (.invokevirtual 129, 3) := by decide +kernel
theorem dX8_addBarge_145 : decode cX8_addBarge 145 = .ok (.aload_n 0, 1) := by decide +kernel
theorem dX8_addBarge_146 : decode cX8_addBarge 146 = .ok (.iload 6, 2) := by decide +kernel
theorem dX8_addBarge_148 : decode cX8_addBarge 148 = .ok (.bipush 6, 2) := by decide +kernel
theorem dX8_addBarge_150 : decode cX8_addBarge 150 = .ok (.iload_n 1, 1) := by decide +kernel
theorem dX8_addBarge_151 : decode cX8_addBarge 151 = .ok (.invokevirtual 129, 3) := by decide +kernel
theorem dX8_addBarge_154 : decode cX8_addBarge 154 = .ok (.aload_n 0, 1) := by decide +kernel
theorem dX8_addBarge_155 : decode cX8_addBarge 155 = .ok (.getfield 7, 3) := by decide +kernel
theorem dX8_addBarge_158 : decode cX8_addBarge 158 = .ok (.iconst 2, 1) := by decide +kernel
theorem dX8_addBarge_159 : decode cX8_addBarge 159 = .ok (.dup2, 1) := by decide +kernel
theorem dX8_addBarge_160 : decode cX8_addBarge 160 = .ok (.iaload, 1) := by decide +kernel
theorem dX8_addBarge_161 : decode cX8_addBarge 161 = .ok (.iconst 1, 1) := by decide +kernel
theorem dX8_addBarge_162 : decode cX8_addBarge 162 = .ok (.iadd, 1) := by decide +kernel
theorem dX8_addBarge_163 : decode cX8_addBarge 163 = .ok (.iastore, 1) := by decide +kernel
theorem dX8_addBarge_164 : decode cX8_addBarge 164 = .ok (.aload_n 0, 1) := by decide +kernel
theorem dX8_addBarge_165 : decode cX8_addBarge 165 = .ok (.iload 6, 2) := by decide +kernel
theorem dX8_addBarge_167 : decode cX8_addBarge 167 = .ok (.invokevirtual 110, 3) := by decide +kernel
theorem dX8_addBarge_170 : decode cX8_addBarge 170 = .ok (.ireturn, 1) := by decide +kernel
theorem dX8_isTons_0 : decode cX8_isTons 0 = .ok (.iload_n 0, 1) := by decide +kernel
theorem dX8_isTons_1 : decode cX8_isTons 1 = .ok (.sipush (-1000), 3) := by decide +kernel
theorem dX8_isTons_4 : decode cX8_isTons 4 = .ok (.sipush 1000, 3) := by decide +kernel
theorem dX8_isTons_7 : decode cX8_isTons 7 = .ok (.invokestatic 49, 3) := by decide +kernel
theorem dX8_isTons_10 : decode cX8_isTons 10 = .ok (.ifCond .eq 11, 3) := by decide +kernel
theorem dX8_isTons_13 : decode cX8_isTons 13 = .ok (.iload_n 0, 1) := by decide +kernel
theorem dX8_isTons_14 : decode cX8_isTons 14 = .ok (.ifCond .eq 7, 3) := by decide +kernel
theorem dX8_isTons_17 : decode cX8_isTons 17 = .ok (.iconst 1, 1) := by decide +kernel
theorem dX8_isTons_18 : decode cX8_isTons 18 = .ok (.goto 4, 3) := by decide +kernel
theorem dX8_isTons_21 : decode cX8_isTons 21 = .ok (.iconst 0, 1) := by decide +kernel
theorem dX8_isTons_22 : decode cX8_isTons 22 = .ok (.ireturn, 1) := by decide +kernel
theorem dX8_room_0 : decode cX8_room 0 = .ok (.aload_n 0, 1) := by decide +kernel
theorem dX8_room_1 : decode cX8_room 1 = .ok (.iload_n 1, 1) := by decide +kernel
theorem dX8_room_2 : decode cX8_room 2 = .ok (.iconst 3, 1) := by decide +kernel
theorem dX8_room_3 : decode cX8_room 3 = .ok (.invokevirtual 60, 3) := by decide +kernel
theorem dX8_room_6 : decode cX8_room 6 = .ok (.aload_n 0, 1) := by decide +kernel
theorem dX8_room_7 : decode cX8_room 7 = .ok (.iload_n 1, 1) := by decide +kernel
theorem dX8_room_8 : decode cX8_room 8 = .ok (.iconst 4, 1) := by decide +kernel
theorem dX8_room_9 : decode cX8_room 9 = .ok (.invokevirtual 60, 3) := by decide +kernel
theorem dX8_room_12 : decode cX8_room 12 = .ok (.isub, 1) := by decide +kernel
theorem dX8_room_13 : decode cX8_room 13 = .ok (.aload_n 0, 1) := by decide +kernel
theorem dX8_room_14 : decode cX8_room 14 = .ok (.iload_n 1, 1) := by decide +kernel
theorem dX8_room_15 : decode cX8_room 15 = .ok (.iconst 5, 1) := by decide +kernel
theorem dX8_room_16 : decode cX8_room 16 = .ok (.invokevirtual 60, 3) := by decide +kernel
theorem dX8_room_19 : decode cX8_room 19 = .ok (.isub, 1) := by decide +kernel
theorem dX8_room_20 : decode cX8_room 20 = .ok (.ireturn, 1) := by decide +kernel
theorem dX8_doLoad_0 : decode cX8_doLoad 0 = .ok (.aload_n 0, 1) := by decide +kernel
theorem dX8_doLoad_1 : decode cX8_doLoad 1 = .ok (.iload_n 1, 1) := by decide +kernel
theorem dX8_doLoad_2 : decode cX8_doLoad 2 = .ok (.invokevirtual 132, 3) := by decide +kernel
theorem dX8_doLoad_5 : decode cX8_doLoad 5 = .ok (.ifCond .eq 6, 3) := by decide +kernel
theorem dX8_doLoad_8 : decode cX8_doLoad 8 = .ok (.ldc 41, 2) := by decide +kernel
theorem dX8_doLoad_10 : decode cX8_doLoad 10 = .ok (.ireturn, 1) := by decide +kernel
theorem dX8_doLoad_11 : decode cX8_doLoad 11 = .ok (.iload_n 2, 1) := by decide +kernel
theorem dX8_doLoad_12 : decode cX8_doLoad 12 = .ok (.invokestatic 135, 3) := by decide +kernel
theorem dX8_doLoad_15 : decode cX8_doLoad 15 = .ok (.ifCond .ne 6, 3) := by decide +kernel
theorem dX8_doLoad_18 : decode cX8_doLoad 18 = .ok (.ldc 104, 2) := by decide +kernel
theorem dX8_doLoad_20 : decode cX8_doLoad 20 = .ok (.ireturn, 1) := by decide +kernel
theorem dX8_doLoad_21 : decode cX8_doLoad 21 = .ok (.aload_n 0, 1) := by decide +kernel
theorem dX8_doLoad_22 : decode cX8_doLoad 22 = .ok (.iload_n 1, 1) := by decide +kernel
theorem dX8_doLoad_23 : decode cX8_doLoad 23 = .ok (.bipush 6, 2) := by decide +kernel
theorem dX8_doLoad_25 : decode cX8_doLoad 25 = .ok (.invokevirtual 60, 3) := by decide +kernel
theorem dX8_doLoad_28 : decode cX8_doLoad 28 = .ok (.bipush 100, 2) := by decide +kernel
theorem dX8_doLoad_30 : decode cX8_doLoad 30 = .ok (.if_icmp .lt 9, 3) := by decide +kernel
theorem dX8_doLoad_33 : decode cX8_doLoad 33 = .ok (.aload_n 0, 1) := by decide +kernel
theorem dX8_doLoad_34 : decode cX8_doLoad 34 = .ok (.iconst 4, 1) := by decide +kernel
theorem dX8_doLoad_35 : decode cX8_doLoad 35 = .ok (.invokevirtual 123, 3) := by decide +kernel
theorem dX8_doLoad_38 : decode cX8_doLoad 38 = .ok (.ireturn, 1) := by decide +kernel
theorem dX8_doLoad_39 : decode cX8_doLoad 39 = .ok (.iload_n 2, 1) := by decide +kernel
theorem dX8_doLoad_40 : decode cX8_doLoad 40 = .ok (.aload_n 0, 1) := by decide +kernel
theorem dX8_doLoad_41 : decode cX8_doLoad 41 = .ok (.iload_n 1, 1) := by decide +kernel
theorem dX8_doLoad_42 : decode cX8_doLoad 42 = .ok (.invokevirtual 138, 3) := by decide +kernel
theorem dX8_doLoad_45 : decode cX8_doLoad 45 = .ok (.if_icmp .gt 14, 3) := by decide +kernel
theorem dX8_doLoad_48 : decode cX8_doLoad 48 = .ok (.aload_n 0, 1) := by decide +kernel
theorem dX8_doLoad_49 : decode cX8_doLoad 49 = .ok (.iload_n 1, 1) := by decide +kernel
theorem dX8_doLoad_50 : decode cX8_doLoad 50 = .ok (.iconst 4, 1) := by decide +kernel
theorem dX8_doLoad_51 : decode cX8_doLoad 51 = .ok (.invokevirtual 60, 3) := by decide +kernel
theorem dX8_doLoad_54 : decode cX8_doLoad 54 = .ok (.iload_n 2, 1) := by decide +kernel
theorem dX8_doLoad_55 : decode cX8_doLoad 55 = .ok (.iadd, 1) := by decide +kernel
theorem dX8_doLoad_56 : decode cX8_doLoad 56 = .ok (.ifCond .ge 10, 3) := by decide +kernel
theorem dX8_doLoad_59 : decode cX8_doLoad 59 = .ok (.aload_n 0, 1) := by decide +kernel
theorem dX8_doLoad_60 : decode cX8_doLoad 60 = .ok (.bipush 8, 2) := by decide +kernel
theorem dX8_doLoad_62 : decode cX8_doLoad 62 = .ok (.invokevirtual 123, 3) := by decide +kernel
theorem dX8_doLoad_65 : decode cX8_doLoad 65 = .ok (.ireturn, 1) := by decide +kernel
theorem dX8_doLoad_66 : decode cX8_doLoad 66 = .ok (.aload_n 0, 1) := by decide +kernel
theorem dX8_doLoad_67 : decode cX8_doLoad 67 = .ok (.iload_n 1, 1) := by decide +kernel
theorem dX8_doLoad_68 : decode cX8_doLoad 68 = .ok (.iconst 4, 1) := by decide +kernel
theorem dX8_doLoad_69 : decode cX8_doLoad 69 = .ok (.aload_n 0, 1) := by decide +kernel
theorem dX8_doLoad_70 : decode cX8_doLoad 70 = .ok (.iload_n 1, 1) := by decide +kernel
theorem dX8_doLoad_71 : decode cX8_doLoad 71 = .ok (.iconst 4, 1) := by decide +kernel
theorem dX8_doLoad_72 : decode cX8_doLoad 72 = .ok (.invokevirtual 60, 3) := by decide +kernel
theorem dX8_doLoad_75 : decode cX8_doLoad 75 = .ok (.iload_n 2, 1) := by decide +kernel
theorem dX8_doLoad_76 : decode cX8_doLoad 76 = .ok (.iadd, 1) := by decide +kernel
theorem dX8_doLoad_77 : decode cX8_doLoad 77 = .ok (.invokevirtual 129, 3) := by decide +kernel
theorem dX8_doLoad_80 : decode cX8_doLoad 80 = .ok (.aload_n 0, 1) := by decide +kernel
theorem dX8_doLoad_81 : decode cX8_doLoad 81 = .ok (.iload_n 1, 1) := by decide +kernel
theorem dX8_doLoad_82 : decode cX8_doLoad 82 = .ok (.invokevirtual 79, 3) := by decide +kernel
theorem dX8_doLoad_85 : decode cX8_doLoad 85 = .ok (.ireturn, 1) := by decide +kernel
theorem dX8_load_0 : decode cX8_load 0 = .ok (.aload_n 0, 1) := by decide +kernel
theorem dX8_load_1 : decode cX8_load 1 = .ok (.invokevirtual 53, 3) := by decide +kernel
theorem dX8_load_4 : decode cX8_load 4 = .ok (.aload_n 0, 1) := by decide +kernel
theorem dX8_load_5 : decode cX8_load 5 = .ok (.aload_n 0, 1) := by decide +kernel
theorem dX8_load_6 : decode cX8_load 6 = .ok (.iload_n 1, 1) := by decide +kernel
theorem dX8_load_7 : decode cX8_load 7 = .ok (.iload_n 2, 1) := by decide +kernel
theorem dX8_load_8 : decode cX8_load 8 = .ok (.invokevirtual 141, 3) := by decide +kernel
theorem dX8_load_11 : decode cX8_load 11 = .ok (.invokevirtual 110, 3) := by decide +kernel
theorem dX8_load_14 : decode cX8_load 14 = .ok (.ireturn, 1) := by decide +kernel
theorem dX8_doPump_0 : decode cX8_doPump 0 = .ok (.aload_n 0, 1) := by decide +kernel
theorem dX8_doPump_1 : decode cX8_doPump 1 = .ok (.iload_n 1, 1) := by decide +kernel
theorem dX8_doPump_2 : decode cX8_doPump 2 = .ok (.invokevirtual 132, 3) := by decide +kernel
theorem dX8_doPump_5 : decode cX8_doPump 5 = .ok (.ifCond .eq 6, 3) := by decide +kernel
theorem dX8_doPump_8 : decode cX8_doPump 8 = .ok (.ldc 41, 2) := by decide +kernel
theorem dX8_doPump_10 : decode cX8_doPump 10 = .ok (.ireturn, 1) := by decide +kernel
theorem dX8_doPump_11 : decode cX8_doPump 11 = .ok (.iload_n 2, 1) := by decide +kernel
theorem dX8_doPump_12 : decode cX8_doPump 12 = .ok (.invokestatic 135, 3) := by decide +kernel
theorem dX8_doPump_15 : decode cX8_doPump 15 = .ok (.ifCond .ne 6, 3) := by decide +kernel
theorem dX8_doPump_18 : decode cX8_doPump 18 = .ok (.ldc 104, 2) := by decide +kernel
theorem dX8_doPump_20 : decode cX8_doPump 20 = .ok (.ireturn, 1) := by decide +kernel
theorem dX8_doPump_21 : decode cX8_doPump 21 = .ok (.aload_n 0, 1) := by decide +kernel
theorem dX8_doPump_22 : decode cX8_doPump 22 = .ok (.iload_n 1, 1) := by decide +kernel
theorem dX8_doPump_23 : decode cX8_doPump 23 = .ok (.bipush 6, 2) := by decide +kernel
theorem dX8_doPump_25 : decode cX8_doPump 25 = .ok (.invokevirtual 60, 3) := by decide +kernel
theorem dX8_doPump_28 : decode cX8_doPump 28 = .ok (.invokestatic 68, 3) := by decide +kernel
theorem dX8_doPump_31 : decode cX8_doPump 31 = .ok (.iconst 2, 1) := by decide +kernel
theorem dX8_doPump_32 : decode cX8_doPump 32 = .ok (.iadd, 1) := by decide +kernel
theorem dX8_doPump_33 : decode cX8_doPump 33 = .ok (.istore_n 3, 1) := by decide +kernel
theorem dX8_doPump_34 : decode cX8_doPump 34 = .ok (.iload_n 2, 1) := by decide +kernel
theorem dX8_doPump_35 : decode cX8_doPump 35 = .ok (.aload_n 0, 1) := by decide +kernel
theorem dX8_doPump_36 : decode cX8_doPump 36 = .ok (.iload_n 1, 1) := by decide +kernel
theorem dX8_doPump_37 : decode cX8_doPump 37 = .ok (.invokevirtual 138, 3) := by decide +kernel
theorem dX8_doPump_40 : decode cX8_doPump 40 = .ok (.if_icmp .gt 24, 3) := by decide +kernel
theorem dX8_doPump_43 : decode cX8_doPump 43 = .ok (.aload_n 0, 1) := by decide +kernel
theorem dX8_doPump_44 : decode cX8_doPump 44 = .ok (.iload_n 1, 1) := by decide +kernel
theorem dX8_doPump_45 : decode cX8_doPump 45 = .ok (.iconst 5, 1) := by decide +kernel
theorem dX8_doPump_46 : decode cX8_doPump 46 = .ok (.invokevirtual 60, 3) := by decide +kernel
theorem dX8_doPump_49 : decode cX8_doPump 49 = .ok (.iload_n 2, 1) := by decide +kernel
theorem dX8_doPump_50 : decode cX8_doPump 50 = .ok (.iadd, 1) := by decide +kernel
theorem dX8_doPump_51 : decode cX8_doPump 51 = .ok (.ifCond .lt 13, 3) := by decide +kernel
theorem dX8_doPump_54 : decode cX8_doPump 54 = .ok (.iload_n 2, 1) := by decide +kernel
theorem dX8_doPump_55 : decode cX8_doPump 55 = .ok (.aload_n 0, 1) := by decide +kernel
theorem dX8_doPump_56 : decode cX8_doPump 56 = .ok (.getfield 7, 3) := by decide +kernel
theorem dX8_doPump_59 : decode cX8_doPump 59 = .ok (.iload_n 3, 1) := by decide +kernel
theorem dX8_doPump_60 : decode cX8_doPump 60 = .ok (.iaload, 1) := by decide +kernel
theorem dX8_doPump_61 : decode cX8_doPump 61 = .ok (.if_icmp .le 10, 3) := by decide +kernel
theorem dX8_doPump_64 : decode cX8_doPump 64 = .ok (.aload_n 0, 1) := by decide +kernel
theorem dX8_doPump_65 : decode cX8_doPump 65 = .ok (.bipush 8, 2) := by decide +kernel
theorem dX8_doPump_67 : decode cX8_doPump 67 = .ok (.invokevirtual 123, 3) := by decide +kernel
theorem dX8_doPump_70 : decode cX8_doPump 70 = .ok (.ireturn, 1) := by decide +kernel
theorem dX8_doPump_71 : decode cX8_doPump 71 = .ok (.aload_n 0, 1) := by decide +kernel
theorem dX8_doPump_72 : decode cX8_doPump 72 = .ok (.getfield 7, 3) := by decide +kernel
theorem dX8_doPump_75 : decode cX8_doPump 75 = .ok (.iload_n 3, 1) := by decide +kernel
theorem dX8_doPump_76 : decode cX8_doPump 76 = .ok (.dup2, 1) := by decide +kernel
theorem dX8_doPump_77 : decode cX8_doPump 77 = .ok (.iaload, 1) := by decide +kernel
theorem dX8_doPump_78 : decode cX8_doPump 78 = .ok (.iload_n 2, 1) := by decide +kernel
theorem dX8_doPump_79 : decode cX8_doPump 79 = .ok (.isub, 1) := by decide +kernel
theorem dX8_doPump_80 : decode cX8_doPump 80 = .ok (.iastore, 1) := by decide +kernel
theorem dX8_doPump_81 : decode cX8_doPump 81 = .ok (.aload_n 0, 1) := by decide +kernel
theorem dX8_doPump_82 : decode cX8_doPump 82 = .ok (.iload_n 1, 1) := by decide +kernel
theorem dX8_doPump_83 : decode cX8_doPump 83 = .ok (.iconst 5, 1) := by decide +kernel
theorem dX8_doPump_84 : decode cX8_doPump 84 = .ok (.aload_n 0, 1) := by decide +kernel
theorem dX8_doPump_85 : decode cX8_doPump 85 = .ok (.iload_n 1, 1) := by decide +kernel
theorem dX8_doPump_86 : decode cX8_doPump 86 = .ok (.iconst 5, 1) := by decide +kernel
theorem dX8_doPump_87 : decode cX8_doPump 87 = .ok (.invokevirtual 60, 3) := by decide +kernel
theorem dX8_doPump_90 : decode cX8_doPump 90 = .ok (.iload_n 2, 1) := by decide +kernel
theorem dX8_doPump_91 : decode cX8_doPump 91 = .ok (.iadd, 1) := by decide +kernel
theorem dX8_doPump_92 : decode cX8_doPump 92 = .ok (.invokevirtual 129, 3) := by decide +kernel
theorem dX8_doPump_95 : decode cX8_doPump 95 = .ok (.aload_n 0, 1) := by decide +kernel
theorem dX8_doPump_96 : decode cX8_doPump 96 = .ok (.iload_n 1, 1) := by decide +kernel
theorem dX8_doPump_97 : decode cX8_doPump 97 = .ok (.invokevirtual 79, 3) := by decide +kernel
theorem dX8_doPump_100 : decode cX8_doPump 100 = .ok (.ireturn, 1) := by decide +kernel
theorem dX8_pump_0 : decode cX8_pump 0 = .ok (.aload_n 0, 1) := by decide +kernel
theorem dX8_pump_1 : decode cX8_pump 1 = .ok (.invokevirtual 53, 3) := by decide +kernel
theorem dX8_pump_4 : decode cX8_pump 4 = .ok (.aload_n 0, 1) := by decide +kernel
theorem dX8_pump_5 : decode cX8_pump 5 = .ok (.aload_n 0, 1) := by decide +kernel
theorem dX8_pump_6 : decode cX8_pump 6 = .ok (.iload_n 1, 1) := by decide +kernel
theorem dX8_pump_7 : decode cX8_pump 7 = .ok (.iload_n 2, 1) := by decide +kernel
theorem dX8_pump_8 : decode cX8_pump 8 = .ok (.invokevirtual 144, 3) := by decide +kernel
theorem dX8_pump_11 : decode cX8_pump 11 = .ok (.invokevirtual 110, 3) := by decide +kernel
theorem dX8_pump_14 : decode cX8_pump 14 = .ok (.ireturn, 1) := by decide +kernel
theorem dX8_doSluice_0 : decode cX8_doSluice 0 = .ok (.aload_n 0, 1) := by decide +kernel
theorem dX8_doSluice_1 : decode cX8_doSluice 1 = .ok (.iload_n 1, 1) := by decide +kernel
theorem dX8_doSluice_2 : decode cX8_doSluice 2 = .ok (.iload_n 2, 1) := by decide +kernel
theorem dX8_doSluice_3 : decode cX8_doSluice 3 = .ok (.invokevirtual 113, 3) := by decide +kernel
theorem dX8_doSluice_6 : decode cX8_doSluice 6 = .ok (.ifCond .eq 6, 3) := by decide +kernel
theorem dX8_doSluice_9 : decode cX8_doSluice 9 = .ok (.ldc 41, 2) := by decide +kernel
theorem dX8_doSluice_11 : decode cX8_doSluice 11 = .ok (.ireturn, 1) := by decide +kernel
theorem dX8_doSluice_12 : decode cX8_doSluice 12 = .ok (.aload_n 0, 1) := by decide +kernel
theorem dX8_doSluice_13 : decode cX8_doSluice 13 = .ok (.iload_n 1, 1) := by decide +kernel
theorem dX8_doSluice_14 : decode cX8_doSluice 14 = .ok (.invokevirtual 92, 3) := by decide +kernel
theorem dX8_doSluice_17 : decode cX8_doSluice 17 = .ok (.ifCond .lt 9, 3) := by decide +kernel
theorem dX8_doSluice_20 : decode cX8_doSluice 20 = .ok (.aload_n 0, 1) := by decide +kernel
theorem dX8_doSluice_21 : decode cX8_doSluice 21 = .ok (.iconst 1, 1) := by decide +kernel
theorem dX8_doSluice_22 : decode cX8_doSluice 22 = .ok (.invokevirtual 123, 3) := by decide +kernel
theorem dX8_doSluice_25 : decode cX8_doSluice 25 = .ok (.ireturn, 1) := by decide +kernel
theorem dX8_doSluice_26 : decode cX8_doSluice 26 = .ok (.aload_n 0, 1) := by decide +kernel
theorem dX8_doSluice_27 : decode cX8_doSluice 27 = .ok (.iload_n 1, 1) := by decide +kernel
theorem dX8_doSluice_28 : decode cX8_doSluice 28 = .ok (.iload_n 2, 1) := by decide +kernel
theorem dX8_doSluice_29 : decode cX8_doSluice 29 = .ok (.invokevirtual 95, 3) := by decide +kernel
theorem dX8_doSluice_32 : decode cX8_doSluice 32 = .ok (.iconst 0, 1) := by decide +kernel
theorem dX8_doSluice_33 : decode cX8_doSluice 33 = .ok (.ireturn, 1) := by decide +kernel
theorem dX8_leveled_0 : decode cX8_leveled 0 = .ok (.aload_n 0, 1) := by decide +kernel
theorem dX8_leveled_1 : decode cX8_leveled 1 = .ok (.iload_n 1, 1) := by decide +kernel
theorem dX8_leveled_2 : decode cX8_leveled 2 = .ok (.invokevirtual 110, 3) := by decide +kernel
theorem dX8_leveled_5 : decode cX8_leveled 5 = .ok (.ifCond .ne 14, 3) := by decide +kernel
theorem dX8_leveled_8 : decode cX8_leveled 8 = .ok (.aload_n 0, 1) := by decide +kernel
theorem dX8_leveled_9 : decode cX8_leveled 9 = .ok (.bipush 100, 2) := by decide +kernel
theorem dX8_leveled_11 : decode cX8_leveled 11 = .ok (.iload_n 2, 1) := by decide +kernel
theorem dX8_leveled_12 : decode cX8_leveled 12 = .ok (.iadd, 1) := by decide +kernel
theorem dX8_leveled_13 : decode cX8_leveled 13 = .ok (.invokevirtual 126, 3) := by decide +kernel
theorem dX8_leveled_16 : decode cX8_leveled 16 = .ok (.goto 4, 3) := by decide +kernel
theorem dX8_leveled_19 : decode cX8_leveled 19 = .ok (.iload_n 1, 1) := by decide +kernel
theorem dX8_leveled_20 : decode cX8_leveled 20 = .ok (.ireturn, 1) := by decide +kernel
theorem dX8_sluice_0 : decode cX8_sluice 0 = .ok (.aload_n 0, 1) := by decide +kernel
theorem dX8_sluice_1 : decode cX8_sluice 1 = .ok (.invokevirtual 53, 3) := by decide +kernel
theorem dX8_sluice_4 : decode cX8_sluice 4 = .ok (.aload_n 0, 1) := by decide +kernel
theorem dX8_sluice_5 : decode cX8_sluice 5 = .ok (.aload_n 0, 1) := by decide +kernel
theorem dX8_sluice_6 : decode cX8_sluice 6 = .ok (.iload_n 1, 1) := by decide +kernel
theorem dX8_sluice_7 : decode cX8_sluice 7 = .ok (.iload_n 2, 1) := by decide +kernel
theorem dX8_sluice_8 : decode cX8_sluice 8 = .ok (.invokevirtual 147, 3) := by decide +kernel
theorem dX8_sluice_11 : decode cX8_sluice 11 = .ok (.iload_n 1, 1) := by decide +kernel
theorem dX8_sluice_12 : decode cX8_sluice 12 = .ok (.invokevirtual 150, 3) := by decide +kernel
theorem dX8_sluice_15 : decode cX8_sluice 15 = .ok (.ireturn, 1) := by decide +kernel
theorem dX8_doOpen_0 : decode cX8_doOpen 0 = .ok (.aload_n 0, 1) := by decide +kernel
theorem dX8_doOpen_1 : decode cX8_doOpen 1 = .ok (.iload_n 1, 1) := by decide +kernel
theorem dX8_doOpen_2 : decode cX8_doOpen 2 = .ok (.iload_n 2, 1) := by decide +kernel
theorem dX8_doOpen_3 : decode cX8_doOpen 3 = .ok (.invokevirtual 113, 3) := by decide +kernel
theorem dX8_doOpen_6 : decode cX8_doOpen 6 = .ok (.ifCond .eq 6, 3) := by decide +kernel
theorem dX8_doOpen_9 : decode cX8_doOpen 9 = .ok (.ldc 41, 2) := by decide +kernel
theorem dX8_doOpen_11 : decode cX8_doOpen 11 = .ok (.ireturn, 1) := by decide +kernel
theorem dX8_doOpen_12 : decode cX8_doOpen 12 = .ok (.aload_n 0, 1) := by decide +kernel
theorem dX8_doOpen_13 : decode cX8_doOpen 13 = .ok (.iload_n 1, 1) := by decide +kernel
theorem dX8_doOpen_14 : decode cX8_doOpen 14 = .ok (.invokevirtual 92, 3) := by decide +kernel
theorem dX8_doOpen_17 : decode cX8_doOpen 17 = .ok (.ifCond .lt 9, 3) := by decide +kernel
theorem dX8_doOpen_20 : decode cX8_doOpen 20 = .ok (.aload_n 0, 1) := by decide +kernel
theorem dX8_doOpen_21 : decode cX8_doOpen 21 = .ok (.iconst 1, 1) := by decide +kernel
theorem dX8_doOpen_22 : decode cX8_doOpen 22 = .ok (.invokevirtual 123, 3) := by decide +kernel
theorem dX8_doOpen_25 : decode cX8_doOpen 25 = .ok (.ireturn, 1) := by decide +kernel
theorem dX8_doOpen_26 : decode cX8_doOpen 26 = .ok (.aload_n 0, 1) := by decide +kernel
theorem dX8_doOpen_27 : decode cX8_doOpen 27 = .ok (.bipush 100, 2) := by decide +kernel
theorem dX8_doOpen_29 : decode cX8_doOpen 29 = .ok (.iload_n 1, 1) := by decide +kernel
theorem dX8_doOpen_30 : decode cX8_doOpen 30 = .ok (.iadd, 1) := by decide +kernel
theorem dX8_doOpen_31 : decode cX8_doOpen 31 = .ok (.invokevirtual 126, 3) := by decide +kernel
theorem dX8_doOpen_34 : decode cX8_doOpen 34 = .ok (.aload_n 0, 1) := by decide +kernel
theorem dX8_doOpen_35 : decode cX8_doOpen 35 = .ok (.iload_n 1, 1) := by decide +kernel
theorem dX8_doOpen_36 : decode cX8_doOpen 36 = .ok (.iload_n 2, 1) := by decide +kernel
theorem dX8_doOpen_37 : decode cX8_doOpen 37 = .ok (.iadd, 1) := by decide +kernel
theorem dX8_doOpen_38 : decode cX8_doOpen 38 = .ok (.invokevirtual 126, 3) := by decide +kernel
theorem dX8_doOpen_41 : decode cX8_doOpen 41 = .ok (.isub, 1) := by decide +kernel
theorem dX8_doOpen_42 : decode cX8_doOpen 42 = .ok (.bipush (-2), 2) := by decide +kernel
theorem dX8_doOpen_44 : decode cX8_doOpen 44 = .ok (.iconst 2, 1) := by decide +kernel
theorem dX8_doOpen_45 : decode cX8_doOpen 45 = .ok (.invokestatic 49, 3) := by decide +kernel
theorem dX8_doOpen_48 : decode cX8_doOpen 48 = .ok (.ifCond .ne 9, 3) := by decide +kernel
theorem dX8_doOpen_51 : decode cX8_doOpen 51 = .ok (.aload_n 0, 1) := by decide +kernel
theorem dX8_doOpen_52 : decode cX8_doOpen 52 = .ok (.iconst 3, 1) := by decide +kernel
theorem dX8_doOpen_53 : decode cX8_doOpen 53 = .ok (.invokevirtual 123, 3) := by decide +kernel
theorem dX8_doOpen_56 : decode cX8_doOpen 56 = .ok (.ireturn, 1) := by decide +kernel
theorem dX8_doOpen_57 : decode cX8_doOpen 57 = .ok (.aload_n 0, 1) := by decide +kernel
theorem dX8_doOpen_58 : decode cX8_doOpen 58 = .ok (.getfield 7, 3) := by decide +kernel
theorem dX8_doOpen_61 : decode cX8_doOpen 61 = .ok (.bipush 21, 2) := by decide +kernel
theorem dX8_doOpen_63 : decode cX8_doOpen 63 = .ok (.bipush 11, 2) := by decide +kernel
theorem dX8_doOpen_65 : decode cX8_doOpen 65 = .ok (.iload_n 1, 1) := by decide +kernel
theorem dX8_doOpen_66 : decode cX8_doOpen 66 = .ok (.imul, 1) := by decide +kernel
theorem dX8_doOpen_67 : decode cX8_doOpen 67 = .ok (.iadd, 1) := by decide +kernel
theorem dX8_doOpen_68 : decode cX8_doOpen 68 = .ok (.bipush 8, 2) := by decide +kernel
theorem dX8_doOpen_70 : decode cX8_doOpen 70 = .ok (.iadd, 1) := by decide +kernel
theorem dX8_doOpen_71 : decode cX8_doOpen 71 = .ok (.iload_n 2, 1) := by decide +kernel
theorem dX8_doOpen_72 : decode cX8_doOpen 72 = .ok (.iastore, 1) := by decide +kernel
theorem dX8_doOpen_73 : decode cX8_doOpen 73 = .ok (.iconst 0, 1) := by decide +kernel
theorem dX8_doOpen_74 : decode cX8_doOpen 74 = .ok (.ireturn, 1) := by decide +kernel
theorem dX8_open_0 : decode cX8_open 0 = .ok (.aload_n 0, 1) := by decide +kernel
theorem dX8_open_1 : decode cX8_open 1 = .ok (.invokevirtual 53, 3) := by decide +kernel
theorem dX8_open_4 : decode cX8_open 4 = .ok (.aload_n 0, 1) := by decide +kernel
theorem dX8_open_5 : decode cX8_open 5 = .ok (.aload_n 0, 1) := by decide +kernel
theorem dX8_open_6 : decode cX8_open 6 = .ok (.iload_n 1, 1) := by decide +kernel
theorem dX8_open_7 : decode cX8_open 7 = .ok (.iload_n 2, 1) := by decide +kernel
theorem dX8_open_8 : decode cX8_open 8 = .ok (.invokevirtual 153, 3) := by decide +kernel
theorem dX8_open_11 : decode cX8_open 11 = .ok (.iload_n 1, 1) := by decide +kernel
theorem dX8_open_12 : decode cX8_open 12 = .ok (.invokevirtual 150, 3) := by decide +kernel
theorem dX8_open_15 : decode cX8_open 15 = .ok (.ireturn, 1) := by decide +kernel
theorem dX8_doClose_0 : decode cX8_doClose 0 = .ok (.aload_n 0, 1) := by decide +kernel
theorem dX8_doClose_1 : decode cX8_doClose 1 = .ok (.iload_n 1, 1) := by decide +kernel
theorem dX8_doClose_2 : decode cX8_doClose 2 = .ok (.invokevirtual 56, 3) := by decide +kernel
theorem dX8_doClose_5 : decode cX8_doClose 5 = .ok (.ifCond .eq 6, 3) := by decide +kernel
theorem dX8_doClose_8 : decode cX8_doClose 8 = .ok (.ldc 41, 2) := by decide +kernel
theorem dX8_doClose_10 : decode cX8_doClose 10 = .ok (.ireturn, 1) := by decide +kernel
theorem dX8_doClose_11 : decode cX8_doClose 11 = .ok (.aload_n 0, 1) := by decide +kernel
theorem dX8_doClose_12 : decode cX8_doClose 12 = .ok (.iload_n 1, 1) := by decide +kernel
theorem dX8_doClose_13 : decode cX8_doClose 13 = .ok (.invokevirtual 92, 3) := by decide +kernel
theorem dX8_doClose_16 : decode cX8_doClose 16 = .ok (.istore_n 2, 1) := by decide +kernel
theorem dX8_doClose_17 : decode cX8_doClose 17 = .ok (.iload_n 2, 1) := by decide +kernel
theorem dX8_doClose_18 : decode cX8_doClose 18 = .ok (.ifCond .ge 9, 3) := by decide +kernel
theorem dX8_doClose_21 : decode cX8_doClose 21 = .ok (.aload_n 0, 1) := by decide +kernel
theorem dX8_doClose_22 : decode cX8_doClose 22 = .ok (.iconst 2, 1) := by decide +kernel
theorem dX8_doClose_23 : decode cX8_doClose 23 = .ok (.invokevirtual 123, 3) := by decide +kernel
theorem dX8_doClose_26 : decode cX8_doClose 26 = .ok (.ireturn, 1) := by decide +kernel
theorem dX8_doClose_27 : decode cX8_doClose 27 = .ok (.aload_n 0, 1) := by decide +kernel
theorem dX8_doClose_28 : decode cX8_doClose 28 = .ok (.getfield 7, 3) := by decide +kernel
theorem dX8_doClose_31 : decode cX8_doClose 31 = .ok (.bipush 21, 2) := by decide +kernel
theorem dX8_doClose_33 : decode cX8_doClose 33 = .ok (.bipush 11, 2) := by decide +kernel
theorem dX8_doClose_35 : decode cX8_doClose 35 = .ok (.iload_n 1, 1) := by decide +kernel
theorem dX8_doClose_36 : decode cX8_doClose 36 = .ok (.imul, 1) := by decide +kernel
theorem dX8_doClose_37 : decode cX8_doClose 37 = .ok (.iadd, 1) := by decide +kernel
theorem dX8_doClose_38 : decode cX8_doClose 38 = .ok (.bipush 8, 2) := by decide +kernel
theorem dX8_doClose_40 : decode cX8_doClose 40 = .ok (.iadd, 1) := by decide +kernel
theorem dX8_doClose_41 : decode cX8_doClose 41 = .ok (.ldc 48, 2) := by decide +kernel
theorem dX8_doClose_43 : decode cX8_doClose 43 = .ok (.iastore, 1) := by decide +kernel
theorem dX8_doClose_44 : decode cX8_doClose 44 = .ok (.iload_n 2, 1) := by decide +kernel
theorem dX8_doClose_45 : decode cX8_doClose 45 = .ok (.ireturn, 1) := by decide +kernel
theorem dX8_close_0 : decode cX8_close 0 = .ok (.aload_n 0, 1) := by decide +kernel
theorem dX8_close_1 : decode cX8_close 1 = .ok (.invokevirtual 53, 3) := by decide +kernel
theorem dX8_close_4 : decode cX8_close 4 = .ok (.aload_n 0, 1) := by decide +kernel
theorem dX8_close_5 : decode cX8_close 5 = .ok (.aload_n 0, 1) := by decide +kernel
theorem dX8_close_6 : decode cX8_close 6 = .ok (.iload_n 1, 1) := by decide +kernel
theorem dX8_close_7 : decode cX8_close 7 = .ok (.invokevirtual 156, 3) := by decide +kernel
theorem dX8_close_10 : decode cX8_close 10 = .ok (.invokevirtual 110, 3) := by decide +kernel
theorem dX8_close_13 : decode cX8_close 13 = .ok (.ireturn, 1) := by decide +kernel
theorem dX8_lengthLeft_0 : decode cX8_lengthLeft 0 = .ok (.aload_n 0, 1) := by decide +kernel
theorem dX8_lengthLeft_1 : decode cX8_lengthLeft 1 = .ok (.iload_n 1, 1) := by decide +kernel
theorem dX8_lengthLeft_2 : decode cX8_lengthLeft 2 = .ok (.iconst 3, 1) := by decide +kernel
theorem dX8_lengthLeft_3 : decode cX8_lengthLeft 3 = .ok (.invokevirtual 89, 3) := by decide +kernel
theorem dX8_lengthLeft_6 : decode cX8_lengthLeft 6 = .ok (.istore_n 2, 1) := by decide +kernel
theorem dX8_lengthLeft_7 : decode cX8_lengthLeft 7 = .ok (.iconst 0, 1) := by decide +kernel
theorem dX8_lengthLeft_8 : decode cX8_lengthLeft 8 = .ok (.istore_n 3, 1) := by decide +kernel
theorem dX8_lengthLeft_9 : decode cX8_lengthLeft 9 = .ok (.iload_n 3, 1) := by decide +kernel
theorem dX8_lengthLeft_10 : decode cX8_lengthLeft 10 = .ok (.aload_n 0, 1) := by decide +kernel
theorem dX8_lengthLeft_11 : decode cX8_lengthLeft 11 = .ok (.getfield 7, 3) := by decide +kernel
theorem dX8_lengthLeft_14 : decode cX8_lengthLeft 14 = .ok (.iconst 2, 1) := by decide +kernel
theorem dX8_lengthLeft_15 : decode cX8_lengthLeft 15 = .ok (.iaload, 1) := by decide +kernel
theorem dX8_lengthLeft_16 : decode cX8_lengthLeft 16 = .ok (.if_icmp .ge 36, 3) := by decide +kernel
theorem dX8_lengthLeft_19 : decode cX8_lengthLeft 19 = .ok (.iload_n 2, 1) := by decide +kernel
theorem dX8_lengthLeft_20 : decode cX8_lengthLeft 20 = .ok (.aload_n 0, 1) := by decide +kernel
theorem dX8_lengthLeft_21 : decode cX8_lengthLeft 21 = .ok (.iload_n 3, 1) := by decide +kernel
theorem dX8_lengthLeft_22 : decode cX8_lengthLeft 22 = .ok (.bipush 6, 2) := by decide +kernel
theorem dX8_lengthLeft_24 : decode cX8_lengthLeft 24 = .ok (.invokevirtual 60, 3) := by decide +kernel
theorem dX8_lengthLeft_27 : decode cX8_lengthLeft 27 = .ok (.bipush 100, 2) := by decide +kernel
theorem dX8_lengthLeft_29 : decode cX8_lengthLeft 29 = .ok (.iload_n 1, 1) := by decide +kernel
theorem dX8_lengthLeft_30 : decode cX8_lengthLeft 30 = .ok (.iadd, 1) := by decide +kernel
theorem dX8_lengthLeft_31 : decode cX8_lengthLeft 31 = .ok (.if_icmp .ne 12, 3) := by decide +kernel
theorem dX8_lengthLeft_34 : decode cX8_lengthLeft 34 = .ok (.aload_n 0, 1) := by decide +kernel
theorem dX8_lengthLeft_35 : decode cX8_lengthLeft 35 = .ok (.iload_n 3, 1) := by decide +kernel
theorem dX8_lengthLeft_36 : decode cX8_lengthLeft 36 = .ok (.iconst 0, 1) := by decide +kernel
theorem dX8_lengthLeft_37 : decode cX8_lengthLeft 37 = .ok (.invokevirtual 60, 3) := by decide +kernel
theorem dX8_lengthLeft_40 : decode cX8_lengthLeft 40 = .ok (.goto 4, 3) := by decide +kernel
theorem dX8_lengthLeft_43 : decode cX8_lengthLeft 43 = .ok (.iconst 0, 1) := by decide +kernel
theorem dX8_lengthLeft_44 : decode cX8_lengthLeft 44 = .ok (.isub, 1) := by decide +kernel
theorem dX8_lengthLeft_45 : decode cX8_lengthLeft 45 = .ok (.istore_n 2, 1) := by decide +kernel
theorem dX8_lengthLeft_46 : decode cX8_lengthLeft 46 = .ok (.iinc 3 1, 3) := by decide +kernel
theorem dX8_lengthLeft_49 : decode cX8_lengthLeft 49 = .ok (.goto (-40), 3) := by decide +kernel
theorem dX8_lengthLeft_52 : decode cX8_lengthLeft 52 = .ok (.iload_n 2, 1) := by decide +kernel
theorem dX8_lengthLeft_53 : decode cX8_lengthLeft 53 = .ok (.ireturn, 1) := by decide +kernel
theorem dX8_sillHeight_0 : decode cX8_sillHeight 0 = .ok (.aload_n 0, 1) := by decide +kernel
theorem dX8_sillHeight_1 : decode cX8_sillHeight 1 = .ok (.iload_n 1, 1) := by decide +kernel
theorem dX8_sillHeight_2 : decode cX8_sillHeight 2 = .ok (.iconst 4, 1) := by decide +kernel
theorem dX8_sillHeight_3 : decode cX8_sillHeight 3 = .ok (.iload_n 2, 1) := by decide +kernel
theorem dX8_sillHeight_4 : decode cX8_sillHeight 4 = .ok (.iadd, 1) := by decide +kernel
theorem dX8_sillHeight_5 : decode cX8_sillHeight 5 = .ok (.invokevirtual 89, 3) := by decide +kernel
theorem dX8_sillHeight_8 : decode cX8_sillHeight 8 = .ok (.aload_n 0, 1) := by decide +kernel
theorem dX8_sillHeight_9 : decode cX8_sillHeight 9 = .ok (.iload_n 1, 1) := by decide +kernel
theorem dX8_sillHeight_10 : decode cX8_sillHeight 10 = .ok (.bipush 6, 2) := by decide +kernel
theorem dX8_sillHeight_12 : decode cX8_sillHeight 12 = .ok (.iload_n 2, 1) := by decide +kernel
theorem dX8_sillHeight_13 : decode cX8_sillHeight 13 = .ok (.iadd, 1) := by decide +kernel
theorem dX8_sillHeight_14 : decode cX8_sillHeight 14 = .ok (.invokevirtual 89, 3) := by decide +kernel
theorem dX8_sillHeight_17 : decode cX8_sillHeight 17 = .ok (.iadd, 1) := by decide +kernel
theorem dX8_sillHeight_18 : decode cX8_sillHeight 18 = .ok (.ireturn, 1) := by decide +kernel
theorem dX8_canPass_0 : decode cX8_canPass 0 = .ok (.aload_n 0, 1) := by decide +kernel
theorem dX8_canPass_1 : decode cX8_canPass 1 = .ok (.bipush 100, 2) := by decide +kernel
theorem dX8_canPass_3 : decode cX8_canPass 3 = .ok (.iload_n 2, 1) := by decide +kernel
theorem dX8_canPass_4 : decode cX8_canPass 4 = .ok (.iadd, 1) := by decide +kernel
theorem dX8_canPass_5 : decode cX8_canPass 5 = .ok (.invokevirtual 126, 3) := by decide +kernel
theorem dX8_canPass_8 : decode cX8_canPass 8 = .ok (.aload_n 0, 1) := by decide +kernel
theorem dX8_canPass_9 : decode cX8_canPass 9 = .ok (.iload_n 2, 1) := by decide +kernel
theorem dX8_canPass_10 : decode cX8_canPass 10 = .ok (.iload_n 3, 1) := by decide +kernel
theorem dX8_canPass_11 : decode cX8_canPass 11 = .ok (.invokevirtual 159, 3) := by decide +kernel
theorem dX8_canPass_14 : decode cX8_canPass 14 = .ok (.isub, 1) := by decide +kernel
theorem dX8_canPass_15 : decode cX8_canPass 15 = .ok (.aload_n 0, 1) := by decide +kernel
theorem dX8_canPass_16 : decode cX8_canPass 16 = .ok (.iload_n 1, 1) := by decide +kernel
theorem dX8_canPass_17 : decode cX8_canPass 17 = .ok (.invokevirtual 79, 3) := by decide +kernel
theorem dX8_canPass_20 : decode cX8_canPass 20 = .ok (.aload_n 0, 1) := by decide +kernel
theorem dX8_canPass_21 : decode cX8_canPass 21 = .ok (.getfield 7, 3) := by decide +kernel
theorem dX8_canPass_24 : decode cX8_canPass 24 = .ok (.iconst 3, 1) := by decide +kernel
theorem dX8_canPass_25 : decode cX8_canPass 25 = .ok (.iaload, 1) := by decide +kernel
theorem dX8_canPass_26 : decode cX8_canPass 26 = .ok (.iadd, 1) := by decide +kernel
theorem dX8_canPass_27 : decode cX8_canPass 27 = .ok (.if_icmp .lt 7, 3) := by decide +kernel
theorem dX8_canPass_30 : decode cX8_canPass 30 = .ok (.iconst 1, 1) := by decide +kernel
theorem dX8_canPass_31 : decode cX8_canPass 31 = .ok (.goto 4, 3) := by decide +kernel
theorem dX8_canPass_34 : decode cX8_canPass 34 = .ok (.iconst 0, 1) := by decide +kernel
theorem dX8_canPass_35 : decode cX8_canPass 35 = .ok (.ireturn, 1) := by decide +kernel
theorem dX8_pass_0 : decode cX8_pass 0 = .ok (.bipush 21, 2) := by decide +kernel
theorem dX8_pass_2 : decode cX8_pass 2 = .ok (.bipush 11, 2) := by decide +kernel
theorem dX8_pass_4 : decode cX8_pass 4 = .ok (.iload_n 2, 1) := by decide +kernel
theorem dX8_pass_5 : decode cX8_pass 5 = .ok (.imul, 1) := by decide +kernel
theorem dX8_pass_6 : decode cX8_pass 6 = .ok (.iadd, 1) := by decide +kernel
theorem dX8_pass_7 : decode cX8_pass 7 = .ok (.istore 4, 2) := by decide +kernel
theorem dX8_pass_9 : decode cX8_pass 9 = .ok (.aload_n 0, 1) := by decide +kernel
theorem dX8_pass_10 : decode cX8_pass 10 = .ok (.getfield 7, 3) := by decide +kernel
theorem dX8_pass_13 : decode cX8_pass 13 = .ok (.iload 4, 2) := by decide +kernel
theorem dX8_pass_15 : decode cX8_pass 15 = .ok (.bipush 9, 2) := by decide +kernel
theorem dX8_pass_17 : decode cX8_pass 17 = .ok (.iadd, 1) := by decide +kernel
theorem dX8_pass_18 : decode cX8_pass 18 = .ok (.iload_n 3, 1) := by decide +kernel
theorem dX8_pass_19 : decode cX8_pass 19 = .ok (.iadd, 1) := by decide +kernel
theorem dX8_pass_20 : decode cX8_pass 20 = .ok (.dup2, 1) := by decide +kernel
theorem dX8_pass_21 : decode cX8_pass 21 = .ok (.iaload, 1) := by decide +kernel
theorem dX8_pass_22 : decode cX8_pass 22 = .ok (.iconst 1, 1) := by decide +kernel
theorem dX8_pass_23 : decode cX8_pass 23 = .ok (.iadd, 1) := by decide +kernel
theorem dX8_pass_24 : decode cX8_pass 24 = .ok (.iastore, 1) := by decide +kernel
theorem dX8_pass_25 : decode cX8_pass 25 = .ok (.aload_n 0, 1) := by decide +kernel
theorem dX8_pass_26 : decode cX8_pass 26 = .ok (.getfield 7, 3) := by decide +kernel
theorem dX8_pass_29 : decode cX8_pass 29 = .ok (.iload 4, 2) := by decide +kernel
theorem dX8_pass_31 : decode cX8_pass 31 = .ok (.bipush 6, 2) := by decide +kernel
theorem dX8_pass_33 : decode cX8_pass 33 = .ok (.iadd, 1) := by decide +kernel
theorem dX8_pass_34 : decode cX8_pass 34 = .ok (.iload_n 3, 1) := by decide +kernel
theorem dX8_pass_35 : decode cX8_pass 35 = .ok (.iadd, 1) := by decide +kernel
theorem dX8_pass_36 : decode cX8_pass 36 = .ok (.dup2, 1) := by decide +kernel
theorem dX8_pass_37 : decode cX8_pass 37 = .ok (.iaload, 1) := by decide +kernel
theorem dX8_pass_38 : decode cX8_pass 38 = .ok (.aload_n 0, 1) := by decide +kernel
theorem dX8_pass_39 : decode cX8_pass 39 = .ok (.getfield 7, 3) := by decide +kernel
theorem dX8_pass_42 : decode cX8_pass 42 = .ok (.iload 4, 2) := by decide +kernel
theorem dX8_pass_44 : decode cX8_pass 44 = .ok (.bipush 9, 2) := by decide +kernel
theorem dX8_pass_46 : decode cX8_pass 46 = .ok (.iadd, 1) := by decide +kernel
theorem dX8_pass_47 : decode cX8_pass 47 = .ok (.iload_n 3, 1) := by decide +kernel
theorem dX8_pass_48 : decode cX8_pass 48 = .ok (.iadd, 1) := by decide +kernel
theorem dX8_pass_49 : decode cX8_pass 49 = .ok (.iaload, 1) := by decide +kernel
theorem dX8_pass_50 : decode cX8_pass 50 = .ok (.bipush 8, 2) := by decide +kernel
theorem dX8_pass_52 : decode cX8_pass 52 = .ok (.irem, 1) := by decide +kernel
theorem dX8_pass_53 : decode cX8_pass 53 = .ok (.ifCond .ne 7, 3) := by decide +kernel
theorem dX8_pass_56 : decode cX8_pass 56 = .ok (.iconst 1, 1) := by decide +kernel
theorem dX8_pass_57 : decode cX8_pass 57 = .ok (.goto 4, 3) := by decide +kernel
theorem dX8_pass_60 : decode cX8_pass 60 = .ok (.iconst 0, 1) := by decide +kernel
theorem dX8_pass_61 : decode cX8_pass 61 = .ok (.iadd, 1) := by decide +kernel
theorem dX8_pass_62 : decode cX8_pass 62 = .ok (.iastore, 1) := by decide +kernel
theorem dX8_pass_63 : decode cX8_pass 63 = .ok (.aload_n 0, 1) := by decide +kernel
theorem dX8_pass_64 : decode cX8_pass 64 = .ok (.iload_n 1, 1) := by decide +kernel
theorem dX8_pass_65 : decode cX8_pass 65 = .ok (.bipush 7, 2) := by decide +kernel
theorem dX8_pass_67 : decode cX8_pass 67 = .ok (.aload_n 0, 1) := by decide +kernel
theorem dX8_pass_68 : decode cX8_pass 68 = .ok (.iload_n 1, 1) := by decide +kernel
theorem dX8_pass_69 : decode cX8_pass 69 = .ok (.bipush 7, 2) := by decide +kernel
theorem dX8_pass_71 : decode cX8_pass 71 = .ok (.invokevirtual 60, 3) := by decide +kernel
theorem dX8_pass_74 : decode cX8_pass 74 = .ok (.iconst 1, 1) := by decide +kernel
theorem dX8_pass_75 : decode cX8_pass 75 = .ok (.iadd, 1) := by decide +kernel
theorem dX8_pass_76 : decode cX8_pass 76 = .ok (.invokevirtual 129, 3) := by decide +kernel
theorem dX8_pass_79 : decode cX8_pass 79 = .ok (.return_, 1) := by decide +kernel
theorem dX8_doEnter_0 : decode cX8_doEnter 0 = .ok (.aload_n 0, 1) := by decide +kernel
theorem dX8_doEnter_1 : decode cX8_doEnter 1 = .ok (.iload_n 1, 1) := by decide +kernel
theorem dX8_doEnter_2 : decode cX8_doEnter 2 = .ok (.invokevirtual 132, 3) := by decide +kernel
theorem dX8_doEnter_5 : decode cX8_doEnter 5 = .ok (.ifCond .ne 11, 3) := by decide +kernel
theorem dX8_doEnter_8 : decode cX8_doEnter 8 = .ok (.aload_n 0, 1) := by decide +kernel
theorem dX8_doEnter_9 : decode cX8_doEnter 9 = .ok (.iload_n 2, 1) := by decide +kernel
theorem dX8_doEnter_10 : decode cX8_doEnter 10 = .ok (.invokevirtual 56, 3) := by decide +kernel
theorem dX8_doEnter_13 : decode cX8_doEnter 13 = .ok (.ifCond .eq 6, 3) := by decide +kernel
theorem dX8_doEnter_16 : decode cX8_doEnter 16 = .ok (.ldc 41, 2) := by decide +kernel
theorem dX8_doEnter_18 : decode cX8_doEnter 18 = .ok (.ireturn, 1) := by decide +kernel
theorem dX8_doEnter_19 : decode cX8_doEnter 19 = .ok (.aload_n 0, 1) := by decide +kernel
theorem dX8_doEnter_20 : decode cX8_doEnter 20 = .ok (.iload_n 2, 1) := by decide +kernel
theorem dX8_doEnter_21 : decode cX8_doEnter 21 = .ok (.invokevirtual 92, 3) := by decide +kernel
theorem dX8_doEnter_24 : decode cX8_doEnter 24 = .ok (.istore_n 3, 1) := by decide +kernel
theorem dX8_doEnter_25 : decode cX8_doEnter 25 = .ok (.iload_n 3, 1) := by decide +kernel
theorem dX8_doEnter_26 : decode cX8_doEnter 26 = .ok (.ifCond .ge 9, 3) := by decide +kernel
theorem dX8_doEnter_29 : decode cX8_doEnter 29 = .ok (.aload_n 0, 1) := by decide +kernel
theorem dX8_doEnter_30 : decode cX8_doEnter 30 = .ok (.iconst 2, 1) := by decide +kernel
theorem dX8_doEnter_31 : decode cX8_doEnter 31 = .ok (.invokevirtual 123, 3) := by decide +kernel
theorem dX8_doEnter_34 : decode cX8_doEnter 34 = .ok (.ireturn, 1) := by decide +kernel
theorem dX8_doEnter_35 : decode cX8_doEnter 35 = .ok (.aload_n 0, 1) := by decide +kernel
theorem dX8_doEnter_36 : decode cX8_doEnter 36 = .ok (.iload_n 1, 1) := by decide +kernel
theorem dX8_doEnter_37 : decode cX8_doEnter 37 = .ok (.bipush 6, 2) := by decide +kernel
theorem dX8_doEnter_39 : decode cX8_doEnter 39 = .ok (.invokevirtual 60, 3) := by decide +kernel
theorem dX8_doEnter_42 : decode cX8_doEnter 42 = .ok (.iload_n 2, 1) := by decide +kernel
theorem dX8_doEnter_43 : decode cX8_doEnter 43 = .ok (.iload_n 3, 1) := by decide +kernel
theorem dX8_doEnter_44 : decode cX8_doEnter 44 = .ok (.iadd, 1) := by decide +kernel
theorem dX8_doEnter_45 : decode cX8_doEnter 45 = .ok (.if_icmp .eq 9, 3) := by decide +kernel
theorem dX8_doEnter_48 : decode cX8_doEnter 48 = .ok (.aload_n 0, 1) := by decide +kernel
theorem dX8_doEnter_49 : decode cX8_doEnter 49 = .ok (.iconst 4, 1) := by decide +kernel
theorem dX8_doEnter_50 : decode cX8_doEnter 50 = .ok (.invokevirtual 123, 3) := by decide +kernel
theorem dX8_doEnter_53 : decode cX8_doEnter 53 = .ok (.ireturn, 1) := by decide +kernel
theorem dX8_doEnter_54 : decode cX8_doEnter 54 = .ok (.aload_n 0, 1) := by decide +kernel
theorem dX8_doEnter_55 : decode cX8_doEnter 55 = .ok (.iload_n 1, 1) := by decide +kernel
theorem dX8_doEnter_56 : decode cX8_doEnter 56 = .ok (.invokevirtual 162, 3) := by decide +kernel
theorem dX8_doEnter_59 : decode cX8_doEnter 59 = .ok (.ifCond .eq 9, 3) := by decide +kernel
theorem dX8_doEnter_62 : decode cX8_doEnter 62 = .ok (.aload_n 0, 1) := by decide +kernel
theorem dX8_doEnter_63 : decode cX8_doEnter 63 = .ok (.iconst 5, 1) := by decide +kernel
theorem dX8_doEnter_64 : decode cX8_doEnter 64 = .ok (.invokevirtual 123, 3) := by decide +kernel
theorem dX8_doEnter_67 : decode cX8_doEnter 67 = .ok (.ireturn, 1) := by decide +kernel
theorem dX8_doEnter_68 : decode cX8_doEnter 68 = .ok (.aload_n 0, 1) := by decide +kernel
theorem dX8_doEnter_69 : decode cX8_doEnter 69 = .ok (.iload_n 1, 1) := by decide +kernel
theorem dX8_doEnter_70 : decode cX8_doEnter 70 = .ok (.iconst 0, 1) := by decide +kernel
theorem dX8_doEnter_71 : decode cX8_doEnter 71 = .ok (.invokevirtual 60, 3) := by decide +kernel
theorem dX8_doEnter_74 : decode cX8_doEnter 74 = .ok (.aload_n 0, 1) := by decide +kernel
theorem dX8_doEnter_75 : decode cX8_doEnter 75 = .ok (.iload_n 2, 1) := by decide +kernel
theorem dX8_doEnter_76 : decode cX8_doEnter 76 = .ok (.invokevirtual 165, 3) := by decide +kernel
theorem dX8_doEnter_79 : decode cX8_doEnter 79 = .ok (.if_icmp .le 10, 3) := by decide +kernel
theorem dX8_doEnter_82 : decode cX8_doEnter 82 = .ok (.aload_n 0, 1) := by decide +kernel
theorem dX8_doEnter_83 : decode cX8_doEnter 83 = .ok (.bipush 6, 2) := by decide +kernel
theorem dX8_doEnter_85 : decode cX8_doEnter 85 = .ok (.invokevirtual 123, 3) := by decide +kernel
theorem dX8_doEnter_88 : decode cX8_doEnter 88 = .ok (.ireturn, 1) := by decide +kernel
theorem dX8_doEnter_89 : decode cX8_doEnter 89 = .ok (.aload_n 0, 1) := by decide +kernel
theorem dX8_doEnter_90 : decode cX8_doEnter 90 = .ok (.iload_n 1, 1) := by decide +kernel
theorem dX8_doEnter_91 : decode cX8_doEnter 91 = .ok (.iload_n 2, 1) := by decide +kernel
theorem dX8_doEnter_92 : decode cX8_doEnter 92 = .ok (.iload_n 3, 1) := by decide +kernel
theorem dX8_doEnter_93 : decode cX8_doEnter 93 = .ok (.invokevirtual 168, 3) := by decide +kernel
theorem dX8_doEnter_96 : decode cX8_doEnter 96 = .ok (.ifCond .ne 10, 3) := by decide +kernel
theorem dX8_doEnter_99 : decode cX8_doEnter 99 = .ok (.aload_n 0, 1) := by decide +kernel
theorem dX8_doEnter_100 : decode cX8_doEnter 100 = .ok (.bipush 7, 2) := by decide +kernel
theorem dX8_doEnter_102 : decode cX8_doEnter 102 = .ok (.invokevirtual 123, 3) := by decide +kernel
theorem dX8_doEnter_105 : decode cX8_doEnter 105 = .ok (.ireturn, 1) := by decide +kernel
theorem dX8_doEnter_106 : decode cX8_doEnter 106 = .ok (.sipush 161, 3) := by decide +kernel
theorem dX8_doEnter_109 : decode cX8_doEnter 109 = .ok (.bipush 13, 2) := by decide +kernel
theorem dX8_doEnter_111 : decode cX8_doEnter 111 = .ok (.iload_n 2, 1) := by decide +kernel
theorem dX8_doEnter_112 : decode cX8_doEnter 112 = .ok (.imul, 1) := by decide +kernel
theorem dX8_doEnter_113 : decode cX8_doEnter 113 = .ok (.iadd, 1) := by decide +kernel
theorem dX8_doEnter_114 : decode cX8_doEnter 114 = .ok (.istore 4, 2) := by decide +kernel
theorem dX8_doEnter_116 : decode cX8_doEnter 116 = .ok (.aload_n 0, 1) := by decide +kernel
theorem dX8_doEnter_117 : decode cX8_doEnter 117 = .ok (.getfield 7, 3) := by decide +kernel
theorem dX8_doEnter_120 : decode cX8_doEnter 120 = .ok (.iload 4, 2) := by decide +kernel
theorem dX8_doEnter_122 : decode cX8_doEnter 122 = .ok (.iaload, 1) := by decide +kernel
theorem dX8_doEnter_123 : decode cX8_doEnter 123 = .ok (.istore 5, 2) := by decide +kernel
theorem dX8_doEnter_125 : decode cX8_doEnter 125 = .ok (.iload_n 3, 1) := by decide +kernel
theorem dX8_doEnter_126 : decode cX8_doEnter 126 = .ok (.ifCond .ne 40, 3) := by decide +kernel
theorem dX8_doEnter_129 : decode cX8_doEnter 129 = .ok (.iload 5, 2) := by decide +kernel
theorem dX8_doEnter_131 : decode cX8_doEnter 131 = .ok (.istore 6, 2) := by decide +kernel
theorem dX8_doEnter_133 : decode cX8_doEnter 133 = .ok (.iload 6, 2) := by decide +kernel
theorem dX8_doEnter_135 : decode cX8_doEnter 135 = .ok (.ifCond .le 31, 3) := by decide +kernel
theorem dX8_doEnter_138 : decode cX8_doEnter 138 = .ok (.aload_n 0, 1) := by decide +kernel
theorem dX8_doEnter_139 : decode cX8_doEnter 139 = .ok (.getfield 7, 3) := by decide +kernel
theorem dX8_doEnter_142 : decode cX8_doEnter 142 = .ok (.iload 4, 2) := by decide +kernel
theorem dX8_doEnter_144 : decode cX8_doEnter 144 = .ok (.iload 6, 2) := by decide +kernel
theorem dX8_doEnter_146 : decode cX8_doEnter 146 = .ok (.iadd, 1) := by decide +kernel
theorem dX8_doEnter_147 : decode cX8_doEnter 147 = .ok (.iconst 1, 1) := by decide +kernel
theorem dX8_doEnter_148 : decode cX8_doEnter 148 = .ok (.iadd, 1) := by decide +kernel
theorem dX8_doEnter_149 : decode cX8_doEnter 149 = .ok (.aload_n 0, 1) := by decide +kernel
theorem dX8_doEnter_150 : decode cX8_doEnter 150 = .ok (.getfield 7, 3) := by decide +kernel
theorem dX8_doEnter_153 : decode cX8_doEnter 153 = .ok (.iload 4, 2) := by decide +kernel
theorem dX8_doEnter_155 : decode cX8_doEnter 155 = .ok (.iload 6, 2) := by decide +kernel
theorem dX8_doEnter_157 : decode cX8_doEnter 157 = .ok (.iadd, 1) := by decide +kernel
theorem dX8_doEnter_158 : decode cX8_doEnter 158 = .ok (.iaload, 1) := by decide +kernel
theorem dX8_doEnter_159 : decode cX8_doEnter 159 = .ok (.iastore, 1) := by decide +kernel
theorem dX8_doEnter_160 : decode cX8_doEnter 160 = .ok (.iinc 6 (-1), 3) := by decide +kernel
theorem dX8_doEnter_163 : decode cX8_doEnter 163 = .ok (.goto (-30), 3) := by decide +kernel
theorem dX8_doEnter_166 : decode cX8_doEnter 166 = .ok (.aload_n 0, 1) := by decide +kernel
theorem dX8_doEnter_167 : decode cX8_doEnter 167 = .ok (.getfield 7, 3) := by decide +kernel
theorem dX8_doEnter_170 : decode cX8_doEnter 170 = .ok (.iload 4, 2) := by decide +kernel
theorem dX8_doEnter_172 : decode cX8_doEnter 172 = .ok (.iload_n 3, 1) := by decide +kernel
theorem dX8_doEnter_173 : decode cX8_doEnter 173 = .ok (.ifCond .ne 7, 3) := by decide +kernel
theorem dX8_doEnter_176 : decode cX8_doEnter 176 = .ok (.iconst 1, 1) := by decide +kernel
theorem dX8_doEnter_177 : decode cX8_doEnter 177 = .ok (.goto 7, 3) := by decide +kernel
theorem dX8_doEnter_180 : decode cX8_doEnter 180 = .ok (.iload 5, 2) := by decide +kernel
theorem dX8_doEnter_182 : decode cX8_doEnter 182 = .ok (.iconst 1, 1) := by decide +kernel
theorem dX8_doEnter_183 : decode cX8_doEnter 183 = .ok (.iadd, 1) := by decide +kernel
theorem dX8_doEnter_184 : decode cX8_doEnter 184 = .ok (.iadd, 1) := by decide +kernel
theorem dX8_doEnter_185 : decode cX8_doEnter 185 = .ok (.iload_n 1, 1) := by decide +kernel
theorem dX8_doEnter_186 : decode cX8_doEnter 186 = .ok (.iastore, 1) := by decide +kernel
theorem dX8_doEnter_187 : decode cX8_doEnter 187 = .ok (.aload_n 0, 1) := by decide +kernel
theorem dX8_doEnter_188 : decode cX8_doEnter 188 = .ok (.getfield 7, 3) := by decide +kernel
theorem dX8_doEnter_191 : decode cX8_doEnter 191 = .ok (.iload 4, 2) := by decide +kernel
theorem dX8_doEnter_193 : decode cX8_doEnter 193 = .ok (.dup2, 1) := by decide +kernel
theorem dX8_doEnter_194 : decode cX8_doEnter 194 = .ok (.iaload, 1) := by decide +kernel
theorem dX8_doEnter_195 : decode cX8_doEnter 195 = .ok (.iconst 1, 1) := by decide +kernel
theorem dX8_doEnter_196 : decode cX8_doEnter 196 = .ok (.iadd, 1) := by decide +kernel
theorem dX8_doEnter_197 : decode cX8_doEnter 197 = .ok (.iastore, 1) := by decide +kernel
theorem dX8_doEnter_198 : decode cX8_doEnter 198 = .ok (.aload_n 0, 1) := by decide +kernel
theorem dX8_doEnter_199 : decode cX8_doEnter 199 = .ok (.iload_n 1, 1) := by decide +kernel
theorem dX8_doEnter_200 : decode cX8_doEnter 200 = .ok (.bipush 6, 2) := by decide +kernel
theorem dX8_doEnter_202 : decode cX8_doEnter 202 = .ok (.bipush 100, 2) := by decide +kernel
theorem dX8_doEnter_204 : decode cX8_doEnter 204 = .ok (.iload_n 2, 1) := by decide +kernel
theorem dX8_doEnter_205 : decode cX8_doEnter 205 = .ok (.iadd, 1) := by decide +kernel
theorem dX8_doEnter_206 : decode cX8_doEnter 206 = .ok (.invokevirtual 129, 3) := by decide +kernel
theorem dX8_doEnter_209 : decode cX8_doEnter 209 = .ok (.aload_n 0, 1) := by decide +kernel
theorem dX8_doEnter_210 : decode cX8_doEnter 210 = .ok (.iload_n 1, 1) := by decide +kernel
theorem dX8_doEnter_211 : decode cX8_doEnter 211 = .ok (.iload_n 2, 1) := by decide +kernel
theorem dX8_doEnter_212 : decode cX8_doEnter 212 = .ok (.iload_n 3, 1) := by decide +kernel
theorem dX8_doEnter_213 : decode cX8_doEnter 213 = .ok (.invokevirtual 171, 3) := by decide +kernel
theorem dX8_doEnter_216 : decode cX8_doEnter 216 = .ok (.aload_n 0, 1) := by decide +kernel
theorem dX8_doEnter_217 : decode cX8_doEnter 217 = .ok (.iload_n 2, 1) := by decide +kernel
theorem dX8_doEnter_218 : decode cX8_doEnter 218 = .ok (.invokevirtual 165, 3) := by decide +kernel
theorem dX8_doEnter_221 : decode cX8_doEnter 221 = .ok (.ireturn, 1) := by decide +kernel
theorem dX8_enter_0 : decode cX8_enter 0 = .ok (.aload_n 0, 1) := by decide +kernel
theorem dX8_enter_1 : decode cX8_enter 1 = .ok (.invokevirtual 53, 3) := by decide +kernel
theorem dX8_enter_4 : decode cX8_enter 4 = .ok (.aload_n 0, 1) := by decide +kernel
theorem dX8_enter_5 : decode cX8_enter 5 = .ok (.aload_n 0, 1) := by decide +kernel
theorem dX8_enter_6 : decode cX8_enter 6 = .ok (.iload_n 1, 1) := by decide +kernel
theorem dX8_enter_7 : decode cX8_enter 7 = .ok (.iload_n 2, 1) := by decide +kernel
theorem dX8_enter_8 : decode cX8_enter 8 = .ok (.invokevirtual 174, 3) := by decide +kernel
theorem dX8_enter_11 : decode cX8_enter 11 = .ok (.invokevirtual 110, 3) := by decide +kernel
theorem dX8_enter_14 : decode cX8_enter 14 = .ok (.ireturn, 1) := by decide +kernel
theorem dX8_doLeave_0 : decode cX8_doLeave 0 = .ok (.aload_n 0, 1) := by decide +kernel
theorem dX8_doLeave_1 : decode cX8_doLeave 1 = .ok (.iload_n 1, 1) := by decide +kernel
theorem dX8_doLeave_2 : decode cX8_doLeave 2 = .ok (.iload_n 2, 1) := by decide +kernel
theorem dX8_doLeave_3 : decode cX8_doLeave 3 = .ok (.invokevirtual 113, 3) := by decide +kernel
theorem dX8_doLeave_6 : decode cX8_doLeave 6 = .ok (.ifCond .eq 6, 3) := by decide +kernel
theorem dX8_doLeave_9 : decode cX8_doLeave 9 = .ok (.ldc 41, 2) := by decide +kernel
theorem dX8_doLeave_11 : decode cX8_doLeave 11 = .ok (.ireturn, 1) := by decide +kernel
theorem dX8_doLeave_12 : decode cX8_doLeave 12 = .ok (.aload_n 0, 1) := by decide +kernel
theorem dX8_doLeave_13 : decode cX8_doLeave 13 = .ok (.iload_n 1, 1) := by decide +kernel
theorem dX8_doLeave_14 : decode cX8_doLeave 14 = .ok (.invokevirtual 92, 3) := by decide +kernel
theorem dX8_doLeave_17 : decode cX8_doLeave 17 = .ok (.iload_n 2, 1) := by decide +kernel
theorem dX8_doLeave_18 : decode cX8_doLeave 18 = .ok (.if_icmp .eq 9, 3) := by decide +kernel
theorem dX8_doLeave_21 : decode cX8_doLeave 21 = .ok (.aload_n 0, 1) := by decide +kernel
theorem dX8_doLeave_22 : decode cX8_doLeave 22 = .ok (.iconst 2, 1) := by decide +kernel
theorem dX8_doLeave_23 : decode cX8_doLeave 23 = .ok (.invokevirtual 123, 3) := by decide +kernel
theorem dX8_doLeave_26 : decode cX8_doLeave 26 = .ok (.ireturn, 1) := by decide +kernel
theorem dX8_doLeave_27 : decode cX8_doLeave 27 = .ok (.sipush 161, 3) := by decide +kernel
theorem dX8_doLeave_30 : decode cX8_doLeave 30 = .ok (.bipush 13, 2) := by decide +kernel
theorem dX8_doLeave_32 : decode cX8_doLeave 32 = .ok (.iload_n 1, 1) := by decide +kernel
theorem dX8_doLeave_33 : decode cX8_doLeave 33 = .ok (.imul, 1) := by decide +kernel
theorem dX8_doLeave_34 : decode cX8_doLeave 34 = .ok (.iadd, 1) := by decide +kernel
theorem dX8_doLeave_35 : decode cX8_doLeave 35 = .ok (.istore_n 3, 1) := by decide +kernel
theorem dX8_doLeave_36 : decode cX8_doLeave 36 = .ok (.aload_n 0, 1) := by decide +kernel
theorem dX8_doLeave_37 : decode cX8_doLeave 37 = .ok (.getfield 7, 3) := by decide +kernel
theorem dX8_doLeave_40 : decode cX8_doLeave 40 = .ok (.iload_n 3, 1) := by decide +kernel
theorem dX8_doLeave_41 : decode cX8_doLeave 41 = .ok (.iaload, 1) := by decide +kernel
theorem dX8_doLeave_42 : decode cX8_doLeave 42 = .ok (.istore 4, 2) := by decide +kernel
theorem dX8_doLeave_44 : decode cX8_doLeave 44 = .ok (.iload 4, 2) := by decide +kernel
theorem dX8_doLeave_46 : decode cX8_doLeave 46 = .ok (.ifCond .ne 9, 3) := by decide +kernel
theorem dX8_doLeave_49 : decode cX8_doLeave 49 = .ok (.aload_n 0, 1) := by decide +kernel
theorem dX8_doLeave_50 : decode cX8_doLeave 50 = .ok (.iconst 4, 1) := by decide +kernel
theorem dX8_doLeave_51 : decode cX8_doLeave 51 = .ok (.invokevirtual 123, 3) := by decide +kernel
theorem dX8_doLeave_54 : decode cX8_doLeave 54 = .ok (.ireturn, 1) := by decide +kernel
theorem dX8_doLeave_55 : decode cX8_doLeave 55 = .ok (.aload_n 0, 1) := by decide +kernel
theorem dX8_doLeave_56 : decode cX8_doLeave 56 = .ok (.getfield 7, 3) := by decide +kernel
theorem dX8_doLeave_59 : decode cX8_doLeave 59 = .ok (.iload_n 3, 1) := by decide +kernel
theorem dX8_doLeave_60 : decode cX8_doLeave 60 = .ok (.iload_n 2, 1) := by decide +kernel
theorem dX8_doLeave_61 : decode cX8_doLeave 61 = .ok (.ifCond .ne 7, 3) := by decide +kernel
theorem dX8_doLeave_64 : decode cX8_doLeave 64 = .ok (.iconst 1, 1) := by decide +kernel
theorem dX8_doLeave_65 : decode cX8_doLeave 65 = .ok (.goto 5, 3) := by decide +kernel
theorem dX8_doLeave_68 : decode cX8_doLeave 68 = .ok (.iload 4, 2) := by decide +kernel
theorem dX8_doLeave_70 : decode cX8_doLeave 70 = .ok (.iadd, 1) := by decide +kernel
theorem dX8_doLeave_71 : decode cX8_doLeave 71 = .ok (.iaload, 1) := by decide +kernel
theorem dX8_doLeave_72 : decode cX8_doLeave 72 = .ok (.istore 5, 2) := by decide +kernel
theorem dX8_doLeave_74 : decode cX8_doLeave 74 = .ok (.aload_n 0, 1) := by decide +kernel
theorem dX8_doLeave_75 : decode cX8_doLeave 75 = .ok (.iload 5, 2) := by decide +kernel
theorem dX8_doLeave_77 : decode cX8_doLeave 77 = .ok (.invokevirtual 162, 3) := by decide +kernel
theorem dX8_doLeave_80 : decode cX8_doLeave 80 = .ok (.ifCond .eq 9, 3) := by decide +kernel
theorem dX8_doLeave_83 : decode cX8_doLeave 83 = .ok (.aload_n 0, 1) := by decide +kernel
theorem dX8_doLeave_84 : decode cX8_doLeave 84 = .ok (.iconst 5, 1) := by decide +kernel
theorem dX8_doLeave_85 : decode cX8_doLeave 85 = .ok (.invokevirtual 123, 3) := by decide +kernel
theorem dX8_doLeave_88 : decode cX8_doLeave 88 = .ok (.ireturn, 1) := by decide +kernel
theorem dX8_doLeave_89 : decode cX8_doLeave 89 = .ok (.aload_n 0, 1) := by decide +kernel
theorem dX8_doLeave_90 : decode cX8_doLeave 90 = .ok (.iload 5, 2) := by decide +kernel
theorem dX8_doLeave_92 : decode cX8_doLeave 92 = .ok (.iload_n 1, 1) := by decide +kernel
theorem dX8_doLeave_93 : decode cX8_doLeave 93 = .ok (.iload_n 2, 1) := by decide +kernel
theorem dX8_doLeave_94 : decode cX8_doLeave 94 = .ok (.invokevirtual 168, 3) := by decide +kernel
theorem dX8_doLeave_97 : decode cX8_doLeave 97 = .ok (.ifCond .ne 10, 3) := by decide +kernel
theorem dX8_doLeave_100 : decode cX8_doLeave 100 = .ok (.aload_n 0, 1) := by decide +kernel
theorem dX8_doLeave_101 : decode cX8_doLeave 101 = .ok (.bipush 7, 2) := by decide +kernel
theorem dX8_doLeave_103 : decode cX8_doLeave 103 = .ok (.invokevirtual 123, 3) := by decide +kernel
theorem dX8_doLeave_106 : decode cX8_doLeave 106 = .ok (.ireturn, 1) := by decide +kernel
theorem dX8_doLeave_107 : decode cX8_doLeave 107 = .ok (.iconst 1, 1) := by decide +kernel
theorem dX8_doLeave_108 : decode cX8_doLeave 108 = .ok (.istore 6, 2) := by decide +kernel
theorem dX8_doLeave_110 : decode cX8_doLeave 110 = .ok (.iload 6, 2) := by decide +kernel
theorem dX8_doLeave_112 : decode cX8_doLeave 112 = .ok (.iload 4, 2) := by decide +kernel
theorem dX8_doLeave_114 : decode cX8_doLeave 114 = .ok (.if_icmp .ge 33, 3) := by decide +kernel
theorem dX8_doLeave_117 : decode cX8_doLeave 117 = .ok (.iload_n 2, 1) := by decide +kernel
theorem dX8_doLeave_118 : decode cX8_doLeave 118 = .ok (.ifCond .ne 29, 3) := by decide +kernel
theorem dX8_doLeave_121 : decode cX8_doLeave 121 = .ok (.aload_n 0, 1) := by decide +kernel
theorem dX8_doLeave_122 : decode cX8_doLeave 122 = .ok (.getfield 7, 3) := by decide +kernel
theorem dX8_doLeave_125 : decode cX8_doLeave 125 = .ok (.iload_n 3, 1) := by decide +kernel
theorem dX8_doLeave_126 : decode cX8_doLeave 126 = .ok (.iload 6, 2) := by decide +kernel
theorem dX8_doLeave_128 : decode cX8_doLeave 128 = .ok (.iadd, 1) := by decide +kernel
theorem dX8_doLeave_129 : decode cX8_doLeave 129 = .ok (.aload_n 0, 1) := by decide +kernel
theorem dX8_doLeave_130 : decode cX8_doLeave 130 = .ok (.getfield 7, 3) := by decide +kernel
theorem dX8_doLeave_133 : decode cX8_doLeave 133 = .ok (.iload_n 3, 1) := by decide +kernel
theorem dX8_doLeave_134 : decode cX8_doLeave 134 = .ok (.iload 6, 2) := by decide +kernel
theorem dX8_doLeave_136 : decode cX8_doLeave 136 = .ok (.iadd, 1) := by decide +kernel
theorem dX8_doLeave_137 : decode cX8_doLeave 137 = .ok (.iconst 1, 1) := by decide +kernel
theorem dX8_doLeave_138 : decode cX8_doLeave 138 = .ok (.iadd, 1) := by decide +kernel
theorem dX8_doLeave_139 : decode cX8_doLeave 139 = .ok (.iaload, 1) := by decide +kernel
theorem dX8_doLeave_140 : decode cX8_doLeave 140 = .ok (.iastore, 1) := by decide +kernel
theorem dX8_doLeave_141 : decode cX8_doLeave 141 = .ok (.iinc 6 1, 3) := by decide +kernel
theorem dX8_doLeave_144 : decode cX8_doLeave 144 = .ok (.goto (-34), 3) := by decide +kernel
theorem dX8_doLeave_147 : decode cX8_doLeave 147 = .ok (.aload_n 0, 1) := by decide +kernel
theorem dX8_doLeave_148 : decode cX8_doLeave 148 = .ok (.getfield 7, 3) := by decide +kernel
theorem dX8_doLeave_151 : decode cX8_doLeave 151 = .ok (.iload_n 3, 1) := by decide +kernel
theorem dX8_doLeave_152 : decode cX8_doLeave 152 = .ok (.dup2, 1) := by decide +kernel
theorem dX8_doLeave_153 : decode cX8_doLeave 153 = .ok (.iaload, 1) := by decide +kernel
theorem dX8_doLeave_154 : decode cX8_doLeave 154 = .ok (.iconst 1, 1) := by decide +kernel
theorem dX8_doLeave_155 : decode cX8_doLeave 155 = .ok (.isub, 1) := by decide +kernel
theorem dX8_doLeave_156 : decode cX8_doLeave 156 = .ok (.iastore, 1) := by decide +kernel
theorem dX8_doLeave_157 : decode cX8_doLeave 157 = .ok (.aload_n 0, 1) := by decide +kernel
theorem dX8_doLeave_158 : decode cX8_doLeave 158 = .ok (.iload 5, 2) := by decide +kernel
theorem dX8_doLeave_160 : decode cX8_doLeave 160 = .ok (.bipush 6, 2) := by decide +kernel
theorem dX8_doLeave_162 : decode cX8_doLeave 162 = .ok (.iload_n 1, 1) := by decide +kernel
theorem dX8_doLeave_163 : decode cX8_doLeave 163 = .ok (.iload_n 2, 1) := by decide +kernel
theorem dX8_doLeave_164 : decode cX8_doLeave 164 = .ok (.iadd, 1) := by decide +kernel
theorem dX8_doLeave_165 : decode cX8_doLeave 165 = .ok (.invokevirtual 129, 3) := by decide +kernel
theorem dX8_doLeave_168 : decode cX8_doLeave 168 = .ok (.aload_n 0, 1) := by decide +kernel
theorem dX8_doLeave_169 : decode cX8_doLeave 169 = .ok (.iload 5, 2) := by decide +kernel
theorem dX8_doLeave_171 : decode cX8_doLeave 171 = .ok (.iload_n 1, 1) := by decide +kernel
theorem dX8_doLeave_172 : decode cX8_doLeave 172 = .ok (.iload_n 2, 1) := by decide +kernel
theorem dX8_doLeave_173 : decode cX8_doLeave 173 = .ok (.invokevirtual 171, 3) := by decide +kernel
theorem dX8_doLeave_176 : decode cX8_doLeave 176 = .ok (.iload 5, 2) := by decide +kernel
theorem dX8_doLeave_178 : decode cX8_doLeave 178 = .ok (.ireturn, 1) := by decide +kernel
theorem dX8_leave_0 : decode cX8_leave 0 = .ok (.aload_n 0, 1) := by decide +kernel
theorem dX8_leave_1 : decode cX8_leave 1 = .ok (.invokevirtual 53, 3) := by decide +kernel
theorem dX8_leave_4 : decode cX8_leave 4 = .ok (.aload_n 0, 1) := by decide +kernel
theorem dX8_leave_5 : decode cX8_leave 5 = .ok (.aload_n 0, 1) := by decide +kernel
theorem dX8_leave_6 : decode cX8_leave 6 = .ok (.iload_n 1, 1) := by decide +kernel
theorem dX8_leave_7 : decode cX8_leave 7 = .ok (.iload_n 2, 1) := by decide +kernel
theorem dX8_leave_8 : decode cX8_leave 8 = .ok (.invokevirtual 177, 3) := by decide +kernel
theorem dX8_leave_11 : decode cX8_leave 11 = .ok (.invokevirtual 110, 3) := by decide +kernel
theorem dX8_leave_14 : decode cX8_leave 14 = .ok (.ireturn, 1) := by decide +kernel
theorem dX8_type_0 : decode cX8_type 0 = .ok (.aload_n 0, 1) := by decide +kernel
theorem dX8_type_1 : decode cX8_type 1 = .ok (.getfield 180, 3) := by decide +kernel
theorem dX8_type_4 : decode cX8_type 4 = .ok (.bipush 60, 2) := by decide +kernel
theorem dX8_type_6 : decode cX8_type 6 = .ok (.if_icmp .ne 6, 3) := by decide +kernel
theorem dX8_type_9 : decode cX8_type 9 = .ok (.ldc 105, 2) := by decide +kernel
theorem dX8_type_11 : decode cX8_type 11 = .ok (.ireturn, 1) := by decide +kernel
theorem dX8_type_12 : decode cX8_type 12 = .ok (.aload_n 0, 1) := by decide +kernel
theorem dX8_type_13 : decode cX8_type 13 = .ok (.getfield 26, 3) := by decide +kernel
theorem dX8_type_16 : decode cX8_type 16 = .ok (.aload_n 0, 1) := by decide +kernel
theorem dX8_type_17 : decode cX8_type 17 = .ok (.getfield 180, 3) := by decide +kernel
theorem dX8_type_20 : decode cX8_type 20 = .ok (.iload_n 1, 1) := by decide +kernel
theorem dX8_type_21 : decode cX8_type 21 = .ok (.castore, 1) := by decide +kernel
theorem dX8_type_22 : decode cX8_type 22 = .ok (.aload_n 0, 1) := by decide +kernel
theorem dX8_type_23 : decode cX8_type 23 = .ok (.dup, 1) := by decide +kernel
theorem dX8_type_24 : decode cX8_type 24 = .ok (.getfield 180, 3) := by decide +kernel
theorem dX8_type_27 : decode cX8_type 27 = .ok (.iconst 1, 1) := by decide +kernel
theorem dX8_type_28 : decode cX8_type 28 = .ok (.iadd, 1) := by decide +kernel
theorem dX8_type_29 : decode cX8_type 29 = .ok (.putfield 180, 3) := by decide +kernel
theorem dX8_type_32 : decode cX8_type 32 = .ok (.aload_n 0, 1) := by decide +kernel
theorem dX8_type_33 : decode cX8_type 33 = .ok (.getfield 180, 3) := by decide +kernel
theorem dX8_type_36 : decode cX8_type 36 = .ok (.ireturn, 1) := by decide +kernel
theorem dX8_clearText_0 : decode cX8_clearText 0 = .ok (.aload_n 0, 1) := by decide +kernel
theorem dX8_clearText_1 : decode cX8_clearText 1 = .ok (.getfield 180, 3) := by decide +kernel
theorem dX8_clearText_4 : decode cX8_clearText 4 = .ok (.istore_n 1, 1) := by decide +kernel
theorem dX8_clearText_5 : decode cX8_clearText 5 = .ok (.aload_n 0, 1) := by decide +kernel
theorem dX8_clearText_6 : decode cX8_clearText 6 = .ok (.iconst 0, 1) := by decide +kernel
theorem dX8_clearText_7 : decode cX8_clearText 7 = .ok (.putfield 180, 3) := by decide +kernel
theorem dX8_clearText_10 : decode cX8_clearText 10 = .ok (.iload_n 1, 1) := by decide +kernel
theorem dX8_clearText_11 : decode cX8_clearText 11 = .ok (.ireturn, 1) := by decide +kernel
theorem dX8_endOf_0 : decode cX8_endOf 0 = .ok (.iload_n 1, 1) := by decide +kernel
theorem dX8_endOf_1 : decode cX8_endOf 1 = .ok (.istore_n 2, 1) := by decide +kernel
theorem dX8_endOf_2 : decode cX8_endOf 2 = .ok (.iload_n 2, 1) := by decide +kernel
theorem dX8_endOf_3 : decode cX8_endOf 3 = .ok (.aload_n 0, 1) := by decide +kernel
theorem dX8_endOf_4 : decode cX8_endOf 4 = .ok (.getfield 180, 3) := by decide +kernel
theorem dX8_endOf_7 : decode cX8_endOf 7 = .ok (.if_icmp .ge 31, 3) := by decide +kernel
theorem dX8_endOf_10 : decode cX8_endOf 10 = .ok (.aload_n 0, 1) := by decide +kernel
theorem dX8_endOf_11 : decode cX8_endOf 11 = .ok (.getfield 26, 3) := by decide +kernel
theorem dX8_endOf_14 : decode cX8_endOf 14 = .ok (.iload_n 2, 1) := by decide +kernel
theorem dX8_endOf_15 : decode cX8_endOf 15 = .ok (.caload, 1) := by decide +kernel
theorem dX8_endOf_16 : decode cX8_endOf 16 = .ok (.bipush 32, 2) := by decide +kernel
theorem dX8_endOf_18 : decode cX8_endOf 18 = .ok (.if_icmp .eq 20, 3) := by decide +kernel
theorem dX8_endOf_21 : decode cX8_endOf 21 = .ok (.aload_n 0, 1) := by decide +kernel
theorem dX8_endOf_22 : decode cX8_endOf 22 = .ok (.getfield 26, 3) := by decide +kernel
theorem dX8_endOf_25 : decode cX8_endOf 25 = .ok (.iload_n 2, 1) := by decide +kernel
theorem dX8_endOf_26 : decode cX8_endOf 26 = .ok (.caload, 1) := by decide +kernel
theorem dX8_endOf_27 : decode cX8_endOf 27 = .ok (.bipush 59, 2) := by decide +kernel
theorem dX8_endOf_29 : decode cX8_endOf 29 = .ok (.if_icmp .eq 9, 3) := by decide +kernel
theorem dX8_endOf_32 : decode cX8_endOf 32 = .ok (.iinc 2 1, 3) := by decide +kernel
theorem dX8_endOf_35 : decode cX8_endOf 35 = .ok (.goto (-33), 3) := by decide +kernel
theorem dX8_endOf_38 : decode cX8_endOf 38 = .ok (.iload_n 2, 1) := by decide +kernel
theorem dX8_endOf_39 : decode cX8_endOf 39 = .ok (.ireturn, 1) := by decide +kernel
theorem dX8_stands_0 : decode cX8_stands 0 = .ok (.aload_n 0, 1) := by decide +kernel
theorem dX8_stands_1 : decode cX8_stands 1 = .ok (.getfield 26, 3) := by decide +kernel
theorem dX8_stands_4 : decode cX8_stands 4 = .ok (.iload_n 1, 1) := by decide +kernel
theorem dX8_stands_5 : decode cX8_stands 5 = .ok (.caload, 1) := by decide +kernel
theorem dX8_stands_6 : decode cX8_stands 6 = .ok (.iload_n 2, 1) := by decide +kernel
theorem dX8_stands_7 : decode cX8_stands 7 = .ok (.if_icmp .ne 45, 3) := by decide +kernel
theorem dX8_stands_10 : decode cX8_stands 10 = .ok (.aload_n 0, 1) := by decide +kernel
theorem dX8_stands_11 : decode cX8_stands 11 = .ok (.getfield 26, 3) := by decide +kernel
theorem dX8_stands_14 : decode cX8_stands 14 = .ok (.iload_n 1, 1) := by decide +kernel
theorem dX8_stands_15 : decode cX8_stands 15 = .ok (.iconst 1, 1) := by decide +kernel
theorem dX8_stands_16 : decode cX8_stands 16 = .ok (.iadd, 1) := by decide +kernel
theorem dX8_stands_17 : decode cX8_stands 17 = .ok (.caload, 1) := by decide +kernel
theorem dX8_stands_18 : decode cX8_stands 18 = .ok (.iload_n 3, 1) := by decide +kernel
theorem dX8_stands_19 : decode cX8_stands 19 = .ok (.if_icmp .ne 33, 3) := by decide +kernel
theorem dX8_stands_22 : decode cX8_stands 22 = .ok (.aload_n 0, 1) := by decide +kernel
theorem dX8_stands_23 : decode cX8_stands 23 = .ok (.getfield 26, 3) := by decide +kernel
theorem dX8_stands_26 : decode cX8_stands 26 = .ok (.iload_n 1, 1) := by decide +kernel
theorem dX8_stands_27 : decode cX8_stands 27 = .ok (.iconst 2, 1) := by decide +kernel
theorem dX8_stands_28 : decode cX8_stands 28 = .ok (.iadd, 1) := by decide +kernel
theorem dX8_stands_29 : decode cX8_stands 29 = .ok (.caload, 1) := by decide +kernel
theorem dX8_stands_30 : decode cX8_stands 30 = .ok (.iload 4, 2) := by decide +kernel
theorem dX8_stands_32 : decode cX8_stands 32 = .ok (.if_icmp .ne 20, 3) := by decide +kernel
theorem dX8_stands_35 : decode cX8_stands 35 = .ok (.aload_n 0, 1) := by decide +kernel
theorem dX8_stands_36 : decode cX8_stands 36 = .ok (.getfield 26, 3) := by decide +kernel
theorem dX8_stands_39 : decode cX8_stands 39 = .ok (.iload_n 1, 1) := by decide +kernel
theorem dX8_stands_40 : decode cX8_stands 40 = .ok (.iconst 3, 1) := by decide +kernel
theorem dX8_stands_41 : decode cX8_stands 41 = .ok (.iadd, 1) := by decide +kernel
theorem dX8_stands_42 : decode cX8_stands 42 = .ok (.caload, 1) := by decide +kernel
theorem dX8_stands_43 : decode cX8_stands 43 = .ok (.iload 5, 2) := by decide +kernel
theorem dX8_stands_45 : decode cX8_stands 45 = .ok (.if_icmp .ne 7, 3) := by decide +kernel
theorem dX8_stands_48 : decode cX8_stands 48 = .ok (.iconst 1, 1) := by decide +kernel
theorem dX8_stands_49 : decode cX8_stands 49 = .ok (.goto 4, 3) := by decide +kernel
theorem dX8_stands_52 : decode cX8_stands 52 = .ok (.iconst 0, 1) := by decide +kernel
theorem dX8_stands_53 : decode cX8_stands 53 = .ok (.ireturn, 1) := by decide +kernel
theorem dX8_word_0 : decode cX8_word 0 = .ok (.iload_n 2, 1) := by decide +kernel
theorem dX8_word_1 : decode cX8_word 1 = .ok (.iload_n 1, 1) := by decide +kernel
theorem dX8_word_2 : decode cX8_word 2 = .ok (.isub, 1) := by decide +kernel
theorem dX8_word_3 : decode cX8_word 3 = .ok (.iconst 4, 1) := by decide +kernel
theorem dX8_word_4 : decode cX8_word 4 = .ok (.if_icmp .ne 67, 3) := by decide +kernel
theorem dX8_word_7 : decode cX8_word 7 = .ok (.aload_n 0, 1) := by decide +kernel
theorem dX8_word_8 : decode cX8_word 8 = .ok (.iload_n 1, 1) := by decide +kernel
theorem dX8_word_9 : decode cX8_word 9 = .ok (.bipush 111, 2) := by decide +kernel
theorem dX8_word_11 : decode cX8_word 11 = .ok (.bipush 112, 2) := by decide +kernel
theorem dX8_word_13 : decode cX8_word 13 = .ok (.bipush 101, 2) := by decide +kernel
theorem dX8_word_15 : decode cX8_word 15 = .ok (.bipush 110, 2) := by decide +kernel
theorem dX8_word_17 : decode cX8_word 17 = .ok (.invokevirtual 183, 3) := by decide +kernel
theorem dX8_word_20 : decode cX8_word 20 = .ok (.ifCond .eq 7, 3) := by decide +kernel
theorem dX8_word_23 : decode cX8_word 23 = .ok (.iconst 1, 1) := by decide +kernel
theorem dX8_word_24 : decode cX8_word 24 = .ok (.goto 46, 3) := by decide +kernel
theorem dX8_word_27 : decode cX8_word 27 = .ok (.aload_n 0, 1) := by decide +kernel
theorem dX8_word_28 : decode cX8_word 28 = .ok (.iload_n 1, 1) := by decide +kernel
theorem dX8_word_29 : decode cX8_word 29 = .ok (.bipush 108, 2) := by decide +kernel
theorem dX8_word_31 : decode cX8_word 31 = .ok (.bipush 111, 2) := by decide +kernel
theorem dX8_word_33 : decode cX8_word 33 = .ok (.bipush 97, 2) := by decide +kernel
theorem dX8_word_35 : decode cX8_word 35 = .ok (.bipush 100, 2) := by decide +kernel
theorem dX8_word_37 : decode cX8_word 37 = .ok (.invokevirtual 183, 3) := by decide +kernel
theorem dX8_word_40 : decode cX8_word 40 = .ok (.ifCond .eq 7, 3) := by decide +kernel
theorem dX8_word_43 : decode cX8_word 43 = .ok (.iconst 5, 1) := by decide +kernel
theorem dX8_word_44 : decode cX8_word 44 = .ok (.goto 26, 3) := by decide +kernel
theorem dX8_word_47 : decode cX8_word 47 = .ok (.aload_n 0, 1) := by decide +kernel
theorem dX8_word_48 : decode cX8_word 48 = .ok (.iload_n 1, 1) := by decide +kernel
theorem dX8_word_49 : decode cX8_word 49 = .ok (.bipush 112, 2) := by decide +kernel
theorem dX8_word_51 : decode cX8_word 51 = .ok (.bipush 117, 2) := by decide +kernel
theorem dX8_word_53 : decode cX8_word 53 = .ok (.bipush 109, 2) := by decide +kernel
theorem dX8_word_55 : decode cX8_word 55 = .ok (.bipush 112, 2) := by decide +kernel
theorem dX8_word_57 : decode cX8_word 57 = .ok (.invokevirtual 183, 3) := by decide +kernel
theorem dX8_word_60 : decode cX8_word 60 = .ok (.ifCond .eq 8, 3) := by decide +kernel
theorem dX8_word_63 : decode cX8_word 63 = .ok (.bipush 6, 2) := by decide +kernel
theorem dX8_word_65 : decode cX8_word 65 = .ok (.goto 5, 3) := by decide +kernel
theorem dX8_word_68 : decode cX8_word 68 = .ok (.ldc 48, 2) := by decide +kernel
theorem dX8_word_70 : decode cX8_word 70 = .ok (.ireturn, 1) := by decide +kernel
theorem dX8_word_71 : decode cX8_word 71 = .ok (.iload_n 2, 1) := by decide +kernel
theorem dX8_word_72 : decode cX8_word 72 = .ok (.iload_n 1, 1) := by decide +kernel
theorem dX8_word_73 : decode cX8_word 73 = .ok (.isub, 1) := by decide +kernel
theorem dX8_word_74 : decode cX8_word 74 = .ok (.iconst 5, 1) := by decide +kernel
theorem dX8_word_75 : decode cX8_word 75 = .ok (.if_icmp .ne 93, 3) := by decide +kernel
theorem dX8_word_78 : decode cX8_word 78 = .ok (.aload_n 0, 1) := by decide +kernel
theorem dX8_word_79 : decode cX8_word 79 = .ok (.getfield 26, 3) := by decide +kernel
theorem dX8_word_82 : decode cX8_word 82 = .ok (.iload_n 1, 1) := by decide +kernel
theorem dX8_word_83 : decode cX8_word 83 = .ok (.iconst 4, 1) := by decide +kernel
theorem dX8_word_84 : decode cX8_word 84 = .ok (.iadd, 1) := by decide +kernel
theorem dX8_word_85 : decode cX8_word 85 = .ok (.caload, 1) := by decide +kernel
theorem dX8_word_86 : decode cX8_word 86 = .ok (.istore_n 3, 1) := by decide +kernel
theorem dX8_word_87 : decode cX8_word 87 = .ok (.aload_n 0, 1) := by decide +kernel
theorem dX8_word_88 : decode cX8_word 88 = .ok (.iload_n 1, 1) := by decide +kernel
theorem dX8_word_89 : decode cX8_word 89 = .ok (.bipush 99, 2) := by decide +kernel
theorem dX8_word_91 : decode cX8_word 91 = .ok (.bipush 108, 2) := by decide +kernel
theorem dX8_word_93 : decode cX8_word 93 = .ok (.bipush 111, 2) := by decide +kernel
theorem dX8_word_95 : decode cX8_word 95 = .ok (.bipush 115, 2) := by decide +kernel
theorem dX8_word_97 : decode cX8_word 97 = .ok (.invokevirtual 183, 3) := by decide +kernel
theorem dX8_word_100 : decode cX8_word 100 = .ok (.ifCond .eq 13, 3) := by decide +kernel
theorem dX8_word_103 : decode cX8_word 103 = .ok (.iload_n 3, 1) := by decide +kernel
theorem dX8_word_104 : decode cX8_word 104 = .ok (.bipush 101, 2) := by decide +kernel
theorem dX8_word_106 : decode cX8_word 106 = .ok (.if_icmp .ne 7, 3) := by decide +kernel
theorem dX8_word_109 : decode cX8_word 109 = .ok (.iconst 2, 1) := by decide +kernel
theorem dX8_word_110 : decode cX8_word 110 = .ok (.goto 57, 3) := by decide +kernel
theorem dX8_word_113 : decode cX8_word 113 = .ok (.aload_n 0, 1) := by decide +kernel
theorem dX8_word_114 : decode cX8_word 114 = .ok (.iload_n 1, 1) := by decide +kernel
theorem dX8_word_115 : decode cX8_word 115 = .ok (.bipush 101, 2) := by decide +kernel
theorem dX8_word_117 : decode cX8_word 117 = .ok (.bipush 110, 2) := by decide +kernel
theorem dX8_word_119 : decode cX8_word 119 = .ok (.bipush 116, 2) := by decide +kernel
theorem dX8_word_121 : decode cX8_word 121 = .ok (.bipush 101, 2) := by decide +kernel
theorem dX8_word_123 : decode cX8_word 123 = .ok (.invokevirtual 183, 3) := by decide +kernel
theorem dX8_word_126 : decode cX8_word 126 = .ok (.ifCond .eq 13, 3) := by decide +kernel
theorem dX8_word_129 : decode cX8_word 129 = .ok (.iload_n 3, 1) := by decide +kernel
theorem dX8_word_130 : decode cX8_word 130 = .ok (.bipush 114, 2) := by decide +kernel
theorem dX8_word_132 : decode cX8_word 132 = .ok (.if_icmp .ne 7, 3) := by decide +kernel
theorem dX8_word_135 : decode cX8_word 135 = .ok (.iconst 3, 1) := by decide +kernel
theorem dX8_word_136 : decode cX8_word 136 = .ok (.goto 31, 3) := by decide +kernel
theorem dX8_word_139 : decode cX8_word 139 = .ok (.aload_n 0, 1) := by decide +kernel
theorem dX8_word_140 : decode cX8_word 140 = .ok (.iload_n 1, 1) := by decide +kernel
theorem dX8_word_141 : decode cX8_word 141 = .ok (.bipush 108, 2) := by decide +kernel
theorem dX8_word_143 : decode cX8_word 143 = .ok (.bipush 101, 2) := by decide +kernel
theorem dX8_word_145 : decode cX8_word 145 = .ok (.bipush 97, 2) := by decide +kernel
theorem dX8_word_147 : decode cX8_word 147 = .ok (.bipush 118, 2) := by decide +kernel
theorem dX8_word_149 : decode cX8_word 149 = .ok (.invokevirtual 183, 3) := by decide +kernel
theorem dX8_word_152 : decode cX8_word 152 = .ok (.ifCond .eq 13, 3) := by decide +kernel
theorem dX8_word_155 : decode cX8_word 155 = .ok (.iload_n 3, 1) := by decide +kernel
theorem dX8_word_156 : decode cX8_word 156 = .ok (.bipush 101, 2) := by decide +kernel
theorem dX8_word_158 : decode cX8_word 158 = .ok (.if_icmp .ne 7, 3) := by decide +kernel
theorem dX8_word_161 : decode cX8_word 161 = .ok (.iconst 4, 1) := by decide +kernel
theorem dX8_word_162 : decode cX8_word 162 = .ok (.goto 5, 3) := by decide +kernel
theorem dX8_word_165 : decode cX8_word 165 = .ok (.ldc 48, 2) := by decide +kernel
theorem dX8_word_167 : decode cX8_word 167 = .ok (.ireturn, 1) := by decide +kernel
theorem dX8_word_168 : decode cX8_word 168 = .ok (.iload_n 2, 1) := by decide +kernel
theorem dX8_word_169 : decode cX8_word 169 = .ok (.iload_n 1, 1) := by decide +kernel
theorem dX8_word_170 : decode cX8_word 170 = .ok (.isub, 1) := by decide +kernel
theorem dX8_word_171 : decode cX8_word 171 = .ok (.bipush 6, 2) := by decide +kernel
theorem dX8_word_173 : decode cX8_word 173 = .ok (.if_icmp .ne 49, 3) := by decide +kernel
theorem dX8_word_176 : decode cX8_word 176 = .ok (.aload_n 0, 1) := by decide +kernel
theorem dX8_word_177 : decode cX8_word 177 = .ok (.iload_n 1, 1) := by decide +kernel
theorem dX8_word_178 : decode cX8_word 178 = .ok (.bipush 115, 2) := by decide +kernel
theorem dX8_word_180 : decode cX8_word 180 = .ok (.bipush 108, 2) := by decide +kernel
theorem dX8_word_182 : decode cX8_word 182 = .ok (.bipush 117, 2) := by decide +kernel
theorem dX8_word_184 : decode cX8_word 184 = .ok (.bipush 105, 2) := by decide +kernel
theorem dX8_word_186 : decode cX8_word 186 = .ok (.invokevirtual 183, 3) := by decide +kernel
theorem dX8_word_189 : decode cX8_word 189 = .ok (.ifCond .eq 33, 3) := by decide +kernel
theorem dX8_word_192 : decode cX8_word 192 = .ok (.aload_n 0, 1) := by decide +kernel
theorem dX8_word_193 : decode cX8_word 193 = .ok (.getfield 26, 3) := by decide +kernel
theorem dX8_word_196 : decode cX8_word 196 = .ok (.iload_n 1, 1) := by decide +kernel
theorem dX8_word_197 : decode cX8_word 197 = .ok (.iconst 4, 1) := by decide +kernel
theorem dX8_word_198 : decode cX8_word 198 = .ok (.iadd, 1) := by decide +kernel
theorem dX8_word_199 : decode cX8_word 199 = .ok (.caload, 1) := by decide +kernel
theorem dX8_word_200 : decode cX8_word 200 = .ok (.bipush 99, 2) := by decide +kernel
theorem dX8_word_202 : decode cX8_word 202 = .ok (.if_icmp .ne 20, 3) := by decide +kernel
theorem dX8_word_205 : decode cX8_word 205 = .ok (.aload_n 0, 1) := by decide +kernel
theorem dX8_word_206 : decode cX8_word 206 = .ok (.getfield 26, 3) := by decide +kernel
theorem dX8_word_209 : decode cX8_word 209 = .ok (.iload_n 1, 1) := by decide +kernel
theorem dX8_word_210 : decode cX8_word 210 = .ok (.iconst 5, 1) := by decide +kernel
theorem dX8_word_211 : decode cX8_word 211 = .ok (.iadd, 1) := by decide +kernel
theorem dX8_word_212 : decode cX8_word 212 = .ok (.caload, 1) := by decide +kernel
theorem dX8_word_213 : decode cX8_word 213 = .ok (.bipush 101, 2) := by decide +kernel
theorem dX8_word_215 : decode cX8_word 215 = .ok (.if_icmp .ne 7, 3) := by decide +kernel
theorem dX8_word_218 : decode cX8_word 218 = .ok (.iconst 0, 1) := by decide +kernel
theorem dX8_word_219 : decode cX8_word 219 = .ok (.goto 5, 3) := by decide +kernel
theorem dX8_word_222 : decode cX8_word 222 = .ok (.ldc 48, 2) := by decide +kernel
theorem dX8_word_224 : decode cX8_word 224 = .ok (.ireturn, 1) := by decide +kernel
theorem dX8_fail_0 : decode cX8_fail 0 = .ok (.aload_n 0, 1) := by decide +kernel
theorem dX8_fail_1 : decode cX8_fail 1 = .ok (.aload_n 0, 1) := by decide +kernel
theorem dX8_fail_2 : decode cX8_fail 2 = .ok (.getfield 187, 3) := by decide +kernel
theorem dX8_fail_5 : decode cX8_fail 5 = .ok (.ifCond .ge 7, 3) := by decide +kernel
theorem dX8_fail_8 : decode cX8_fail 8 = .ok (.iload_n 1, 1) := by decide +kernel
theorem dX8_fail_9 : decode cX8_fail 9 = .ok (.goto 7, 3) := by decide +kernel
theorem dX8_fail_12 : decode cX8_fail 12 = .ok (.aload_n 0, 1) := by decide +kernel
theorem dX8_fail_13 : decode cX8_fail 13 = .ok (.getfield 187, 3) := by decide +kernel
theorem dX8_fail_16 : decode cX8_fail 16 = .ok (.putfield 187, 3) := by decide +kernel
theorem dX8_fail_19 : decode cX8_fail 19 = .ok (.return_, 1) := by decide +kernel
theorem dX8_number_0 : decode cX8_number 0 = .ok (.aload_n 0, 1) := by decide +kernel
theorem dX8_number_1 : decode cX8_number 1 = .ok (.getfield 187, 3) := by decide +kernel
theorem dX8_number_4 : decode cX8_number 4 = .ok (.ifCond .lt 5, 3) := by decide +kernel
theorem dX8_number_7 : decode cX8_number 7 = .ok (.iconst 0, 1) := by decide +kernel
theorem dX8_number_8 : decode cX8_number 8 = .ok (.ireturn, 1) := by decide +kernel
theorem dX8_number_9 : decode cX8_number 9 = .ok (.aload_n 0, 1) := by decide +kernel
theorem dX8_number_10 : decode cX8_number 10 = .ok (.getfield 190, 3) := by decide +kernel
theorem dX8_number_13 : decode cX8_number 13 = .ok (.aload_n 0, 1) := by decide +kernel
theorem dX8_number_14 : decode cX8_number 14 = .ok (.getfield 180, 3) := by decide +kernel
theorem dX8_number_17 : decode cX8_number 17 = .ok (.if_icmp .ge 17, 3) := by decide +kernel
theorem dX8_number_20 : decode cX8_number 20 = .ok (.aload_n 0, 1) := by decide +kernel
theorem dX8_number_21 : decode cX8_number 21 = .ok (.getfield 26, 3) := by decide +kernel
theorem dX8_number_24 : decode cX8_number 24 = .ok (.aload_n 0, 1) := by decide +kernel
theorem dX8_number_25 : decode cX8_number 25 = .ok (.getfield 190, 3) := by decide +kernel
theorem dX8_number_28 : decode cX8_number 28 = .ok (.caload, 1) := by decide +kernel
theorem dX8_number_29 : decode cX8_number 29 = .ok (.bipush 32, 2) := by decide +kernel
theorem dX8_number_31 : decode cX8_number 31 = .ok (.if_icmp .eq 13, 3) := by decide +kernel
theorem dX8_number_34 : decode cX8_number 34 = .ok (.aload_n 0, 1) := by decide +kernel
theorem dX8_number_35 : decode cX8_number 35 = .ok (.aload_n 0, 1) := by decide +kernel
theorem dX8_number_36 : decode cX8_number 36 = .ok (.getfield 190, 3) := by decide +kernel
theorem dX8_number_39 : decode cX8_number 39 = .ok (.invokevirtual 193, 3) := by decide +kernel
theorem dX8_number_42 : decode cX8_number 42 = .ok (.iconst 0, 1) := by decide +kernel
theorem dX8_number_43 : decode cX8_number 43 = .ok (.ireturn, 1) := by decide +kernel
theorem dX8_number_44 : decode cX8_number 44 = .ok (.aload_n 0, 1) := by decide +kernel
theorem dX8_number_45 : decode cX8_number 45 = .ok (.getfield 190, 3) := by decide +kernel
theorem dX8_number_48 : decode cX8_number 48 = .ok (.iconst 1, 1) := by decide +kernel
theorem dX8_number_49 : decode cX8_number 49 = .ok (.iadd, 1) := by decide +kernel
theorem dX8_number_50 : decode cX8_number 50 = .ok (.istore_n 3, 1) := by decide +kernel
theorem dX8_number_51 : decode cX8_number 51 = .ok (.aload_n 0, 1) := by decide +kernel
theorem dX8_number_52 : decode cX8_number 52 = .ok (.iload_n 3, 1) := by decide +kernel
theorem dX8_number_53 : decode cX8_number 53 = .ok (.invokevirtual 197, 3) := by decide +kernel
theorem dX8_number_56 : decode cX8_number 56 = .ok (.istore 4, 2) := by decide +kernel
theorem dX8_number_58 : decode cX8_number 58 = .ok (.iload 4, 2) := by decide +kernel
theorem dX8_number_60 : decode cX8_number 60 = .ok (.iload_n 3, 1) := by decide +kernel
theorem dX8_number_61 : decode cX8_number 61 = .ok (.isub, 1) := by decide +kernel
theorem dX8_number_62 : decode cX8_number 62 = .ok (.iconst 1, 1) := by decide +kernel
theorem dX8_number_63 : decode cX8_number 63 = .ok (.iconst 3, 1) := by decide +kernel
theorem dX8_number_64 : decode cX8_number 64 = .ok (.invokestatic 49, 3) := by decide +kernel
theorem dX8_number_67 : decode cX8_number 67 = .ok (.istore 5, 2) := by decide +kernel
theorem dX8_number_69 : decode cX8_number 69 = .ok (.iconst 0, 1) := by decide +kernel
theorem dX8_number_70 : decode cX8_number 70 = .ok (.istore 6, 2) := by decide +kernel
theorem dX8_number_72 : decode cX8_number 72 = .ok (.iload_n 3, 1) := by decide +kernel
theorem dX8_number_73 : decode cX8_number 73 = .ok (.istore 7, 2) := by decide +kernel
theorem dX8_number_75 : decode cX8_number 75 = .ok (.iload 7, 2) := by decide +kernel
theorem dX8_number_77 : decode cX8_number 77 = .ok (.iload 4, 2) := by decide +kernel
theorem dX8_number_79 : decode cX8_number 79 = .ok (.if_icmp .ge 63, 3) := by decide +kernel
theorem dX8_number_82 : decode cX8_number 82 = .ok (.iload 5, 2) := by decide +kernel
theorem dX8_number_84 : decode cX8_number 84 = .ok (.ifCond .eq 58, 3) := by decide +kernel
theorem dX8_number_87 : decode cX8_number 87 = .ok (.aload_n 0, 1) := by decide +kernel
theorem dX8_number_88 : decode cX8_number 88 = .ok (.getfield 26, 3) := by decide +kernel
theorem dX8_number_91 : decode cX8_number 91 = .ok (.iload 7, 2) := by decide +kernel
theorem dX8_number_93 : decode cX8_number 93 = .ok (.caload, 1) := by decide +kernel
theorem dX8_number_94 : decode cX8_number 94 = .ok (.bipush 48, 2) := by decide +kernel
theorem dX8_number_96 : decode cX8_number 96 = .ok (.if_icmp .lt 19, 3) := by decide +kernel
theorem dX8_number_99 : decode cX8_number 99 = .ok (.aload_n 0, 1) := by decide +kernel
theorem dX8_number_100 : decode cX8_number 100 = .ok (.getfield 26, 3) := by decide +kernel
theorem dX8_number_103 : decode cX8_number 103 = .ok (.iload 7, 2) := by decide +kernel
theorem dX8_number_105 : decode cX8_number 105 = .ok (.caload, 1) := by decide +kernel
theorem dX8_number_106 : decode cX8_number 106 = .ok (.bipush 57, 2) := by decide +kernel
theorem dX8_number_108 : decode cX8_number 108 = .ok (.if_icmp .gt 7, 3) := by decide +kernel
theorem dX8_number_111 : decode cX8_number 111 = .ok (.iconst 1, 1) := by decide +kernel
theorem dX8_number_112 : decode cX8_number 112 = .ok (.goto 4, 3) := by decide +kernel
theorem dX8_number_115 : decode cX8_number 115 = .ok (.iconst 0, 1) := by decide +kernel
theorem dX8_number_116 : decode cX8_number 116 = .ok (.istore 5, 2) := by decide +kernel
theorem dX8_number_118 : decode cX8_number 118 = .ok (.bipush 10, 2) := by decide +kernel
theorem dX8_number_120 : decode cX8_number 120 = .ok (.iload 6, 2) := by decide +kernel
theorem dX8_number_122 : decode cX8_number 122 = .ok (.imul, 1) := by decide +kernel
theorem dX8_number_123 : decode cX8_number 123 = .ok (.aload_n 0, 1) := by decide +kernel
theorem dX8_number_124 : decode cX8_number 124 = .ok (.getfield 26, 3) := by decide +kernel
theorem dX8_number_127 : decode cX8_number 127 = .ok (.iload 7, 2) := by decide +kernel
theorem dX8_number_129 : decode cX8_number 129 = .ok (.caload, 1) := by decide +kernel
theorem dX8_number_130 : decode cX8_number 130 = .ok (.iadd, 1) := by decide +kernel
theorem dX8_number_131 : decode cX8_number 131 = .ok (.bipush 48, 2) := by decide +kernel
theorem dX8_number_133 : decode cX8_number 133 = .ok (.isub, 1) := by decide +kernel
theorem dX8_number_134 : decode cX8_number 134 = .ok (.istore 6, 2) := by decide +kernel
theorem dX8_number_136 : decode cX8_number 136 = .ok (.iinc 7 1, 3) := by decide +kernel
theorem dX8_number_139 : decode cX8_number 139 = .ok (.goto (-64), 3) := by decide +kernel
theorem dX8_number_142 : decode cX8_number 142 = .ok (.iload 5, 2) := by decide +kernel
theorem dX8_number_144 : decode cX8_number 144 = .ok (.ifCond .eq 13, 3) := by decide +kernel
theorem dX8_number_147 : decode cX8_number 147 = .ok (.iload 6, 2) := by decide +kernel
theorem dX8_number_149 : decode cX8_number 149 = .ok (.iload_n 1, 1) := by decide +kernel
theorem dX8_number_150 : decode cX8_number 150 = .ok (.iload_n 2, 1) := by decide +kernel
theorem dX8_number_151 : decode cX8_number 151 = .ok (.invokestatic 49, 3) := by decide +kernel
theorem dX8_number_154 : decode cX8_number 154 = .ok (.ifCond .ne 8, 3) := by decide +kernel
theorem dX8_number_157 : decode cX8_number 157 = .ok (.aload_n 0, 1) := by decide +kernel
theorem dX8_number_158 : decode cX8_number 158 = .ok (.iload_n 3, 1) := by decide +kernel
theorem dX8_number_159 : decode cX8_number 159 = .ok (.invokevirtual 193, 3) := by decide +kernel
theorem dX8_number_162 : decode cX8_number 162 = .ok (.aload_n 0, 1) := by decide +kernel
theorem dX8_number_163 : decode cX8_number 163 = .ok (.iload 4, 2) := by decide +kernel
theorem dX8_number_165 : decode cX8_number 165 = .ok (.putfield 190, 3) := by decide +kernel
theorem dX8_number_168 : decode cX8_number 168 = .ok (.iload 6, 2) := by decide +kernel
theorem dX8_number_170 : decode cX8_number 170 = .ok (.ireturn, 1) := by decide +kernel
theorem dX8_readOrder_0 : decode cX8_readOrder 0 = .ok (.aload_n 0, 1) := by decide +kernel
theorem dX8_readOrder_1 : decode cX8_readOrder 1 = .ok (.aload_n 0, 1) := by decide +kernel
theorem dX8_readOrder_2 : decode cX8_readOrder 2 = .ok (.getfield 190, 3) := by decide +kernel
theorem dX8_readOrder_5 : decode cX8_readOrder 5 = .ok (.invokevirtual 197, 3) := by decide +kernel
theorem dX8_readOrder_8 : decode cX8_readOrder 8 = .ok (.istore_n 1, 1) := by decide +kernel
theorem dX8_readOrder_9 : decode cX8_readOrder 9 = .ok (.aload_n 0, 1) := by decide +kernel
theorem dX8_readOrder_10 : decode cX8_readOrder 10 = .ok (.aload_n 0, 1) := by decide +kernel
theorem dX8_readOrder_11 : decode cX8_readOrder 11 = .ok (.getfield 190, 3) := by decide +kernel
theorem dX8_readOrder_14 : decode cX8_readOrder 14 = .ok (.iload_n 1, 1) := by decide +kernel
theorem dX8_readOrder_15 : decode cX8_readOrder 15 = .ok (.invokevirtual 200, 3) := by decide +kernel
theorem dX8_readOrder_18 : decode cX8_readOrder 18 = .ok (.istore_n 2, 1) := by decide +kernel
theorem dX8_readOrder_19 : decode cX8_readOrder 19 = .ok (.iload_n 2, 1) := by decide +kernel
theorem dX8_readOrder_20 : decode cX8_readOrder 20 = .ok (.ifCond .ge 11, 3) := by decide +kernel
theorem dX8_readOrder_23 : decode cX8_readOrder 23 = .ok (.aload_n 0, 1) := by decide +kernel
theorem dX8_readOrder_24 : decode cX8_readOrder 24 = .ok (.aload_n 0, 1) := by decide +kernel
theorem dX8_readOrder_25 : decode cX8_readOrder 25 = .ok (.getfield 190, 3) := by decide +kernel
theorem dX8_readOrder_28 : decode cX8_readOrder 28 = .ok (.invokevirtual 193, 3) := by decide +kernel
theorem dX8_readOrder_31 : decode cX8_readOrder 31 = .ok (.aload_n 0, 1) := by decide +kernel
theorem dX8_readOrder_32 : decode cX8_readOrder 32 = .ok (.iload_n 1, 1) := by decide +kernel
theorem dX8_readOrder_33 : decode cX8_readOrder 33 = .ok (.putfield 190, 3) := by decide +kernel
theorem dX8_readOrder_36 : decode cX8_readOrder 36 = .ok (.iconst 3, 1) := by decide +kernel
theorem dX8_readOrder_37 : decode cX8_readOrder 37 = .ok (.aload_n 0, 1) := by decide +kernel
theorem dX8_readOrder_38 : decode cX8_readOrder 38 = .ok (.getfield 203, 3) := by decide +kernel
theorem dX8_readOrder_41 : decode cX8_readOrder 41 = .ok (.imul, 1) := by decide +kernel
theorem dX8_readOrder_42 : decode cX8_readOrder 42 = .ok (.istore_n 3, 1) := by decide +kernel
theorem dX8_readOrder_43 : decode cX8_readOrder 43 = .ok (.aload_n 0, 1) := by decide +kernel
theorem dX8_readOrder_44 : decode cX8_readOrder 44 = .ok (.getfield 30, 3) := by decide +kernel
theorem dX8_readOrder_47 : decode cX8_readOrder 47 = .ok (.iload_n 3, 1) := by decide +kernel
theorem dX8_readOrder_48 : decode cX8_readOrder 48 = .ok (.iload_n 2, 1) := by decide +kernel
theorem dX8_readOrder_49 : decode cX8_readOrder 49 = .ok (.iastore, 1) := by decide +kernel
theorem dX8_readOrder_50 : decode cX8_readOrder 50 = .ok (.aload_n 0, 1) := by decide +kernel
theorem dX8_readOrder_51 : decode cX8_readOrder 51 = .ok (.getfield 30, 3) := by decide +kernel
theorem dX8_readOrder_54 : decode cX8_readOrder 54 = .ok (.iload_n 3, 1) := by decide +kernel
theorem dX8_readOrder_55 : decode cX8_readOrder 55 = .ok (.iconst 1, 1) := by decide +kernel
theorem dX8_readOrder_56 : decode cX8_readOrder 56 = .ok (.iadd, 1) := by decide +kernel
theorem dX8_readOrder_57 : decode cX8_readOrder 57 = .ok (.aload_n 0, 1) := by decide +kernel
theorem dX8_readOrder_58 : decode cX8_readOrder 58 = .ok (.iconst 0, 1) := by decide +kernel
theorem dX8_readOrder_59 : decode cX8_readOrder 59 = .ok (.iload_n 2, 1) := by decide +kernel
theorem dX8_readOrder_60 : decode cX8_readOrder 60 = .ok (.iconst 3, 1) := by decide +kernel
theorem dX8_readOrder_61 : decode cX8_readOrder 61 = .ok (.if_icmp .eq 8, 3) := by decide +kernel
theorem dX8_readOrder_64 : decode cX8_readOrder 64 = .ok (.iload_n 2, 1) := by decide +kernel
theorem dX8_readOrder_65 : decode cX8_readOrder 65 = .ok (.iconst 4, 1) := by decide +kernel
theorem dX8_readOrder_66 : decode cX8_readOrder 66 = .ok (.if_icmp .le 8, 3) := by decide +kernel
theorem dX8_readOrder_69 : decode cX8_readOrder 69 = .ok (.bipush 11, 2) := by decide +kernel
theorem dX8_readOrder_71 : decode cX8_readOrder 71 = .ok (.goto 4, 3) := by decide +kernel
theorem dX8_readOrder_74 : decode cX8_readOrder 74 = .ok (.iconst 3, 1) := by decide +kernel
theorem dX8_readOrder_75 : decode cX8_readOrder 75 = .ok (.invokevirtual 206, 3) := by decide +kernel
theorem dX8_readOrder_78 : decode cX8_readOrder 78 = .ok (.iastore, 1) := by decide +kernel
theorem dX8_readOrder_79 : decode cX8_readOrder 79 = .ok (.aload_n 0, 1) := by decide +kernel
theorem dX8_readOrder_80 : decode cX8_readOrder 80 = .ok (.getfield 30, 3) := by decide +kernel
theorem dX8_readOrder_83 : decode cX8_readOrder 83 = .ok (.iload_n 3, 1) := by decide +kernel
theorem dX8_readOrder_84 : decode cX8_readOrder 84 = .ok (.iconst 2, 1) := by decide +kernel
theorem dX8_readOrder_85 : decode cX8_readOrder 85 = .ok (.iadd, 1) := by decide +kernel
theorem dX8_readOrder_86 : decode cX8_readOrder 86 = .ok (.iload_n 2, 1) := by decide +kernel
theorem dX8_readOrder_87 : decode cX8_readOrder 87 = .ok (.iconst 2, 1) := by decide +kernel
theorem dX8_readOrder_88 : decode cX8_readOrder 88 = .ok (.if_icmp .ne 7, 3) := by decide +kernel
theorem dX8_readOrder_91 : decode cX8_readOrder 91 = .ok (.iconst 0, 1) := by decide +kernel
theorem dX8_readOrder_92 : decode cX8_readOrder 92 = .ok (.goto 39, 3) := by decide +kernel
theorem dX8_readOrder_95 : decode cX8_readOrder 95 = .ok (.iload_n 2, 1) := by decide +kernel
theorem dX8_readOrder_96 : decode cX8_readOrder 96 = .ok (.iconst 3, 1) := by decide +kernel
theorem dX8_readOrder_97 : decode cX8_readOrder 97 = .ok (.if_icmp .ne 12, 3) := by decide +kernel
theorem dX8_readOrder_100 : decode cX8_readOrder 100 = .ok (.aload_n 0, 1) := by decide +kernel
theorem dX8_readOrder_101 : decode cX8_readOrder 101 = .ok (.iconst 0, 1) := by decide +kernel
theorem dX8_readOrder_102 : decode cX8_readOrder 102 = .ok (.iconst 3, 1) := by decide +kernel
theorem dX8_readOrder_103 : decode cX8_readOrder 103 = .ok (.invokevirtual 206, 3) := by decide +kernel
theorem dX8_readOrder_106 : decode cX8_readOrder 106 = .ok (.goto 25, 3) := by decide +kernel
theorem dX8_readOrder_109 : decode cX8_readOrder 109 = .ok (.iload_n 2, 1) := by decide +kernel
theorem dX8_readOrder_110 : decode cX8_readOrder 110 = .ok (.iconst 4, 1) := by decide +kernel
theorem dX8_readOrder_111 : decode cX8_readOrder 111 = .ok (.if_icmp .le 14, 3) := by decide +kernel
theorem dX8_readOrder_114 : decode cX8_readOrder 114 = .ok (.aload_n 0, 1) := by decide +kernel
theorem dX8_readOrder_115 : decode cX8_readOrder 115 = .ok (.iconst 1, 1) := by decide +kernel
theorem dX8_readOrder_116 : decode cX8_readOrder 116 = .ok (.sipush 999, 3) := by decide +kernel
theorem dX8_readOrder_119 : decode cX8_readOrder 119 = .ok (.invokevirtual 206, 3) := by decide +kernel
theorem dX8_readOrder_122 : decode cX8_readOrder 122 = .ok (.goto 9, 3) := by decide +kernel
theorem dX8_readOrder_125 : decode cX8_readOrder 125 = .ok (.aload_n 0, 1) := by decide +kernel
theorem dX8_readOrder_126 : decode cX8_readOrder 126 = .ok (.iconst 0, 1) := by decide +kernel
theorem dX8_readOrder_127 : decode cX8_readOrder 127 = .ok (.iconst 1, 1) := by decide +kernel
theorem dX8_readOrder_128 : decode cX8_readOrder 128 = .ok (.invokevirtual 206, 3) := by decide +kernel
theorem dX8_readOrder_131 : decode cX8_readOrder 131 = .ok (.iastore, 1) := by decide +kernel
theorem dX8_readOrder_132 : decode cX8_readOrder 132 = .ok (.aload_n 0, 1) := by decide +kernel
theorem dX8_readOrder_133 : decode cX8_readOrder 133 = .ok (.getfield 190, 3) := by decide +kernel
theorem dX8_readOrder_136 : decode cX8_readOrder 136 = .ok (.aload_n 0, 1) := by decide +kernel
theorem dX8_readOrder_137 : decode cX8_readOrder 137 = .ok (.getfield 180, 3) := by decide +kernel
theorem dX8_readOrder_140 : decode cX8_readOrder 140 = .ok (.if_icmp .ge 25, 3) := by decide +kernel
theorem dX8_readOrder_143 : decode cX8_readOrder 143 = .ok (.aload_n 0, 1) := by decide +kernel
theorem dX8_readOrder_144 : decode cX8_readOrder 144 = .ok (.getfield 26, 3) := by decide +kernel
theorem dX8_readOrder_147 : decode cX8_readOrder 147 = .ok (.aload_n 0, 1) := by decide +kernel
theorem dX8_readOrder_148 : decode cX8_readOrder 148 = .ok (.getfield 190, 3) := by decide +kernel
theorem dX8_readOrder_151 : decode cX8_readOrder 151 = .ok (.caload, 1) := by decide +kernel
theorem dX8_readOrder_152 : decode cX8_readOrder 152 = .ok (.bipush 59, 2) := by decide +kernel
theorem dX8_readOrder_154 : decode cX8_readOrder 154 = .ok (.if_icmp .eq 11, 3) := by decide +kernel
theorem dX8_readOrder_157 : decode cX8_readOrder 157 = .ok (.aload_n 0, 1) := by decide +kernel
theorem dX8_readOrder_158 : decode cX8_readOrder 158 = .ok (.aload_n 0, 1) := by decide +kernel
theorem dX8_readOrder_159 : decode cX8_readOrder 159 = .ok (.getfield 190, 3) := by decide +kernel
theorem dX8_readOrder_162 : decode cX8_readOrder 162 = .ok (.invokevirtual 193, 3) := by decide +kernel
theorem dX8_readOrder_165 : decode cX8_readOrder 165 = .ok (.aload_n 0, 1) := by decide +kernel
theorem dX8_readOrder_166 : decode cX8_readOrder 166 = .ok (.dup, 1) := by decide +kernel
theorem dX8_readOrder_167 : decode cX8_readOrder 167 = .ok (.getfield 203, 3) := by decide +kernel
theorem dX8_readOrder_170 : decode cX8_readOrder 170 = .ok (.iconst 1, 1) := by decide +kernel
theorem dX8_readOrder_171 : decode cX8_readOrder 171 = .ok (.iadd, 1) := by decide +kernel
theorem dX8_readOrder_172 : decode cX8_readOrder 172 = .ok (.putfield 203, 3) := by decide +kernel
theorem dX8_readOrder_175 : decode cX8_readOrder 175 = .ok (.return_, 1) := by decide +kernel
theorem dX8_carryOut_0 : decode cX8_carryOut 0 = .ok (.aload_n 0, 1) := by decide +kernel
theorem dX8_carryOut_1 : decode cX8_carryOut 1 = .ok (.getfield 30, 3) := by decide +kernel
theorem dX8_carryOut_4 : decode cX8_carryOut 4 = .ok (.iload_n 1, 1) := by decide +kernel
theorem dX8_carryOut_5 : decode cX8_carryOut 5 = .ok (.iconst 1, 1) := by decide +kernel
theorem dX8_carryOut_6 : decode cX8_carryOut 6 = .ok (.iadd, 1) := by decide +kernel
theorem dX8_carryOut_7 : decode cX8_carryOut 7 = .ok (.iaload, 1) := by decide +kernel
theorem dX8_carryOut_8 : decode cX8_carryOut 8 = .ok (.istore_n 2, 1) := by decide +kernel
theorem dX8_carryOut_9 : decode cX8_carryOut 9 = .ok (.aload_n 0, 1) := by decide +kernel
theorem dX8_carryOut_10 : decode cX8_carryOut 10 = .ok (.getfield 30, 3) := by decide +kernel
theorem dX8_carryOut_13 : decode cX8_carryOut 13 = .ok (.iload_n 1, 1) := by decide +kernel
theorem dX8_carryOut_14 : decode cX8_carryOut 14 = .ok (.iconst 2, 1) := by decide +kernel
theorem dX8_carryOut_15 : decode cX8_carryOut 15 = .ok (.iadd, 1) := by decide +kernel
theorem dX8_carryOut_16 : decode cX8_carryOut 16 = .ok (.iaload, 1) := by decide +kernel
theorem dX8_carryOut_17 : decode cX8_carryOut 17 = .ok (.istore_n 3, 1) := by decide +kernel
theorem dX8_carryOut_18 : decode cX8_carryOut 18 = .ok (.aload_n 0, 1) := by decide +kernel
theorem dX8_carryOut_19 : decode cX8_carryOut 19 = .ok (.getfield 30, 3) := by decide +kernel
theorem dX8_carryOut_22 : decode cX8_carryOut 22 = .ok (.iload_n 1, 1) := by decide +kernel
theorem dX8_carryOut_23 : decode cX8_carryOut 23 = .ok (.iaload, 1) := by decide +kernel
theorem dX8_carryOut_24 : decode cX8_carryOut 24 = .ok (.tableswitch 81 0 5 #[40, 47, 54, 60, 67, 74], 40) := by decide +kernel
theorem dX8_carryOut_64 : decode cX8_carryOut 64 = .ok (.aload_n 0, 1) := by decide +kernel
theorem dX8_carryOut_65 : decode cX8_carryOut 65 = .ok (.iload_n 2, 1) := by decide +kernel
theorem dX8_carryOut_66 : decode cX8_carryOut 66 = .ok (.iload_n 3, 1) := by decide +kernel
theorem dX8_carryOut_67 : decode cX8_carryOut 67 = .ok (.invokevirtual 147, 3) := by decide +kernel
theorem dX8_carryOut_70 : decode cX8_carryOut 70 = .ok (.ireturn, 1) := by decide +kernel
theorem dX8_carryOut_71 : decode cX8_carryOut 71 = .ok (.aload_n 0, 1) := by decide +kernel
theorem dX8_carryOut_72 : decode cX8_carryOut 72 = .ok (.iload_n 2, 1) := by decide +kernel
theorem dX8_carryOut_73 : decode cX8_carryOut 73 = .ok (.iload_n 3, 1) := by decide +kernel
theorem dX8_carryOut_74 : decode cX8_carryOut 74 = .ok (.invokevirtual 153, 3) := by decide +kernel
theorem dX8_carryOut_77 : decode cX8_carryOut 77 = .ok (.ireturn, 1) := by decide +kernel
theorem dX8_carryOut_78 : decode cX8_carryOut 78 = .ok (.aload_n 0, 1) := by decide +kernel
theorem dX8_carryOut_79 : decode cX8_carryOut 79 = .ok (.iload_n 2, 1) := by decide +kernel
theorem dX8_carryOut_80 : decode cX8_carryOut 80 = .ok (.invokevirtual 156, 3) := by decide +kernel
theorem dX8_carryOut_83 : decode cX8_carryOut 83 = .ok (.ireturn, 1) := by decide +kernel
theorem dX8_carryOut_84 : decode cX8_carryOut 84 = .ok (.aload_n 0, 1) := by decide +kernel
theorem dX8_carryOut_85 : decode cX8_carryOut 85 = .ok (.iload_n 2, 1) := by decide +kernel
theorem dX8_carryOut_86 : decode cX8_carryOut 86 = .ok (.iload_n 3, 1) := by decide +kernel
theorem dX8_carryOut_87 : decode cX8_carryOut 87 = .ok (.invokevirtual 174, 3) := by decide +kernel
theorem dX8_carryOut_90 : decode cX8_carryOut 90 = .ok (.ireturn, 1) := by decide +kernel
theorem dX8_carryOut_91 : decode cX8_carryOut 91 = .ok (.aload_n 0, 1) := by decide +kernel
theorem dX8_carryOut_92 : decode cX8_carryOut 92 = .ok (.iload_n 2, 1) := by decide +kernel
theorem dX8_carryOut_93 : decode cX8_carryOut 93 = .ok (.iload_n 3, 1) := by decide +kernel
theorem dX8_carryOut_94 : decode cX8_carryOut 94 = .ok (.invokevirtual 177, 3) := by decide +kernel
theorem dX8_carryOut_97 : decode cX8_carryOut 97 = .ok (.ireturn, 1) := by decide +kernel
theorem dX8_carryOut_98 : decode cX8_carryOut 98 = .ok (.aload_n 0, 1) := by decide +kernel
theorem dX8_carryOut_99 : decode cX8_carryOut 99 = .ok (.iload_n 2, 1) := by decide +kernel
theorem dX8_carryOut_100 : decode cX8_carryOut 100 = .ok (.iload_n 3, 1) := by decide +kernel
theorem dX8_carryOut_101 : decode cX8_carryOut 101 = .ok (.invokevirtual 141, 3) := by decide +kernel
theorem dX8_carryOut_104 : decode cX8_carryOut 104 = .ok (.ireturn, 1) := by decide +kernel
theorem dX8_carryOut_105 : decode cX8_carryOut 105 = .ok (.aload_n 0, 1) := by decide +kernel
theorem dX8_carryOut_106 : decode cX8_carryOut 106 = .ok (.iload_n 2, 1) := by decide +kernel
theorem dX8_carryOut_107 : decode cX8_carryOut 107 = .ok (.iload_n 3, 1) := by decide +kernel
theorem dX8_carryOut_108 : decode cX8_carryOut 108 = .ok (.invokevirtual 144, 3) := by decide +kernel
theorem dX8_carryOut_111 : decode cX8_carryOut 111 = .ok (.ireturn, 1) := by decide +kernel
theorem dX8_runOrders_0 : decode cX8_runOrders 0 = .ok (.aload_n 0, 1) := by decide +kernel
theorem dX8_runOrders_1 : decode cX8_runOrders 1 = .ok (.iconst 0, 1) := by decide +kernel
theorem dX8_runOrders_2 : decode cX8_runOrders 2 = .ok (.putfield 190, 3) := by decide +kernel
theorem dX8_runOrders_5 : decode cX8_runOrders 5 = .ok (.aload_n 0, 1) := by decide +kernel
theorem dX8_runOrders_6 : decode cX8_runOrders 6 = .ok (.ldc 48, 2) := by decide +kernel
theorem dX8_runOrders_8 : decode cX8_runOrders 8 = .ok (.putfield 187, 3) := by decide +kernel
theorem dX8_runOrders_11 : decode cX8_runOrders 11 = .ok (.aload_n 0, 1) := by decide +kernel
theorem dX8_runOrders_12 : decode cX8_runOrders 12 = .ok (.iconst 0, 1) := by decide +kernel
theorem dX8_runOrders_13 : decode cX8_runOrders 13 = .ok (.putfield 203, 3) := by decide +kernel
theorem dX8_runOrders_16 : decode cX8_runOrders 16 = .ok (.aload_n 0, 1) := by decide +kernel
theorem dX8_runOrders_17 : decode cX8_runOrders 17 = .ok (.invokevirtual 209, 3) := by decide +kernel
theorem dX8_runOrders_20 : decode cX8_runOrders 20 = .ok (.aload_n 0, 1) := by decide +kernel
theorem dX8_runOrders_21 : decode cX8_runOrders 21 = .ok (.getfield 187, 3) := by decide +kernel
theorem dX8_runOrders_24 : decode cX8_runOrders 24 = .ok (.ifCond .ge 31, 3) := by decide +kernel
theorem dX8_runOrders_27 : decode cX8_runOrders 27 = .ok (.aload_n 0, 1) := by decide +kernel
theorem dX8_runOrders_28 : decode cX8_runOrders 28 = .ok (.getfield 190, 3) := by decide +kernel
theorem dX8_runOrders_31 : decode cX8_runOrders 31 = .ok (.aload_n 0, 1) := by decide +kernel
theorem dX8_runOrders_32 : decode cX8_runOrders 32 = .ok (.getfield 180, 3) := by decide +kernel
theorem dX8_runOrders_35 : decode cX8_runOrders 35 = .ok (.if_icmp .ge 20, 3) := by decide +kernel
theorem dX8_runOrders_38 : decode cX8_runOrders 38 = .ok (.aload_n 0, 1) := by decide +kernel
theorem dX8_runOrders_39 : decode cX8_runOrders 39 = .ok (.dup, 1) := by decide +kernel
theorem dX8_runOrders_40 : decode cX8_runOrders 40 = .ok (.getfield 190, 3) := by decide +kernel
theorem dX8_runOrders_43 : decode cX8_runOrders 43 = .ok (.iconst 1, 1) := by decide +kernel
theorem dX8_runOrders_44 : decode cX8_runOrders 44 = .ok (.iadd, 1) := by decide +kernel
theorem dX8_runOrders_45 : decode cX8_runOrders 45 = .ok (.putfield 190, 3) := by decide +kernel
theorem dX8_runOrders_48 : decode cX8_runOrders 48 = .ok (.aload_n 0, 1) := by decide +kernel
theorem dX8_runOrders_49 : decode cX8_runOrders 49 = .ok (.invokevirtual 209, 3) := by decide +kernel
theorem dX8_runOrders_52 : decode cX8_runOrders 52 = .ok (.goto (-32), 3) := by decide +kernel
theorem dX8_runOrders_55 : decode cX8_runOrders 55 = .ok (.aload_n 0, 1) := by decide +kernel
theorem dX8_runOrders_56 : decode cX8_runOrders 56 = .ok (.getfield 187, 3) := by decide +kernel
theorem dX8_runOrders_59 : decode cX8_runOrders 59 = .ok (.ifCond .lt 11, 3) := by decide +kernel
theorem dX8_runOrders_62 : decode cX8_runOrders 62 = .ok (.bipush (-100), 2) := by decide +kernel
theorem dX8_runOrders_64 : decode cX8_runOrders 64 = .ok (.aload_n 0, 1) := by decide +kernel
theorem dX8_runOrders_65 : decode cX8_runOrders 65 = .ok (.getfield 187, 3) := by decide +kernel
theorem dX8_runOrders_68 : decode cX8_runOrders 68 = .ok (.isub, 1) := by decide +kernel
theorem dX8_runOrders_69 : decode cX8_runOrders 69 = .ok (.ireturn, 1) := by decide +kernel
theorem dX8_runOrders_70 : decode cX8_runOrders 70 = .ok (.aload_n 0, 1) := by decide +kernel
theorem dX8_runOrders_71 : decode cX8_runOrders 71 = .ok (.invokevirtual 53, 3) := by decide +kernel
theorem dX8_runOrders_74 : decode cX8_runOrders 74 = .ok (.iconst 0, 1) := by decide +kernel
theorem dX8_runOrders_75 : decode cX8_runOrders 75 = .ok (.istore_n 1, 1) := by decide +kernel
theorem dX8_runOrders_76 : decode cX8_runOrders 76 = .ok (.iload_n 1, 1) := by decide +kernel
theorem dX8_runOrders_77 : decode cX8_runOrders 77 = .ok (.aload_n 0, 1) := by decide +kernel
theorem dX8_runOrders_78 : decode cX8_runOrders 78 = .ok (.getfield 203, 3) := by decide +kernel
theorem dX8_runOrders_81 : decode cX8_runOrders 81 = .ok (.if_icmp .ge 25, 3) := by decide +kernel
theorem dX8_runOrders_84 : decode cX8_runOrders 84 = .ok (.aload_n 0, 1) := by decide +kernel
theorem dX8_runOrders_85 : decode cX8_runOrders 85 = .ok (.iconst 3, 1) := by decide +kernel
theorem dX8_runOrders_86 : decode cX8_runOrders 86 = .ok (.iload_n 1, 1) := by decide +kernel
theorem dX8_runOrders_87 : decode cX8_runOrders 87 = .ok (.imul, 1) := by decide +kernel
theorem dX8_runOrders_88 : decode cX8_runOrders 88 = .ok (.invokevirtual 212, 3) := by decide +kernel
theorem dX8_runOrders_91 : decode cX8_runOrders 91 = .ok (.ldc 41, 2) := by decide +kernel
theorem dX8_runOrders_93 : decode cX8_runOrders 93 = .ok (.if_icmp .le 13, 3) := by decide +kernel
theorem dX8_runOrders_96 : decode cX8_runOrders 96 = .ok (.aload_n 0, 1) := by decide +kernel
theorem dX8_runOrders_97 : decode cX8_runOrders 97 = .ok (.invokevirtual 45, 3) := by decide +kernel
theorem dX8_runOrders_100 : decode cX8_runOrders 100 = .ok (.iinc 1 1, 3) := by decide +kernel
theorem dX8_runOrders_103 : decode cX8_runOrders 103 = .ok (.goto (-27), 3) := by decide +kernel
theorem dX8_runOrders_106 : decode cX8_runOrders 106 = .ok (.aload_n 0, 1) := by decide +kernel
theorem dX8_runOrders_107 : decode cX8_runOrders 107 = .ok (.iload_n 1, 1) := by decide +kernel
theorem dX8_runOrders_108 : decode cX8_runOrders 108 = .ok (.invokevirtual 110, 3) := by decide +kernel
theorem dX8_runOrders_111 : decode cX8_runOrders 111 = .ok (.ireturn, 1) := by decide +kernel
theorem dX8_water_0 : decode cX8_water 0 = .ok (.iload_n 1, 1) := by decide +kernel
theorem dX8_water_1 : decode cX8_water 1 = .ok (.invokestatic 68, 3) := by decide +kernel
theorem dX8_water_4 : decode cX8_water 4 = .ok (.istore_n 3, 1) := by decide +kernel
theorem dX8_water_5 : decode cX8_water 5 = .ok (.iload_n 2, 1) := by decide +kernel
theorem dX8_water_6 : decode cX8_water 6 = .ok (.tableswitch 70 0 4 #[34, 40, 49, 55, 61], 34) := by decide +kernel
theorem dX8_water_40 : decode cX8_water 40 = .ok (.aload_n 0, 1) := by decide +kernel
theorem dX8_water_41 : decode cX8_water 41 = .ok (.iload_n 1, 1) := by decide +kernel
theorem dX8_water_42 : decode cX8_water 42 = .ok (.invokevirtual 126, 3) := by decide +kernel
theorem dX8_water_45 : decode cX8_water 45 = .ok (.ireturn, 1) := by decide +kernel
theorem dX8_water_46 : decode cX8_water 46 = .ok (.aload_n 0, 1) := by decide +kernel
theorem dX8_water_47 : decode cX8_water 47 = .ok (.getfield 7, 3) := by decide +kernel
theorem dX8_water_50 : decode cX8_water 50 = .ok (.iload_n 3, 1) := by decide +kernel
theorem dX8_water_51 : decode cX8_water 51 = .ok (.iconst 2, 1) := by decide +kernel
theorem dX8_water_52 : decode cX8_water 52 = .ok (.iadd, 1) := by decide +kernel
theorem dX8_water_53 : decode cX8_water 53 = .ok (.iaload, 1) := by decide +kernel
theorem dX8_water_54 : decode cX8_water 54 = .ok (.ireturn, 1) := by decide +kernel
theorem dX8_water_55 : decode cX8_water 55 = .ok (.aload_n 0, 1) := by decide +kernel
theorem dX8_water_56 : decode cX8_water 56 = .ok (.iload_n 1, 1) := by decide +kernel
theorem dX8_water_57 : decode cX8_water 57 = .ok (.invokevirtual 71, 3) := by decide +kernel
theorem dX8_water_60 : decode cX8_water 60 = .ok (.ireturn, 1) := by decide +kernel
theorem dX8_water_61 : decode cX8_water 61 = .ok (.aload_n 0, 1) := by decide +kernel
theorem dX8_water_62 : decode cX8_water 62 = .ok (.iload_n 1, 1) := by decide +kernel
theorem dX8_water_63 : decode cX8_water 63 = .ok (.invokevirtual 215, 3) := by decide +kernel
theorem dX8_water_66 : decode cX8_water 66 = .ok (.ireturn, 1) := by decide +kernel
theorem dX8_water_67 : decode cX8_water 67 = .ok (.aload_n 0, 1) := by decide +kernel
theorem dX8_water_68 : decode cX8_water 68 = .ok (.getfield 7, 3) := by decide +kernel
theorem dX8_water_71 : decode cX8_water 71 = .ok (.iload_n 3, 1) := by decide +kernel
theorem dX8_water_72 : decode cX8_water 72 = .ok (.iconst 0, 1) := by decide +kernel
theorem dX8_water_73 : decode cX8_water 73 = .ok (.iadd, 1) := by decide +kernel
theorem dX8_water_74 : decode cX8_water 74 = .ok (.iaload, 1) := by decide +kernel
theorem dX8_water_75 : decode cX8_water 75 = .ok (.ireturn, 1) := by decide +kernel
theorem dX8_water_76 : decode cX8_water 76 = .ok (.aload_n 0, 1) := by decide +kernel
theorem dX8_water_77 : decode cX8_water 77 = .ok (.getfield 7, 3) := by decide +kernel
theorem dX8_water_80 : decode cX8_water 80 = .ok (.iload_n 3, 1) := by decide +kernel
theorem dX8_water_81 : decode cX8_water 81 = .ok (.iconst 1, 1) := by decide +kernel
theorem dX8_water_82 : decode cX8_water 82 = .ok (.iadd, 1) := by decide +kernel
theorem dX8_water_83 : decode cX8_water 83 = .ok (.iaload, 1) := by decide +kernel
theorem dX8_water_84 : decode cX8_water 84 = .ok (.ireturn, 1) := by decide +kernel
theorem dX8_reach_0 : decode cX8_reach 0 = .ok (.aload_n 0, 1) := by decide +kernel
theorem dX8_reach_1 : decode cX8_reach 1 = .ok (.iload_n 1, 1) := by decide +kernel
theorem dX8_reach_2 : decode cX8_reach 2 = .ok (.invokevirtual 117, 3) := by decide +kernel
theorem dX8_reach_5 : decode cX8_reach 5 = .ok (.ifCond .eq 6, 3) := by decide +kernel
theorem dX8_reach_8 : decode cX8_reach 8 = .ok (.ldc 41, 2) := by decide +kernel
theorem dX8_reach_10 : decode cX8_reach 10 = .ok (.ireturn, 1) := by decide +kernel
theorem dX8_reach_11 : decode cX8_reach 11 = .ok (.iload_n 2, 1) := by decide +kernel
theorem dX8_reach_12 : decode cX8_reach 12 = .ok (.iconst 0, 1) := by decide +kernel
theorem dX8_reach_13 : decode cX8_reach 13 = .ok (.iconst 5, 1) := by decide +kernel
theorem dX8_reach_14 : decode cX8_reach 14 = .ok (.invokestatic 49, 3) := by decide +kernel
theorem dX8_reach_17 : decode cX8_reach 17 = .ok (.ifCond .eq 12, 3) := by decide +kernel
theorem dX8_reach_20 : decode cX8_reach 20 = .ok (.aload_n 0, 1) := by decide +kernel
theorem dX8_reach_21 : decode cX8_reach 21 = .ok (.iload_n 1, 1) := by decide +kernel
theorem dX8_reach_22 : decode cX8_reach 22 = .ok (.iload_n 2, 1) := by decide +kernel
theorem dX8_reach_23 : decode cX8_reach 23 = .ok (.invokevirtual 218, 3) := by decide +kernel
theorem dX8_reach_26 : decode cX8_reach 26 = .ok (.goto 5, 3) := by decide +kernel
theorem dX8_reach_29 : decode cX8_reach 29 = .ok (.ldc 104, 2) := by decide +kernel
theorem dX8_reach_31 : decode cX8_reach 31 = .ok (.ireturn, 1) := by decide +kernel
theorem dX8_chamber_0 : decode cX8_chamber 0 = .ok (.aload_n 0, 1) := by decide +kernel
theorem dX8_chamber_1 : decode cX8_chamber 1 = .ok (.iload_n 1, 1) := by decide +kernel
theorem dX8_chamber_2 : decode cX8_chamber 2 = .ok (.invokevirtual 56, 3) := by decide +kernel
theorem dX8_chamber_5 : decode cX8_chamber 5 = .ok (.ifCond .eq 6, 3) := by decide +kernel
theorem dX8_chamber_8 : decode cX8_chamber 8 = .ok (.ldc 41, 2) := by decide +kernel
theorem dX8_chamber_10 : decode cX8_chamber 10 = .ok (.ireturn, 1) := by decide +kernel
theorem dX8_chamber_11 : decode cX8_chamber 11 = .ok (.iload_n 2, 1) := by decide +kernel
theorem dX8_chamber_12 : decode cX8_chamber 12 = .ok (.iconst 0, 1) := by decide +kernel
theorem dX8_chamber_13 : decode cX8_chamber 13 = .ok (.iconst 5, 1) := by decide +kernel
theorem dX8_chamber_14 : decode cX8_chamber 14 = .ok (.invokestatic 49, 3) := by decide +kernel
theorem dX8_chamber_17 : decode cX8_chamber 17 = .ok (.ifCond .eq 13, 3) := by decide +kernel
theorem dX8_chamber_20 : decode cX8_chamber 20 = .ok (.aload_n 0, 1) := by decide +kernel
theorem dX8_chamber_21 : decode cX8_chamber 21 = .ok (.bipush 100, 2) := by decide +kernel
theorem dX8_chamber_23 : decode cX8_chamber 23 = .ok (.iload_n 1, 1) := by decide +kernel
theorem dX8_chamber_24 : decode cX8_chamber 24 = .ok (.iadd, 1) := by decide +kernel
theorem dX8_chamber_25 : decode cX8_chamber 25 = .ok (.iload_n 2, 1) := by decide +kernel
theorem dX8_chamber_26 : decode cX8_chamber 26 = .ok (.invokevirtual 218, 3) := by decide +kernel
theorem dX8_chamber_29 : decode cX8_chamber 29 = .ok (.ireturn, 1) := by decide +kernel
theorem dX8_chamber_30 : decode cX8_chamber 30 = .ok (.iload_n 2, 1) := by decide +kernel
theorem dX8_chamber_31 : decode cX8_chamber 31 = .ok (.tableswitch 83 6 12 #[41, 48, 54, 60, 60, 70, 70], 41) := by decide +kernel
theorem dX8_chamber_72 : decode cX8_chamber 72 = .ok (.aload_n 0, 1) := by decide +kernel
theorem dX8_chamber_73 : decode cX8_chamber 73 = .ok (.iload_n 1, 1) := by decide +kernel
theorem dX8_chamber_74 : decode cX8_chamber 74 = .ok (.iconst 3, 1) := by decide +kernel
theorem dX8_chamber_75 : decode cX8_chamber 75 = .ok (.invokevirtual 89, 3) := by decide +kernel
theorem dX8_chamber_78 : decode cX8_chamber 78 = .ok (.ireturn, 1) := by decide +kernel
theorem dX8_chamber_79 : decode cX8_chamber 79 = .ok (.aload_n 0, 1) := by decide +kernel
theorem dX8_chamber_80 : decode cX8_chamber 80 = .ok (.iload_n 1, 1) := by decide +kernel
theorem dX8_chamber_81 : decode cX8_chamber 81 = .ok (.invokevirtual 165, 3) := by decide +kernel
theorem dX8_chamber_84 : decode cX8_chamber 84 = .ok (.ireturn, 1) := by decide +kernel
theorem dX8_chamber_85 : decode cX8_chamber 85 = .ok (.aload_n 0, 1) := by decide +kernel
theorem dX8_chamber_86 : decode cX8_chamber 86 = .ok (.iload_n 1, 1) := by decide +kernel
theorem dX8_chamber_87 : decode cX8_chamber 87 = .ok (.invokevirtual 92, 3) := by decide +kernel
theorem dX8_chamber_90 : decode cX8_chamber 90 = .ok (.ireturn, 1) := by decide +kernel
theorem dX8_chamber_91 : decode cX8_chamber 91 = .ok (.aload_n 0, 1) := by decide +kernel
theorem dX8_chamber_92 : decode cX8_chamber 92 = .ok (.iload_n 1, 1) := by decide +kernel
theorem dX8_chamber_93 : decode cX8_chamber 93 = .ok (.iload_n 2, 1) := by decide +kernel
theorem dX8_chamber_94 : decode cX8_chamber 94 = .ok (.bipush 9, 2) := by decide +kernel
theorem dX8_chamber_96 : decode cX8_chamber 96 = .ok (.isub, 1) := by decide +kernel
theorem dX8_chamber_97 : decode cX8_chamber 97 = .ok (.invokevirtual 159, 3) := by decide +kernel
theorem dX8_chamber_100 : decode cX8_chamber 100 = .ok (.ireturn, 1) := by decide +kernel
theorem dX8_chamber_101 : decode cX8_chamber 101 = .ok (.aload_n 0, 1) := by decide +kernel
theorem dX8_chamber_102 : decode cX8_chamber 102 = .ok (.iload_n 1, 1) := by decide +kernel
theorem dX8_chamber_103 : decode cX8_chamber 103 = .ok (.bipush 9, 2) := by decide +kernel
theorem dX8_chamber_105 : decode cX8_chamber 105 = .ok (.iload_n 2, 1) := by decide +kernel
theorem dX8_chamber_106 : decode cX8_chamber 106 = .ok (.iadd, 1) := by decide +kernel
theorem dX8_chamber_107 : decode cX8_chamber 107 = .ok (.bipush 11, 2) := by decide +kernel
theorem dX8_chamber_109 : decode cX8_chamber 109 = .ok (.isub, 1) := by decide +kernel
theorem dX8_chamber_110 : decode cX8_chamber 110 = .ok (.invokevirtual 89, 3) := by decide +kernel
theorem dX8_chamber_113 : decode cX8_chamber 113 = .ok (.ireturn, 1) := by decide +kernel
theorem dX8_chamber_114 : decode cX8_chamber 114 = .ok (.ldc 104, 2) := by decide +kernel
theorem dX8_chamber_116 : decode cX8_chamber 116 = .ok (.ireturn, 1) := by decide +kernel
theorem dX8_lying_0 : decode cX8_lying 0 = .ok (.aload_n 0, 1) := by decide +kernel
theorem dX8_lying_1 : decode cX8_lying 1 = .ok (.iload_n 1, 1) := by decide +kernel
theorem dX8_lying_2 : decode cX8_lying 2 = .ok (.invokevirtual 56, 3) := by decide +kernel
theorem dX8_lying_5 : decode cX8_lying 5 = .ok (.ifCond .eq 6, 3) := by decide +kernel
theorem dX8_lying_8 : decode cX8_lying 8 = .ok (.ldc 41, 2) := by decide +kernel
theorem dX8_lying_10 : decode cX8_lying 10 = .ok (.ireturn, 1) := by decide +kernel
theorem dX8_lying_11 : decode cX8_lying 11 = .ok (.iload_n 2, 1) := by decide +kernel
theorem dX8_lying_12 : decode cX8_lying 12 = .ok (.ifCond .ge 6, 3) := by decide +kernel
theorem dX8_lying_15 : decode cX8_lying 15 = .ok (.ldc 104, 2) := by decide +kernel
theorem dX8_lying_17 : decode cX8_lying 17 = .ok (.ireturn, 1) := by decide +kernel
theorem dX8_lying_18 : decode cX8_lying 18 = .ok (.iload_n 2, 1) := by decide +kernel
theorem dX8_lying_19 : decode cX8_lying 19 = .ok (.aload_n 0, 1) := by decide +kernel
theorem dX8_lying_20 : decode cX8_lying 20 = .ok (.getfield 7, 3) := by decide +kernel
theorem dX8_lying_23 : decode cX8_lying 23 = .ok (.sipush 161, 3) := by decide +kernel
theorem dX8_lying_26 : decode cX8_lying 26 = .ok (.bipush 13, 2) := by decide +kernel
theorem dX8_lying_28 : decode cX8_lying 28 = .ok (.iload_n 1, 1) := by decide +kernel
theorem dX8_lying_29 : decode cX8_lying 29 = .ok (.imul, 1) := by decide +kernel
theorem dX8_lying_30 : decode cX8_lying 30 = .ok (.iadd, 1) := by decide +kernel
theorem dX8_lying_31 : decode cX8_lying 31 = .ok (.iaload, 1) := by decide +kernel
theorem dX8_lying_32 : decode cX8_lying 32 = .ok (.if_icmp .ge 23, 3) := by decide +kernel
theorem dX8_lying_35 : decode cX8_lying 35 = .ok (.aload_n 0, 1) := by decide +kernel
theorem dX8_lying_36 : decode cX8_lying 36 = .ok (.getfield 7, 3) := by decide +kernel
theorem dX8_lying_39 : decode cX8_lying 39 = .ok (.sipush 161, 3) := by decide +kernel
theorem dX8_lying_42 : decode cX8_lying 42 = .ok (.bipush 13, 2) := by decide +kernel
theorem dX8_lying_44 : decode cX8_lying 44 = .ok (.iload_n 1, 1) := by decide +kernel
theorem dX8_lying_45 : decode cX8_lying 45 = .ok (.imul, 1) := by decide +kernel
theorem dX8_lying_46 : decode cX8_lying 46 = .ok (.iadd, 1) := by decide +kernel
theorem dX8_lying_47 : decode cX8_lying 47 = .ok (.iconst 1, 1) := by decide +kernel
theorem dX8_lying_48 : decode cX8_lying 48 = .ok (.iadd, 1) := by decide +kernel
theorem dX8_lying_49 : decode cX8_lying 49 = .ok (.iload_n 2, 1) := by decide +kernel
theorem dX8_lying_50 : decode cX8_lying 50 = .ok (.iadd, 1) := by decide +kernel
theorem dX8_lying_51 : decode cX8_lying 51 = .ok (.iaload, 1) := by decide +kernel
theorem dX8_lying_52 : decode cX8_lying 52 = .ok (.goto 5, 3) := by decide +kernel
theorem dX8_lying_55 : decode cX8_lying 55 = .ok (.ldc 48, 2) := by decide +kernel
theorem dX8_lying_57 : decode cX8_lying 57 = .ok (.ireturn, 1) := by decide +kernel
theorem dX8_barge_0 : decode cX8_barge 0 = .ok (.aload_n 0, 1) := by decide +kernel
theorem dX8_barge_1 : decode cX8_barge 1 = .ok (.iload_n 1, 1) := by decide +kernel
theorem dX8_barge_2 : decode cX8_barge 2 = .ok (.invokevirtual 132, 3) := by decide +kernel
theorem dX8_barge_5 : decode cX8_barge 5 = .ok (.ifCond .eq 6, 3) := by decide +kernel
theorem dX8_barge_8 : decode cX8_barge 8 = .ok (.ldc 41, 2) := by decide +kernel
theorem dX8_barge_10 : decode cX8_barge 10 = .ok (.ireturn, 1) := by decide +kernel
theorem dX8_barge_11 : decode cX8_barge 11 = .ok (.iload_n 2, 1) := by decide +kernel
theorem dX8_barge_12 : decode cX8_barge 12 = .ok (.tableswitch 121 0 8 #[52, 59, 65, 71, 78, 85, 91, 105, 113], 52) := by decide +kernel
theorem dX8_barge_64 : decode cX8_barge 64 = .ok (.aload_n 0, 1) := by decide +kernel
theorem dX8_barge_65 : decode cX8_barge 65 = .ok (.iload_n 1, 1) := by decide +kernel
theorem dX8_barge_66 : decode cX8_barge 66 = .ok (.iconst 0, 1) := by decide +kernel
theorem dX8_barge_67 : decode cX8_barge 67 = .ok (.invokevirtual 60, 3) := by decide +kernel
theorem dX8_barge_70 : decode cX8_barge 70 = .ok (.ireturn, 1) := by decide +kernel
theorem dX8_barge_71 : decode cX8_barge 71 = .ok (.aload_n 0, 1) := by decide +kernel
theorem dX8_barge_72 : decode cX8_barge 72 = .ok (.iload_n 1, 1) := by decide +kernel
theorem dX8_barge_73 : decode cX8_barge 73 = .ok (.invokevirtual 64, 3) := by decide +kernel
theorem dX8_barge_76 : decode cX8_barge 76 = .ok (.ireturn, 1) := by decide +kernel
theorem dX8_barge_77 : decode cX8_barge 77 = .ok (.aload_n 0, 1) := by decide +kernel
theorem dX8_barge_78 : decode cX8_barge 78 = .ok (.iload_n 1, 1) := by decide +kernel
theorem dX8_barge_79 : decode cX8_barge 79 = .ok (.invokevirtual 79, 3) := by decide +kernel
theorem dX8_barge_82 : decode cX8_barge 82 = .ok (.ireturn, 1) := by decide +kernel
theorem dX8_barge_83 : decode cX8_barge 83 = .ok (.aload_n 0, 1) := by decide +kernel
theorem dX8_barge_84 : decode cX8_barge 84 = .ok (.iload_n 1, 1) := by decide +kernel
theorem dX8_barge_85 : decode cX8_barge 85 = .ok (.iconst 4, 1) := by decide +kernel
theorem dX8_barge_86 : decode cX8_barge 86 = .ok (.invokevirtual 60, 3) := by decide +kernel
theorem dX8_barge_89 : decode cX8_barge 89 = .ok (.ireturn, 1) := by decide +kernel
theorem dX8_barge_90 : decode cX8_barge 90 = .ok (.aload_n 0, 1) := by decide +kernel
theorem dX8_barge_91 : decode cX8_barge 91 = .ok (.iload_n 1, 1) := by decide +kernel
theorem dX8_barge_92 : decode cX8_barge 92 = .ok (.iconst 5, 1) := by decide +kernel
theorem dX8_barge_93 : decode cX8_barge 93 = .ok (.invokevirtual 60, 3) := by decide +kernel
theorem dX8_barge_96 : decode cX8_barge 96 = .ok (.ireturn, 1) := by decide +kernel
theorem dX8_barge_97 : decode cX8_barge 97 = .ok (.aload_n 0, 1) := by decide +kernel
theorem dX8_barge_98 : decode cX8_barge 98 = .ok (.iload_n 1, 1) := by decide +kernel
theorem dX8_barge_99 : decode cX8_barge 99 = .ok (.invokevirtual 138, 3) := by decide +kernel
theorem dX8_barge_102 : decode cX8_barge 102 = .ok (.ireturn, 1) := by decide +kernel
theorem dX8_barge_103 : decode cX8_barge 103 = .ok (.aload_n 0, 1) := by decide +kernel
theorem dX8_barge_104 : decode cX8_barge 104 = .ok (.iload_n 1, 1) := by decide +kernel
theorem dX8_barge_105 : decode cX8_barge 105 = .ok (.invokevirtual 162, 3) := by decide +kernel
theorem dX8_barge_108 : decode cX8_barge 108 = .ok (.ifCond .eq 7, 3) := by decide +kernel
theorem dX8_barge_111 : decode cX8_barge 111 = .ok (.iconst 1, 1) := by decide +kernel
theorem dX8_barge_112 : decode cX8_barge 112 = .ok (.goto 4, 3) := by decide +kernel
theorem dX8_barge_115 : decode cX8_barge 115 = .ok (.iconst 0, 1) := by decide +kernel
theorem dX8_barge_116 : decode cX8_barge 116 = .ok (.ireturn, 1) := by decide +kernel
theorem dX8_barge_117 : decode cX8_barge 117 = .ok (.aload_n 0, 1) := by decide +kernel
theorem dX8_barge_118 : decode cX8_barge 118 = .ok (.iload_n 1, 1) := by decide +kernel
theorem dX8_barge_119 : decode cX8_barge 119 = .ok (.bipush 6, 2) := by decide +kernel
theorem dX8_barge_121 : decode cX8_barge 121 = .ok (.invokevirtual 60, 3) := by decide +kernel
theorem dX8_barge_124 : decode cX8_barge 124 = .ok (.ireturn, 1) := by decide +kernel
theorem dX8_barge_125 : decode cX8_barge 125 = .ok (.aload_n 0, 1) := by decide +kernel
theorem dX8_barge_126 : decode cX8_barge 126 = .ok (.iload_n 1, 1) := by decide +kernel
theorem dX8_barge_127 : decode cX8_barge 127 = .ok (.bipush 7, 2) := by decide +kernel
theorem dX8_barge_129 : decode cX8_barge 129 = .ok (.invokevirtual 60, 3) := by decide +kernel
theorem dX8_barge_132 : decode cX8_barge 132 = .ok (.ireturn, 1) := by decide +kernel
theorem dX8_barge_133 : decode cX8_barge 133 = .ok (.ldc 104, 2) := by decide +kernel
theorem dX8_barge_135 : decode cX8_barge 135 = .ok (.ireturn, 1) := by decide +kernel
theorem dX8_margin_0 : decode cX8_margin 0 = .ok (.aload_n 0, 1) := by decide +kernel
theorem dX8_margin_1 : decode cX8_margin 1 = .ok (.iload_n 1, 1) := by decide +kernel
theorem dX8_margin_2 : decode cX8_margin 2 = .ok (.invokevirtual 132, 3) := by decide +kernel
theorem dX8_margin_5 : decode cX8_margin 5 = .ok (.ifCond .ne 12, 3) := by decide +kernel
theorem dX8_margin_8 : decode cX8_margin 8 = .ok (.aload_n 0, 1) := by decide +kernel
theorem dX8_margin_9 : decode cX8_margin 9 = .ok (.iload_n 2, 1) := by decide +kernel
theorem dX8_margin_10 : decode cX8_margin 10 = .ok (.iload_n 3, 1) := by decide +kernel
theorem dX8_margin_11 : decode cX8_margin 11 = .ok (.invokevirtual 113, 3) := by decide +kernel
theorem dX8_margin_14 : decode cX8_margin 14 = .ok (.ifCond .eq 6, 3) := by decide +kernel
theorem dX8_margin_17 : decode cX8_margin 17 = .ok (.ldc 41, 2) := by decide +kernel
theorem dX8_margin_19 : decode cX8_margin 19 = .ok (.ireturn, 1) := by decide +kernel
theorem dX8_margin_20 : decode cX8_margin 20 = .ok (.aload_n 0, 1) := by decide +kernel
theorem dX8_margin_21 : decode cX8_margin 21 = .ok (.iload_n 1, 1) := by decide +kernel
theorem dX8_margin_22 : decode cX8_margin 22 = .ok (.iload_n 2, 1) := by decide +kernel
theorem dX8_margin_23 : decode cX8_margin 23 = .ok (.iload_n 3, 1) := by decide +kernel
theorem dX8_margin_24 : decode cX8_margin 24 = .ok (.invokevirtual 168, 3) := by decide +kernel
theorem dX8_margin_27 : decode cX8_margin 27 = .ok (.ifCond .ne 6, 3) := by decide +kernel
theorem dX8_margin_30 : decode cX8_margin 30 = .ok (.ldc 48, 2) := by decide +kernel
theorem dX8_margin_32 : decode cX8_margin 32 = .ok (.ireturn, 1) := by decide +kernel
theorem dX8_margin_33 : decode cX8_margin 33 = .ok (.aload_n 0, 1) := by decide +kernel
theorem dX8_margin_34 : decode cX8_margin 34 = .ok (.iload_n 1, 1) := by decide +kernel
theorem dX8_margin_35 : decode cX8_margin 35 = .ok (.iconst 2, 1) := by decide +kernel
theorem dX8_margin_36 : decode cX8_margin 36 = .ok (.invokevirtual 60, 3) := by decide +kernel
theorem dX8_margin_39 : decode cX8_margin 39 = .ok (.i2l, 1) := by decide +kernel
theorem dX8_margin_40 : decode cX8_margin 40 = .ok (.aload_n 0, 1) := by decide +kernel
theorem dX8_margin_41 : decode cX8_margin 41 = .ok (.bipush 100, 2) := by decide +kernel
theorem dX8_margin_43 : decode cX8_margin 43 = .ok (.iload_n 2, 1) := by decide +kernel
theorem dX8_margin_44 : decode cX8_margin 44 = .ok (.iadd, 1) := by decide +kernel
theorem dX8_margin_45 : decode cX8_margin 45 = .ok (.invokevirtual 126, 3) := by decide +kernel
theorem dX8_margin_48 : decode cX8_margin 48 = .ok (.aload_n 0, 1) := by decide +kernel
theorem dX8_margin_49 : decode cX8_margin 49 = .ok (.iload_n 2, 1) := by decide +kernel
theorem dX8_margin_50 : decode cX8_margin 50 = .ok (.iload_n 3, 1) := by decide +kernel
theorem dX8_margin_51 : decode cX8_margin 51 = .ok (.invokevirtual 159, 3) := by decide +kernel
theorem dX8_margin_54 : decode cX8_margin 54 = .ok (.isub, 1) := by decide +kernel
theorem dX8_margin_55 : decode cX8_margin 55 = .ok (.aload_n 0, 1) := by decide +kernel
theorem dX8_margin_56 : decode cX8_margin 56 = .ok (.getfield 7, 3) := by decide +kernel
theorem dX8_margin_59 : decode cX8_margin 59 = .ok (.iconst 3, 1) := by decide +kernel
theorem dX8_margin_60 : decode cX8_margin 60 = .ok (.iaload, 1) := by decide +kernel
theorem dX8_margin_61 : decode cX8_margin 61 = .ok (.isub, 1) := by decide +kernel
theorem dX8_margin_62 : decode cX8_margin 62 = .ok (.i2l, 1) := by decide +kernel
theorem dX8_margin_63 : decode cX8_margin 63 = .ok (.lmul, 1) := by decide +kernel
theorem dX8_margin_64 : decode cX8_margin 64 = .ok (.aload_n 0, 1) := by decide +kernel
theorem dX8_margin_65 : decode cX8_margin 65 = .ok (.iload_n 1, 1) := by decide +kernel
theorem dX8_margin_66 : decode cX8_margin 66 = .ok (.invokevirtual 64, 3) := by decide +kernel
theorem dX8_margin_69 : decode cX8_margin 69 = .ok (.i2l, 1) := by decide +kernel
theorem dX8_margin_70 : decode cX8_margin 70 = .ok (.lsub, 1) := by decide +kernel
theorem dX8_margin_71 : decode cX8_margin 71 = .ok (.lstore 4, 2) := by decide +kernel
theorem dX8_margin_73 : decode cX8_margin 73 = .ok (.lload 4, 2) := by decide +kernel
theorem dX8_margin_75 : decode cX8_margin 75 = .ok (.aload_n 0, 1) := by decide +kernel
theorem dX8_margin_76 : decode cX8_margin 76 = .ok (.iload_n 1, 1) := by decide +kernel
theorem dX8_margin_77 : decode cX8_margin 77 = .ok (.invokevirtual 138, 3) := by decide +kernel
theorem dX8_margin_80 : decode cX8_margin 80 = .ok (.i2l, 1) := by decide +kernel
theorem dX8_margin_81 : decode cX8_margin 81 = .ok (.lcmp, 1) := by decide +kernel
theorem dX8_margin_82 : decode cX8_margin 82 = .ok (.ifCond .ge 9, 3) := by decide +kernel
theorem dX8_margin_85 : decode cX8_margin 85 = .ok (.lload 4, 2) := by decide +kernel
theorem dX8_margin_87 : decode cX8_margin 87 = .ok (.l2i, 1) := by decide +kernel
theorem dX8_margin_88 : decode cX8_margin 88 = .ok (.goto 8, 3) := by decide +kernel
theorem dX8_margin_91 : decode cX8_margin 91 = .ok (.aload_n 0, 1) := by decide +kernel
theorem dX8_margin_92 : decode cX8_margin 92 = .ok (.iload_n 1, 1) := by decide +kernel
theorem dX8_margin_93 : decode cX8_margin 93 = .ok (.invokevirtual 138, 3) := by decide +kernel
theorem dX8_margin_96 : decode cX8_margin 96 = .ok (.ireturn, 1) := by decide +kernel
theorem dX8_flow_0 : decode cX8_flow 0 = .ok (.aload_n 0, 1) := by decide +kernel
theorem dX8_flow_1 : decode cX8_flow 1 = .ok (.iload_n 1, 1) := by decide +kernel
theorem dX8_flow_2 : decode cX8_flow 2 = .ok (.iload_n 2, 1) := by decide +kernel
theorem dX8_flow_3 : decode cX8_flow 3 = .ok (.invokevirtual 113, 3) := by decide +kernel
theorem dX8_flow_6 : decode cX8_flow 6 = .ok (.ifCond .eq 8, 3) := by decide +kernel
theorem dX8_flow_9 : decode cX8_flow 9 = .ok (.ldc 41, 2) := by decide +kernel
theorem dX8_flow_11 : decode cX8_flow 11 = .ok (.goto 24, 3) := by decide +kernel
theorem dX8_flow_14 : decode cX8_flow 14 = .ok (.aload_n 0, 1) := by decide +kernel
theorem dX8_flow_15 : decode cX8_flow 15 = .ok (.iload_n 1, 1) := by decide +kernel
theorem dX8_flow_16 : decode cX8_flow 16 = .ok (.iload_n 2, 1) := by decide +kernel
theorem dX8_flow_17 : decode cX8_flow 17 = .ok (.invokevirtual 86, 3) := by decide +kernel
theorem dX8_flow_20 : decode cX8_flow 20 = .ok (.aload_n 0, 1) := by decide +kernel
theorem dX8_flow_21 : decode cX8_flow 21 = .ok (.getfield 7, 3) := by decide +kernel
theorem dX8_flow_24 : decode cX8_flow 24 = .ok (.bipush 100, 2) := by decide +kernel
theorem dX8_flow_26 : decode cX8_flow 26 = .ok (.iload_n 1, 1) := by decide +kernel
theorem dX8_flow_27 : decode cX8_flow 27 = .ok (.iadd, 1) := by decide +kernel
theorem dX8_flow_28 : decode cX8_flow 28 = .ok (.invokestatic 68, 3) := by decide +kernel
theorem dX8_flow_31 : decode cX8_flow 31 = .ok (.iconst 2, 1) := by decide +kernel
theorem dX8_flow_32 : decode cX8_flow 32 = .ok (.iadd, 1) := by decide +kernel
theorem dX8_flow_33 : decode cX8_flow 33 = .ok (.iaload, 1) := by decide +kernel
theorem dX8_flow_34 : decode cX8_flow 34 = .ok (.isub, 1) := by decide +kernel
theorem dX8_flow_35 : decode cX8_flow 35 = .ok (.ireturn, 1) := by decide +kernel
theorem dX8_account_0 : decode cX8_account 0 = .ok (.lconst 0, 1) := by decide +kernel
theorem dX8_account_1 : decode cX8_account 1 = .ok (.lstore_n 2, 1) := by decide +kernel
theorem dX8_account_2 : decode cX8_account 2 = .ok (.iconst 0, 1) := by decide +kernel
theorem dX8_account_3 : decode cX8_account 3 = .ok (.istore 4, 2) := by decide +kernel
theorem dX8_account_5 : decode cX8_account 5 = .ok (.iload 4, 2) := by decide +kernel
theorem dX8_account_7 : decode cX8_account 7 = .ok (.aload_n 0, 1) := by decide +kernel
theorem dX8_account_8 : decode cX8_account 8 = .ok (.getfield 7, 3) := by decide +kernel
theorem dX8_account_11 : decode cX8_account 11 = .ok (.iconst 0, 1) := by decide +kernel
theorem dX8_account_12 : decode cX8_account 12 = .ok (.iaload, 1) := by decide +kernel
theorem dX8_account_13 : decode cX8_account 13 = .ok (.if_icmp .ge 25, 3) := by decide +kernel
theorem dX8_account_16 : decode cX8_account 16 = .ok (.lload_n 2, 1) := by decide +kernel
theorem dX8_account_17 : decode cX8_account 17 = .ok (.aload_n 0, 1) := by decide +kernel
theorem dX8_account_18 : decode cX8_account 18 = .ok (.getfield 7, 3) := by decide +kernel
theorem dX8_account_21 : decode cX8_account 21 = .ok (.iload 4, 2) := by decide +kernel
theorem dX8_account_23 : decode cX8_account 23 = .ok (.invokestatic 68, 3) := by decide +kernel
theorem dX8_account_26 : decode cX8_account 26 = .ok (.iconst 2, 1) := by decide +kernel
theorem dX8_account_27 : decode cX8_account 27 = .ok (.iadd, 1) := by decide +kernel
theorem dX8_account_28 : decode cX8_account 28 = .ok (.iaload, 1) := by decide +kernel
theorem dX8_account_29 : decode cX8_account 29 = .ok (.i2l, 1) := by decide +kernel
theorem dX8_account_30 : decode cX8_account 30 = .ok (.ladd, 1) := by decide +kernel
theorem dX8_account_31 : decode cX8_account 31 = .ok (.lstore_n 2, 1) := by decide +kernel
theorem dX8_account_32 : decode cX8_account 32 = .ok (.iinc 4 1, 3) := by decide +kernel
theorem dX8_account_35 : decode cX8_account 35 = .ok (.goto (-30), 3) := by decide +kernel
theorem dX8_account_38 : decode cX8_account 38 = .ok (.lconst 0, 1) := by decide +kernel
theorem dX8_account_39 : decode cX8_account 39 = .ok (.lstore 4, 2) := by decide +kernel
theorem dX8_account_41 : decode cX8_account 41 = .ok (.iconst 0, 1) := by decide +kernel
theorem dX8_account_42 : decode cX8_account 42 = .ok (.istore 6, 2) := by decide +kernel
theorem dX8_account_44 : decode cX8_account 44 = .ok (.iload 6, 2) := by decide +kernel
theorem dX8_account_46 : decode cX8_account 46 = .ok (.aload_n 0, 1) := by decide +kernel
theorem dX8_account_47 : decode cX8_account 47 = .ok (.getfield 7, 3) := by decide +kernel
theorem dX8_account_50 : decode cX8_account 50 = .ok (.iconst 1, 1) := by decide +kernel
theorem dX8_account_51 : decode cX8_account 51 = .ok (.iaload, 1) := by decide +kernel
theorem dX8_account_52 : decode cX8_account 52 = .ok (.if_icmp .ge 51, 3) := by decide +kernel
theorem dX8_account_55 : decode cX8_account 55 = .ok (.lload_n 2, 1) := by decide +kernel
theorem dX8_account_56 : decode cX8_account 56 = .ok (.aload_n 0, 1) := by decide +kernel
theorem dX8_account_57 : decode cX8_account 57 = .ok (.getfield 7, 3) := by decide +kernel
theorem dX8_account_60 : decode cX8_account 60 = .ok (.bipush 100, 2) := by decide +kernel
theorem dX8_account_62 : decode cX8_account 62 = .ok (.iload 6, 2) := by decide +kernel
theorem dX8_account_64 : decode cX8_account 64 = .ok (.iadd, 1) := by decide +kernel
theorem dX8_account_65 : decode cX8_account 65 = .ok (.invokestatic 68, 3) := by decide +kernel
theorem dX8_account_68 : decode cX8_account 68 = .ok (.iconst 2, 1) := by decide +kernel
theorem dX8_account_69 : decode cX8_account 69 = .ok (.iadd, 1) := by decide +kernel
theorem dX8_account_70 : decode cX8_account 70 = .ok (.iaload, 1) := by decide +kernel
theorem dX8_account_71 : decode cX8_account 71 = .ok (.i2l, 1) := by decide +kernel
theorem dX8_account_72 : decode cX8_account 72 = .ok (.ladd, 1) := by decide +kernel
theorem dX8_account_73 : decode cX8_account 73 = .ok (.lstore_n 2, 1) := by decide +kernel
theorem dX8_account_74 : decode cX8_account 74 = .ok (.lload 4, 2) := by decide +kernel
theorem dX8_account_76 : decode cX8_account 76 = .ok (.aload_n 0, 1) := by decide +kernel
theorem dX8_account_77 : decode cX8_account 77 = .ok (.iload 6, 2) := by decide +kernel
theorem dX8_account_79 : decode cX8_account 79 = .ok (.bipush 9, 2) := by decide +kernel
theorem dX8_account_81 : decode cX8_account 81 = .ok (.invokevirtual 89, 3) := by decide +kernel
theorem dX8_account_84 : decode cX8_account 84 = .ok (.aload_n 0, 1) := by decide +kernel
theorem dX8_account_85 : decode cX8_account 85 = .ok (.iload 6, 2) := by decide +kernel
theorem dX8_account_87 : decode cX8_account 87 = .ok (.bipush 10, 2) := by decide +kernel
theorem dX8_account_89 : decode cX8_account 89 = .ok (.invokevirtual 89, 3) := by decide +kernel
theorem dX8_account_92 : decode cX8_account 92 = .ok (.iadd, 1) := by decide +kernel
theorem dX8_account_93 : decode cX8_account 93 = .ok (.i2l, 1) := by decide +kernel
theorem dX8_account_94 : decode cX8_account 94 = .ok (.ladd, 1) := by decide +kernel
theorem dX8_account_95 : decode cX8_account 95 = .ok (.lstore 4, 2) := by decide +kernel
theorem dX8_account_97 : decode cX8_account 97 = .ok (.iinc 6 1, 3) := by decide +kernel
theorem dX8_account_100 : decode cX8_account 100 = .ok (.goto (-56), 3) := by decide +kernel
theorem dX8_account_103 : decode cX8_account 103 = .ok (.lconst 0, 1) := by decide +kernel
theorem dX8_account_104 : decode cX8_account 104 = .ok (.lstore 6, 2) := by decide +kernel
theorem dX8_account_106 : decode cX8_account 106 = .ok (.lconst 0, 1) := by decide +kernel
theorem dX8_account_107 : decode cX8_account 107 = .ok (.lstore 8, 2) := by decide +kernel
theorem dX8_account_109 : decode cX8_account 109 = .ok (.lconst 0, 1) := by decide +kernel
theorem dX8_account_110 : decode cX8_account 110 = .ok (.lstore 10, 2) := by decide +kernel
theorem dX8_account_112 : decode cX8_account 112 = .ok (.iconst 0, 1) := by decide +kernel
theorem dX8_account_113 : decode cX8_account 113 = .ok (.istore 12, 2) := by decide +kernel
theorem dX8_account_115 : decode cX8_account 115 = .ok (.iload 12, 2) := by decide +kernel
theorem dX8_account_117 : decode cX8_account 117 = .ok (.aload_n 0, 1) := by decide +kernel
theorem dX8_account_118 : decode cX8_account 118 = .ok (.getfield 7, 3) := by decide +kernel
theorem dX8_account_121 : decode cX8_account 121 = .ok (.iconst 2, 1) := by decide +kernel
theorem dX8_account_122 : decode cX8_account 122 = .ok (.iaload, 1) := by decide +kernel
theorem dX8_account_123 : decode cX8_account 123 = .ok (.if_icmp .ge 47, 3) := by decide +kernel
theorem dX8_account_126 : decode cX8_account 126 = .ok (.lload 6, 2) := by decide +kernel
theorem dX8_account_128 : decode cX8_account 128 = .ok (.aload_n 0, 1) := by decide +kernel
theorem dX8_account_129 : decode cX8_account 129 = .ok (.iload 12, 2) := by decide +kernel
theorem dX8_account_131 : decode cX8_account 131 = .ok (.iconst 5, 1) := by decide +kernel
theorem dX8_account_132 : decode cX8_account 132 = .ok (.invokevirtual 60, 3) := by decide +kernel
theorem dX8_account_135 : decode cX8_account 135 = .ok (.i2l, 1) := by decide +kernel
theorem dX8_account_136 : decode cX8_account 136 = .ok (.ladd, 1) := by decide +kernel
theorem dX8_account_137 : decode cX8_account 137 = .ok (.lstore 6, 2) := by decide +kernel
theorem dX8_account_139 : decode cX8_account 139 = .ok (.lload 8, 2) := by decide +kernel
theorem dX8_account_141 : decode cX8_account 141 = .ok (.aload_n 0, 1) := by decide +kernel
theorem dX8_account_142 : decode cX8_account 142 = .ok (.iload 12, 2) := by decide +kernel
theorem dX8_account_144 : decode cX8_account 144 = .ok (.iconst 4, 1) := by decide +kernel
theorem dX8_account_145 : decode cX8_account 145 = .ok (.invokevirtual 60, 3) := by decide +kernel
theorem dX8_account_148 : decode cX8_account 148 = .ok (.i2l, 1) := by decide +kernel
theorem dX8_account_149 : decode cX8_account 149 = .ok (.ladd, 1) := by decide +kernel
theorem dX8_account_150 : decode cX8_account 150 = .ok (.lstore 8, 2) := by decide +kernel
theorem dX8_account_152 : decode cX8_account 152 = .ok (.lload 10, 2) := by decide +kernel
theorem dX8_account_154 : decode cX8_account 154 = .ok (.aload_n 0, 1) := by decide +kernel
theorem dX8_account_155 : decode cX8_account 155 = .ok (.iload 12, 2) := by decide +kernel
theorem dX8_account_157 : decode cX8_account 157 = .ok (.invokevirtual 64, 3) := by decide +kernel
theorem dX8_account_160 : decode cX8_account 160 = .ok (.i2l, 1) := by decide +kernel
theorem dX8_account_161 : decode cX8_account 161 = .ok (.ladd, 1) := by decide +kernel
theorem dX8_account_162 : decode cX8_account 162 = .ok (.lstore 10, 2) := by decide +kernel
theorem dX8_account_164 : decode cX8_account 164 = .ok (.iinc 12 1, 3) := by decide +kernel
theorem dX8_account_167 : decode cX8_account 167 = .ok (.goto (-52), 3) := by decide +kernel
theorem dX8_account_170 : decode cX8_account 170 = .ok (.iload_n 1, 1) := by decide +kernel
theorem dX8_account_171 : decode cX8_account 171 = .ok (.tableswitch 71 0 6 #[41, 43, 46, 49, 52, 60, 68], 41) := by decide +kernel
theorem dX8_account_212 : decode cX8_account 212 = .ok (.lload_n 2, 1) := by decide +kernel
theorem dX8_account_213 : decode cX8_account 213 = .ok (.lreturn, 1) := by decide +kernel
theorem dX8_account_214 : decode cX8_account 214 = .ok (.lload 6, 2) := by decide +kernel
theorem dX8_account_216 : decode cX8_account 216 = .ok (.lreturn, 1) := by decide +kernel
theorem dX8_account_217 : decode cX8_account 217 = .ok (.lload 8, 2) := by decide +kernel
theorem dX8_account_219 : decode cX8_account 219 = .ok (.lreturn, 1) := by decide +kernel
theorem dX8_account_220 : decode cX8_account 220 = .ok (.lload 10, 2) := by decide +kernel
theorem dX8_account_222 : decode cX8_account 222 = .ok (.lreturn, 1) := by decide +kernel
theorem dX8_account_223 : decode cX8_account 223 = .ok (.aload_n 0, 1) := by decide +kernel
theorem dX8_account_224 : decode cX8_account 224 = .ok (.getfield 7, 3) := by decide +kernel
theorem dX8_account_227 : decode cX8_account 227 = .ok (.iconst 4, 1) := by decide +kernel
theorem dX8_account_228 : decode cX8_account 228 = .ok (.iaload, 1) := by decide +kernel
theorem dX8_account_229 : decode cX8_account 229 = .ok (.i2l, 1) := by decide +kernel
theorem dX8_account_230 : decode cX8_account 230 = .ok (.lreturn, 1) := by decide +kernel
theorem dX8_account_231 : decode cX8_account 231 = .ok (.aload_n 0, 1) := by decide +kernel
theorem dX8_account_232 : decode cX8_account 232 = .ok (.getfield 7, 3) := by decide +kernel
theorem dX8_account_235 : decode cX8_account 235 = .ok (.iconst 5, 1) := by decide +kernel
theorem dX8_account_236 : decode cX8_account 236 = .ok (.iaload, 1) := by decide +kernel
theorem dX8_account_237 : decode cX8_account 237 = .ok (.i2l, 1) := by decide +kernel
theorem dX8_account_238 : decode cX8_account 238 = .ok (.lreturn, 1) := by decide +kernel
theorem dX8_account_239 : decode cX8_account 239 = .ok (.lload 4, 2) := by decide +kernel
theorem dX8_account_241 : decode cX8_account 241 = .ok (.lreturn, 1) := by decide +kernel
theorem dX8_account_242 : decode cX8_account 242 = .ok (.ldc2_w 221, 3) := by decide +kernel
theorem dX8_account_245 : decode cX8_account 245 = .ok (.lreturn, 1) := by decide +kernel
theorem dX8_count_0 : decode cX8_count 0 = .ok (.iconst 0, 1) := by decide +kernel
theorem dX8_count_1 : decode cX8_count 1 = .ok (.istore_n 2, 1) := by decide +kernel
theorem dX8_count_2 : decode cX8_count 2 = .ok (.iconst 0, 1) := by decide +kernel
theorem dX8_count_3 : decode cX8_count 3 = .ok (.istore_n 3, 1) := by decide +kernel
theorem dX8_count_4 : decode cX8_count 4 = .ok (.iload_n 3, 1) := by decide +kernel
theorem dX8_count_5 : decode cX8_count 5 = .ok (.aload_n 0, 1) := by decide +kernel
theorem dX8_count_6 : decode cX8_count 6 = .ok (.getfield 7, 3) := by decide +kernel
theorem dX8_count_9 : decode cX8_count 9 = .ok (.iconst 1, 1) := by decide +kernel
theorem dX8_count_10 : decode cX8_count 10 = .ok (.iaload, 1) := by decide +kernel
theorem dX8_count_11 : decode cX8_count 11 = .ok (.if_icmp .ge 25, 3) := by decide +kernel
theorem dX8_count_14 : decode cX8_count 14 = .ok (.iload_n 2, 1) := by decide +kernel
theorem dX8_count_15 : decode cX8_count 15 = .ok (.aload_n 0, 1) := by decide +kernel
theorem dX8_count_16 : decode cX8_count 16 = .ok (.iload_n 3, 1) := by decide +kernel
theorem dX8_count_17 : decode cX8_count 17 = .ok (.invokevirtual 92, 3) := by decide +kernel
theorem dX8_count_20 : decode cX8_count 20 = .ok (.ifCond .lt 7, 3) := by decide +kernel
theorem dX8_count_23 : decode cX8_count 23 = .ok (.iconst 1, 1) := by decide +kernel
theorem dX8_count_24 : decode cX8_count 24 = .ok (.goto 4, 3) := by decide +kernel
theorem dX8_count_27 : decode cX8_count 27 = .ok (.iconst 0, 1) := by decide +kernel
theorem dX8_count_28 : decode cX8_count 28 = .ok (.iadd, 1) := by decide +kernel
theorem dX8_count_29 : decode cX8_count 29 = .ok (.istore_n 2, 1) := by decide +kernel
theorem dX8_count_30 : decode cX8_count 30 = .ok (.iinc 3 1, 3) := by decide +kernel
theorem dX8_count_33 : decode cX8_count 33 = .ok (.goto (-29), 3) := by decide +kernel
theorem dX8_count_36 : decode cX8_count 36 = .ok (.iconst 0, 1) := by decide +kernel
theorem dX8_count_37 : decode cX8_count 37 = .ok (.istore_n 3, 1) := by decide +kernel
theorem dX8_count_38 : decode cX8_count 38 = .ok (.iconst 0, 1) := by decide +kernel
theorem dX8_count_39 : decode cX8_count 39 = .ok (.istore 4, 2) := by decide +kernel
theorem dX8_count_41 : decode cX8_count 41 = .ok (.iconst 0, 1) := by decide +kernel
theorem dX8_count_42 : decode cX8_count 42 = .ok (.istore 5, 2) := by decide +kernel
theorem dX8_count_44 : decode cX8_count 44 = .ok (.iload 5, 2) := by decide +kernel
theorem dX8_count_46 : decode cX8_count 46 = .ok (.aload_n 0, 1) := by decide +kernel
theorem dX8_count_47 : decode cX8_count 47 = .ok (.getfield 7, 3) := by decide +kernel
theorem dX8_count_50 : decode cX8_count 50 = .ok (.iconst 2, 1) := by decide +kernel
theorem dX8_count_51 : decode cX8_count 51 = .ok (.iaload, 1) := by decide +kernel
theorem dX8_count_52 : decode cX8_count 52 = .ok (.if_icmp .ge 49, 3) := by decide +kernel
theorem dX8_count_55 : decode cX8_count 55 = .ok (.iload_n 3, 1) := by decide +kernel
theorem dX8_count_56 : decode cX8_count 56 = .ok (.aload_n 0, 1) := by decide +kernel
theorem dX8_count_57 : decode cX8_count 57 = .ok (.iload 5, 2) := by decide +kernel
theorem dX8_count_59 : decode cX8_count 59 = .ok (.invokevirtual 162, 3) := by decide +kernel
theorem dX8_count_62 : decode cX8_count 62 = .ok (.ifCond .eq 7, 3) := by decide +kernel
theorem dX8_count_65 : decode cX8_count 65 = .ok (.iconst 1, 1) := by decide +kernel
theorem dX8_count_66 : decode cX8_count 66 = .ok (.goto 4, 3) := by decide +kernel
theorem dX8_count_69 : decode cX8_count 69 = .ok (.iconst 0, 1) := by decide +kernel
theorem dX8_count_70 : decode cX8_count 70 = .ok (.iadd, 1) := by decide +kernel
theorem dX8_count_71 : decode cX8_count 71 = .ok (.istore_n 3, 1) := by decide +kernel
theorem dX8_count_72 : decode cX8_count 72 = .ok (.iload 4, 2) := by decide +kernel
theorem dX8_count_74 : decode cX8_count 74 = .ok (.aload_n 0, 1) := by decide +kernel
theorem dX8_count_75 : decode cX8_count 75 = .ok (.iload 5, 2) := by decide +kernel
theorem dX8_count_77 : decode cX8_count 77 = .ok (.bipush 6, 2) := by decide +kernel
theorem dX8_count_79 : decode cX8_count 79 = .ok (.invokevirtual 60, 3) := by decide +kernel
theorem dX8_count_82 : decode cX8_count 82 = .ok (.bipush 100, 2) := by decide +kernel
theorem dX8_count_84 : decode cX8_count 84 = .ok (.if_icmp .lt 7, 3) := by decide +kernel
theorem dX8_count_87 : decode cX8_count 87 = .ok (.iconst 1, 1) := by decide +kernel
theorem dX8_count_88 : decode cX8_count 88 = .ok (.goto 4, 3) := by decide +kernel
theorem dX8_count_91 : decode cX8_count 91 = .ok (.iconst 0, 1) := by decide +kernel
theorem dX8_count_92 : decode cX8_count 92 = .ok (.iadd, 1) := by decide +kernel
theorem dX8_count_93 : decode cX8_count 93 = .ok (.istore 4, 2) := by decide +kernel
theorem dX8_count_95 : decode cX8_count 95 = .ok (.iinc 5 1, 3) := by decide +kernel
theorem dX8_count_98 : decode cX8_count 98 = .ok (.goto (-54), 3) := by decide +kernel
theorem dX8_count_101 : decode cX8_count 101 = .ok (.iload_n 1, 1) := by decide +kernel
theorem dX8_count_102 : decode cX8_count 102 = .ok (.tableswitch 104 0 9 #[54, 61, 68, 75, 77, 79, 82, 89, 94, 99], 54) := by decide +kernel
theorem dX8_count_156 : decode cX8_count 156 = .ok (.aload_n 0, 1) := by decide +kernel
theorem dX8_count_157 : decode cX8_count 157 = .ok (.getfield 7, 3) := by decide +kernel
theorem dX8_count_160 : decode cX8_count 160 = .ok (.iconst 0, 1) := by decide +kernel
theorem dX8_count_161 : decode cX8_count 161 = .ok (.iaload, 1) := by decide +kernel
theorem dX8_count_162 : decode cX8_count 162 = .ok (.ireturn, 1) := by decide +kernel
theorem dX8_count_163 : decode cX8_count 163 = .ok (.aload_n 0, 1) := by decide +kernel
theorem dX8_count_164 : decode cX8_count 164 = .ok (.getfield 7, 3) := by decide +kernel
theorem dX8_count_167 : decode cX8_count 167 = .ok (.iconst 1, 1) := by decide +kernel
theorem dX8_count_168 : decode cX8_count 168 = .ok (.iaload, 1) := by decide +kernel
theorem dX8_count_169 : decode cX8_count 169 = .ok (.ireturn, 1) := by decide +kernel
theorem dX8_count_170 : decode cX8_count 170 = .ok (.aload_n 0, 1) := by decide +kernel
theorem dX8_count_171 : decode cX8_count 171 = .ok (.getfield 7, 3) := by decide +kernel
theorem dX8_count_174 : decode cX8_count 174 = .ok (.iconst 2, 1) := by decide +kernel
theorem dX8_count_175 : decode cX8_count 175 = .ok (.iaload, 1) := by decide +kernel
theorem dX8_count_176 : decode cX8_count 176 = .ok (.ireturn, 1) := by decide +kernel
theorem dX8_count_177 : decode cX8_count 177 = .ok (.iload_n 2, 1) := by decide +kernel
theorem dX8_count_178 : decode cX8_count 178 = .ok (.ireturn, 1) := by decide +kernel
theorem dX8_count_179 : decode cX8_count 179 = .ok (.iload_n 3, 1) := by decide +kernel
theorem dX8_count_180 : decode cX8_count 180 = .ok (.ireturn, 1) := by decide +kernel
theorem dX8_count_181 : decode cX8_count 181 = .ok (.iload 4, 2) := by decide +kernel
theorem dX8_count_183 : decode cX8_count 183 = .ok (.ireturn, 1) := by decide +kernel
theorem dX8_count_184 : decode cX8_count 184 = .ok (.aload_n 0, 1) := by decide +kernel
theorem dX8_count_185 : decode cX8_count 185 = .ok (.getfield 7, 3) := by decide +kernel
theorem dX8_count_188 : decode cX8_count 188 = .ok (.iconst 3, 1) := by decide +kernel
theorem dX8_count_189 : decode cX8_count 189 = .ok (.iaload, 1) := by decide +kernel
theorem dX8_count_190 : decode cX8_count 190 = .ok (.ireturn, 1) := by decide +kernel
theorem dX8_count_191 : decode cX8_count 191 = .ok (.aload_n 0, 1) := by decide +kernel
theorem dX8_count_192 : decode cX8_count 192 = .ok (.getfield 33, 3) := by decide +kernel
theorem dX8_count_195 : decode cX8_count 195 = .ok (.ireturn, 1) := by decide +kernel
theorem dX8_count_196 : decode cX8_count 196 = .ok (.aload_n 0, 1) := by decide +kernel
theorem dX8_count_197 : decode cX8_count 197 = .ok (.getfield 38, 3) := by decide +kernel
theorem dX8_count_200 : decode cX8_count 200 = .ok (.ireturn, 1) := by decide +kernel
theorem dX8_count_201 : decode cX8_count 201 = .ok (.aload_n 0, 1) := by decide +kernel
theorem dX8_count_202 : decode cX8_count 202 = .ok (.getfield 180, 3) := by decide +kernel
theorem dX8_count_205 : decode cX8_count 205 = .ok (.ireturn, 1) := by decide +kernel
theorem dX8_count_206 : decode cX8_count 206 = .ok (.ldc 104, 2) := by decide +kernel
theorem dX8_count_208 : decode cX8_count 208 = .ok (.ireturn, 1) := by decide +kernel
theorem dJ9_floorDiv_f86c9_0 : decode cJ9_floorDiv_f86c9 0 = .ok (.lload_n 0, 1) := by decide +kernel
theorem dJ9_floorDiv_f86c9_1 : decode cJ9_floorDiv_f86c9 1 = .ok (.lload_n 2, 1) := by decide +kernel
theorem dJ9_floorDiv_f86c9_2 : decode cJ9_floorDiv_f86c9 2 = .ok (.ldiv, 1) := by decide +kernel
theorem dJ9_floorDiv_f86c9_3 : decode cJ9_floorDiv_f86c9 3 = .ok (.lstore 4, 2) := by decide +kernel
theorem dJ9_floorDiv_f86c9_5 : decode cJ9_floorDiv_f86c9 5 = .ok (.lload_n 0, 1) := by decide +kernel
theorem dJ9_floorDiv_f86c9_6 : decode cJ9_floorDiv_f86c9 6 = .ok (.lload_n 2, 1) := by decide +kernel
theorem dJ9_floorDiv_f86c9_7 : decode cJ9_floorDiv_f86c9 7 = .ok (.lxor, 1) := by decide +kernel
theorem dJ9_floorDiv_f86c9_8 : decode cJ9_floorDiv_f86c9 8 = .ok (.lconst 0, 1) := by decide +kernel
theorem dJ9_floorDiv_f86c9_9 : decode cJ9_floorDiv_f86c9 9 = .ok (.lcmp, 1) := by decide +kernel
theorem dJ9_floorDiv_f86c9_10 : decode cJ9_floorDiv_f86c9 10 = .ok (.ifCond .ge 17, 3) := by decide +kernel
theorem dJ9_floorDiv_f86c9_13 : decode cJ9_floorDiv_f86c9 13 = .ok (.lload 4, 2) := by decide +kernel
theorem dJ9_floorDiv_f86c9_15 : decode cJ9_floorDiv_f86c9 15 = .ok (.lload_n 2, 1) := by decide +kernel
theorem dJ9_floorDiv_f86c9_16 : decode cJ9_floorDiv_f86c9 16 = .ok (.lmul, 1) := by decide +kernel
theorem dJ9_floorDiv_f86c9_17 : decode cJ9_floorDiv_f86c9 17 = .ok (.lload_n 0, 1) := by decide +kernel
theorem dJ9_floorDiv_f86c9_18 : decode cJ9_floorDiv_f86c9 18 = .ok (.lcmp, 1) := by decide +kernel
theorem dJ9_floorDiv_f86c9_19 : decode cJ9_floorDiv_f86c9 19 = .ok (.ifCond .eq 8, 3) := by decide +kernel
theorem dJ9_floorDiv_f86c9_22 : decode cJ9_floorDiv_f86c9 22 = .ok (.lload 4, 2) := by decide +kernel
theorem dJ9_floorDiv_f86c9_24 : decode cJ9_floorDiv_f86c9 24 = .ok (.lconst 1, 1) := by decide +kernel
theorem dJ9_floorDiv_f86c9_25 : decode cJ9_floorDiv_f86c9 25 = .ok (.lsub, 1) := by decide +kernel
theorem dJ9_floorDiv_f86c9_26 : decode cJ9_floorDiv_f86c9 26 = .ok (.lreturn, 1) := by decide +kernel
theorem dJ9_floorDiv_f86c9_27 : decode cJ9_floorDiv_f86c9 27 = .ok (.lload 4, 2) := by decide +kernel
theorem dJ9_floorDiv_f86c9_29 : decode cJ9_floorDiv_f86c9 29 = .ok (.lreturn, 1) := by decide +kernel
theorem dJ9_abs_067f4_0 : decode cJ9_abs_067f4 0 = .ok (.lload_n 0, 1) := by decide +kernel
theorem dJ9_abs_067f4_1 : decode cJ9_abs_067f4 1 = .ok (.lconst 0, 1) := by decide +kernel
theorem dJ9_abs_067f4_2 : decode cJ9_abs_067f4 2 = .ok (.lcmp, 1) := by decide +kernel
theorem dJ9_abs_067f4_3 : decode cJ9_abs_067f4 3 = .ok (.ifCond .ge 8, 3) := by decide +kernel
theorem dJ9_abs_067f4_6 : decode cJ9_abs_067f4 6 = .ok (.lload_n 0, 1) := by decide +kernel
theorem dJ9_abs_067f4_7 : decode cJ9_abs_067f4 7 = .ok (.lneg, 1) := by decide +kernel
theorem dJ9_abs_067f4_8 : decode cJ9_abs_067f4 8 = .ok (.goto 4, 3) := by decide +kernel
theorem dJ9_abs_067f4_11 : decode cJ9_abs_067f4 11 = .ok (.lload_n 0, 1) := by decide +kernel
theorem dJ9_abs_067f4_12 : decode cJ9_abs_067f4 12 = .ok (.lreturn, 1) := by decide +kernel
theorem dJ9_max_f86c9_0 : decode cJ9_max_f86c9 0 = .ok (.lload_n 0, 1) := by decide +kernel
theorem dJ9_max_f86c9_1 : decode cJ9_max_f86c9 1 = .ok (.lload_n 2, 1) := by decide +kernel
theorem dJ9_max_f86c9_2 : decode cJ9_max_f86c9 2 = .ok (.lcmp, 1) := by decide +kernel
theorem dJ9_max_f86c9_3 : decode cJ9_max_f86c9 3 = .ok (.ifCond .lt 7, 3) := by decide +kernel
theorem dJ9_max_f86c9_6 : decode cJ9_max_f86c9 6 = .ok (.lload_n 0, 1) := by decide +kernel
theorem dJ9_max_f86c9_7 : decode cJ9_max_f86c9 7 = .ok (.goto 4, 3) := by decide +kernel
theorem dJ9_max_f86c9_10 : decode cJ9_max_f86c9 10 = .ok (.lload_n 2, 1) := by decide +kernel
theorem dJ9_max_f86c9_11 : decode cJ9_max_f86c9 11 = .ok (.lreturn, 1) := by decide +kernel
theorem dJ9_min_7cf53_0 : decode cJ9_min_7cf53 0 = .ok (.iload_n 0, 1) := by decide +kernel
theorem dJ9_min_7cf53_1 : decode cJ9_min_7cf53 1 = .ok (.iload_n 1, 1) := by decide +kernel
theorem dJ9_min_7cf53_2 : decode cJ9_min_7cf53 2 = .ok (.if_icmp .gt 7, 3) := by decide +kernel
theorem dJ9_min_7cf53_5 : decode cJ9_min_7cf53 5 = .ok (.iload_n 0, 1) := by decide +kernel
theorem dJ9_min_7cf53_6 : decode cJ9_min_7cf53 6 = .ok (.goto 4, 3) := by decide +kernel
theorem dJ9_min_7cf53_9 : decode cJ9_min_7cf53 9 = .ok (.iload_n 1, 1) := by decide +kernel
theorem dJ9_min_7cf53_10 : decode cJ9_min_7cf53 10 = .ok (.ireturn, 1) := by decide +kernel
theorem dJ9_min_f86c9_0 : decode cJ9_min_f86c9 0 = .ok (.lload_n 0, 1) := by decide +kernel
theorem dJ9_min_f86c9_1 : decode cJ9_min_f86c9 1 = .ok (.lload_n 2, 1) := by decide +kernel
theorem dJ9_min_f86c9_2 : decode cJ9_min_f86c9 2 = .ok (.lcmp, 1) := by decide +kernel
theorem dJ9_min_f86c9_3 : decode cJ9_min_f86c9 3 = .ok (.ifCond .gt 7, 3) := by decide +kernel
theorem dJ9_min_f86c9_6 : decode cJ9_min_f86c9 6 = .ok (.lload_n 0, 1) := by decide +kernel
theorem dJ9_min_f86c9_7 : decode cJ9_min_f86c9 7 = .ok (.goto 4, 3) := by decide +kernel
theorem dJ9_min_f86c9_10 : decode cJ9_min_f86c9 10 = .ok (.lload_n 2, 1) := by decide +kernel
theorem dJ9_min_f86c9_11 : decode cJ9_min_f86c9 11 = .ok (.lreturn, 1) := by decide +kernel
theorem dJ0_length_8abf5_0 : decode cJ0_length_8abf5 0 = .ok (.aload_n 0, 1) := by decide +kernel
theorem dJ0_length_8abf5_1 : decode cJ0_length_8abf5 1 = .ok (.getfield 9, 3) := by decide +kernel
theorem dJ0_length_8abf5_4 : decode cJ0_length_8abf5 4 = .ok (.arraylength, 1) := by decide +kernel
theorem dJ0_length_8abf5_5 : decode cJ0_length_8abf5 5 = .ok (.aload_n 0, 1) := by decide +kernel
theorem dJ0_length_8abf5_6 : decode cJ0_length_8abf5 6 = .ok (.invokevirtual 335, 3) := by decide +kernel
theorem dJ0_length_8abf5_9 : decode cJ0_length_8abf5 9 = .ok (.ishr, 1) := by decide +kernel
theorem dJ0_length_8abf5_10 : decode cJ0_length_8abf5 10 = .ok (.ireturn, 1) := by decide +kernel
theorem dJ0_charAt_5068e_0 : decode cJ0_charAt_5068e 0 = .ok (.aload_n 0, 1) := by decide +kernel
theorem dJ0_charAt_5068e_1 : decode cJ0_charAt_5068e 1 = .ok (.invokevirtual 492, 3) := by decide +kernel
theorem dJ0_charAt_5068e_4 : decode cJ0_charAt_5068e 4 = .ok (.ifCond .eq 12, 3) := by decide +kernel
theorem dJ0_charAt_5068e_7 : decode cJ0_charAt_5068e 7 = .ok (.aload_n 0, 1) := by decide +kernel
theorem dJ0_charAt_5068e_8 : decode cJ0_charAt_5068e 8 = .ok (.getfield 9, 3) := by decide +kernel
theorem dJ0_charAt_5068e_11 : decode cJ0_charAt_5068e 11 = .ok (.iload_n 1, 1) := by decide +kernel
theorem dJ0_charAt_5068e_12 : decode cJ0_charAt_5068e 12 = .ok (.invokestatic 495, 3) := by decide +kernel
theorem dJ0_charAt_5068e_15 : decode cJ0_charAt_5068e 15 = .ok (.ireturn, 1) := by decide +kernel
theorem dJ0_charAt_5068e_16 : decode cJ0_charAt_5068e 16 = .ok (.aload_n 0, 1) := by decide +kernel
theorem dJ0_charAt_5068e_17 : decode cJ0_charAt_5068e 17 = .ok (.getfield 9, 3) := by decide +kernel
theorem dJ0_charAt_5068e_20 : decode cJ0_charAt_5068e 20 = .ok (.iload_n 1, 1) := by decide +kernel
theorem dJ0_charAt_5068e_21 : decode cJ0_charAt_5068e 21 = .ok (.invokestatic 498, 3) := by decide +kernel
theorem dJ0_charAt_5068e_24 : decode cJ0_charAt_5068e 24 = .ok (.ireturn, 1) := by decide +kernel
theorem dJ0_coder_7d493_0 : decode cJ0_coder_7d493 0 = .ok (.getstatic 38, 3) := by decide +kernel
theorem dJ0_coder_7d493_3 : decode cJ0_coder_7d493 3 = .ok (.ifCond .eq 10, 3) := by decide +kernel
theorem dJ0_coder_7d493_6 : decode cJ0_coder_7d493 6 = .ok (.aload_n 0, 1) := by decide +kernel
theorem dJ0_coder_7d493_7 : decode cJ0_coder_7d493 7 = .ok (.getfield 15, 3) := by decide +kernel
theorem dJ0_coder_7d493_10 : decode cJ0_coder_7d493 10 = .ok (.goto 4, 3) := by decide +kernel
theorem dJ0_coder_7d493_13 : decode cJ0_coder_7d493 13 = .ok (.iconst 1, 1) := by decide +kernel
theorem dJ0_coder_7d493_14 : decode cJ0_coder_7d493 14 = .ok (.ireturn, 1) := by decide +kernel
theorem dJ0_isLatin1_aae02_0 : decode cJ0_isLatin1_aae02 0 = .ok (.getstatic 38, 3) := by decide +kernel
theorem dJ0_isLatin1_aae02_3 : decode cJ0_isLatin1_aae02 3 = .ok (.ifCond .eq 14, 3) := by decide +kernel
theorem dJ0_isLatin1_aae02_6 : decode cJ0_isLatin1_aae02 6 = .ok (.aload_n 0, 1) := by decide +kernel
theorem dJ0_isLatin1_aae02_7 : decode cJ0_isLatin1_aae02 7 = .ok (.getfield 15, 3) := by decide +kernel
theorem dJ0_isLatin1_aae02_10 : decode cJ0_isLatin1_aae02 10 = .ok (.ifCond .ne 7, 3) := by decide +kernel
theorem dJ0_isLatin1_aae02_13 : decode cJ0_isLatin1_aae02 13 = .ok (.iconst 1, 1) := by decide +kernel
theorem dJ0_isLatin1_aae02_14 : decode cJ0_isLatin1_aae02 14 = .ok (.goto 4, 3) := by decide +kernel
theorem dJ0_isLatin1_aae02_17 : decode cJ0_isLatin1_aae02 17 = .ok (.iconst 0, 1) := by decide +kernel
theorem dJ0_isLatin1_aae02_18 : decode cJ0_isLatin1_aae02 18 = .ok (.ireturn, 1) := by decide +kernel
theorem dJ0_checkIndex_df160_0 : decode cJ0_checkIndex_df160 0 = .ok (.iload_n 0, 1) := by decide +kernel
theorem dJ0_checkIndex_df160_1 : decode cJ0_checkIndex_df160 1 = .ok (.iload_n 1, 1) := by decide +kernel
theorem dJ0_checkIndex_df160_2 : decode cJ0_checkIndex_df160 2 = .ok (.getstatic 1053, 3) := by decide +kernel
theorem dJ0_checkIndex_df160_5 : decode cJ0_checkIndex_df160 5 = .ok (.invokestatic 1059, 3) := by decide +kernel
theorem dJ0_checkIndex_df160_8 : decode cJ0_checkIndex_df160 8 = .ok (.pop, 1) := by decide +kernel
theorem dJ0_checkIndex_df160_9 : decode cJ0_checkIndex_df160 9 = .ok (.return_, 1) := by decide +kernel
theorem dJ1_charAt_3b067_0 : decode cJ1_charAt_3b067 0 = .ok (.iload_n 1, 1) := by decide +kernel
theorem dJ1_charAt_3b067_1 : decode cJ1_charAt_3b067 1 = .ok (.aload_n 0, 1) := by decide +kernel
theorem dJ1_charAt_3b067_2 : decode cJ1_charAt_3b067 2 = .ok (.arraylength, 1) := by decide +kernel
theorem dJ1_charAt_3b067_3 : decode cJ1_charAt_3b067 3 = .ok (.invokestatic 9, 3) := by decide +kernel
theorem dJ1_charAt_3b067_6 : decode cJ1_charAt_3b067 6 = .ok (.aload_n 0, 1) := by decide +kernel
theorem dJ1_charAt_3b067_7 : decode cJ1_charAt_3b067 7 = .ok (.iload_n 1, 1) := by decide +kernel
theorem dJ1_charAt_3b067_8 : decode cJ1_charAt_3b067 8 = .ok (.baload, 1) := by decide +kernel
theorem dJ1_charAt_3b067_9 : decode cJ1_charAt_3b067 9 = .ok (.sipush 255, 3) := by decide +kernel
theorem dJ1_charAt_3b067_12 : decode cJ1_charAt_3b067 12 = .ok (.iand, 1) := by decide +kernel
theorem dJ1_charAt_3b067_13 : decode cJ1_charAt_3b067 13 = .ok (.i2c, 1) := by decide +kernel
theorem dJ1_charAt_3b067_14 : decode cJ1_charAt_3b067 14 = .ok (.ireturn, 1) := by decide +kernel
theorem dJ2_getChar_3b067_0 : decode cJ2_getChar_3b067 0 = .ok (.getstatic 44, 3) := by decide +kernel
theorem dJ2_getChar_3b067_3 : decode cJ2_getChar_3b067 3 = .ok (.ifCond .ne 25, 3) := by decide +kernel
theorem dJ2_getChar_3b067_6 : decode cJ2_getChar_3b067 6 = .ok (.iload_n 1, 1) := by decide +kernel
theorem dJ2_getChar_3b067_7 : decode cJ2_getChar_3b067 7 = .ok (.ifCond .lt 11, 3) := by decide +kernel
theorem dJ2_getChar_3b067_10 : decode cJ2_getChar_3b067 10 = .ok (.iload_n 1, 1) := by decide +kernel
theorem dJ2_getChar_3b067_11 : decode cJ2_getChar_3b067 11 = .ok (.aload_n 0, 1) := by decide +kernel
theorem dJ2_getChar_3b067_12 : decode cJ2_getChar_3b067 12 = .ok (.invokestatic 48, 3) := by decide +kernel
theorem dJ2_getChar_3b067_15 : decode cJ2_getChar_3b067 15 = .ok (.if_icmp .lt 13, 3) := by decide +kernel
theorem dJ2_getChar_3b067_18 : decode cJ2_getChar_3b067 18 = .ok (.new 52, 3) := by decide +kernel
theorem dJ2_getChar_3b067_21 : decode cJ2_getChar_3b067 21 = .ok (.dup, 1) := by decide +kernel
theorem dJ2_getChar_3b067_22 : decode cJ2_getChar_3b067 22 = .ok (.ldc 54, 2) := by decide +kernel
theorem dJ2_getChar_3b067_24 : decode cJ2_getChar_3b067 24 = .ok (.invokespecial 56, 3) := by decide +kernel
theorem dJ2_getChar_3b067_27 : decode cJ2_getChar_3b067 27 = .ok (.athrow, 1) := by decide +kernel
theorem dJ2_getChar_3b067_28 : decode cJ2_getChar_3b067 28 = .ok (.iload_n 1, 1) := by decide +kernel
theorem dJ2_getChar_3b067_29 : decode cJ2_getChar_3b067 29 = .ok (.iconst 1, 1) := by decide +kernel
theorem dJ2_getChar_3b067_30 : decode cJ2_getChar_3b067 30 = .ok (.ishl, 1) := by decide +kernel
theorem dJ2_getChar_3b067_31 : decode cJ2_getChar_3b067 31 = .ok (.istore_n 1, 1) := by decide +kernel
theorem dJ2_getChar_3b067_32 : decode cJ2_getChar_3b067 32 = .ok (.aload_n 0, 1) := by decide +kernel
theorem dJ2_getChar_3b067_33 : decode cJ2_getChar_3b067 33 = .ok (.iload_n 1, 1) := by decide +kernel
theorem dJ2_getChar_3b067_34 : decode cJ2_getChar_3b067 34 = .ok (.iinc 1 1, 3) := by decide +kernel
theorem dJ2_getChar_3b067_37 : decode cJ2_getChar_3b067 37 = .ok (.baload, 1) := by decide +kernel
theorem dJ2_getChar_3b067_38 : decode cJ2_getChar_3b067 38 = .ok (.sipush 255, 3) := by decide +kernel
theorem dJ2_getChar_3b067_41 : decode cJ2_getChar_3b067 41 = .ok (.iand, 1) := by decide +kernel
theorem dJ2_getChar_3b067_42 : decode cJ2_getChar_3b067 42 = .ok (.getstatic 59, 3) := by decide +kernel
theorem dJ2_getChar_3b067_45 : decode cJ2_getChar_3b067 45 = .ok (.ishl, 1) := by decide +kernel
theorem dJ2_getChar_3b067_46 : decode cJ2_getChar_3b067 46 = .ok (.aload_n 0, 1) := by decide +kernel
theorem dJ2_getChar_3b067_47 : decode cJ2_getChar_3b067 47 = .ok (.iload_n 1, 1) := by decide +kernel
theorem dJ2_getChar_3b067_48 : decode cJ2_getChar_3b067 48 = .ok (.baload, 1) := by decide +kernel
theorem dJ2_getChar_3b067_49 : decode cJ2_getChar_3b067 49 = .ok (.sipush 255, 3) := by decide +kernel
theorem dJ2_getChar_3b067_52 : decode cJ2_getChar_3b067 52 = .ok (.iand, 1) := by decide +kernel
theorem dJ2_getChar_3b067_53 : decode cJ2_getChar_3b067 53 = .ok (.getstatic 63, 3) := by decide +kernel
theorem dJ2_getChar_3b067_56 : decode cJ2_getChar_3b067 56 = .ok (.ishl, 1) := by decide +kernel
theorem dJ2_getChar_3b067_57 : decode cJ2_getChar_3b067 57 = .ok (.ior, 1) := by decide +kernel
theorem dJ2_getChar_3b067_58 : decode cJ2_getChar_3b067 58 = .ok (.i2c, 1) := by decide +kernel
theorem dJ2_getChar_3b067_59 : decode cJ2_getChar_3b067 59 = .ok (.ireturn, 1) := by decide +kernel
theorem dJ2_length_9d52b_0 : decode cJ2_length_9d52b 0 = .ok (.aload_n 0, 1) := by decide +kernel
theorem dJ2_length_9d52b_1 : decode cJ2_length_9d52b 1 = .ok (.arraylength, 1) := by decide +kernel
theorem dJ2_length_9d52b_2 : decode cJ2_length_9d52b 2 = .ok (.iconst 1, 1) := by decide +kernel
theorem dJ2_length_9d52b_3 : decode cJ2_length_9d52b 3 = .ok (.ishr, 1) := by decide +kernel
theorem dJ2_length_9d52b_4 : decode cJ2_length_9d52b 4 = .ok (.ireturn, 1) := by decide +kernel
theorem dJ2_charAt_3b067_0 : decode cJ2_charAt_3b067 0 = .ok (.iload_n 1, 1) := by decide +kernel
theorem dJ2_charAt_3b067_1 : decode cJ2_charAt_3b067 1 = .ok (.aload_n 0, 1) := by decide +kernel
theorem dJ2_charAt_3b067_2 : decode cJ2_charAt_3b067 2 = .ok (.invokestatic 67, 3) := by decide +kernel
theorem dJ2_charAt_3b067_5 : decode cJ2_charAt_3b067 5 = .ok (.aload_n 0, 1) := by decide +kernel
theorem dJ2_charAt_3b067_6 : decode cJ2_charAt_3b067 6 = .ok (.iload_n 1, 1) := by decide +kernel
theorem dJ2_charAt_3b067_7 : decode cJ2_charAt_3b067 7 = .ok (.invokestatic 71, 3) := by decide +kernel
theorem dJ2_charAt_3b067_10 : decode cJ2_charAt_3b067 10 = .ok (.ireturn, 1) := by decide +kernel
theorem dJ2_checkIndex_2214a_0 : decode cJ2_checkIndex_2214a 0 = .ok (.iload_n 0, 1) := by decide +kernel
theorem dJ2_checkIndex_2214a_1 : decode cJ2_checkIndex_2214a 1 = .ok (.aload_n 1, 1) := by decide +kernel
theorem dJ2_checkIndex_2214a_2 : decode cJ2_checkIndex_2214a 2 = .ok (.invokestatic 48, 3) := by decide +kernel
theorem dJ2_checkIndex_2214a_5 : decode cJ2_checkIndex_2214a 5 = .ok (.invokestatic 414, 3) := by decide +kernel
theorem dJ2_checkIndex_2214a_8 : decode cJ2_checkIndex_2214a 8 = .ok (.return_, 1) := by decide +kernel
theorem dJ3_checkIndex_8e157_0 : decode cJ3_checkIndex_8e157 0 = .ok (.iload_n 0, 1) := by decide +kernel
theorem dJ3_checkIndex_8e157_1 : decode cJ3_checkIndex_8e157 1 = .ok (.ifCond .lt 8, 3) := by decide +kernel
theorem dJ3_checkIndex_8e157_4 : decode cJ3_checkIndex_8e157 4 = .ok (.iload_n 0, 1) := by decide +kernel
theorem dJ3_checkIndex_8e157_5 : decode cJ3_checkIndex_8e157 5 = .ok (.iload_n 1, 1) := by decide +kernel
theorem dJ3_checkIndex_8e157_6 : decode cJ3_checkIndex_8e157 6 = .ok (.if_icmp .lt 10, 3) := by decide +kernel
theorem dJ3_checkIndex_8e157_9 : decode cJ3_checkIndex_8e157 9 = .ok (.aload_n 2, 1) := by decide +kernel
theorem dJ3_checkIndex_8e157_10 : decode cJ3_checkIndex_8e157 10 = .ok (.iload_n 0, 1) := by decide +kernel
theorem dJ3_checkIndex_8e157_11 : decode cJ3_checkIndex_8e157 11 = .ok (.iload_n 1, 1) := by decide +kernel
theorem dJ3_checkIndex_8e157_12 : decode cJ3_checkIndex_8e157 12 = .ok (.invokestatic 95, 3) := by decide +kernel
theorem dJ3_checkIndex_8e157_15 : decode cJ3_checkIndex_8e157 15 = .ok (.athrow, 1) := by decide +kernel
theorem dJ3_checkIndex_8e157_16 : decode cJ3_checkIndex_8e157 16 = .ok (.iload_n 0, 1) := by decide +kernel
theorem dJ3_checkIndex_8e157_17 : decode cJ3_checkIndex_8e157 17 = .ok (.ireturn, 1) := by decide +kernel
theorem dL_law_0 : decode cL_law 0 = .ok (.new 7, 3) := by decide +kernel
theorem dL_law_3 : decode cL_law 3 = .ok (.dup, 1) := by decide +kernel
theorem dL_law_4 : decode cL_law 4 = .ok (.invokespecial 9, 3) := by decide +kernel
theorem dL_law_7 : decode cL_law 7 = .ok (.astore_n 1, 1) := by decide +kernel
theorem dL_law_8 : decode cL_law 8 = .ok (.new 10, 3) := by decide +kernel
theorem dL_law_11 : decode cL_law 11 = .ok (.dup, 1) := by decide +kernel
theorem dL_law_12 : decode cL_law 12 = .ok (.invokespecial 12, 3) := by decide +kernel
theorem dL_law_15 : decode cL_law 15 = .ok (.astore_n 2, 1) := by decide +kernel
theorem dL_law_16 : decode cL_law 16 = .ok (.iconst 0, 1) := by decide +kernel
theorem dL_law_17 : decode cL_law 17 = .ok (.istore_n 3, 1) := by decide +kernel
theorem dL_law_18 : decode cL_law 18 = .ok (.iload_n 3, 1) := by decide +kernel
theorem dL_law_19 : decode cL_law 19 = .ok (.aload_n 0, 1) := by decide +kernel
theorem dL_law_20 : decode cL_law 20 = .ok (.arraylength, 1) := by decide +kernel
theorem dL_law_21 : decode cL_law 21 = .ok (.bipush 7, 2) := by decide +kernel
theorem dL_law_23 : decode cL_law 23 = .ok (.isub, 1) := by decide +kernel
theorem dL_law_24 : decode cL_law 24 = .ok (.if_icmp .gt 1041, 3) := by decide +kernel
theorem dL_law_27 : decode cL_law 27 = .ok (.aload_n 0, 1) := by decide +kernel
theorem dL_law_28 : decode cL_law 28 = .ok (.iload_n 3, 1) := by decide +kernel
theorem dL_law_29 : decode cL_law 29 = .ok (.iaload, 1) := by decide +kernel
theorem dL_law_30 : decode cL_law 30 = .ok (.bipush 31, 2) := by decide +kernel
theorem dL_law_32 : decode cL_law 32 = .ok (.iand, 1) := by decide +kernel
theorem dL_law_33 : decode cL_law 33 = .ok (.tableswitch 1026 0 27 #[127, 170, 245, 288, 311, 344, 377, 440, 473, 506, 539, 572, 595, 628, 661, 686, 699, 712, 725, 748, 771, 804, 837, 870, 903, 946, 979, 1003], 127) := by decide +kernel
theorem dL_law_160 : decode cL_law 160 = .ok (.aload_n 1, 1) := by decide +kernel
theorem dL_law_161 : decode cL_law 161 = .ok (.aload_n 0, 1) := by decide +kernel
theorem dL_law_162 : decode cL_law 162 = .ok (.iload_n 3, 1) := by decide +kernel
theorem dL_law_163 : decode cL_law 163 = .ok (.iconst 1, 1) := by decide +kernel
theorem dL_law_164 : decode cL_law 164 = .ok (.iadd, 1) := by decide +kernel
theorem dL_law_165 : decode cL_law 165 = .ok (.iaload, 1) := by decide +kernel
theorem dL_law_166 : decode cL_law 166 = .ok (.aload_n 0, 1) := by decide +kernel
theorem dL_law_167 : decode cL_law 167 = .ok (.iload_n 3, 1) := by decide +kernel
theorem dL_law_168 : decode cL_law 168 = .ok (.iconst 2, 1) := by decide +kernel
theorem dL_law_169 : decode cL_law 169 = .ok (.iadd, 1) := by decide +kernel
theorem dL_law_170 : decode cL_law 170 = .ok (.iaload, 1) := by decide +kernel
theorem dL_law_171 : decode cL_law 171 = .ok (.aload_n 0, 1) := by decide +kernel
theorem dL_law_172 : decode cL_law 172 = .ok (.iload_n 3, 1) := by decide +kernel
theorem dL_law_173 : decode cL_law 173 = .ok (.iconst 3, 1) := by decide +kernel
theorem dL_law_174 : decode cL_law 174 = .ok (.iadd, 1) := by decide +kernel
theorem dL_law_175 : decode cL_law 175 = .ok (.iaload, 1) := by decide +kernel
theorem dL_law_176 : decode cL_law 176 = .ok (.invokevirtual 13, 3) := by decide +kernel
theorem dL_law_179 : decode cL_law 179 = .ok (.aload_n 2, 1) := by decide +kernel
theorem dL_law_180 : decode cL_law 180 = .ok (.aload_n 0, 1) := by decide +kernel
theorem dL_law_181 : decode cL_law 181 = .ok (.iload_n 3, 1) := by decide +kernel
theorem dL_law_182 : decode cL_law 182 = .ok (.iconst 1, 1) := by decide +kernel
theorem dL_law_183 : decode cL_law 183 = .ok (.iadd, 1) := by decide +kernel
theorem dL_law_184 : decode cL_law 184 = .ok (.iaload, 1) := by decide +kernel
theorem dL_law_185 : decode cL_law 185 = .ok (.aload_n 0, 1) := by decide +kernel
theorem dL_law_186 : decode cL_law 186 = .ok (.iload_n 3, 1) := by decide +kernel
theorem dL_law_187 : decode cL_law 187 = .ok (.iconst 2, 1) := by decide +kernel
theorem dL_law_188 : decode cL_law 188 = .ok (.iadd, 1) := by decide +kernel
theorem dL_law_189 : decode cL_law 189 = .ok (.iaload, 1) := by decide +kernel
theorem dL_law_190 : decode cL_law 190 = .ok (.aload_n 0, 1) := by decide +kernel
theorem dL_law_191 : decode cL_law 191 = .ok (.iload_n 3, 1) := by decide +kernel
theorem dL_law_192 : decode cL_law 192 = .ok (.iconst 3, 1) := by decide +kernel
theorem dL_law_193 : decode cL_law 193 = .ok (.iadd, 1) := by decide +kernel
theorem dL_law_194 : decode cL_law 194 = .ok (.iaload, 1) := by decide +kernel
theorem dL_law_195 : decode cL_law 195 = .ok (.invokevirtual 17, 3) := by decide +kernel
theorem dL_law_198 : decode cL_law 198 = .ok (.if_icmp .eq 861, 3) := by decide +kernel
theorem dL_law_201 : decode cL_law 201 = .ok (.iconst 0, 1) := by decide +kernel
theorem dL_law_202 : decode cL_law 202 = .ok (.ireturn, 1) := by decide +kernel
theorem dL_law_203 : decode cL_law 203 = .ok (.aload_n 1, 1) := by decide +kernel
theorem dL_law_204 : decode cL_law 204 = .ok (.aload_n 0, 1) := by decide +kernel
theorem dL_law_205 : decode cL_law 205 = .ok (.iload_n 3, 1) := by decide +kernel
theorem dL_law_206 : decode cL_law 206 = .ok (.iconst 1, 1) := by decide +kernel
theorem dL_law_207 : decode cL_law 207 = .ok (.iadd, 1) := by decide +kernel
theorem dL_law_208 : decode cL_law 208 = .ok (.iaload, 1) := by decide +kernel
theorem dL_law_209 : decode cL_law 209 = .ok (.aload_n 0, 1) := by decide +kernel
theorem dL_law_210 : decode cL_law 210 = .ok (.iload_n 3, 1) := by decide +kernel
theorem dL_law_211 : decode cL_law 211 = .ok (.iconst 2, 1) := by decide +kernel
theorem dL_law_212 : decode cL_law 212 = .ok (.iadd, 1) := by decide +kernel
theorem dL_law_213 : decode cL_law 213 = .ok (.iaload, 1) := by decide +kernel
theorem dL_law_214 : decode cL_law 214 = .ok (.aload_n 0, 1) := by decide +kernel
theorem dL_law_215 : decode cL_law 215 = .ok (.iload_n 3, 1) := by decide +kernel
theorem dL_law_216 : decode cL_law 216 = .ok (.iconst 3, 1) := by decide +kernel
theorem dL_law_217 : decode cL_law 217 = .ok (.iadd, 1) := by decide +kernel
theorem dL_law_218 : decode cL_law 218 = .ok (.iaload, 1) := by decide +kernel
theorem dL_law_219 : decode cL_law 219 = .ok (.aload_n 0, 1) := by decide +kernel
theorem dL_law_220 : decode cL_law 220 = .ok (.iload_n 3, 1) := by decide +kernel
theorem dL_law_221 : decode cL_law 221 = .ok (.iconst 4, 1) := by decide +kernel
theorem dL_law_222 : decode cL_law 222 = .ok (.iadd, 1) := by decide +kernel
theorem dL_law_223 : decode cL_law 223 = .ok (.iaload, 1) := by decide +kernel
theorem dL_law_224 : decode cL_law 224 = .ok (.aload_n 0, 1) := by decide +kernel
theorem dL_law_225 : decode cL_law 225 = .ok (.iload_n 3, 1) := by decide +kernel
theorem dL_law_226 : decode cL_law 226 = .ok (.iconst 5, 1) := by decide +kernel
theorem dL_law_227 : decode cL_law 227 = .ok (.iadd, 1) := by decide +kernel
theorem dL_law_228 : decode cL_law 228 = .ok (.iaload, 1) := by decide +kernel
theorem dL_law_229 : decode cL_law 229 = .ok (.aload_n 0, 1) := by decide +kernel
theorem dL_law_230 : decode cL_law 230 = .ok (.iload_n 3, 1) := by decide +kernel
theorem dL_law_231 : decode cL_law 231 = .ok (.bipush 6, 2) := by decide +kernel
theorem dL_law_233 : decode cL_law 233 = .ok (.iadd, 1) := by decide +kernel
theorem dL_law_234 : decode cL_law 234 = .ok (.iaload, 1) := by decide +kernel
theorem dL_law_235 : decode cL_law 235 = .ok (.invokevirtual 18, 3) := by decide +kernel
theorem dL_law_238 : decode cL_law 238 = .ok (.aload_n 2, 1) := by decide +kernel
theorem dL_law_239 : decode cL_law 239 = .ok (.aload_n 0, 1) := by decide +kernel
theorem dL_law_240 : decode cL_law 240 = .ok (.iload_n 3, 1) := by decide +kernel
theorem dL_law_241 : decode cL_law 241 = .ok (.iconst 1, 1) := by decide +kernel
theorem dL_law_242 : decode cL_law 242 = .ok (.iadd, 1) := by decide +kernel
theorem dL_law_243 : decode cL_law 243 = .ok (.iaload, 1) := by decide +kernel
theorem dL_law_244 : decode cL_law 244 = .ok (.aload_n 0, 1) := by decide +kernel
theorem dL_law_245 : decode cL_law 245 = .ok (.iload_n 3, 1) := by decide +kernel
theorem dL_law_246 : decode cL_law 246 = .ok (.iconst 2, 1) := by decide +kernel
theorem dL_law_247 : decode cL_law 247 = .ok (.iadd, 1) := by decide +kernel
theorem dL_law_248 : decode cL_law 248 = .ok (.iaload, 1) := by decide +kernel
theorem dL_law_249 : decode cL_law 249 = .ok (.aload_n 0, 1) := by decide +kernel
theorem dL_law_250 : decode cL_law 250 = .ok (.iload_n 3, 1) := by decide +kernel
theorem dL_law_251 : decode cL_law 251 = .ok (.iconst 3, 1) := by decide +kernel
theorem dL_law_252 : decode cL_law 252 = .ok (.iadd, 1) := by decide +kernel
theorem dL_law_253 : decode cL_law 253 = .ok (.iaload, 1) := by decide +kernel
theorem dL_law_254 : decode cL_law 254 = .ok (.aload_n 0, 1) := by decide +kernel
theorem dL_law_255 : decode cL_law 255 = .ok (.iload_n 3, 1) := by decide +kernel
theorem dL_law_256 : decode cL_law 256 = .ok (.iconst 4, 1) := by decide +kernel
theorem dL_law_257 : decode cL_law 257 = .ok (.iadd, 1) := by decide +kernel
theorem dL_law_258 : decode cL_law 258 = .ok (.iaload, 1) := by decide +kernel
theorem dL_law_259 : decode cL_law 259 = .ok (.aload_n 0, 1) := by decide +kernel
theorem dL_law_260 : decode cL_law 260 = .ok (.iload_n 3, 1) := by decide +kernel
theorem dL_law_261 : decode cL_law 261 = .ok (.iconst 5, 1) := by decide +kernel
theorem dL_law_262 : decode cL_law 262 = .ok (.iadd, 1) := by decide +kernel
theorem dL_law_263 : decode cL_law 263 = .ok (.iaload, 1) := by decide +kernel
theorem dL_law_264 : decode cL_law 264 = .ok (.aload_n 0, 1) := by decide +kernel
theorem dL_law_265 : decode cL_law 265 = .ok (.iload_n 3, 1) := by decide +kernel
theorem dL_law_266 : decode cL_law 266 = .ok (.bipush 6, 2) := by decide +kernel
theorem dL_law_268 : decode cL_law 268 = .ok (.iadd, 1) := by decide +kernel
theorem dL_law_269 : decode cL_law 269 = .ok (.iaload, 1) := by decide +kernel
theorem dL_law_270 : decode cL_law 270 = .ok (.invokevirtual 22, 3) := by decide +kernel
theorem dL_law_273 : decode cL_law 273 = .ok (.if_icmp .eq 786, 3) := by decide +kernel
theorem dL_law_276 : decode cL_law 276 = .ok (.iconst 0, 1) := by decide +kernel
theorem dL_law_277 : decode cL_law 277 = .ok (.ireturn, 1) := by decide +kernel
theorem dL_law_278 : decode cL_law 278 = .ok (.aload_n 1, 1) := by decide +kernel
theorem dL_law_279 : decode cL_law 279 = .ok (.aload_n 0, 1) := by decide +kernel
theorem dL_law_280 : decode cL_law 280 = .ok (.iload_n 3, 1) := by decide +kernel
theorem dL_law_281 : decode cL_law 281 = .ok (.iconst 1, 1) := by decide +kernel
theorem dL_law_282 : decode cL_law 282 = .ok (.iadd, 1) := by decide +kernel
theorem dL_law_283 : decode cL_law 283 = .ok (.iaload, 1) := by decide +kernel
theorem dL_law_284 : decode cL_law 284 = .ok (.aload_n 0, 1) := by decide +kernel
theorem dL_law_285 : decode cL_law 285 = .ok (.iload_n 3, 1) := by decide +kernel
theorem dL_law_286 : decode cL_law 286 = .ok (.iconst 2, 1) := by decide +kernel
theorem dL_law_287 : decode cL_law 287 = .ok (.iadd, 1) := by decide +kernel
theorem dL_law_288 : decode cL_law 288 = .ok (.iaload, 1) := by decide +kernel
theorem dL_law_289 : decode cL_law 289 = .ok (.aload_n 0, 1) := by decide +kernel
theorem dL_law_290 : decode cL_law 290 = .ok (.iload_n 3, 1) := by decide +kernel
theorem dL_law_291 : decode cL_law 291 = .ok (.iconst 3, 1) := by decide +kernel
theorem dL_law_292 : decode cL_law 292 = .ok (.iadd, 1) := by decide +kernel
theorem dL_law_293 : decode cL_law 293 = .ok (.iaload, 1) := by decide +kernel
theorem dL_law_294 : decode cL_law 294 = .ok (.invokevirtual 23, 3) := by decide +kernel
theorem dL_law_297 : decode cL_law 297 = .ok (.aload_n 2, 1) := by decide +kernel
theorem dL_law_298 : decode cL_law 298 = .ok (.aload_n 0, 1) := by decide +kernel
theorem dL_law_299 : decode cL_law 299 = .ok (.iload_n 3, 1) := by decide +kernel
theorem dL_law_300 : decode cL_law 300 = .ok (.iconst 1, 1) := by decide +kernel
theorem dL_law_301 : decode cL_law 301 = .ok (.iadd, 1) := by decide +kernel
theorem dL_law_302 : decode cL_law 302 = .ok (.iaload, 1) := by decide +kernel
theorem dL_law_303 : decode cL_law 303 = .ok (.aload_n 0, 1) := by decide +kernel
theorem dL_law_304 : decode cL_law 304 = .ok (.iload_n 3, 1) := by decide +kernel
theorem dL_law_305 : decode cL_law 305 = .ok (.iconst 2, 1) := by decide +kernel
theorem dL_law_306 : decode cL_law 306 = .ok (.iadd, 1) := by decide +kernel
theorem dL_law_307 : decode cL_law 307 = .ok (.iaload, 1) := by decide +kernel
theorem dL_law_308 : decode cL_law 308 = .ok (.aload_n 0, 1) := by decide +kernel
theorem dL_law_309 : decode cL_law 309 = .ok (.iload_n 3, 1) := by decide +kernel
theorem dL_law_310 : decode cL_law 310 = .ok (.iconst 3, 1) := by decide +kernel
theorem dL_law_311 : decode cL_law 311 = .ok (.iadd, 1) := by decide +kernel
theorem dL_law_312 : decode cL_law 312 = .ok (.iaload, 1) := by decide +kernel
theorem dL_law_313 : decode cL_law 313 = .ok (.invokevirtual 26, 3) := by decide +kernel
theorem dL_law_316 : decode cL_law 316 = .ok (.if_icmp .eq 743, 3) := by decide +kernel
theorem dL_law_319 : decode cL_law 319 = .ok (.iconst 0, 1) := by decide +kernel
theorem dL_law_320 : decode cL_law 320 = .ok (.ireturn, 1) := by decide +kernel
theorem dL_law_321 : decode cL_law 321 = .ok (.aload_n 1, 1) := by decide +kernel
theorem dL_law_322 : decode cL_law 322 = .ok (.aload_n 0, 1) := by decide +kernel
theorem dL_law_323 : decode cL_law 323 = .ok (.iload_n 3, 1) := by decide +kernel
theorem dL_law_324 : decode cL_law 324 = .ok (.iconst 1, 1) := by decide +kernel
theorem dL_law_325 : decode cL_law 325 = .ok (.iadd, 1) := by decide +kernel
theorem dL_law_326 : decode cL_law 326 = .ok (.iaload, 1) := by decide +kernel
theorem dL_law_327 : decode cL_law 327 = .ok (.invokevirtual 27, 3) := by decide +kernel
theorem dL_law_330 : decode cL_law 330 = .ok (.aload_n 2, 1) := by decide +kernel
theorem dL_law_331 : decode cL_law 331 = .ok (.aload_n 0, 1) := by decide +kernel
theorem dL_law_332 : decode cL_law 332 = .ok (.iload_n 3, 1) := by decide +kernel
theorem dL_law_333 : decode cL_law 333 = .ok (.iconst 1, 1) := by decide +kernel
theorem dL_law_334 : decode cL_law 334 = .ok (.iadd, 1) := by decide +kernel
theorem dL_law_335 : decode cL_law 335 = .ok (.iaload, 1) := by decide +kernel
theorem dL_law_336 : decode cL_law 336 = .ok (.invokevirtual 31, 3) := by decide +kernel
theorem dL_law_339 : decode cL_law 339 = .ok (.if_icmp .eq 720, 3) := by decide +kernel
theorem dL_law_342 : decode cL_law 342 = .ok (.iconst 0, 1) := by decide +kernel
theorem dL_law_343 : decode cL_law 343 = .ok (.ireturn, 1) := by decide +kernel
theorem dL_law_344 : decode cL_law 344 = .ok (.aload_n 1, 1) := by decide +kernel
theorem dL_law_345 : decode cL_law 345 = .ok (.aload_n 0, 1) := by decide +kernel
theorem dL_law_346 : decode cL_law 346 = .ok (.iload_n 3, 1) := by decide +kernel
theorem dL_law_347 : decode cL_law 347 = .ok (.iconst 1, 1) := by decide +kernel
theorem dL_law_348 : decode cL_law 348 = .ok (.iadd, 1) := by decide +kernel
theorem dL_law_349 : decode cL_law 349 = .ok (.iaload, 1) := by decide +kernel
theorem dL_law_350 : decode cL_law 350 = .ok (.aload_n 0, 1) := by decide +kernel
theorem dL_law_351 : decode cL_law 351 = .ok (.iload_n 3, 1) := by decide +kernel
theorem dL_law_352 : decode cL_law 352 = .ok (.iconst 2, 1) := by decide +kernel
theorem dL_law_353 : decode cL_law 353 = .ok (.iadd, 1) := by decide +kernel
theorem dL_law_354 : decode cL_law 354 = .ok (.iaload, 1) := by decide +kernel
theorem dL_law_355 : decode cL_law 355 = .ok (.invokevirtual 32, 3) := by decide +kernel
theorem dL_law_358 : decode cL_law 358 = .ok (.aload_n 2, 1) := by decide +kernel
theorem dL_law_359 : decode cL_law 359 = .ok (.aload_n 0, 1) := by decide +kernel
theorem dL_law_360 : decode cL_law 360 = .ok (.iload_n 3, 1) := by decide +kernel
theorem dL_law_361 : decode cL_law 361 = .ok (.iconst 1, 1) := by decide +kernel
theorem dL_law_362 : decode cL_law 362 = .ok (.iadd, 1) := by decide +kernel
theorem dL_law_363 : decode cL_law 363 = .ok (.iaload, 1) := by decide +kernel
theorem dL_law_364 : decode cL_law 364 = .ok (.aload_n 0, 1) := by decide +kernel
theorem dL_law_365 : decode cL_law 365 = .ok (.iload_n 3, 1) := by decide +kernel
theorem dL_law_366 : decode cL_law 366 = .ok (.iconst 2, 1) := by decide +kernel
theorem dL_law_367 : decode cL_law 367 = .ok (.iadd, 1) := by decide +kernel
theorem dL_law_368 : decode cL_law 368 = .ok (.iaload, 1) := by decide +kernel
theorem dL_law_369 : decode cL_law 369 = .ok (.invokevirtual 36, 3) := by decide +kernel
theorem dL_law_372 : decode cL_law 372 = .ok (.if_icmp .eq 687, 3) := by decide +kernel
theorem dL_law_375 : decode cL_law 375 = .ok (.iconst 0, 1) := by decide +kernel
theorem dL_law_376 : decode cL_law 376 = .ok (.ireturn, 1) := by decide +kernel
theorem dL_law_377 : decode cL_law 377 = .ok (.aload_n 1, 1) := by decide +kernel
theorem dL_law_378 : decode cL_law 378 = .ok (.aload_n 0, 1) := by decide +kernel
theorem dL_law_379 : decode cL_law 379 = .ok (.iload_n 3, 1) := by decide +kernel
theorem dL_law_380 : decode cL_law 380 = .ok (.iconst 1, 1) := by decide +kernel
theorem dL_law_381 : decode cL_law 381 = .ok (.iadd, 1) := by decide +kernel
theorem dL_law_382 : decode cL_law 382 = .ok (.iaload, 1) := by decide +kernel
theorem dL_law_383 : decode cL_law 383 = .ok (.aload_n 0, 1) := by decide +kernel
theorem dL_law_384 : decode cL_law 384 = .ok (.iload_n 3, 1) := by decide +kernel
theorem dL_law_385 : decode cL_law 385 = .ok (.iconst 2, 1) := by decide +kernel
theorem dL_law_386 : decode cL_law 386 = .ok (.iadd, 1) := by decide +kernel
theorem dL_law_387 : decode cL_law 387 = .ok (.iaload, 1) := by decide +kernel
theorem dL_law_388 : decode cL_law 388 = .ok (.invokevirtual 37, 3) := by decide +kernel
theorem dL_law_391 : decode cL_law 391 = .ok (.aload_n 2, 1) := by decide +kernel
theorem dL_law_392 : decode cL_law 392 = .ok (.aload_n 0, 1) := by decide +kernel
theorem dL_law_393 : decode cL_law 393 = .ok (.iload_n 3, 1) := by decide +kernel
theorem dL_law_394 : decode cL_law 394 = .ok (.iconst 1, 1) := by decide +kernel
theorem dL_law_395 : decode cL_law 395 = .ok (.iadd, 1) := by decide +kernel
theorem dL_law_396 : decode cL_law 396 = .ok (.iaload, 1) := by decide +kernel
theorem dL_law_397 : decode cL_law 397 = .ok (.aload_n 0, 1) := by decide +kernel
theorem dL_law_398 : decode cL_law 398 = .ok (.iload_n 3, 1) := by decide +kernel
theorem dL_law_399 : decode cL_law 399 = .ok (.iconst 2, 1) := by decide +kernel
theorem dL_law_400 : decode cL_law 400 = .ok (.iadd, 1) := by decide +kernel
theorem dL_law_401 : decode cL_law 401 = .ok (.iaload, 1) := by decide +kernel
theorem dL_law_402 : decode cL_law 402 = .ok (.invokevirtual 40, 3) := by decide +kernel
theorem dL_law_405 : decode cL_law 405 = .ok (.if_icmp .eq 654, 3) := by decide +kernel
theorem dL_law_408 : decode cL_law 408 = .ok (.iconst 0, 1) := by decide +kernel
theorem dL_law_409 : decode cL_law 409 = .ok (.ireturn, 1) := by decide +kernel
theorem dL_law_410 : decode cL_law 410 = .ok (.aload_n 1, 1) := by decide +kernel
theorem dL_law_411 : decode cL_law 411 = .ok (.aload_n 0, 1) := by decide +kernel
theorem dL_law_412 : decode cL_law 412 = .ok (.iload_n 3, 1) := by decide +kernel
theorem dL_law_413 : decode cL_law 413 = .ok (.iconst 1, 1) := by decide +kernel
theorem dL_law_414 : decode cL_law 414 = .ok (.iadd, 1) := by decide +kernel
theorem dL_law_415 : decode cL_law 415 = .ok (.iaload, 1) := by decide +kernel
theorem dL_law_416 : decode cL_law 416 = .ok (.aload_n 0, 1) := by decide +kernel
theorem dL_law_417 : decode cL_law 417 = .ok (.iload_n 3, 1) := by decide +kernel
theorem dL_law_418 : decode cL_law 418 = .ok (.iconst 2, 1) := by decide +kernel
theorem dL_law_419 : decode cL_law 419 = .ok (.iadd, 1) := by decide +kernel
theorem dL_law_420 : decode cL_law 420 = .ok (.iaload, 1) := by decide +kernel
theorem dL_law_421 : decode cL_law 421 = .ok (.aload_n 0, 1) := by decide +kernel
theorem dL_law_422 : decode cL_law 422 = .ok (.iload_n 3, 1) := by decide +kernel
theorem dL_law_423 : decode cL_law 423 = .ok (.iconst 3, 1) := by decide +kernel
theorem dL_law_424 : decode cL_law 424 = .ok (.iadd, 1) := by decide +kernel
theorem dL_law_425 : decode cL_law 425 = .ok (.iaload, 1) := by decide +kernel
theorem dL_law_426 : decode cL_law 426 = .ok (.aload_n 0, 1) := by decide +kernel
theorem dL_law_427 : decode cL_law 427 = .ok (.iload_n 3, 1) := by decide +kernel
theorem dL_law_428 : decode cL_law 428 = .ok (.iconst 4, 1) := by decide +kernel
theorem dL_law_429 : decode cL_law 429 = .ok (.iadd, 1) := by decide +kernel
theorem dL_law_430 : decode cL_law 430 = .ok (.iaload, 1) := by decide +kernel
theorem dL_law_431 : decode cL_law 431 = .ok (.aload_n 0, 1) := by decide +kernel
theorem dL_law_432 : decode cL_law 432 = .ok (.iload_n 3, 1) := by decide +kernel
theorem dL_law_433 : decode cL_law 433 = .ok (.iconst 5, 1) := by decide +kernel
theorem dL_law_434 : decode cL_law 434 = .ok (.iadd, 1) := by decide +kernel
theorem dL_law_435 : decode cL_law 435 = .ok (.iaload, 1) := by decide +kernel
theorem dL_law_436 : decode cL_law 436 = .ok (.invokevirtual 41, 3) := by decide +kernel
theorem dL_law_439 : decode cL_law 439 = .ok (.aload_n 2, 1) := by decide +kernel
theorem dL_law_440 : decode cL_law 440 = .ok (.aload_n 0, 1) := by decide +kernel
theorem dL_law_441 : decode cL_law 441 = .ok (.iload_n 3, 1) := by decide +kernel
theorem dL_law_442 : decode cL_law 442 = .ok (.iconst 1, 1) := by decide +kernel
theorem dL_law_443 : decode cL_law 443 = .ok (.iadd, 1) := by decide +kernel
theorem dL_law_444 : decode cL_law 444 = .ok (.iaload, 1) := by decide +kernel
theorem dL_law_445 : decode cL_law 445 = .ok (.aload_n 0, 1) := by decide +kernel
theorem dL_law_446 : decode cL_law 446 = .ok (.iload_n 3, 1) := by decide +kernel
theorem dL_law_447 : decode cL_law 447 = .ok (.iconst 2, 1) := by decide +kernel
theorem dL_law_448 : decode cL_law 448 = .ok (.iadd, 1) := by decide +kernel
theorem dL_law_449 : decode cL_law 449 = .ok (.iaload, 1) := by decide +kernel
theorem dL_law_450 : decode cL_law 450 = .ok (.aload_n 0, 1) := by decide +kernel
theorem dL_law_451 : decode cL_law 451 = .ok (.iload_n 3, 1) := by decide +kernel
theorem dL_law_452 : decode cL_law 452 = .ok (.iconst 3, 1) := by decide +kernel
theorem dL_law_453 : decode cL_law 453 = .ok (.iadd, 1) := by decide +kernel
theorem dL_law_454 : decode cL_law 454 = .ok (.iaload, 1) := by decide +kernel
theorem dL_law_455 : decode cL_law 455 = .ok (.aload_n 0, 1) := by decide +kernel
theorem dL_law_456 : decode cL_law 456 = .ok (.iload_n 3, 1) := by decide +kernel
theorem dL_law_457 : decode cL_law 457 = .ok (.iconst 4, 1) := by decide +kernel
theorem dL_law_458 : decode cL_law 458 = .ok (.iadd, 1) := by decide +kernel
theorem dL_law_459 : decode cL_law 459 = .ok (.iaload, 1) := by decide +kernel
theorem dL_law_460 : decode cL_law 460 = .ok (.aload_n 0, 1) := by decide +kernel
theorem dL_law_461 : decode cL_law 461 = .ok (.iload_n 3, 1) := by decide +kernel
theorem dL_law_462 : decode cL_law 462 = .ok (.iconst 5, 1) := by decide +kernel
theorem dL_law_463 : decode cL_law 463 = .ok (.iadd, 1) := by decide +kernel
theorem dL_law_464 : decode cL_law 464 = .ok (.iaload, 1) := by decide +kernel
theorem dL_law_465 : decode cL_law 465 = .ok (.invokevirtual 45, 3) := by decide +kernel
theorem dL_law_468 : decode cL_law 468 = .ok (.if_icmp .eq 591, 3) := by decide +kernel
theorem dL_law_471 : decode cL_law 471 = .ok (.iconst 0, 1) := by decide +kernel
theorem dL_law_472 : decode cL_law 472 = .ok (.ireturn, 1) := by decide +kernel
theorem dL_law_473 : decode cL_law 473 = .ok (.aload_n 1, 1) := by decide +kernel
theorem dL_law_474 : decode cL_law 474 = .ok (.aload_n 0, 1) := by decide +kernel
theorem dL_law_475 : decode cL_law 475 = .ok (.iload_n 3, 1) := by decide +kernel
theorem dL_law_476 : decode cL_law 476 = .ok (.iconst 1, 1) := by decide +kernel
theorem dL_law_477 : decode cL_law 477 = .ok (.iadd, 1) := by decide +kernel
theorem dL_law_478 : decode cL_law 478 = .ok (.iaload, 1) := by decide +kernel
theorem dL_law_479 : decode cL_law 479 = .ok (.aload_n 0, 1) := by decide +kernel
theorem dL_law_480 : decode cL_law 480 = .ok (.iload_n 3, 1) := by decide +kernel
theorem dL_law_481 : decode cL_law 481 = .ok (.iconst 2, 1) := by decide +kernel
theorem dL_law_482 : decode cL_law 482 = .ok (.iadd, 1) := by decide +kernel
theorem dL_law_483 : decode cL_law 483 = .ok (.iaload, 1) := by decide +kernel
theorem dL_law_484 : decode cL_law 484 = .ok (.invokevirtual 46, 3) := by decide +kernel
theorem dL_law_487 : decode cL_law 487 = .ok (.aload_n 2, 1) := by decide +kernel
theorem dL_law_488 : decode cL_law 488 = .ok (.aload_n 0, 1) := by decide +kernel
theorem dL_law_489 : decode cL_law 489 = .ok (.iload_n 3, 1) := by decide +kernel
theorem dL_law_490 : decode cL_law 490 = .ok (.iconst 1, 1) := by decide +kernel
theorem dL_law_491 : decode cL_law 491 = .ok (.iadd, 1) := by decide +kernel
theorem dL_law_492 : decode cL_law 492 = .ok (.iaload, 1) := by decide +kernel
theorem dL_law_493 : decode cL_law 493 = .ok (.aload_n 0, 1) := by decide +kernel
theorem dL_law_494 : decode cL_law 494 = .ok (.iload_n 3, 1) := by decide +kernel
theorem dL_law_495 : decode cL_law 495 = .ok (.iconst 2, 1) := by decide +kernel
theorem dL_law_496 : decode cL_law 496 = .ok (.iadd, 1) := by decide +kernel
theorem dL_law_497 : decode cL_law 497 = .ok (.iaload, 1) := by decide +kernel
theorem dL_law_498 : decode cL_law 498 = .ok (.invokevirtual 49, 3) := by decide +kernel
theorem dL_law_501 : decode cL_law 501 = .ok (.if_icmp .eq 558, 3) := by decide +kernel
theorem dL_law_504 : decode cL_law 504 = .ok (.iconst 0, 1) := by decide +kernel
theorem dL_law_505 : decode cL_law 505 = .ok (.ireturn, 1) := by decide +kernel
theorem dL_law_506 : decode cL_law 506 = .ok (.aload_n 1, 1) := by decide +kernel
theorem dL_law_507 : decode cL_law 507 = .ok (.aload_n 0, 1) := by decide +kernel
theorem dL_law_508 : decode cL_law 508 = .ok (.iload_n 3, 1) := by decide +kernel
theorem dL_law_509 : decode cL_law 509 = .ok (.iconst 1, 1) := by decide +kernel
theorem dL_law_510 : decode cL_law 510 = .ok (.iadd, 1) := by decide +kernel
theorem dL_law_511 : decode cL_law 511 = .ok (.iaload, 1) := by decide +kernel
theorem dL_law_512 : decode cL_law 512 = .ok (.aload_n 0, 1) := by decide +kernel
theorem dL_law_513 : decode cL_law 513 = .ok (.iload_n 3, 1) := by decide +kernel
theorem dL_law_514 : decode cL_law 514 = .ok (.iconst 2, 1) := by decide +kernel
theorem dL_law_515 : decode cL_law 515 = .ok (.iadd, 1) := by decide +kernel
theorem dL_law_516 : decode cL_law 516 = .ok (.iaload, 1) := by decide +kernel
theorem dL_law_517 : decode cL_law 517 = .ok (.invokevirtual 50, 3) := by decide +kernel
theorem dL_law_520 : decode cL_law 520 = .ok (.aload_n 2, 1) := by decide +kernel
theorem dL_law_521 : decode cL_law 521 = .ok (.aload_n 0, 1) := by decide +kernel
theorem dL_law_522 : decode cL_law 522 = .ok (.iload_n 3, 1) := by decide +kernel
theorem dL_law_523 : decode cL_law 523 = .ok (.iconst 1, 1) := by decide +kernel
theorem dL_law_524 : decode cL_law 524 = .ok (.iadd, 1) := by decide +kernel
theorem dL_law_525 : decode cL_law 525 = .ok (.iaload, 1) := by decide +kernel
theorem dL_law_526 : decode cL_law 526 = .ok (.aload_n 0, 1) := by decide +kernel
theorem dL_law_527 : decode cL_law 527 = .ok (.iload_n 3, 1) := by decide +kernel
theorem dL_law_528 : decode cL_law 528 = .ok (.iconst 2, 1) := by decide +kernel
theorem dL_law_529 : decode cL_law 529 = .ok (.iadd, 1) := by decide +kernel
theorem dL_law_530 : decode cL_law 530 = .ok (.iaload, 1) := by decide +kernel
theorem dL_law_531 : decode cL_law 531 = .ok (.invokevirtual 53, 3) := by decide +kernel
theorem dL_law_534 : decode cL_law 534 = .ok (.if_icmp .eq 525, 3) := by decide +kernel
theorem dL_law_537 : decode cL_law 537 = .ok (.iconst 0, 1) := by decide +kernel
theorem dL_law_538 : decode cL_law 538 = .ok (.ireturn, 1) := by decide +kernel
theorem dL_law_539 : decode cL_law 539 = .ok (.aload_n 1, 1) := by decide +kernel
theorem dL_law_540 : decode cL_law 540 = .ok (.aload_n 0, 1) := by decide +kernel
theorem dL_law_541 : decode cL_law 541 = .ok (.iload_n 3, 1) := by decide +kernel
theorem dL_law_542 : decode cL_law 542 = .ok (.iconst 1, 1) := by decide +kernel
theorem dL_law_543 : decode cL_law 543 = .ok (.iadd, 1) := by decide +kernel
theorem dL_law_544 : decode cL_law 544 = .ok (.iaload, 1) := by decide +kernel
theorem dL_law_545 : decode cL_law 545 = .ok (.aload_n 0, 1) := by decide +kernel
theorem dL_law_546 : decode cL_law 546 = .ok (.iload_n 3, 1) := by decide +kernel
theorem dL_law_547 : decode cL_law 547 = .ok (.iconst 2, 1) := by decide +kernel
theorem dL_law_548 : decode cL_law 548 = .ok (.iadd, 1) := by decide +kernel
theorem dL_law_549 : decode cL_law 549 = .ok (.iaload, 1) := by decide +kernel
theorem dL_law_550 : decode cL_law 550 = .ok (.invokevirtual 54, 3) := by decide +kernel
theorem dL_law_553 : decode cL_law 553 = .ok (.aload_n 2, 1) := by decide +kernel
theorem dL_law_554 : decode cL_law 554 = .ok (.aload_n 0, 1) := by decide +kernel
theorem dL_law_555 : decode cL_law 555 = .ok (.iload_n 3, 1) := by decide +kernel
theorem dL_law_556 : decode cL_law 556 = .ok (.iconst 1, 1) := by decide +kernel
theorem dL_law_557 : decode cL_law 557 = .ok (.iadd, 1) := by decide +kernel
theorem dL_law_558 : decode cL_law 558 = .ok (.iaload, 1) := by decide +kernel
theorem dL_law_559 : decode cL_law 559 = .ok (.aload_n 0, 1) := by decide +kernel
theorem dL_law_560 : decode cL_law 560 = .ok (.iload_n 3, 1) := by decide +kernel
theorem dL_law_561 : decode cL_law 561 = .ok (.iconst 2, 1) := by decide +kernel
theorem dL_law_562 : decode cL_law 562 = .ok (.iadd, 1) := by decide +kernel
theorem dL_law_563 : decode cL_law 563 = .ok (.iaload, 1) := by decide +kernel
theorem dL_law_564 : decode cL_law 564 = .ok (.invokevirtual 57, 3) := by decide +kernel
theorem dL_law_567 : decode cL_law 567 = .ok (.if_icmp .eq 492, 3) := by decide +kernel
theorem dL_law_570 : decode cL_law 570 = .ok (.iconst 0, 1) := by decide +kernel
theorem dL_law_571 : decode cL_law 571 = .ok (.ireturn, 1) := by decide +kernel
theorem dL_law_572 : decode cL_law 572 = .ok (.aload_n 1, 1) := by decide +kernel
theorem dL_law_573 : decode cL_law 573 = .ok (.aload_n 0, 1) := by decide +kernel
theorem dL_law_574 : decode cL_law 574 = .ok (.iload_n 3, 1) := by decide +kernel
theorem dL_law_575 : decode cL_law 575 = .ok (.iconst 1, 1) := by decide +kernel
theorem dL_law_576 : decode cL_law 576 = .ok (.iadd, 1) := by decide +kernel
theorem dL_law_577 : decode cL_law 577 = .ok (.iaload, 1) := by decide +kernel
theorem dL_law_578 : decode cL_law 578 = .ok (.aload_n 0, 1) := by decide +kernel
theorem dL_law_579 : decode cL_law 579 = .ok (.iload_n 3, 1) := by decide +kernel
theorem dL_law_580 : decode cL_law 580 = .ok (.iconst 2, 1) := by decide +kernel
theorem dL_law_581 : decode cL_law 581 = .ok (.iadd, 1) := by decide +kernel
theorem dL_law_582 : decode cL_law 582 = .ok (.iaload, 1) := by decide +kernel
theorem dL_law_583 : decode cL_law 583 = .ok (.invokevirtual 58, 3) := by decide +kernel
theorem dL_law_586 : decode cL_law 586 = .ok (.aload_n 2, 1) := by decide +kernel
theorem dL_law_587 : decode cL_law 587 = .ok (.aload_n 0, 1) := by decide +kernel
theorem dL_law_588 : decode cL_law 588 = .ok (.iload_n 3, 1) := by decide +kernel
theorem dL_law_589 : decode cL_law 589 = .ok (.iconst 1, 1) := by decide +kernel
theorem dL_law_590 : decode cL_law 590 = .ok (.iadd, 1) := by decide +kernel
theorem dL_law_591 : decode cL_law 591 = .ok (.iaload, 1) := by decide +kernel
theorem dL_law_592 : decode cL_law 592 = .ok (.aload_n 0, 1) := by decide +kernel
theorem dL_law_593 : decode cL_law 593 = .ok (.iload_n 3, 1) := by decide +kernel
theorem dL_law_594 : decode cL_law 594 = .ok (.iconst 2, 1) := by decide +kernel
theorem dL_law_595 : decode cL_law 595 = .ok (.iadd, 1) := by decide +kernel
theorem dL_law_596 : decode cL_law 596 = .ok (.iaload, 1) := by decide +kernel
theorem dL_law_597 : decode cL_law 597 = .ok (.invokevirtual 61, 3) := by decide +kernel
theorem dL_law_600 : decode cL_law 600 = .ok (.if_icmp .eq 459, 3) := by decide +kernel
theorem dL_law_603 : decode cL_law 603 = .ok (.iconst 0, 1) := by decide +kernel
theorem dL_law_604 : decode cL_law 604 = .ok (.ireturn, 1) := by decide +kernel
theorem dL_law_605 : decode cL_law 605 = .ok (.aload_n 1, 1) := by decide +kernel
theorem dL_law_606 : decode cL_law 606 = .ok (.aload_n 0, 1) := by decide +kernel
theorem dL_law_607 : decode cL_law 607 = .ok (.iload_n 3, 1) := by decide +kernel
theorem dL_law_608 : decode cL_law 608 = .ok (.iconst 1, 1) := by decide +kernel
theorem dL_law_609 : decode cL_law 609 = .ok (.iadd, 1) := by decide +kernel
theorem dL_law_610 : decode cL_law 610 = .ok (.iaload, 1) := by decide +kernel
theorem dL_law_611 : decode cL_law 611 = .ok (.invokevirtual 62, 3) := by decide +kernel
theorem dL_law_614 : decode cL_law 614 = .ok (.aload_n 2, 1) := by decide +kernel
theorem dL_law_615 : decode cL_law 615 = .ok (.aload_n 0, 1) := by decide +kernel
theorem dL_law_616 : decode cL_law 616 = .ok (.iload_n 3, 1) := by decide +kernel
theorem dL_law_617 : decode cL_law 617 = .ok (.iconst 1, 1) := by decide +kernel
theorem dL_law_618 : decode cL_law 618 = .ok (.iadd, 1) := by decide +kernel
theorem dL_law_619 : decode cL_law 619 = .ok (.iaload, 1) := by decide +kernel
theorem dL_law_620 : decode cL_law 620 = .ok (.invokevirtual 65, 3) := by decide +kernel
theorem dL_law_623 : decode cL_law 623 = .ok (.if_icmp .eq 436, 3) := by decide +kernel
theorem dL_law_626 : decode cL_law 626 = .ok (.iconst 0, 1) := by decide +kernel
theorem dL_law_627 : decode cL_law 627 = .ok (.ireturn, 1) := by decide +kernel
theorem dL_law_628 : decode cL_law 628 = .ok (.aload_n 1, 1) := by decide +kernel
theorem dL_law_629 : decode cL_law 629 = .ok (.aload_n 0, 1) := by decide +kernel
theorem dL_law_630 : decode cL_law 630 = .ok (.iload_n 3, 1) := by decide +kernel
theorem dL_law_631 : decode cL_law 631 = .ok (.iconst 1, 1) := by decide +kernel
theorem dL_law_632 : decode cL_law 632 = .ok (.iadd, 1) := by decide +kernel
theorem dL_law_633 : decode cL_law 633 = .ok (.iaload, 1) := by decide +kernel
theorem dL_law_634 : decode cL_law 634 = .ok (.aload_n 0, 1) := by decide +kernel
theorem dL_law_635 : decode cL_law 635 = .ok (.iload_n 3, 1) := by decide +kernel
theorem dL_law_636 : decode cL_law 636 = .ok (.iconst 2, 1) := by decide +kernel
theorem dL_law_637 : decode cL_law 637 = .ok (.iadd, 1) := by decide +kernel
theorem dL_law_638 : decode cL_law 638 = .ok (.iaload, 1) := by decide +kernel
theorem dL_law_639 : decode cL_law 639 = .ok (.invokevirtual 66, 3) := by decide +kernel
theorem dL_law_642 : decode cL_law 642 = .ok (.aload_n 2, 1) := by decide +kernel
theorem dL_law_643 : decode cL_law 643 = .ok (.aload_n 0, 1) := by decide +kernel
theorem dL_law_644 : decode cL_law 644 = .ok (.iload_n 3, 1) := by decide +kernel
theorem dL_law_645 : decode cL_law 645 = .ok (.iconst 1, 1) := by decide +kernel
theorem dL_law_646 : decode cL_law 646 = .ok (.iadd, 1) := by decide +kernel
theorem dL_law_647 : decode cL_law 647 = .ok (.iaload, 1) := by decide +kernel
theorem dL_law_648 : decode cL_law 648 = .ok (.aload_n 0, 1) := by decide +kernel
theorem dL_law_649 : decode cL_law 649 = .ok (.iload_n 3, 1) := by decide +kernel
theorem dL_law_650 : decode cL_law 650 = .ok (.iconst 2, 1) := by decide +kernel
theorem dL_law_651 : decode cL_law 651 = .ok (.iadd, 1) := by decide +kernel
theorem dL_law_652 : decode cL_law 652 = .ok (.iaload, 1) := by decide +kernel
theorem dL_law_653 : decode cL_law 653 = .ok (.invokevirtual 69, 3) := by decide +kernel
theorem dL_law_656 : decode cL_law 656 = .ok (.if_icmp .eq 403, 3) := by decide +kernel
theorem dL_law_659 : decode cL_law 659 = .ok (.iconst 0, 1) := by decide +kernel
theorem dL_law_660 : decode cL_law 660 = .ok (.ireturn, 1) := by decide +kernel
theorem dL_law_661 : decode cL_law 661 = .ok (.aload_n 1, 1) := by decide +kernel
theorem dL_law_662 : decode cL_law 662 = .ok (.aload_n 0, 1) := by decide +kernel
theorem dL_law_663 : decode cL_law 663 = .ok (.iload_n 3, 1) := by decide +kernel
theorem dL_law_664 : decode cL_law 664 = .ok (.iconst 1, 1) := by decide +kernel
theorem dL_law_665 : decode cL_law 665 = .ok (.iadd, 1) := by decide +kernel
theorem dL_law_666 : decode cL_law 666 = .ok (.iaload, 1) := by decide +kernel
theorem dL_law_667 : decode cL_law 667 = .ok (.aload_n 0, 1) := by decide +kernel
theorem dL_law_668 : decode cL_law 668 = .ok (.iload_n 3, 1) := by decide +kernel
theorem dL_law_669 : decode cL_law 669 = .ok (.iconst 2, 1) := by decide +kernel
theorem dL_law_670 : decode cL_law 670 = .ok (.iadd, 1) := by decide +kernel
theorem dL_law_671 : decode cL_law 671 = .ok (.iaload, 1) := by decide +kernel
theorem dL_law_672 : decode cL_law 672 = .ok (.invokevirtual 70, 3) := by decide +kernel
theorem dL_law_675 : decode cL_law 675 = .ok (.aload_n 2, 1) := by decide +kernel
theorem dL_law_676 : decode cL_law 676 = .ok (.aload_n 0, 1) := by decide +kernel
theorem dL_law_677 : decode cL_law 677 = .ok (.iload_n 3, 1) := by decide +kernel
theorem dL_law_678 : decode cL_law 678 = .ok (.iconst 1, 1) := by decide +kernel
theorem dL_law_679 : decode cL_law 679 = .ok (.iadd, 1) := by decide +kernel
theorem dL_law_680 : decode cL_law 680 = .ok (.iaload, 1) := by decide +kernel
theorem dL_law_681 : decode cL_law 681 = .ok (.aload_n 0, 1) := by decide +kernel
theorem dL_law_682 : decode cL_law 682 = .ok (.iload_n 3, 1) := by decide +kernel
theorem dL_law_683 : decode cL_law 683 = .ok (.iconst 2, 1) := by decide +kernel
theorem dL_law_684 : decode cL_law 684 = .ok (.iadd, 1) := by decide +kernel
theorem dL_law_685 : decode cL_law 685 = .ok (.iaload, 1) := by decide +kernel
theorem dL_law_686 : decode cL_law 686 = .ok (.invokevirtual 73, 3) := by decide +kernel
theorem dL_law_689 : decode cL_law 689 = .ok (.if_icmp .eq 370, 3) := by decide +kernel
theorem dL_law_692 : decode cL_law 692 = .ok (.iconst 0, 1) := by decide +kernel
theorem dL_law_693 : decode cL_law 693 = .ok (.ireturn, 1) := by decide +kernel
theorem dL_law_694 : decode cL_law 694 = .ok (.aload_n 1, 1) := by decide +kernel
theorem dL_law_695 : decode cL_law 695 = .ok (.aload_n 0, 1) := by decide +kernel
theorem dL_law_696 : decode cL_law 696 = .ok (.iload_n 3, 1) := by decide +kernel
theorem dL_law_697 : decode cL_law 697 = .ok (.iconst 1, 1) := by decide +kernel
theorem dL_law_698 : decode cL_law 698 = .ok (.iadd, 1) := by decide +kernel
theorem dL_law_699 : decode cL_law 699 = .ok (.iaload, 1) := by decide +kernel
theorem dL_law_700 : decode cL_law 700 = .ok (.i2c, 1) := by decide +kernel
theorem dL_law_701 : decode cL_law 701 = .ok (.invokevirtual 74, 3) := by decide +kernel
theorem dL_law_704 : decode cL_law 704 = .ok (.aload_n 2, 1) := by decide +kernel
theorem dL_law_705 : decode cL_law 705 = .ok (.aload_n 0, 1) := by decide +kernel
theorem dL_law_706 : decode cL_law 706 = .ok (.iload_n 3, 1) := by decide +kernel
theorem dL_law_707 : decode cL_law 707 = .ok (.iconst 1, 1) := by decide +kernel
theorem dL_law_708 : decode cL_law 708 = .ok (.iadd, 1) := by decide +kernel
theorem dL_law_709 : decode cL_law 709 = .ok (.iaload, 1) := by decide +kernel
theorem dL_law_710 : decode cL_law 710 = .ok (.i2c, 1) := by decide +kernel
theorem dL_law_711 : decode cL_law 711 = .ok (.invokevirtual 78, 3) := by decide +kernel
theorem dL_law_714 : decode cL_law 714 = .ok (.if_icmp .eq 345, 3) := by decide +kernel
theorem dL_law_717 : decode cL_law 717 = .ok (.iconst 0, 1) := by decide +kernel
theorem dL_law_718 : decode cL_law 718 = .ok (.ireturn, 1) := by decide +kernel
theorem dL_law_719 : decode cL_law 719 = .ok (.aload_n 1, 1) := by decide +kernel
theorem dL_law_720 : decode cL_law 720 = .ok (.invokevirtual 79, 3) := by decide +kernel
theorem dL_law_723 : decode cL_law 723 = .ok (.aload_n 2, 1) := by decide +kernel
theorem dL_law_724 : decode cL_law 724 = .ok (.invokevirtual 83, 3) := by decide +kernel
theorem dL_law_727 : decode cL_law 727 = .ok (.if_icmp .eq 332, 3) := by decide +kernel
theorem dL_law_730 : decode cL_law 730 = .ok (.iconst 0, 1) := by decide +kernel
theorem dL_law_731 : decode cL_law 731 = .ok (.ireturn, 1) := by decide +kernel
theorem dL_law_732 : decode cL_law 732 = .ok (.aload_n 1, 1) := by decide +kernel
theorem dL_law_733 : decode cL_law 733 = .ok (.invokevirtual 84, 3) := by decide +kernel
theorem dL_law_736 : decode cL_law 736 = .ok (.aload_n 2, 1) := by decide +kernel
theorem dL_law_737 : decode cL_law 737 = .ok (.invokevirtual 87, 3) := by decide +kernel
theorem dL_law_740 : decode cL_law 740 = .ok (.if_icmp .eq 319, 3) := by decide +kernel
theorem dL_law_743 : decode cL_law 743 = .ok (.iconst 0, 1) := by decide +kernel
theorem dL_law_744 : decode cL_law 744 = .ok (.ireturn, 1) := by decide +kernel
theorem dL_law_745 : decode cL_law 745 = .ok (.aload_n 1, 1) := by decide +kernel
theorem dL_law_746 : decode cL_law 746 = .ok (.invokevirtual 88, 3) := by decide +kernel
theorem dL_law_749 : decode cL_law 749 = .ok (.aload_n 2, 1) := by decide +kernel
theorem dL_law_750 : decode cL_law 750 = .ok (.invokevirtual 91, 3) := by decide +kernel
theorem dL_law_753 : decode cL_law 753 = .ok (.if_icmp .eq 306, 3) := by decide +kernel
theorem dL_law_756 : decode cL_law 756 = .ok (.iconst 0, 1) := by decide +kernel
theorem dL_law_757 : decode cL_law 757 = .ok (.ireturn, 1) := by decide +kernel
theorem dL_law_758 : decode cL_law 758 = .ok (.aload_n 1, 1) := by decide +kernel
theorem dL_law_759 : decode cL_law 759 = .ok (.aload_n 0, 1) := by decide +kernel
theorem dL_law_760 : decode cL_law 760 = .ok (.iload_n 3, 1) := by decide +kernel
theorem dL_law_761 : decode cL_law 761 = .ok (.iconst 1, 1) := by decide +kernel
theorem dL_law_762 : decode cL_law 762 = .ok (.iadd, 1) := by decide +kernel
theorem dL_law_763 : decode cL_law 763 = .ok (.iaload, 1) := by decide +kernel
theorem dL_law_764 : decode cL_law 764 = .ok (.invokevirtual 92, 3) := by decide +kernel
theorem dL_law_767 : decode cL_law 767 = .ok (.aload_n 2, 1) := by decide +kernel
theorem dL_law_768 : decode cL_law 768 = .ok (.aload_n 0, 1) := by decide +kernel
theorem dL_law_769 : decode cL_law 769 = .ok (.iload_n 3, 1) := by decide +kernel
theorem dL_law_770 : decode cL_law 770 = .ok (.iconst 1, 1) := by decide +kernel
theorem dL_law_771 : decode cL_law 771 = .ok (.iadd, 1) := by decide +kernel
theorem dL_law_772 : decode cL_law 772 = .ok (.iaload, 1) := by decide +kernel
theorem dL_law_773 : decode cL_law 773 = .ok (.invokevirtual 95, 3) := by decide +kernel
theorem dL_law_776 : decode cL_law 776 = .ok (.if_icmp .eq 283, 3) := by decide +kernel
theorem dL_law_779 : decode cL_law 779 = .ok (.iconst 0, 1) := by decide +kernel
theorem dL_law_780 : decode cL_law 780 = .ok (.ireturn, 1) := by decide +kernel
theorem dL_law_781 : decode cL_law 781 = .ok (.aload_n 1, 1) := by decide +kernel
theorem dL_law_782 : decode cL_law 782 = .ok (.aload_n 0, 1) := by decide +kernel
theorem dL_law_783 : decode cL_law 783 = .ok (.iload_n 3, 1) := by decide +kernel
theorem dL_law_784 : decode cL_law 784 = .ok (.iconst 1, 1) := by decide +kernel
theorem dL_law_785 : decode cL_law 785 = .ok (.iadd, 1) := by decide +kernel
theorem dL_law_786 : decode cL_law 786 = .ok (.iaload, 1) := by decide +kernel
theorem dL_law_787 : decode cL_law 787 = .ok (.invokevirtual 96, 3) := by decide +kernel
theorem dL_law_790 : decode cL_law 790 = .ok (.aload_n 2, 1) := by decide +kernel
theorem dL_law_791 : decode cL_law 791 = .ok (.aload_n 0, 1) := by decide +kernel
theorem dL_law_792 : decode cL_law 792 = .ok (.iload_n 3, 1) := by decide +kernel
theorem dL_law_793 : decode cL_law 793 = .ok (.iconst 1, 1) := by decide +kernel
theorem dL_law_794 : decode cL_law 794 = .ok (.iadd, 1) := by decide +kernel
theorem dL_law_795 : decode cL_law 795 = .ok (.iaload, 1) := by decide +kernel
theorem dL_law_796 : decode cL_law 796 = .ok (.invokevirtual 99, 3) := by decide +kernel
theorem dL_law_799 : decode cL_law 799 = .ok (.if_icmp .eq 260, 3) := by decide +kernel
theorem dL_law_802 : decode cL_law 802 = .ok (.iconst 0, 1) := by decide +kernel
theorem dL_law_803 : decode cL_law 803 = .ok (.ireturn, 1) := by decide +kernel
theorem dL_law_804 : decode cL_law 804 = .ok (.aload_n 1, 1) := by decide +kernel
theorem dL_law_805 : decode cL_law 805 = .ok (.aload_n 0, 1) := by decide +kernel
theorem dL_law_806 : decode cL_law 806 = .ok (.iload_n 3, 1) := by decide +kernel
theorem dL_law_807 : decode cL_law 807 = .ok (.iconst 1, 1) := by decide +kernel
theorem dL_law_808 : decode cL_law 808 = .ok (.iadd, 1) := by decide +kernel
theorem dL_law_809 : decode cL_law 809 = .ok (.iaload, 1) := by decide +kernel
theorem dL_law_810 : decode cL_law 810 = .ok (.aload_n 0, 1) := by decide +kernel
theorem dL_law_811 : decode cL_law 811 = .ok (.iload_n 3, 1) := by decide +kernel
theorem dL_law_812 : decode cL_law 812 = .ok (.iconst 2, 1) := by decide +kernel
theorem dL_law_813 : decode cL_law 813 = .ok (.iadd, 1) := by decide +kernel
theorem dL_law_814 : decode cL_law 814 = .ok (.iaload, 1) := by decide +kernel
theorem dL_law_815 : decode cL_law 815 = .ok (.invokevirtual 100, 3) := by decide +kernel
theorem dL_law_818 : decode cL_law 818 = .ok (.aload_n 2, 1) := by decide +kernel
theorem dL_law_819 : decode cL_law 819 = .ok (.aload_n 0, 1) := by decide +kernel
theorem dL_law_820 : decode cL_law 820 = .ok (.iload_n 3, 1) := by decide +kernel
theorem dL_law_821 : decode cL_law 821 = .ok (.iconst 1, 1) := by decide +kernel
theorem dL_law_822 : decode cL_law 822 = .ok (.iadd, 1) := by decide +kernel
theorem dL_law_823 : decode cL_law 823 = .ok (.iaload, 1) := by decide +kernel
theorem dL_law_824 : decode cL_law 824 = .ok (.aload_n 0, 1) := by decide +kernel
theorem dL_law_825 : decode cL_law 825 = .ok (.iload_n 3, 1) := by decide +kernel
theorem dL_law_826 : decode cL_law 826 = .ok (.iconst 2, 1) := by decide +kernel
theorem dL_law_827 : decode cL_law 827 = .ok (.iadd, 1) := by decide +kernel
theorem dL_law_828 : decode cL_law 828 = .ok (.iaload, 1) := by decide +kernel
theorem dL_law_829 : decode cL_law 829 = .ok (.invokevirtual 103, 3) := by decide +kernel
theorem dL_law_832 : decode cL_law 832 = .ok (.if_icmp .eq 227, 3) := by decide +kernel
theorem dL_law_835 : decode cL_law 835 = .ok (.iconst 0, 1) := by decide +kernel
theorem dL_law_836 : decode cL_law 836 = .ok (.ireturn, 1) := by decide +kernel
theorem dL_law_837 : decode cL_law 837 = .ok (.aload_n 1, 1) := by decide +kernel
theorem dL_law_838 : decode cL_law 838 = .ok (.aload_n 0, 1) := by decide +kernel
theorem dL_law_839 : decode cL_law 839 = .ok (.iload_n 3, 1) := by decide +kernel
theorem dL_law_840 : decode cL_law 840 = .ok (.iconst 1, 1) := by decide +kernel
theorem dL_law_841 : decode cL_law 841 = .ok (.iadd, 1) := by decide +kernel
theorem dL_law_842 : decode cL_law 842 = .ok (.iaload, 1) := by decide +kernel
theorem dL_law_843 : decode cL_law 843 = .ok (.aload_n 0, 1) := by decide +kernel
theorem dL_law_844 : decode cL_law 844 = .ok (.iload_n 3, 1) := by decide +kernel
theorem dL_law_845 : decode cL_law 845 = .ok (.iconst 2, 1) := by decide +kernel
theorem dL_law_846 : decode cL_law 846 = .ok (.iadd, 1) := by decide +kernel
theorem dL_law_847 : decode cL_law 847 = .ok (.iaload, 1) := by decide +kernel
theorem dL_law_848 : decode cL_law 848 = .ok (.invokevirtual 104, 3) := by decide +kernel
theorem dL_law_851 : decode cL_law 851 = .ok (.aload_n 2, 1) := by decide +kernel
theorem dL_law_852 : decode cL_law 852 = .ok (.aload_n 0, 1) := by decide +kernel
theorem dL_law_853 : decode cL_law 853 = .ok (.iload_n 3, 1) := by decide +kernel
theorem dL_law_854 : decode cL_law 854 = .ok (.iconst 1, 1) := by decide +kernel
theorem dL_law_855 : decode cL_law 855 = .ok (.iadd, 1) := by decide +kernel
theorem dL_law_856 : decode cL_law 856 = .ok (.iaload, 1) := by decide +kernel
theorem dL_law_857 : decode cL_law 857 = .ok (.aload_n 0, 1) := by decide +kernel
theorem dL_law_858 : decode cL_law 858 = .ok (.iload_n 3, 1) := by decide +kernel
theorem dL_law_859 : decode cL_law 859 = .ok (.iconst 2, 1) := by decide +kernel
theorem dL_law_860 : decode cL_law 860 = .ok (.iadd, 1) := by decide +kernel
theorem dL_law_861 : decode cL_law 861 = .ok (.iaload, 1) := by decide +kernel
theorem dL_law_862 : decode cL_law 862 = .ok (.invokevirtual 107, 3) := by decide +kernel
theorem dL_law_865 : decode cL_law 865 = .ok (.if_icmp .eq 194, 3) := by decide +kernel
theorem dL_law_868 : decode cL_law 868 = .ok (.iconst 0, 1) := by decide +kernel
theorem dL_law_869 : decode cL_law 869 = .ok (.ireturn, 1) := by decide +kernel
theorem dL_law_870 : decode cL_law 870 = .ok (.aload_n 1, 1) := by decide +kernel
theorem dL_law_871 : decode cL_law 871 = .ok (.aload_n 0, 1) := by decide +kernel
theorem dL_law_872 : decode cL_law 872 = .ok (.iload_n 3, 1) := by decide +kernel
theorem dL_law_873 : decode cL_law 873 = .ok (.iconst 1, 1) := by decide +kernel
theorem dL_law_874 : decode cL_law 874 = .ok (.iadd, 1) := by decide +kernel
theorem dL_law_875 : decode cL_law 875 = .ok (.iaload, 1) := by decide +kernel
theorem dL_law_876 : decode cL_law 876 = .ok (.aload_n 0, 1) := by decide +kernel
theorem dL_law_877 : decode cL_law 877 = .ok (.iload_n 3, 1) := by decide +kernel
theorem dL_law_878 : decode cL_law 878 = .ok (.iconst 2, 1) := by decide +kernel
theorem dL_law_879 : decode cL_law 879 = .ok (.iadd, 1) := by decide +kernel
theorem dL_law_880 : decode cL_law 880 = .ok (.iaload, 1) := by decide +kernel
theorem dL_law_881 : decode cL_law 881 = .ok (.invokevirtual 108, 3) := by decide +kernel
theorem dL_law_884 : decode cL_law 884 = .ok (.aload_n 2, 1) := by decide +kernel
theorem dL_law_885 : decode cL_law 885 = .ok (.aload_n 0, 1) := by decide +kernel
theorem dL_law_886 : decode cL_law 886 = .ok (.iload_n 3, 1) := by decide +kernel
theorem dL_law_887 : decode cL_law 887 = .ok (.iconst 1, 1) := by decide +kernel
theorem dL_law_888 : decode cL_law 888 = .ok (.iadd, 1) := by decide +kernel
theorem dL_law_889 : decode cL_law 889 = .ok (.iaload, 1) := by decide +kernel
theorem dL_law_890 : decode cL_law 890 = .ok (.aload_n 0, 1) := by decide +kernel
theorem dL_law_891 : decode cL_law 891 = .ok (.iload_n 3, 1) := by decide +kernel
theorem dL_law_892 : decode cL_law 892 = .ok (.iconst 2, 1) := by decide +kernel
theorem dL_law_893 : decode cL_law 893 = .ok (.iadd, 1) := by decide +kernel
theorem dL_law_894 : decode cL_law 894 = .ok (.iaload, 1) := by decide +kernel
theorem dL_law_895 : decode cL_law 895 = .ok (.invokevirtual 111, 3) := by decide +kernel
theorem dL_law_898 : decode cL_law 898 = .ok (.if_icmp .eq 161, 3) := by decide +kernel
theorem dL_law_901 : decode cL_law 901 = .ok (.iconst 0, 1) := by decide +kernel
theorem dL_law_902 : decode cL_law 902 = .ok (.ireturn, 1) := by decide +kernel
theorem dL_law_903 : decode cL_law 903 = .ok (.aload_n 1, 1) := by decide +kernel
theorem dL_law_904 : decode cL_law 904 = .ok (.aload_n 0, 1) := by decide +kernel
theorem dL_law_905 : decode cL_law 905 = .ok (.iload_n 3, 1) := by decide +kernel
theorem dL_law_906 : decode cL_law 906 = .ok (.iconst 1, 1) := by decide +kernel
theorem dL_law_907 : decode cL_law 907 = .ok (.iadd, 1) := by decide +kernel
theorem dL_law_908 : decode cL_law 908 = .ok (.iaload, 1) := by decide +kernel
theorem dL_law_909 : decode cL_law 909 = .ok (.aload_n 0, 1) := by decide +kernel
theorem dL_law_910 : decode cL_law 910 = .ok (.iload_n 3, 1) := by decide +kernel
theorem dL_law_911 : decode cL_law 911 = .ok (.iconst 2, 1) := by decide +kernel
theorem dL_law_912 : decode cL_law 912 = .ok (.iadd, 1) := by decide +kernel
theorem dL_law_913 : decode cL_law 913 = .ok (.iaload, 1) := by decide +kernel
theorem dL_law_914 : decode cL_law 914 = .ok (.invokevirtual 112, 3) := by decide +kernel
theorem dL_law_917 : decode cL_law 917 = .ok (.aload_n 2, 1) := by decide +kernel
theorem dL_law_918 : decode cL_law 918 = .ok (.aload_n 0, 1) := by decide +kernel
theorem dL_law_919 : decode cL_law 919 = .ok (.iload_n 3, 1) := by decide +kernel
theorem dL_law_920 : decode cL_law 920 = .ok (.iconst 1, 1) := by decide +kernel
theorem dL_law_921 : decode cL_law 921 = .ok (.iadd, 1) := by decide +kernel
theorem dL_law_922 : decode cL_law 922 = .ok (.iaload, 1) := by decide +kernel
theorem dL_law_923 : decode cL_law 923 = .ok (.aload_n 0, 1) := by decide +kernel
theorem dL_law_924 : decode cL_law 924 = .ok (.iload_n 3, 1) := by decide +kernel
theorem dL_law_925 : decode cL_law 925 = .ok (.iconst 2, 1) := by decide +kernel
theorem dL_law_926 : decode cL_law 926 = .ok (.iadd, 1) := by decide +kernel
theorem dL_law_927 : decode cL_law 927 = .ok (.iaload, 1) := by decide +kernel
theorem dL_law_928 : decode cL_law 928 = .ok (.invokevirtual 115, 3) := by decide +kernel
theorem dL_law_931 : decode cL_law 931 = .ok (.if_icmp .eq 128, 3) := by decide +kernel
theorem dL_law_934 : decode cL_law 934 = .ok (.iconst 0, 1) := by decide +kernel
theorem dL_law_935 : decode cL_law 935 = .ok (.ireturn, 1) := by decide +kernel
theorem dL_law_936 : decode cL_law 936 = .ok (.aload_n 1, 1) := by decide +kernel
theorem dL_law_937 : decode cL_law 937 = .ok (.aload_n 0, 1) := by decide +kernel
theorem dL_law_938 : decode cL_law 938 = .ok (.iload_n 3, 1) := by decide +kernel
theorem dL_law_939 : decode cL_law 939 = .ok (.iconst 1, 1) := by decide +kernel
theorem dL_law_940 : decode cL_law 940 = .ok (.iadd, 1) := by decide +kernel
theorem dL_law_941 : decode cL_law 941 = .ok (.iaload, 1) := by decide +kernel
theorem dL_law_942 : decode cL_law 942 = .ok (.aload_n 0, 1) := by decide +kernel
theorem dL_law_943 : decode cL_law 943 = .ok (.iload_n 3, 1) := by decide +kernel
theorem dL_law_944 : decode cL_law 944 = .ok (.iconst 2, 1) := by decide +kernel
theorem dL_law_945 : decode cL_law 945 = .ok (.iadd, 1) := by decide +kernel
theorem dL_law_946 : decode cL_law 946 = .ok (.iaload, 1) := by decide +kernel
theorem dL_law_947 : decode cL_law 947 = .ok (.aload_n 0, 1) := by decide +kernel
theorem dL_law_948 : decode cL_law 948 = .ok (.iload_n 3, 1) := by decide +kernel
theorem dL_law_949 : decode cL_law 949 = .ok (.iconst 3, 1) := by decide +kernel
theorem dL_law_950 : decode cL_law 950 = .ok (.iadd, 1) := by decide +kernel
theorem dL_law_951 : decode cL_law 951 = .ok (.iaload, 1) := by decide +kernel
theorem dL_law_952 : decode cL_law 952 = .ok (.invokevirtual 116, 3) := by decide +kernel
theorem dL_law_955 : decode cL_law 955 = .ok (.aload_n 2, 1) := by decide +kernel
theorem dL_law_956 : decode cL_law 956 = .ok (.aload_n 0, 1) := by decide +kernel
theorem dL_law_957 : decode cL_law 957 = .ok (.iload_n 3, 1) := by decide +kernel
theorem dL_law_958 : decode cL_law 958 = .ok (.iconst 1, 1) := by decide +kernel
theorem dL_law_959 : decode cL_law 959 = .ok (.iadd, 1) := by decide +kernel
theorem dL_law_960 : decode cL_law 960 = .ok (.iaload, 1) := by decide +kernel
theorem dL_law_961 : decode cL_law 961 = .ok (.aload_n 0, 1) := by decide +kernel
theorem dL_law_962 : decode cL_law 962 = .ok (.iload_n 3, 1) := by decide +kernel
theorem dL_law_963 : decode cL_law 963 = .ok (.iconst 2, 1) := by decide +kernel
theorem dL_law_964 : decode cL_law 964 = .ok (.iadd, 1) := by decide +kernel
theorem dL_law_965 : decode cL_law 965 = .ok (.iaload, 1) := by decide +kernel
theorem dL_law_966 : decode cL_law 966 = .ok (.aload_n 0, 1) := by decide +kernel
theorem dL_law_967 : decode cL_law 967 = .ok (.iload_n 3, 1) := by decide +kernel
theorem dL_law_968 : decode cL_law 968 = .ok (.iconst 3, 1) := by decide +kernel
theorem dL_law_969 : decode cL_law 969 = .ok (.iadd, 1) := by decide +kernel
theorem dL_law_970 : decode cL_law 970 = .ok (.iaload, 1) := by decide +kernel
theorem dL_law_971 : decode cL_law 971 = .ok (.invokevirtual 119, 3) := by decide +kernel
theorem dL_law_974 : decode cL_law 974 = .ok (.if_icmp .eq 85, 3) := by decide +kernel
theorem dL_law_977 : decode cL_law 977 = .ok (.iconst 0, 1) := by decide +kernel
theorem dL_law_978 : decode cL_law 978 = .ok (.ireturn, 1) := by decide +kernel
theorem dL_law_979 : decode cL_law 979 = .ok (.aload_n 1, 1) := by decide +kernel
theorem dL_law_980 : decode cL_law 980 = .ok (.aload_n 0, 1) := by decide +kernel
theorem dL_law_981 : decode cL_law 981 = .ok (.iload_n 3, 1) := by decide +kernel
theorem dL_law_982 : decode cL_law 982 = .ok (.iconst 1, 1) := by decide +kernel
theorem dL_law_983 : decode cL_law 983 = .ok (.iadd, 1) := by decide +kernel
theorem dL_law_984 : decode cL_law 984 = .ok (.iaload, 1) := by decide +kernel
theorem dL_law_985 : decode cL_law 985 = .ok (.aload_n 0, 1) := by decide +kernel
theorem dL_law_986 : decode cL_law 986 = .ok (.iload_n 3, 1) := by decide +kernel
theorem dL_law_987 : decode cL_law 987 = .ok (.iconst 2, 1) := by decide +kernel
theorem dL_law_988 : decode cL_law 988 = .ok (.iadd, 1) := by decide +kernel
theorem dL_law_989 : decode cL_law 989 = .ok (.iaload, 1) := by decide +kernel
theorem dL_law_990 : decode cL_law 990 = .ok (.invokevirtual 120, 3) := by decide +kernel
theorem dL_law_993 : decode cL_law 993 = .ok (.aload_n 2, 1) := by decide +kernel
theorem dL_law_994 : decode cL_law 994 = .ok (.aload_n 0, 1) := by decide +kernel
theorem dL_law_995 : decode cL_law 995 = .ok (.iload_n 3, 1) := by decide +kernel
theorem dL_law_996 : decode cL_law 996 = .ok (.iconst 1, 1) := by decide +kernel
theorem dL_law_997 : decode cL_law 997 = .ok (.iadd, 1) := by decide +kernel
theorem dL_law_998 : decode cL_law 998 = .ok (.iaload, 1) := by decide +kernel
theorem dL_law_999 : decode cL_law 999 = .ok (.aload_n 0, 1) := by decide +kernel
theorem dL_law_1000 : decode cL_law 1000 = .ok (.iload_n 3, 1) := by decide +kernel
theorem dL_law_1001 : decode cL_law 1001 = .ok (.iconst 2, 1) := by decide +kernel
theorem dL_law_1002 : decode cL_law 1002 = .ok (.iadd, 1) := by decide +kernel
theorem dL_law_1003 : decode cL_law 1003 = .ok (.iaload, 1) := by decide +kernel
theorem dL_law_1004 : decode cL_law 1004 = .ok (.invokevirtual 123, 3) := by decide +kernel
theorem dL_law_1007 : decode cL_law 1007 = .ok (.if_icmp .eq 52, 3) := by decide +kernel
theorem dL_law_1010 : decode cL_law 1010 = .ok (.iconst 0, 1) := by decide +kernel
theorem dL_law_1011 : decode cL_law 1011 = .ok (.ireturn, 1) := by decide +kernel
theorem dL_law_1012 : decode cL_law 1012 = .ok (.aload_n 1, 1) := by decide +kernel
theorem dL_law_1013 : decode cL_law 1013 = .ok (.aload_n 0, 1) := by decide +kernel
theorem dL_law_1014 : decode cL_law 1014 = .ok (.iload_n 3, 1) := by decide +kernel
theorem dL_law_1015 : decode cL_law 1015 = .ok (.iconst 1, 1) := by decide +kernel
theorem dL_law_1016 : decode cL_law 1016 = .ok (.iadd, 1) := by decide +kernel
theorem dL_law_1017 : decode cL_law 1017 = .ok (.iaload, 1) := by decide +kernel
theorem dL_law_1018 : decode cL_law 1018 = .ok (.invokevirtual 124, 3) := by decide +kernel
theorem dL_law_1021 : decode cL_law 1021 = .ok (.aload_n 2, 1) := by decide +kernel
theorem dL_law_1022 : decode cL_law 1022 = .ok (.aload_n 0, 1) := by decide +kernel
theorem dL_law_1023 : decode cL_law 1023 = .ok (.iload_n 3, 1) := by decide +kernel
theorem dL_law_1024 : decode cL_law 1024 = .ok (.iconst 1, 1) := by decide +kernel
theorem dL_law_1025 : decode cL_law 1025 = .ok (.iadd, 1) := by decide +kernel
theorem dL_law_1026 : decode cL_law 1026 = .ok (.iaload, 1) := by decide +kernel
theorem dL_law_1027 : decode cL_law 1027 = .ok (.invokevirtual 128, 3) := by decide +kernel
theorem dL_law_1030 : decode cL_law 1030 = .ok (.lcmp, 1) := by decide +kernel
theorem dL_law_1031 : decode cL_law 1031 = .ok (.ifCond .eq 28, 3) := by decide +kernel
theorem dL_law_1034 : decode cL_law 1034 = .ok (.iconst 0, 1) := by decide +kernel
theorem dL_law_1035 : decode cL_law 1035 = .ok (.ireturn, 1) := by decide +kernel
theorem dL_law_1036 : decode cL_law 1036 = .ok (.aload_n 1, 1) := by decide +kernel
theorem dL_law_1037 : decode cL_law 1037 = .ok (.aload_n 0, 1) := by decide +kernel
theorem dL_law_1038 : decode cL_law 1038 = .ok (.iload_n 3, 1) := by decide +kernel
theorem dL_law_1039 : decode cL_law 1039 = .ok (.iconst 1, 1) := by decide +kernel
theorem dL_law_1040 : decode cL_law 1040 = .ok (.iadd, 1) := by decide +kernel
theorem dL_law_1041 : decode cL_law 1041 = .ok (.iaload, 1) := by decide +kernel
theorem dL_law_1042 : decode cL_law 1042 = .ok (.invokevirtual 129, 3) := by decide +kernel
theorem dL_law_1045 : decode cL_law 1045 = .ok (.aload_n 2, 1) := by decide +kernel
theorem dL_law_1046 : decode cL_law 1046 = .ok (.aload_n 0, 1) := by decide +kernel
theorem dL_law_1047 : decode cL_law 1047 = .ok (.iload_n 3, 1) := by decide +kernel
theorem dL_law_1048 : decode cL_law 1048 = .ok (.iconst 1, 1) := by decide +kernel
theorem dL_law_1049 : decode cL_law 1049 = .ok (.iadd, 1) := by decide +kernel
theorem dL_law_1050 : decode cL_law 1050 = .ok (.iaload, 1) := by decide +kernel
theorem dL_law_1051 : decode cL_law 1051 = .ok (.invokevirtual 132, 3) := by decide +kernel
theorem dL_law_1054 : decode cL_law 1054 = .ok (.if_icmp .eq 5, 3) := by decide +kernel
theorem dL_law_1057 : decode cL_law 1057 = .ok (.iconst 0, 1) := by decide +kernel
theorem dL_law_1058 : decode cL_law 1058 = .ok (.ireturn, 1) := by decide +kernel
theorem dL_law_1059 : decode cL_law 1059 = .ok (.iinc 3 7, 3) := by decide +kernel
theorem dL_law_1062 : decode cL_law 1062 = .ok (.goto (-1044), 3) := by decide +kernel
theorem dL_law_1065 : decode cL_law 1065 = .ok (.iconst 1, 1) := by decide +kernel
theorem dL_law_1066 : decode cL_law 1066 = .ok (.ireturn, 1) := by decide +kernel
end
section
/-- the words that every method is given: all of the tables that stay true in every call -/
def WG : List Cond := lw_tbl.filter goodWord
theorem WG_of {w : Cond} (i : Nat) (h : lw_tbl[i]? = some w) (g : goodWord w = true) : w ∈ WG := List.mem_filter.mpr ⟨List.mem_of_getElem? h, g⟩
theorem WG_good : ∀ w ∈ WG, (w.onTables && w.keeps) = true ∨ ∃ ty, w = .arrayClass ty := fun _ h => good_of_word (List.mem_filter.mp h).2
theorem WG_tbl : ∀ w ∈ WG, w ∈ lw_tbl := fun _ h => (List.mem_filter.mp h).1
theorem sel_X7_record : Cond.selects RX7 yX7_record yX7_record ∈ WG := WG_of 0 (by decide +kernel) (by decide +kernel)
theorem sel_X7_refuse : Cond.selects RX7 yX7_refuse yX7_refuse ∈ WG := WG_of 1 (by decide +kernel) (by decide +kernel)
theorem sel_X4_readSign : Cond.selects RX4 yX4_readSign yX4_readSign ∈ WG := WG_of 2 (by decide +kernel) (by decide +kernel)
theorem sel_X4_signAt : Cond.selects RX4 yX4_signAt yX4_signAt ∈ WG := WG_of 3 (by decide +kernel) (by decide +kernel)
theorem sel_X4_readVerb : Cond.selects RX4 yX4_readVerb yX4_readVerb ∈ WG := WG_of 4 (by decide +kernel) (by decide +kernel)
theorem sel_X4_endOfToken : Cond.selects RX4 yX4_endOfToken yX4_endOfToken ∈ WG := WG_of 5 (by decide +kernel) (by decide +kernel)
theorem sel_X4_stands : Cond.selects RX4 yX4_stands yX4_stands ∈ WG := WG_of 6 (by decide +kernel) (by decide +kernel)
theorem sel_X4_readFirst : Cond.selects RX4 yX4_readFirst yX4_readFirst ∈ WG := WG_of 7 (by decide +kernel) (by decide +kernel)
theorem sel_X4_readNumber : Cond.selects RX4 yX4_readNumber yX4_readNumber ∈ WG := WG_of 8 (by decide +kernel) (by decide +kernel)
theorem sel_X4_readSecond : Cond.selects RX4 yX4_readSecond yX4_readSecond ∈ WG := WG_of 9 (by decide +kernel) (by decide +kernel)
theorem sel_X7_carryOut : Cond.selects RX7 yX7_carryOut yX7_carryOut ∈ WG := WG_of 10 (by decide +kernel) (by decide +kernel)
theorem sel_X8_begin : Cond.selects RX8 yX8_begin yX8_begin ∈ WG := WG_of 11 (by decide +kernel) (by decide +kernel)
theorem sel_X8_record : Cond.selects RX8 yX8_record yX8_record ∈ WG := WG_of 12 (by decide +kernel) (by decide +kernel)
theorem sel_X8_putReach : Cond.selects RX8 yX8_putReach yX8_putReach ∈ WG := WG_of 13 (by decide +kernel) (by decide +kernel)
theorem sel_X8_done : Cond.selects RX8 yX8_done yX8_done ∈ WG := WG_of 14 (by decide +kernel) (by decide +kernel)
theorem sel_X8_shareAll : Cond.selects RX8 yX8_shareAll yX8_shareAll ∈ WG := WG_of 15 (by decide +kernel) (by decide +kernel)
theorem sel_X8_openGate : Cond.selects RX8 yX8_openGate yX8_openGate ∈ WG := WG_of 16 (by decide +kernel) (by decide +kernel)
theorem sel_X8_chamberOf : Cond.selects RX8 yX8_chamberOf yX8_chamberOf ∈ WG := WG_of 17 (by decide +kernel) (by decide +kernel)
theorem sel_X8_share : Cond.selects RX8 yX8_share yX8_share ∈ WG := WG_of 18 (by decide +kernel) (by decide +kernel)
theorem sel_X8_shared : Cond.selects RX8 yX8_shared yX8_shared ∈ WG := WG_of 19 (by decide +kernel) (by decide +kernel)
theorem sel_X8_floats : Cond.selects RX8 yX8_floats yX8_floats ∈ WG := WG_of 20 (by decide +kernel) (by decide +kernel)
theorem sel_X8_of : Cond.selects RX8 yX8_of yX8_of ∈ WG := WG_of 21 (by decide +kernel) (by decide +kernel)
theorem sel_X8_weight : Cond.selects RX8 yX8_weight yX8_weight ∈ WG := WG_of 22 (by decide +kernel) (by decide +kernel)
theorem sel_X8_noGate : Cond.selects RX8 yX8_noGate yX8_noGate ∈ WG := WG_of 23 (by decide +kernel) (by decide +kernel)
theorem sel_X8_noChamber : Cond.selects RX8 yX8_noChamber yX8_noChamber ∈ WG := WG_of 24 (by decide +kernel) (by decide +kernel)
theorem sel_X8_noReach : Cond.selects RX8 yX8_noReach yX8_noReach ∈ WG := WG_of 25 (by decide +kernel) (by decide +kernel)
theorem sel_X8_refuse : Cond.selects RX8 yX8_refuse yX8_refuse ∈ WG := WG_of 26 (by decide +kernel) (by decide +kernel)
theorem sel_X8_level : Cond.selects RX8 yX8_level yX8_level ∈ WG := WG_of 27 (by decide +kernel) (by decide +kernel)
theorem sel_X8_deep : Cond.selects RX8 yX8_deep yX8_deep ∈ WG := WG_of 28 (by decide +kernel) (by decide +kernel)
theorem sel_X8_put : Cond.selects RX8 yX8_put yX8_put ∈ WG := WG_of 29 (by decide +kernel) (by decide +kernel)
theorem sel_X8_doLoad : Cond.selects RX8 yX8_doLoad yX8_doLoad ∈ WG := WG_of 30 (by decide +kernel) (by decide +kernel)
theorem sel_X8_noBarge : Cond.selects RX8 yX8_noBarge yX8_noBarge ∈ WG := WG_of 31 (by decide +kernel) (by decide +kernel)
theorem sel_X8_room : Cond.selects RX8 yX8_room yX8_room ∈ WG := WG_of 32 (by decide +kernel) (by decide +kernel)
theorem sel_X8_draught : Cond.selects RX8 yX8_draught yX8_draught ∈ WG := WG_of 33 (by decide +kernel) (by decide +kernel)
theorem sel_X8_doPump : Cond.selects RX8 yX8_doPump yX8_doPump ∈ WG := WG_of 34 (by decide +kernel) (by decide +kernel)
theorem sel_X8_doSluice : Cond.selects RX8 yX8_doSluice yX8_doSluice ∈ WG := WG_of 35 (by decide +kernel) (by decide +kernel)
theorem sel_X8_leveled : Cond.selects RX8 yX8_leveled yX8_leveled ∈ WG := WG_of 36 (by decide +kernel) (by decide +kernel)
theorem sel_X8_doOpen : Cond.selects RX8 yX8_doOpen yX8_doOpen ∈ WG := WG_of 37 (by decide +kernel) (by decide +kernel)
theorem sel_X8_doClose : Cond.selects RX8 yX8_doClose yX8_doClose ∈ WG := WG_of 38 (by decide +kernel) (by decide +kernel)
theorem sel_X8_doEnter : Cond.selects RX8 yX8_doEnter yX8_doEnter ∈ WG := WG_of 39 (by decide +kernel) (by decide +kernel)
theorem sel_X8_isAground : Cond.selects RX8 yX8_isAground yX8_isAground ∈ WG := WG_of 40 (by decide +kernel) (by decide +kernel)
theorem sel_X8_lengthLeft : Cond.selects RX8 yX8_lengthLeft yX8_lengthLeft ∈ WG := WG_of 41 (by decide +kernel) (by decide +kernel)
theorem sel_X8_canPass : Cond.selects RX8 yX8_canPass yX8_canPass ∈ WG := WG_of 42 (by decide +kernel) (by decide +kernel)
theorem sel_X8_sillHeight : Cond.selects RX8 yX8_sillHeight yX8_sillHeight ∈ WG := WG_of 43 (by decide +kernel) (by decide +kernel)
theorem sel_X8_pass : Cond.selects RX8 yX8_pass yX8_pass ∈ WG := WG_of 44 (by decide +kernel) (by decide +kernel)
theorem sel_X8_doLeave : Cond.selects RX8 yX8_doLeave yX8_doLeave ∈ WG := WG_of 45 (by decide +kernel) (by decide +kernel)
theorem sel_X8_readOrder : Cond.selects RX8 yX8_readOrder yX8_readOrder ∈ WG := WG_of 46 (by decide +kernel) (by decide +kernel)
theorem sel_X8_endOf : Cond.selects RX8 yX8_endOf yX8_endOf ∈ WG := WG_of 47 (by decide +kernel) (by decide +kernel)
theorem sel_X8_word : Cond.selects RX8 yX8_word yX8_word ∈ WG := WG_of 48 (by decide +kernel) (by decide +kernel)
theorem sel_X8_stands : Cond.selects RX8 yX8_stands yX8_stands ∈ WG := WG_of 49 (by decide +kernel) (by decide +kernel)
theorem sel_X8_fail : Cond.selects RX8 yX8_fail yX8_fail ∈ WG := WG_of 50 (by decide +kernel) (by decide +kernel)
theorem sel_X8_number : Cond.selects RX8 yX8_number yX8_number ∈ WG := WG_of 51 (by decide +kernel) (by decide +kernel)
theorem sel_X8_carryOut : Cond.selects RX8 yX8_carryOut yX8_carryOut ∈ WG := WG_of 52 (by decide +kernel) (by decide +kernel)
theorem sel_X8_water : Cond.selects RX8 yX8_water yX8_water ∈ WG := WG_of 53 (by decide +kernel) (by decide +kernel)
theorem sel_X8_bargesIn : Cond.selects RX8 yX8_bargesIn yX8_bargesIn ∈ WG := WG_of 54 (by decide +kernel) (by decide +kernel)
theorem ini_RL : Cond.initialized RL ∈ WG := WG_of 55 (by decide +kernel) (by decide +kernel)
theorem ini_RX7 : Cond.initialized RX7 ∈ WG := WG_of 56 (by decide +kernel) (by decide +kernel)
theorem ini_RX2 : Cond.initialized RX2 ∈ WG := WG_of 57 (by decide +kernel) (by decide +kernel)
theorem ini_RX6 : Cond.initialized RX6 ∈ WG := WG_of 58 (by decide +kernel) (by decide +kernel)
theorem ini_RX1 : Cond.initialized RX1 ∈ WG := WG_of 59 (by decide +kernel) (by decide +kernel)
theorem ini_RX5 : Cond.initialized RX5 ∈ WG := WG_of 60 (by decide +kernel) (by decide +kernel)
theorem ini_RX0 : Cond.initialized RX0 ∈ WG := WG_of 61 (by decide +kernel) (by decide +kernel)
theorem ini_RX3 : Cond.initialized RX3 ∈ WG := WG_of 62 (by decide +kernel) (by decide +kernel)
theorem ini_RX4 : Cond.initialized RX4 ∈ WG := WG_of 63 (by decide +kernel) (by decide +kernel)
theorem ini_RX8 : Cond.initialized RX8 ∈ WG := WG_of 64 (by decide +kernel) (by decide +kernel)
theorem ini_RJ9 : Cond.initialized RJ9 ∈ WG := WG_of 65 (by decide +kernel) (by decide +kernel)
theorem ini_RJ10 : Cond.initialized RJ10 ∈ WG := WG_of 66 (by decide +kernel) (by decide +kernel)
theorem ini_RJ0 : Cond.initialized RJ0 ∈ WG := WG_of 67 (by decide +kernel) (by decide +kernel)
theorem ini_RJ1 : Cond.initialized RJ1 ∈ WG := WG_of 68 (by decide +kernel) (by decide +kernel)
theorem ini_RJ3 : Cond.initialized RJ3 ∈ WG := WG_of 69 (by decide +kernel) (by decide +kernel)
theorem ini_RJ2 : Cond.initialized RJ2 ∈ WG := WG_of 70 (by decide +kernel) (by decide +kernel)
theorem cl_RL_7 : Cond.classLink RL 7 RX7 ∈ WG := WG_of 71 (by decide +kernel) (by decide +kernel)
theorem ins_RX7 : Cond.instantiable RX7 6 ∈ WG := WG_of 72 (by decide +kernel) (by decide +kernel)
theorem ml_RL_9 : Cond.methodLink RL 9 yX7_init ∈ WG := WG_of 73 (by decide +kernel) (by decide +kernel)
theorem im_X7_init : Cond.instanceMethod yX7_init ∈ WG := WG_of 74 (by decide +kernel) (by decide +kernel)
theorem cd_X7_init : Cond.code yX7_init cX7_init 1 none ∈ WG := WG_of 75 (by decide +kernel) (by decide +kernel)
theorem ml_RX7_1 : Cond.methodLink RX7 1 objectInit ∈ WG := WG_of 76 (by decide +kernel) (by decide +kernel)
theorem im_objectInit : Cond.instanceMethod objectInit ∈ WG := WG_of 77 (by decide +kernel) (by decide +kernel)
theorem cd_objectInit : Cond.code objectInit ⟨#[0xb1]⟩ 1 none ∈ WG := WG_of 78 (by decide +kernel) (by decide +kernel)
theorem cl_RX7_7 : Cond.classLink RX7 7 RX2 ∈ WG := WG_of 79 (by decide +kernel) (by decide +kernel)
theorem ins_RX2 : Cond.instantiable RX2 9 ∈ WG := WG_of 80 (by decide +kernel) (by decide +kernel)
theorem ml_RX7_9 : Cond.methodLink RX7 9 yX2_init ∈ WG := WG_of 81 (by decide +kernel) (by decide +kernel)
theorem im_X2_init : Cond.instanceMethod yX2_init ∈ WG := WG_of 82 (by decide +kernel) (by decide +kernel)
theorem cd_X2_init : Cond.code yX2_init cX2_init 2 none ∈ WG := WG_of 83 (by decide +kernel) (by decide +kernel)
theorem ml_RX2_3 : Cond.methodLink RX2 3 objectInit ∈ WG := WG_of 84 (by decide +kernel) (by decide +kernel)
theorem cl_RX2_9 : Cond.classLink RX2 9 RX6 ∈ WG := WG_of 85 (by decide +kernel) (by decide +kernel)
theorem ao_RX6 : Cond.arrayOver (.object RX6) ∈ lw_tbl := List.mem_of_getElem? (i := 86) (by decide +kernel)
theorem cl_RX2_17 : Cond.classLink RX2 17 RX1 ∈ WG := WG_of 87 (by decide +kernel) (by decide +kernel)
theorem ao_RX1 : Cond.arrayOver (.object RX1) ∈ lw_tbl := List.mem_of_getElem? (i := 88) (by decide +kernel)
theorem cl_RX2_23 : Cond.classLink RX2 23 RX0 ∈ WG := WG_of 89 (by decide +kernel) (by decide +kernel)
theorem ao_RX0 : Cond.arrayOver (.object RX0) ∈ lw_tbl := List.mem_of_getElem? (i := 90) (by decide +kernel)
theorem ins_RX6 : Cond.instantiable RX6 5 ∈ WG := WG_of 91 (by decide +kernel) (by decide +kernel)
theorem mn_RX2_29 : Cond.methodLinkNest RX2 29 yX6_init "BargeLocks" ∈ lw_tbl := List.mem_of_getElem? (i := 92) (by decide +kernel)
theorem im_X6_init : Cond.instanceMethod yX6_init ∈ WG := WG_of 93 (by decide +kernel) (by decide +kernel)
theorem cd_X6_init : Cond.code yX6_init cX6_init 1 none ∈ WG := WG_of 94 (by decide +kernel) (by decide +kernel)
theorem ml_RX6_3 : Cond.methodLink RX6 3 objectInit ∈ WG := WG_of 95 (by decide +kernel) (by decide +kernel)
theorem fl_RX6_9 : Cond.fieldLink RX6 9 "BargeLocks$Water" "area" "J" ∈ WG := WG_of 96 (by decide +kernel) (by decide +kernel)
theorem fl_RX6_15 : Cond.fieldLink RX6 15 "BargeLocks$Water" "floor" "J" ∈ WG := WG_of 97 (by decide +kernel) (by decide +kernel)
theorem fl_RX6_18 : Cond.fieldLink RX6 18 "BargeLocks$Water" "amount" "J" ∈ WG := WG_of 98 (by decide +kernel) (by decide +kernel)
theorem fl_RX7_97 : Cond.fieldLink RX7 97 "BargeLocks$Water" "amount" "J" ∈ WG := WG_of 99 (by decide +kernel) (by decide +kernel)
theorem fl_RX2_151 : Cond.fieldLink RX2 151 "BargeLocks$Water" "amount" "J" ∈ WG := WG_of 100 (by decide +kernel) (by decide +kernel)
theorem fl_RX6_21 : Cond.fieldLink RX6 21 "BargeLocks$Water" "floats" "J" ∈ WG := WG_of 101 (by decide +kernel) (by decide +kernel)
theorem fl_RX7_150 : Cond.fieldLink RX7 150 "BargeLocks$Water" "floats" "J" ∈ WG := WG_of 102 (by decide +kernel) (by decide +kernel)
theorem fl_RX6_24 : Cond.fieldLink RX6 24 "BargeLocks$Water" "bargeCount" "I" ∈ WG := WG_of 103 (by decide +kernel) (by decide +kernel)
theorem ins_RX1 : Cond.instantiable RX1 8 ∈ WG := WG_of 115 (by decide +kernel) (by decide +kernel)
theorem ml_RX2_30 : Cond.methodLink RX2 30 yX1_init ∈ WG := WG_of 116 (by decide +kernel) (by decide +kernel)
theorem im_X1_init : Cond.instanceMethod yX1_init ∈ WG := WG_of 117 (by decide +kernel) (by decide +kernel)
theorem cd_X1_init : Cond.code yX1_init cX1_init 1 none ∈ WG := WG_of 118 (by decide +kernel) (by decide +kernel)
theorem ml_RX1_3 : Cond.methodLink RX1 3 objectInit ∈ WG := WG_of 119 (by decide +kernel) (by decide +kernel)
theorem cl_RX1_9 : Cond.classLink RX1 9 RX6 ∈ WG := WG_of 120 (by decide +kernel) (by decide +kernel)
theorem mn_RX1_11 : Cond.methodLinkNest RX1 11 yX6_init "BargeLocks" ∈ lw_tbl := List.mem_of_getElem? (i := 121) (by decide +kernel)
theorem cl_RX1_18 : Cond.classLink RX1 18 RX5 ∈ WG := WG_of 122 (by decide +kernel) (by decide +kernel)
theorem ins_RX5 : Cond.instantiable RX5 3 ∈ WG := WG_of 123 (by decide +kernel) (by decide +kernel)
theorem mn_RX1_20 : Cond.methodLinkNest RX1 20 yX5_init "BargeLocks" ∈ lw_tbl := List.mem_of_getElem? (i := 124) (by decide +kernel)
theorem im_X5_init : Cond.instanceMethod yX5_init ∈ WG := WG_of 125 (by decide +kernel) (by decide +kernel)
theorem cd_X5_init : Cond.code yX5_init cX5_init 1 none ∈ WG := WG_of 126 (by decide +kernel) (by decide +kernel)
theorem ml_RX5_3 : Cond.methodLink RX5 3 objectInit ∈ WG := WG_of 127 (by decide +kernel) (by decide +kernel)
theorem fl_RX5_9 : Cond.fieldLink RX5 9 "BargeLocks$Sill" "ownHeight" "I" ∈ WG := WG_of 128 (by decide +kernel) (by decide +kernel)
theorem fl_RX7_79 : Cond.fieldLink RX7 79 "BargeLocks$Sill" "ownHeight" "I" ∈ WG := WG_of 129 (by decide +kernel) (by decide +kernel)
theorem fl_RX5_15 : Cond.fieldLink RX5 15 "BargeLocks$Sill" "mud" "I" ∈ WG := WG_of 130 (by decide +kernel) (by decide +kernel)
theorem fl_RX7_87 : Cond.fieldLink RX7 87 "BargeLocks$Sill" "mud" "I" ∈ WG := WG_of 131 (by decide +kernel) (by decide +kernel)
theorem fl_RX5_18 : Cond.fieldLink RX5 18 "BargeLocks$Sill" "passages" "I" ∈ WG := WG_of 132 (by decide +kernel) (by decide +kernel)
theorem fl_RX7_269 : Cond.fieldLink RX7 269 "BargeLocks$Sill" "passages" "I" ∈ WG := WG_of 133 (by decide +kernel) (by decide +kernel)
theorem ml_RX1_32 : Cond.methodLink RX1 32 yX1_begin ∈ WG := WG_of 141 (by decide +kernel) (by decide +kernel)
theorem im_X1_begin : Cond.instanceMethod yX1_begin ∈ WG := WG_of 142 (by decide +kernel) (by decide +kernel)
theorem sel_X1_begin : Cond.selects RX1 yX1_begin yX1_begin ∈ WG := WG_of 143 (by decide +kernel) (by decide +kernel)
theorem cd_X1_begin : Cond.code yX1_begin cX1_begin 4 none ∈ WG := WG_of 144 (by decide +kernel) (by decide +kernel)
theorem ml_RX1_36 : Cond.methodLink RX1 36 yX6_begin ∈ WG := WG_of 145 (by decide +kernel) (by decide +kernel)
theorem im_X6_begin : Cond.instanceMethod yX6_begin ∈ WG := WG_of 146 (by decide +kernel) (by decide +kernel)
theorem sel_X6_begin : Cond.selects RX6 yX6_begin yX6_begin ∈ WG := WG_of 147 (by decide +kernel) (by decide +kernel)
theorem cd_X6_begin : Cond.code yX6_begin cX6_begin 4 none ∈ WG := WG_of 148 (by decide +kernel) (by decide +kernel)
theorem ml_RX1_37 : Cond.methodLink RX1 37 yX5_begin ∈ WG := WG_of 149 (by decide +kernel) (by decide +kernel)
theorem im_X5_begin : Cond.instanceMethod yX5_begin ∈ WG := WG_of 150 (by decide +kernel) (by decide +kernel)
theorem sel_X5_begin : Cond.selects RX5 yX5_begin yX5_begin ∈ WG := WG_of 151 (by decide +kernel) (by decide +kernel)
theorem cd_X5_begin : Cond.code yX5_begin cX5_begin 1 none ∈ WG := WG_of 152 (by decide +kernel) (by decide +kernel)
theorem fl_RX1_12 : Cond.fieldLink RX1 12 "BargeLocks$Chamber" "water" "LBargeLocks$Water;" ∈ WG := WG_of 153 (by decide +kernel) (by decide +kernel)
theorem fl_RX2_68 : Cond.fieldLink RX2 68 "BargeLocks$Chamber" "water" "LBargeLocks$Water;" ∈ WG := WG_of 154 (by decide +kernel) (by decide +kernel)
theorem fl_RX7_172 : Cond.fieldLink RX7 172 "BargeLocks$Chamber" "water" "LBargeLocks$Water;" ∈ WG := WG_of 155 (by decide +kernel) (by decide +kernel)
theorem fl_RX1_21 : Cond.fieldLink RX1 21 "BargeLocks$Chamber" "lowerSill" "LBargeLocks$Sill;" ∈ WG := WG_of 156 (by decide +kernel) (by decide +kernel)
theorem fl_RX7_259 : Cond.fieldLink RX7 259 "BargeLocks$Chamber" "lowerSill" "LBargeLocks$Sill;" ∈ WG := WG_of 157 (by decide +kernel) (by decide +kernel)
theorem fl_RX1_25 : Cond.fieldLink RX1 25 "BargeLocks$Chamber" "upperSill" "LBargeLocks$Sill;" ∈ WG := WG_of 158 (by decide +kernel) (by decide +kernel)
theorem fl_RX7_266 : Cond.fieldLink RX7 266 "BargeLocks$Chamber" "upperSill" "LBargeLocks$Sill;" ∈ WG := WG_of 159 (by decide +kernel) (by decide +kernel)
theorem fl_RX1_28 : Cond.fieldLink RX1 28 "BargeLocks$Chamber" "row" "[I" ∈ WG := WG_of 160 (by decide +kernel) (by decide +kernel)
theorem fl_RX1_39 : Cond.fieldLink RX1 39 "BargeLocks$Chamber" "rowSize" "I" ∈ WG := WG_of 161 (by decide +kernel) (by decide +kernel)
theorem fl_RX2_154 : Cond.fieldLink RX2 154 "BargeLocks$Chamber" "rowSize" "I" ∈ WG := WG_of 162 (by decide +kernel) (by decide +kernel)
theorem fl_RX1_43 : Cond.fieldLink RX1 43 "BargeLocks$Chamber" "length" "I" ∈ WG := WG_of 163 (by decide +kernel) (by decide +kernel)
theorem fl_RX7_258 : Cond.fieldLink RX7 258 "BargeLocks$Chamber" "length" "I" ∈ WG := WG_of 164 (by decide +kernel) (by decide +kernel)
theorem fl_RX1_46 : Cond.fieldLink RX1 46 "BargeLocks$Chamber" "lengthLeft" "I" ∈ WG := WG_of 165 (by decide +kernel) (by decide +kernel)
theorem fl_RX7_199 : Cond.fieldLink RX7 199 "BargeLocks$Chamber" "lengthLeft" "I" ∈ WG := WG_of 166 (by decide +kernel) (by decide +kernel)
theorem fl_RX1_49 : Cond.fieldLink RX1 49 "BargeLocks$Chamber" "openGate" "I" ∈ WG := WG_of 167 (by decide +kernel) (by decide +kernel)
theorem fl_RX7_167 : Cond.fieldLink RX7 167 "BargeLocks$Chamber" "openGate" "I" ∈ WG := WG_of 168 (by decide +kernel) (by decide +kernel)
theorem fl_RX2_119 : Cond.fieldLink RX2 119 "BargeLocks$Chamber" "openGate" "I" ∈ WG := WG_of 169 (by decide +kernel) (by decide +kernel)
theorem ac_int : Cond.arrayClass .int ∈ WG := WG_of 187 (by decide +kernel) (by decide +kernel)
theorem ins_RX0 : Cond.instantiable RX0 8 ∈ WG := WG_of 188 (by decide +kernel) (by decide +kernel)
theorem mn_RX2_31 : Cond.methodLinkNest RX2 31 yX0_init "BargeLocks" ∈ lw_tbl := List.mem_of_getElem? (i := 189) (by decide +kernel)
theorem im_X0_init : Cond.instanceMethod yX0_init ∈ WG := WG_of 190 (by decide +kernel) (by decide +kernel)
theorem cd_X0_init : Cond.code yX0_init cX0_init 1 none ∈ WG := WG_of 191 (by decide +kernel) (by decide +kernel)
theorem ml_RX0_3 : Cond.methodLink RX0 3 objectInit ∈ WG := WG_of 192 (by decide +kernel) (by decide +kernel)
theorem fl_RX0_9 : Cond.fieldLink RX0 9 "BargeLocks$Barge" "length" "I" ∈ WG := WG_of 193 (by decide +kernel) (by decide +kernel)
theorem fl_RX7_196 : Cond.fieldLink RX7 196 "BargeLocks$Barge" "length" "I" ∈ WG := WG_of 194 (by decide +kernel) (by decide +kernel)
theorem fl_RX2_130 : Cond.fieldLink RX2 130 "BargeLocks$Barge" "length" "I" ∈ WG := WG_of 195 (by decide +kernel) (by decide +kernel)
theorem fl_RX0_15 : Cond.fieldLink RX0 15 "BargeLocks$Barge" "ownWeight" "I" ∈ WG := WG_of 196 (by decide +kernel) (by decide +kernel)
theorem fl_RX0_18 : Cond.fieldLink RX0 18 "BargeLocks$Barge" "immersion" "I" ∈ WG := WG_of 197 (by decide +kernel) (by decide +kernel)
theorem fl_RX7_279 : Cond.fieldLink RX7 279 "BargeLocks$Barge" "immersion" "I" ∈ WG := WG_of 198 (by decide +kernel) (by decide +kernel)
theorem fl_RX0_21 : Cond.fieldLink RX0 21 "BargeLocks$Barge" "hold" "I" ∈ WG := WG_of 199 (by decide +kernel) (by decide +kernel)
theorem fl_RX0_24 : Cond.fieldLink RX0 24 "BargeLocks$Barge" "cargo" "I" ∈ WG := WG_of 200 (by decide +kernel) (by decide +kernel)
theorem fl_RX7_143 : Cond.fieldLink RX7 143 "BargeLocks$Barge" "cargo" "I" ∈ WG := WG_of 201 (by decide +kernel) (by decide +kernel)
theorem fl_RX2_133 : Cond.fieldLink RX2 133 "BargeLocks$Barge" "cargo" "I" ∈ WG := WG_of 202 (by decide +kernel) (by decide +kernel)
theorem fl_RX0_27 : Cond.fieldLink RX0 27 "BargeLocks$Barge" "ballast" "I" ∈ WG := WG_of 203 (by decide +kernel) (by decide +kernel)
theorem fl_RX7_156 : Cond.fieldLink RX7 156 "BargeLocks$Barge" "ballast" "I" ∈ WG := WG_of 204 (by decide +kernel) (by decide +kernel)
theorem fl_RX2_136 : Cond.fieldLink RX2 136 "BargeLocks$Barge" "ballast" "I" ∈ WG := WG_of 205 (by decide +kernel) (by decide +kernel)
theorem fl_RX0_30 : Cond.fieldLink RX0 30 "BargeLocks$Barge" "place" "I" ∈ WG := WG_of 206 (by decide +kernel) (by decide +kernel)
theorem fl_RX7_131 : Cond.fieldLink RX7 131 "BargeLocks$Barge" "place" "I" ∈ WG := WG_of 207 (by decide +kernel) (by decide +kernel)
theorem fl_RX2_91 : Cond.fieldLink RX2 91 "BargeLocks$Barge" "place" "I" ∈ WG := WG_of 208 (by decide +kernel) (by decide +kernel)
theorem fl_RX0_33 : Cond.fieldLink RX0 33 "BargeLocks$Barge" "passages" "I" ∈ WG := WG_of 209 (by decide +kernel) (by decide +kernel)
theorem fl_RX2_116 : Cond.fieldLink RX2 116 "BargeLocks$Barge" "passages" "I" ∈ WG := WG_of 210 (by decide +kernel) (by decide +kernel)
theorem fl_RX2_11 : Cond.fieldLink RX2 11 "BargeLocks$Flight" "reaches" "[LBargeLocks$Water;" ∈ WG := WG_of 228 (by decide +kernel) (by decide +kernel)
theorem fl_RX2_19 : Cond.fieldLink RX2 19 "BargeLocks$Flight" "chambers" "[LBargeLocks$Chamber;" ∈ WG := WG_of 229 (by decide +kernel) (by decide +kernel)
theorem fl_RX2_25 : Cond.fieldLink RX2 25 "BargeLocks$Flight" "barges" "[LBargeLocks$Barge;" ∈ WG := WG_of 230 (by decide +kernel) (by decide +kernel)
theorem fl_RX2_32 : Cond.fieldLink RX2 32 "BargeLocks$Flight" "reachCount" "I" ∈ WG := WG_of 231 (by decide +kernel) (by decide +kernel)
theorem fl_RX7_47 : Cond.fieldLink RX7 47 "BargeLocks$Flight" "reachCount" "I" ∈ WG := WG_of 232 (by decide +kernel) (by decide +kernel)
theorem fl_RX2_36 : Cond.fieldLink RX2 36 "BargeLocks$Flight" "chamberCount" "I" ∈ WG := WG_of 233 (by decide +kernel) (by decide +kernel)
theorem fl_RX7_68 : Cond.fieldLink RX7 68 "BargeLocks$Flight" "chamberCount" "I" ∈ WG := WG_of 234 (by decide +kernel) (by decide +kernel)
theorem fl_RX2_39 : Cond.fieldLink RX2 39 "BargeLocks$Flight" "bargeCount" "I" ∈ WG := WG_of 235 (by decide +kernel) (by decide +kernel)
theorem fl_RX7_116 : Cond.fieldLink RX7 116 "BargeLocks$Flight" "bargeCount" "I" ∈ WG := WG_of 236 (by decide +kernel) (by decide +kernel)
theorem fl_RX2_42 : Cond.fieldLink RX2 42 "BargeLocks$Flight" "clearance" "I" ∈ WG := WG_of 237 (by decide +kernel) (by decide +kernel)
theorem fl_RX7_84 : Cond.fieldLink RX7 84 "BargeLocks$Flight" "clearance" "I" ∈ WG := WG_of 238 (by decide +kernel) (by decide +kernel)
theorem fl_RX2_45 : Cond.fieldLink RX2 45 "BargeLocks$Flight" "supplied" "J" ∈ WG := WG_of 239 (by decide +kernel) (by decide +kernel)
theorem fl_RX7_109 : Cond.fieldLink RX7 109 "BargeLocks$Flight" "supplied" "J" ∈ WG := WG_of 240 (by decide +kernel) (by decide +kernel)
theorem fl_RX2_49 : Cond.fieldLink RX2 49 "BargeLocks$Flight" "firstWater" "J" ∈ WG := WG_of 241 (by decide +kernel) (by decide +kernel)
theorem fl_RX7_300 : Cond.fieldLink RX7 300 "BargeLocks$Flight" "firstWater" "J" ∈ WG := WG_of 242 (by decide +kernel) (by decide +kernel)
theorem cl_RX7_16 : Cond.classLink RX7 16 RX3 ∈ WG := WG_of 262 (by decide +kernel) (by decide +kernel)
theorem ins_RX3 : Cond.instantiable RX3 3 ∈ WG := WG_of 263 (by decide +kernel) (by decide +kernel)
theorem ml_RX7_18 : Cond.methodLink RX7 18 yX3_init ∈ WG := WG_of 264 (by decide +kernel) (by decide +kernel)
theorem im_X3_init : Cond.instanceMethod yX3_init ∈ WG := WG_of 265 (by decide +kernel) (by decide +kernel)
theorem cd_X3_init : Cond.code yX3_init cX3_init 2 none ∈ WG := WG_of 266 (by decide +kernel) (by decide +kernel)
theorem ml_RX3_3 : Cond.methodLink RX3 3 objectInit ∈ WG := WG_of 267 (by decide +kernel) (by decide +kernel)
theorem cl_RX3_9 : Cond.classLink RX3 9 RX2 ∈ WG := WG_of 268 (by decide +kernel) (by decide +kernel)
theorem ao_RX2 : Cond.arrayOver (.object RX2) ∈ lw_tbl := List.mem_of_getElem? (i := 269) (by decide +kernel)
theorem ml_RX3_17 : Cond.methodLink RX3 17 yX2_init ∈ WG := WG_of 270 (by decide +kernel) (by decide +kernel)
theorem fl_RX3_11 : Cond.fieldLink RX3 11 "BargeLocks$History" "ring" "[LBargeLocks$Flight;" ∈ WG := WG_of 271 (by decide +kernel) (by decide +kernel)
theorem fl_RX3_18 : Cond.fieldLink RX3 18 "BargeLocks$History" "oldest" "I" ∈ WG := WG_of 272 (by decide +kernel) (by decide +kernel)
theorem fl_RX3_22 : Cond.fieldLink RX3 22 "BargeLocks$History" "size" "I" ∈ WG := WG_of 273 (by decide +kernel) (by decide +kernel)
theorem fl_RX7_245 : Cond.fieldLink RX7 245 "BargeLocks$History" "size" "I" ∈ WG := WG_of 274 (by decide +kernel) (by decide +kernel)
theorem cl_RX7_27 : Cond.classLink RX7 27 RX4 ∈ WG := WG_of 282 (by decide +kernel) (by decide +kernel)
theorem ins_RX4 : Cond.instantiable RX4 6 ∈ WG := WG_of 283 (by decide +kernel) (by decide +kernel)
theorem ml_RX7_29 : Cond.methodLink RX7 29 yX4_init ∈ WG := WG_of 284 (by decide +kernel) (by decide +kernel)
theorem im_X4_init : Cond.instanceMethod yX4_init ∈ WG := WG_of 285 (by decide +kernel) (by decide +kernel)
theorem cd_X4_init : Cond.code yX4_init cX4_init 1 none ∈ WG := WG_of 286 (by decide +kernel) (by decide +kernel)
theorem ml_RX4_3 : Cond.methodLink RX4 3 objectInit ∈ WG := WG_of 287 (by decide +kernel) (by decide +kernel)
theorem fl_RX4_9 : Cond.fieldLink RX4 9 "BargeLocks$Orders" "text" "[C" ∈ WG := WG_of 288 (by decide +kernel) (by decide +kernel)
theorem fl_RX4_15 : Cond.fieldLink RX4 15 "BargeLocks$Orders" "length" "I" ∈ WG := WG_of 289 (by decide +kernel) (by decide +kernel)
theorem fl_RX7_311 : Cond.fieldLink RX7 311 "BargeLocks$Orders" "length" "I" ∈ WG := WG_of 290 (by decide +kernel) (by decide +kernel)
theorem fl_RX4_19 : Cond.fieldLink RX4 19 "BargeLocks$Orders" "position" "I" ∈ WG := WG_of 291 (by decide +kernel) (by decide +kernel)
theorem fl_RX4_22 : Cond.fieldLink RX4 22 "BargeLocks$Orders" "verb" "I" ∈ WG := WG_of 292 (by decide +kernel) (by decide +kernel)
theorem fl_RX7_321 : Cond.fieldLink RX7 321 "BargeLocks$Orders" "verb" "I" ∈ WG := WG_of 293 (by decide +kernel) (by decide +kernel)
theorem fl_RX4_25 : Cond.fieldLink RX4 25 "BargeLocks$Orders" "first" "I" ∈ WG := WG_of 294 (by decide +kernel) (by decide +kernel)
theorem fl_RX7_324 : Cond.fieldLink RX7 324 "BargeLocks$Orders" "first" "I" ∈ WG := WG_of 295 (by decide +kernel) (by decide +kernel)
theorem fl_RX4_28 : Cond.fieldLink RX4 28 "BargeLocks$Orders" "second" "I" ∈ WG := WG_of 296 (by decide +kernel) (by decide +kernel)
theorem fl_RX7_327 : Cond.fieldLink RX7 327 "BargeLocks$Orders" "second" "I" ∈ WG := WG_of 297 (by decide +kernel) (by decide +kernel)
theorem ac_char : Cond.arrayClass .char ∈ WG := WG_of 311 (by decide +kernel) (by decide +kernel)
theorem fl_RX7_10 : Cond.fieldLink RX7 10 "BargeLocks" "flight" "LBargeLocks$Flight;" ∈ WG := WG_of 312 (by decide +kernel) (by decide +kernel)
theorem fl_RX7_19 : Cond.fieldLink RX7 19 "BargeLocks" "history" "LBargeLocks$History;" ∈ WG := WG_of 313 (by decide +kernel) (by decide +kernel)
theorem fl_RX7_23 : Cond.fieldLink RX7 23 "BargeLocks" "slots" "[LBargeLocks$Flight;" ∈ WG := WG_of 314 (by decide +kernel) (by decide +kernel)
theorem fl_RX7_30 : Cond.fieldLink RX7 30 "BargeLocks" "orders" "LBargeLocks$Orders;" ∈ WG := WG_of 315 (by decide +kernel) (by decide +kernel)
theorem fl_RX7_34 : Cond.fieldLink RX7 34 "BargeLocks" "reason" "I" ∈ WG := WG_of 316 (by decide +kernel) (by decide +kernel)
theorem fl_RX7_38 : Cond.fieldLink RX7 38 "BargeLocks" "carryingOut" "Z" ∈ WG := WG_of 317 (by decide +kernel) (by decide +kernel)
theorem ml_RL_13 : Cond.methodLink RL 13 yX7_addReach ∈ WG := WG_of 331 (by decide +kernel) (by decide +kernel)
theorem im_X7_addReach : Cond.instanceMethod yX7_addReach ∈ WG := WG_of 332 (by decide +kernel) (by decide +kernel)
theorem sel_X7_addReach : Cond.selects RX7 yX7_addReach yX7_addReach ∈ WG := WG_of 333 (by decide +kernel) (by decide +kernel)
theorem cd_X7_addReach : Cond.code yX7_addReach cX7_addReach 4 (some .int) ∈ WG := WG_of 334 (by decide +kernel) (by decide +kernel)
theorem ml_RX7_42 : Cond.methodLink RX7 42 yX7_isReach ∈ WG := WG_of 335 (by decide +kernel) (by decide +kernel)
theorem st_X7_isReach : Cond.static yX7_isReach ∈ WG := WG_of 336 (by decide +kernel) (by decide +kernel)
theorem cd_X7_isReach : Cond.code yX7_isReach cX7_isReach 3 (some .boolean) ∈ WG := WG_of 337 (by decide +kernel) (by decide +kernel)
theorem ml_RX7_61 : Cond.methodLink RX7 61 yX7_isBasin ∈ WG := WG_of 338 (by decide +kernel) (by decide +kernel)
theorem st_X7_isBasin : Cond.static yX7_isBasin ∈ WG := WG_of 339 (by decide +kernel) (by decide +kernel)
theorem cd_X7_isBasin : Cond.code yX7_isBasin cX7_isBasin 2 (some .boolean) ∈ WG := WG_of 340 (by decide +kernel) (by decide +kernel)
theorem ct_RX7_312 : Cond.constant RX7 312 (100000) ∈ WG := WG_of 341 (by decide +kernel) (by decide +kernel)
theorem ml_RX7_65 : Cond.methodLink RX7 65 yX7_isWithin ∈ WG := WG_of 342 (by decide +kernel) (by decide +kernel)
theorem st_X7_isWithin : Cond.static yX7_isWithin ∈ WG := WG_of 343 (by decide +kernel) (by decide +kernel)
theorem cd_X7_isWithin : Cond.code yX7_isWithin cX7_isWithin 3 (some .boolean) ∈ WG := WG_of 344 (by decide +kernel) (by decide +kernel)
theorem ct_RX7_313 : Cond.constant RX7 313 (10000000) ∈ WG := WG_of 345 (by decide +kernel) (by decide +kernel)
theorem ct_RX7_46 : Cond.constant RX7 46 (-100000002) ∈ WG := WG_of 346 (by decide +kernel) (by decide +kernel)
theorem ct_RX7_50 : Cond.constant RX7 50 (-100000004) ∈ WG := WG_of 347 (by decide +kernel) (by decide +kernel)
theorem ml_RX7_51 : Cond.methodLink RX7 51 yX7_record ∈ WG := WG_of 348 (by decide +kernel) (by decide +kernel)
theorem im_X7_record : Cond.instanceMethod yX7_record ∈ WG := WG_of 350 (by decide +kernel) (by decide +kernel)
theorem cd_X7_record : Cond.code yX7_record cX7_record 1 none ∈ WG := WG_of 351 (by decide +kernel) (by decide +kernel)
theorem ml_RX7_318 : Cond.methodLink RX7 318 yX3_add ∈ WG := WG_of 352 (by decide +kernel) (by decide +kernel)
theorem im_X3_add : Cond.instanceMethod yX3_add ∈ WG := WG_of 353 (by decide +kernel) (by decide +kernel)
theorem sel_X3_add : Cond.selects RX3 yX3_add yX3_add ∈ WG := WG_of 354 (by decide +kernel) (by decide +kernel)
theorem cd_X3_add : Cond.code yX3_add cX3_add 3 none ∈ WG := WG_of 355 (by decide +kernel) (by decide +kernel)
theorem ml_RX3_25 : Cond.methodLink RX3 25 yX3_stateAt ∈ WG := WG_of 356 (by decide +kernel) (by decide +kernel)
theorem im_X3_stateAt : Cond.instanceMethod yX3_stateAt ∈ WG := WG_of 357 (by decide +kernel) (by decide +kernel)
theorem sel_X3_stateAt : Cond.selects RX3 yX3_stateAt yX3_stateAt ∈ WG := WG_of 358 (by decide +kernel) (by decide +kernel)
theorem cd_X3_stateAt : Cond.code yX3_stateAt cX3_stateAt 3 (some (.object "BargeLocks$Flight")) ∈ WG := WG_of 359 (by decide +kernel) (by decide +kernel)
theorem ml_RX3_29 : Cond.methodLink RX3 29 yX2_copyTo ∈ WG := WG_of 360 (by decide +kernel) (by decide +kernel)
theorem im_X2_copyTo : Cond.instanceMethod yX2_copyTo ∈ WG := WG_of 361 (by decide +kernel) (by decide +kernel)
theorem sel_X2_copyTo : Cond.selects RX2 yX2_copyTo yX2_copyTo ∈ WG := WG_of 362 (by decide +kernel) (by decide +kernel)
theorem cd_X2_copyTo : Cond.code yX2_copyTo cX2_copyTo 3 none ∈ WG := WG_of 363 (by decide +kernel) (by decide +kernel)
theorem ml_RX2_157 : Cond.methodLink RX2 157 yX6_copyTo ∈ WG := WG_of 364 (by decide +kernel) (by decide +kernel)
theorem im_X6_copyTo : Cond.instanceMethod yX6_copyTo ∈ WG := WG_of 365 (by decide +kernel) (by decide +kernel)
theorem sel_X6_copyTo : Cond.selects RX6 yX6_copyTo yX6_copyTo ∈ WG := WG_of 366 (by decide +kernel) (by decide +kernel)
theorem cd_X6_copyTo : Cond.code yX6_copyTo cX6_copyTo 2 none ∈ WG := WG_of 367 (by decide +kernel) (by decide +kernel)
theorem ml_RX2_160 : Cond.methodLink RX2 160 yX1_copyTo ∈ WG := WG_of 368 (by decide +kernel) (by decide +kernel)
theorem im_X1_copyTo : Cond.instanceMethod yX1_copyTo ∈ WG := WG_of 369 (by decide +kernel) (by decide +kernel)
theorem sel_X1_copyTo : Cond.selects RX1 yX1_copyTo yX1_copyTo ∈ WG := WG_of 370 (by decide +kernel) (by decide +kernel)
theorem cd_X1_copyTo : Cond.code yX1_copyTo cX1_copyTo 2 none ∈ WG := WG_of 371 (by decide +kernel) (by decide +kernel)
theorem ml_RX1_62 : Cond.methodLink RX1 62 yX6_copyTo ∈ WG := WG_of 372 (by decide +kernel) (by decide +kernel)
theorem ml_RX1_66 : Cond.methodLink RX1 66 yX5_copyTo ∈ WG := WG_of 373 (by decide +kernel) (by decide +kernel)
theorem im_X5_copyTo : Cond.instanceMethod yX5_copyTo ∈ WG := WG_of 374 (by decide +kernel) (by decide +kernel)
theorem sel_X5_copyTo : Cond.selects RX5 yX5_copyTo yX5_copyTo ∈ WG := WG_of 375 (by decide +kernel) (by decide +kernel)
theorem cd_X5_copyTo : Cond.code yX5_copyTo cX5_copyTo 2 none ∈ WG := WG_of 376 (by decide +kernel) (by decide +kernel)
theorem ml_RX1_69 : Cond.methodLink RX1 69 yJ9_min_7cf53 ∈ WG := WG_of 377 (by decide +kernel) (by decide +kernel)
theorem st_J9_min_7cf53 : Cond.static yJ9_min_7cf53 ∈ WG := WG_of 378 (by decide +kernel) (by decide +kernel)
theorem cd_J9_min_7cf53 : Cond.code yJ9_min_7cf53 cJ9_min_7cf53 2 (some .int) ∈ WG := WG_of 379 (by decide +kernel) (by decide +kernel)
theorem ml_RX1_56 : Cond.methodLink RX1 56 arraycopyName ∈ WG := WG_of 380 (by decide +kernel) (by decide +kernel)
theorem st_arraycopy : Cond.static arraycopyName ∈ WG := WG_of 381 (by decide +kernel) (by decide +kernel)
theorem nat_arraycopy : Cond.native arraycopyName ∈ WG := WG_of 382 (by decide +kernel) (by decide +kernel)
theorem ml_RX2_163 : Cond.methodLink RX2 163 yX0_copyTo ∈ WG := WG_of 383 (by decide +kernel) (by decide +kernel)
theorem im_X0_copyTo : Cond.instanceMethod yX0_copyTo ∈ WG := WG_of 384 (by decide +kernel) (by decide +kernel)
theorem sel_X0_copyTo : Cond.selects RX0 yX0_copyTo yX0_copyTo ∈ WG := WG_of 385 (by decide +kernel) (by decide +kernel)
theorem cd_X0_copyTo : Cond.code yX0_copyTo cX0_copyTo 2 none ∈ WG := WG_of 386 (by decide +kernel) (by decide +kernel)
theorem ml_RX7_54 : Cond.methodLink RX7 54 yX2_appendReach ∈ WG := WG_of 387 (by decide +kernel) (by decide +kernel)
theorem im_X2_appendReach : Cond.instanceMethod yX2_appendReach ∈ WG := WG_of 388 (by decide +kernel) (by decide +kernel)
theorem sel_X2_appendReach : Cond.selects RX2 yX2_appendReach yX2_appendReach ∈ WG := WG_of 389 (by decide +kernel) (by decide +kernel)
theorem cd_X2_appendReach : Cond.code yX2_appendReach cX2_appendReach 5 none ∈ WG := WG_of 390 (by decide +kernel) (by decide +kernel)
theorem ml_RX2_64 : Cond.methodLink RX2 64 yX2_reachAt ∈ WG := WG_of 391 (by decide +kernel) (by decide +kernel)
theorem im_X2_reachAt : Cond.instanceMethod yX2_reachAt ∈ WG := WG_of 392 (by decide +kernel) (by decide +kernel)
theorem sel_X2_reachAt : Cond.selects RX2 yX2_reachAt yX2_reachAt ∈ WG := WG_of 393 (by decide +kernel) (by decide +kernel)
theorem cd_X2_reachAt : Cond.code yX2_reachAt cX2_reachAt 3 (some (.object "BargeLocks$Water")) ∈ WG := WG_of 394 (by decide +kernel) (by decide +kernel)
theorem ml_RX2_72 : Cond.methodLink RX2 72 yX6_begin ∈ WG := WG_of 395 (by decide +kernel) (by decide +kernel)
theorem ml_RX7_58 : Cond.methodLink RX7 58 yX2_settle ∈ WG := WG_of 396 (by decide +kernel) (by decide +kernel)
theorem im_X2_settle : Cond.instanceMethod yX2_settle ∈ WG := WG_of 397 (by decide +kernel) (by decide +kernel)
theorem sel_X2_settle : Cond.selects RX2 yX2_settle yX2_settle ∈ WG := WG_of 398 (by decide +kernel) (by decide +kernel)
theorem cd_X2_settle : Cond.code yX2_settle cX2_settle 4 none ∈ WG := WG_of 399 (by decide +kernel) (by decide +kernel)
theorem ml_RX2_52 : Cond.methodLink RX2 52 yX2_chamberAt ∈ WG := WG_of 400 (by decide +kernel) (by decide +kernel)
theorem im_X2_chamberAt : Cond.instanceMethod yX2_chamberAt ∈ WG := WG_of 401 (by decide +kernel) (by decide +kernel)
theorem sel_X2_chamberAt : Cond.selects RX2 yX2_chamberAt yX2_chamberAt ∈ WG := WG_of 402 (by decide +kernel) (by decide +kernel)
theorem cd_X2_chamberAt : Cond.code yX2_chamberAt cX2_chamberAt 3 (some (.object "BargeLocks$Chamber")) ∈ WG := WG_of 403 (by decide +kernel) (by decide +kernel)
theorem ml_RX2_122 : Cond.methodLink RX2 122 yX2_reachBehind ∈ WG := WG_of 404 (by decide +kernel) (by decide +kernel)
theorem im_X2_reachBehind : Cond.instanceMethod yX2_reachBehind ∈ WG := WG_of 405 (by decide +kernel) (by decide +kernel)
theorem sel_X2_reachBehind : Cond.selects RX2 yX2_reachBehind yX2_reachBehind ∈ WG := WG_of 406 (by decide +kernel) (by decide +kernel)
theorem cd_X2_reachBehind : Cond.code yX2_reachBehind cX2_reachBehind 3 (some (.object "BargeLocks$Water")) ∈ WG := WG_of 407 (by decide +kernel) (by decide +kernel)
theorem ml_RX2_60 : Cond.methodLink RX2 60 yX2_sillAt ∈ WG := WG_of 408 (by decide +kernel) (by decide +kernel)
theorem im_X2_sillAt : Cond.instanceMethod yX2_sillAt ∈ WG := WG_of 409 (by decide +kernel) (by decide +kernel)
theorem sel_X2_sillAt : Cond.selects RX2 yX2_sillAt yX2_sillAt ∈ WG := WG_of 410 (by decide +kernel) (by decide +kernel)
theorem cd_X2_sillAt : Cond.code yX2_sillAt cX2_sillAt 4 (some (.object "BargeLocks$Sill")) ∈ WG := WG_of 411 (by decide +kernel) (by decide +kernel)
theorem ml_RX2_56 : Cond.methodLink RX2 56 yX1_sillOf ∈ WG := WG_of 412 (by decide +kernel) (by decide +kernel)
theorem im_X1_sillOf : Cond.instanceMethod yX1_sillOf ∈ WG := WG_of 413 (by decide +kernel) (by decide +kernel)
theorem sel_X1_sillOf : Cond.selects RX1 yX1_sillOf yX1_sillOf ∈ WG := WG_of 414 (by decide +kernel) (by decide +kernel)
theorem cd_X1_sillOf : Cond.code yX1_sillOf cX1_sillOf 2 (some (.object "BargeLocks$Sill")) ∈ WG := WG_of 415 (by decide +kernel) (by decide +kernel)
theorem ml_RX2_126 : Cond.methodLink RX2 126 yX6_shareWith ∈ WG := WG_of 416 (by decide +kernel) (by decide +kernel)
theorem im_X6_shareWith : Cond.instanceMethod yX6_shareWith ∈ WG := WG_of 417 (by decide +kernel) (by decide +kernel)
theorem sel_X6_shareWith : Cond.selects RX6 yX6_shareWith yX6_shareWith ∈ WG := WG_of 418 (by decide +kernel) (by decide +kernel)
theorem cd_X6_shareWith : Cond.code yX6_shareWith cX6_shareWith 4 none ∈ WG := WG_of 419 (by decide +kernel) (by decide +kernel)
theorem ml_RX6_46 : Cond.methodLink RX6 46 yX6_flowFrom ∈ WG := WG_of 420 (by decide +kernel) (by decide +kernel)
theorem im_X6_flowFrom : Cond.instanceMethod yX6_flowFrom ∈ WG := WG_of 421 (by decide +kernel) (by decide +kernel)
theorem sel_X6_flowFrom : Cond.selects RX6 yX6_flowFrom yX6_flowFrom ∈ WG := WG_of 422 (by decide +kernel) (by decide +kernel)
theorem cd_X6_flowFrom : Cond.code yX6_flowFrom cX6_flowFrom 12 (some .long) ∈ WG := WG_of 423 (by decide +kernel) (by decide +kernel)
theorem ctl_RX6_28 : Cond.constantLong RX6 28 (100) ∈ WG := WG_of 424 (by decide +kernel) (by decide +kernel)
theorem mn_RX6_30 : Cond.methodLinkNest RX6 30 yX7_divideDown "BargeLocks" ∈ lw_tbl := List.mem_of_getElem? (i := 425) (by decide +kernel)
theorem st_X7_divideDown : Cond.static yX7_divideDown ∈ WG := WG_of 426 (by decide +kernel) (by decide +kernel)
theorem cd_X7_divideDown : Cond.code yX7_divideDown cX7_divideDown 4 (some .long) ∈ WG := WG_of 427 (by decide +kernel) (by decide +kernel)
theorem ml_RX7_314 : Cond.methodLink RX7 314 yJ9_floorDiv_f86c9 ∈ WG := WG_of 428 (by decide +kernel) (by decide +kernel)
theorem st_J9_floorDiv_f86c9 : Cond.static yJ9_floorDiv_f86c9 ∈ WG := WG_of 429 (by decide +kernel) (by decide +kernel)
theorem cd_J9_floorDiv_f86c9 : Cond.code yJ9_floorDiv_f86c9 cJ9_floorDiv_f86c9 6 (some .long) ∈ WG := WG_of 430 (by decide +kernel) (by decide +kernel)
theorem ml_RX6_38 : Cond.methodLink RX6 38 yJ9_max_f86c9 ∈ WG := WG_of 431 (by decide +kernel) (by decide +kernel)
theorem st_J9_max_f86c9 : Cond.static yJ9_max_f86c9 ∈ WG := WG_of 432 (by decide +kernel) (by decide +kernel)
theorem cd_J9_max_f86c9 : Cond.code yJ9_max_f86c9 cJ9_max_f86c9 4 (some .long) ∈ WG := WG_of 433 (by decide +kernel) (by decide +kernel)
theorem ml_RX6_43 : Cond.methodLink RX6 43 yJ9_min_f86c9 ∈ WG := WG_of 434 (by decide +kernel) (by decide +kernel)
theorem st_J9_min_f86c9 : Cond.static yJ9_min_f86c9 ∈ WG := WG_of 435 (by decide +kernel) (by decide +kernel)
theorem cd_J9_min_f86c9 : Cond.code yJ9_min_f86c9 cJ9_min_f86c9 4 (some .long) ∈ WG := WG_of 436 (by decide +kernel) (by decide +kernel)
theorem ml_RL_18 : Cond.methodLink RL 18 yX7_addChamber ∈ WG := WG_of 437 (by decide +kernel) (by decide +kernel)
theorem im_X7_addChamber : Cond.instanceMethod yX7_addChamber ∈ WG := WG_of 438 (by decide +kernel) (by decide +kernel)
theorem sel_X7_addChamber : Cond.selects RX7 yX7_addChamber yX7_addChamber ∈ WG := WG_of 439 (by decide +kernel) (by decide +kernel)
theorem cd_X7_addChamber : Cond.code yX7_addChamber cX7_addChamber 8 (some .int) ∈ WG := WG_of 440 (by decide +kernel) (by decide +kernel)
theorem ml_RX7_71 : Cond.methodLink RX7 71 yX2_appendChamber ∈ WG := WG_of 441 (by decide +kernel) (by decide +kernel)
theorem im_X2_appendChamber : Cond.instanceMethod yX2_appendChamber ∈ WG := WG_of 442 (by decide +kernel) (by decide +kernel)
theorem sel_X2_appendChamber : Cond.selects RX2 yX2_appendChamber yX2_appendChamber ∈ WG := WG_of 443 (by decide +kernel) (by decide +kernel)
theorem cd_X2_appendChamber : Cond.code yX2_appendChamber cX2_appendChamber 5 none ∈ WG := WG_of 444 (by decide +kernel) (by decide +kernel)
theorem ml_RX2_76 : Cond.methodLink RX2 76 yX1_begin ∈ WG := WG_of 445 (by decide +kernel) (by decide +kernel)
theorem ml_RL_23 : Cond.methodLink RL 23 yX7_setSill ∈ WG := WG_of 446 (by decide +kernel) (by decide +kernel)
theorem im_X7_setSill : Cond.instanceMethod yX7_setSill ∈ WG := WG_of 447 (by decide +kernel) (by decide +kernel)
theorem sel_X7_setSill : Cond.selects RX7 yX7_setSill yX7_setSill ∈ WG := WG_of 448 (by decide +kernel) (by decide +kernel)
theorem cd_X7_setSill : Cond.code yX7_setSill cX7_setSill 6 (some .int) ∈ WG := WG_of 449 (by decide +kernel) (by decide +kernel)
theorem ml_RX7_74 : Cond.methodLink RX7 74 yX2_sillAt ∈ WG := WG_of 450 (by decide +kernel) (by decide +kernel)
theorem ct_RX7_78 : Cond.constant RX7 78 (-100000001) ∈ WG := WG_of 451 (by decide +kernel) (by decide +kernel)
theorem ml_RL_27 : Cond.methodLink RL 27 yX7_setClearance ∈ WG := WG_of 452 (by decide +kernel) (by decide +kernel)
theorem im_X7_setClearance : Cond.instanceMethod yX7_setClearance ∈ WG := WG_of 453 (by decide +kernel) (by decide +kernel)
theorem sel_X7_setClearance : Cond.selects RX7 yX7_setClearance yX7_setClearance ∈ WG := WG_of 454 (by decide +kernel) (by decide +kernel)
theorem cd_X7_setClearance : Cond.code yX7_setClearance cX7_setClearance 3 (some .int) ∈ WG := WG_of 455 (by decide +kernel) (by decide +kernel)
theorem ml_RL_32 : Cond.methodLink RL 32 yX7_dredge ∈ WG := WG_of 456 (by decide +kernel) (by decide +kernel)
theorem im_X7_dredge : Cond.instanceMethod yX7_dredge ∈ WG := WG_of 457 (by decide +kernel) (by decide +kernel)
theorem sel_X7_dredge : Cond.selects RX7 yX7_dredge yX7_dredge ∈ WG := WG_of 458 (by decide +kernel) (by decide +kernel)
theorem cd_X7_dredge : Cond.code yX7_dredge cX7_dredge 5 (some .int) ∈ WG := WG_of 459 (by decide +kernel) (by decide +kernel)
theorem ct_RX7_90 : Cond.constant RX7 90 (-100000005) ∈ WG := WG_of 460 (by decide +kernel) (by decide +kernel)
theorem ml_RL_37 : Cond.methodLink RL 37 yX7_supply ∈ WG := WG_of 461 (by decide +kernel) (by decide +kernel)
theorem im_X7_supply : Cond.instanceMethod yX7_supply ∈ WG := WG_of 462 (by decide +kernel) (by decide +kernel)
theorem sel_X7_supply : Cond.selects RX7 yX7_supply yX7_supply ∈ WG := WG_of 463 (by decide +kernel) (by decide +kernel)
theorem cd_X7_supply : Cond.code yX7_supply cX7_supply 6 (some .int) ∈ WG := WG_of 464 (by decide +kernel) (by decide +kernel)
theorem ml_RX7_91 : Cond.methodLink RX7 91 yX2_reachAt ∈ WG := WG_of 465 (by decide +kernel) (by decide +kernel)
theorem ct_RX7_95 : Cond.constant RX7 95 (-1000000) ∈ WG := WG_of 466 (by decide +kernel) (by decide +kernel)
theorem ct_RX7_96 : Cond.constant RX7 96 (1000000) ∈ WG := WG_of 467 (by decide +kernel) (by decide +kernel)
theorem ctl_RX7_103 : Cond.constantLong RX7 103 (100000000) ∈ WG := WG_of 468 (by decide +kernel) (by decide +kernel)
theorem ml_RX7_105 : Cond.methodLink RX7 105 yX7_refuse ∈ WG := WG_of 469 (by decide +kernel) (by decide +kernel)
theorem im_X7_refuse : Cond.instanceMethod yX7_refuse ∈ WG := WG_of 471 (by decide +kernel) (by decide +kernel)
theorem cd_X7_refuse : Cond.code yX7_refuse cX7_refuse 2 (some .int) ∈ WG := WG_of 472 (by decide +kernel) (by decide +kernel)
theorem ct_RX7_317 : Cond.constant RX7 317 (-100000003) ∈ WG := WG_of 473 (by decide +kernel) (by decide +kernel)
theorem ml_RX7_112 : Cond.methodLink RX7 112 yX6_level ∈ WG := WG_of 474 (by decide +kernel) (by decide +kernel)
theorem im_X6_level : Cond.instanceMethod yX6_level ∈ WG := WG_of 475 (by decide +kernel) (by decide +kernel)
theorem sel_X6_level : Cond.selects RX6 yX6_level yX6_level ∈ WG := WG_of 476 (by decide +kernel) (by decide +kernel)
theorem cd_X6_level : Cond.code yX6_level cX6_level 1 (some .long) ∈ WG := WG_of 477 (by decide +kernel) (by decide +kernel)
theorem ml_RX6_34 : Cond.methodLink RX6 34 yX6_depth ∈ WG := WG_of 478 (by decide +kernel) (by decide +kernel)
theorem im_X6_depth : Cond.instanceMethod yX6_depth ∈ WG := WG_of 479 (by decide +kernel) (by decide +kernel)
theorem sel_X6_depth : Cond.selects RX6 yX6_depth yX6_depth ∈ WG := WG_of 480 (by decide +kernel) (by decide +kernel)
theorem cd_X6_depth : Cond.code yX6_depth cX6_depth 1 (some .long) ∈ WG := WG_of 481 (by decide +kernel) (by decide +kernel)
theorem ml_RL_41 : Cond.methodLink RL 41 yX7_addBarge ∈ WG := WG_of 482 (by decide +kernel) (by decide +kernel)
theorem im_X7_addBarge : Cond.instanceMethod yX7_addBarge ∈ WG := WG_of 483 (by decide +kernel) (by decide +kernel)
theorem sel_X7_addBarge : Cond.selects RX7 yX7_addBarge yX7_addBarge ∈ WG := WG_of 484 (by decide +kernel) (by decide +kernel)
theorem cd_X7_addBarge : Cond.code yX7_addBarge cX7_addBarge 7 (some .int) ∈ WG := WG_of 485 (by decide +kernel) (by decide +kernel)
theorem ml_RX7_119 : Cond.methodLink RX7 119 yX2_appendBarge ∈ WG := WG_of 486 (by decide +kernel) (by decide +kernel)
theorem im_X2_appendBarge : Cond.instanceMethod yX2_appendBarge ∈ WG := WG_of 487 (by decide +kernel) (by decide +kernel)
theorem sel_X2_appendBarge : Cond.selects RX2 yX2_appendBarge yX2_appendBarge ∈ WG := WG_of 488 (by decide +kernel) (by decide +kernel)
theorem cd_X2_appendBarge : Cond.code yX2_appendBarge cX2_appendBarge 8 none ∈ WG := WG_of 489 (by decide +kernel) (by decide +kernel)
theorem ml_RX2_77 : Cond.methodLink RX2 77 yX2_bargeAt ∈ WG := WG_of 490 (by decide +kernel) (by decide +kernel)
theorem im_X2_bargeAt : Cond.instanceMethod yX2_bargeAt ∈ WG := WG_of 491 (by decide +kernel) (by decide +kernel)
theorem sel_X2_bargeAt : Cond.selects RX2 yX2_bargeAt yX2_bargeAt ∈ WG := WG_of 492 (by decide +kernel) (by decide +kernel)
theorem cd_X2_bargeAt : Cond.code yX2_bargeAt cX2_bargeAt 3 (some (.object "BargeLocks$Barge")) ∈ WG := WG_of 493 (by decide +kernel) (by decide +kernel)
theorem ml_RX2_81 : Cond.methodLink RX2 81 yX2_waterAt ∈ WG := WG_of 494 (by decide +kernel) (by decide +kernel)
theorem im_X2_waterAt : Cond.instanceMethod yX2_waterAt ∈ WG := WG_of 495 (by decide +kernel) (by decide +kernel)
theorem sel_X2_waterAt : Cond.selects RX2 yX2_waterAt yX2_waterAt ∈ WG := WG_of 496 (by decide +kernel) (by decide +kernel)
theorem cd_X2_waterAt : Cond.code yX2_waterAt cX2_waterAt 3 (some (.object "BargeLocks$Water")) ∈ WG := WG_of 497 (by decide +kernel) (by decide +kernel)
theorem ml_RX2_84 : Cond.methodLink RX2 84 yX0_begin ∈ WG := WG_of 498 (by decide +kernel) (by decide +kernel)
theorem im_X0_begin : Cond.instanceMethod yX0_begin ∈ WG := WG_of 499 (by decide +kernel) (by decide +kernel)
theorem sel_X0_begin : Cond.selects RX0 yX0_begin yX0_begin ∈ WG := WG_of 500 (by decide +kernel) (by decide +kernel)
theorem cd_X0_begin : Cond.code yX0_begin cX0_begin 6 none ∈ WG := WG_of 501 (by decide +kernel) (by decide +kernel)
theorem ml_RX2_87 : Cond.methodLink RX2 87 yX6_takeIn ∈ WG := WG_of 502 (by decide +kernel) (by decide +kernel)
theorem im_X6_takeIn : Cond.instanceMethod yX6_takeIn ∈ WG := WG_of 503 (by decide +kernel) (by decide +kernel)
theorem sel_X6_takeIn : Cond.selects RX6 yX6_takeIn yX6_takeIn ∈ WG := WG_of 504 (by decide +kernel) (by decide +kernel)
theorem cd_X6_takeIn : Cond.code yX6_takeIn cX6_takeIn 2 none ∈ WG := WG_of 505 (by decide +kernel) (by decide +kernel)
theorem ml_RL_46 : Cond.methodLink RL 46 yX7_load ∈ WG := WG_of 506 (by decide +kernel) (by decide +kernel)
theorem im_X7_load : Cond.instanceMethod yX7_load ∈ WG := WG_of 507 (by decide +kernel) (by decide +kernel)
theorem sel_X7_load : Cond.selects RX7 yX7_load yX7_load ∈ WG := WG_of 508 (by decide +kernel) (by decide +kernel)
theorem cd_X7_load : Cond.code yX7_load cX7_load 5 (some .int) ∈ WG := WG_of 509 (by decide +kernel) (by decide +kernel)
theorem ml_RX7_123 : Cond.methodLink RX7 123 yX2_bargeAt ∈ WG := WG_of 510 (by decide +kernel) (by decide +kernel)
theorem ml_RX7_127 : Cond.methodLink RX7 127 yX7_isTons ∈ WG := WG_of 511 (by decide +kernel) (by decide +kernel)
theorem st_X7_isTons : Cond.static yX7_isTons ∈ WG := WG_of 512 (by decide +kernel) (by decide +kernel)
theorem cd_X7_isTons : Cond.code yX7_isTons cX7_isTons 1 (some .boolean) ∈ WG := WG_of 513 (by decide +kernel) (by decide +kernel)
theorem ml_RX7_136 : Cond.methodLink RX7 136 yX2_waterAt ∈ WG := WG_of 514 (by decide +kernel) (by decide +kernel)
theorem ml_RX7_139 : Cond.methodLink RX7 139 yX0_isInChamber ∈ WG := WG_of 515 (by decide +kernel) (by decide +kernel)
theorem im_X0_isInChamber : Cond.instanceMethod yX0_isInChamber ∈ WG := WG_of 516 (by decide +kernel) (by decide +kernel)
theorem sel_X0_isInChamber : Cond.selects RX0 yX0_isInChamber yX0_isInChamber ∈ WG := WG_of 517 (by decide +kernel) (by decide +kernel)
theorem cd_X0_isInChamber : Cond.code yX0_isInChamber cX0_isInChamber 1 (some .boolean) ∈ WG := WG_of 518 (by decide +kernel) (by decide +kernel)
theorem ml_RX7_146 : Cond.methodLink RX7 146 yX0_freeHold ∈ WG := WG_of 519 (by decide +kernel) (by decide +kernel)
theorem im_X0_freeHold : Cond.instanceMethod yX0_freeHold ∈ WG := WG_of 520 (by decide +kernel) (by decide +kernel)
theorem sel_X0_freeHold : Cond.selects RX0 yX0_freeHold yX0_freeHold ∈ WG := WG_of 521 (by decide +kernel) (by decide +kernel)
theorem cd_X0_freeHold : Cond.code yX0_freeHold cX0_freeHold 1 (some .int) ∈ WG := WG_of 522 (by decide +kernel) (by decide +kernel)
theorem ml_RX7_153 : Cond.methodLink RX7 153 yX0_draught ∈ WG := WG_of 523 (by decide +kernel) (by decide +kernel)
theorem im_X0_draught : Cond.instanceMethod yX0_draught ∈ WG := WG_of 524 (by decide +kernel) (by decide +kernel)
theorem sel_X0_draught : Cond.selects RX0 yX0_draught yX0_draught ∈ WG := WG_of 525 (by decide +kernel) (by decide +kernel)
theorem cd_X0_draught : Cond.code yX0_draught cX0_draught 1 (some .int) ∈ WG := WG_of 526 (by decide +kernel) (by decide +kernel)
theorem ml_RX0_36 : Cond.methodLink RX0 36 yX0_weight ∈ WG := WG_of 527 (by decide +kernel) (by decide +kernel)
theorem im_X0_weight : Cond.instanceMethod yX0_weight ∈ WG := WG_of 528 (by decide +kernel) (by decide +kernel)
theorem sel_X0_weight : Cond.selects RX0 yX0_weight yX0_weight ∈ WG := WG_of 529 (by decide +kernel) (by decide +kernel)
theorem cd_X0_weight : Cond.code yX0_weight cX0_weight 1 (some .int) ∈ WG := WG_of 530 (by decide +kernel) (by decide +kernel)
theorem mn_RX0_40 : Cond.methodLinkNest RX0 40 yX7_divideDown "BargeLocks" ∈ lw_tbl := List.mem_of_getElem? (i := 531) (by decide +kernel)
theorem ml_RL_50 : Cond.methodLink RL 50 yX7_pump ∈ WG := WG_of 532 (by decide +kernel) (by decide +kernel)
theorem im_X7_pump : Cond.instanceMethod yX7_pump ∈ WG := WG_of 533 (by decide +kernel) (by decide +kernel)
theorem sel_X7_pump : Cond.selects RX7 yX7_pump yX7_pump ∈ WG := WG_of 534 (by decide +kernel) (by decide +kernel)
theorem cd_X7_pump : Cond.code yX7_pump cX7_pump 5 (some .int) ∈ WG := WG_of 535 (by decide +kernel) (by decide +kernel)
theorem ml_RL_54 : Cond.methodLink RL 54 yX7_sluice ∈ WG := WG_of 536 (by decide +kernel) (by decide +kernel)
theorem im_X7_sluice : Cond.instanceMethod yX7_sluice ∈ WG := WG_of 537 (by decide +kernel) (by decide +kernel)
theorem sel_X7_sluice : Cond.selects RX7 yX7_sluice yX7_sluice ∈ WG := WG_of 538 (by decide +kernel) (by decide +kernel)
theorem cd_X7_sluice : Cond.code yX7_sluice cX7_sluice 5 (some .int) ∈ WG := WG_of 539 (by decide +kernel) (by decide +kernel)
theorem ml_RX7_159 : Cond.methodLink RX7 159 yX2_chamberAt ∈ WG := WG_of 540 (by decide +kernel) (by decide +kernel)
theorem ml_RX7_163 : Cond.methodLink RX7 163 yX2_reachBehind ∈ WG := WG_of 541 (by decide +kernel) (by decide +kernel)
theorem ml_RX7_176 : Cond.methodLink RX7 176 yX6_shareWith ∈ WG := WG_of 542 (by decide +kernel) (by decide +kernel)
theorem ml_RL_58 : Cond.methodLink RL 58 yX7_open ∈ WG := WG_of 543 (by decide +kernel) (by decide +kernel)
theorem im_X7_open : Cond.instanceMethod yX7_open ∈ WG := WG_of 544 (by decide +kernel) (by decide +kernel)
theorem sel_X7_open : Cond.selects RX7 yX7_open yX7_open ∈ WG := WG_of 545 (by decide +kernel) (by decide +kernel)
theorem cd_X7_open : Cond.code yX7_open cX7_open 5 (some .int) ∈ WG := WG_of 546 (by decide +kernel) (by decide +kernel)
theorem ml_RX7_180 : Cond.methodLink RX7 180 yJ9_abs_067f4 ∈ WG := WG_of 547 (by decide +kernel) (by decide +kernel)
theorem st_J9_abs_067f4 : Cond.static yJ9_abs_067f4 ∈ WG := WG_of 548 (by decide +kernel) (by decide +kernel)
theorem cd_J9_abs_067f4 : Cond.code yJ9_abs_067f4 cJ9_abs_067f4 2 (some .long) ∈ WG := WG_of 549 (by decide +kernel) (by decide +kernel)
theorem ctl_RX7_186 : Cond.constantLong RX7 186 (2) ∈ WG := WG_of 550 (by decide +kernel) (by decide +kernel)
theorem ml_RL_62 : Cond.methodLink RL 62 yX7_close ∈ WG := WG_of 551 (by decide +kernel) (by decide +kernel)
theorem im_X7_close : Cond.instanceMethod yX7_close ∈ WG := WG_of 552 (by decide +kernel) (by decide +kernel)
theorem sel_X7_close : Cond.selects RX7 yX7_close yX7_close ∈ WG := WG_of 553 (by decide +kernel) (by decide +kernel)
theorem cd_X7_close : Cond.code yX7_close cX7_close 4 (some .int) ∈ WG := WG_of 554 (by decide +kernel) (by decide +kernel)
theorem ml_RL_66 : Cond.methodLink RL 66 yX7_enter ∈ WG := WG_of 555 (by decide +kernel) (by decide +kernel)
theorem im_X7_enter : Cond.instanceMethod yX7_enter ∈ WG := WG_of 556 (by decide +kernel) (by decide +kernel)
theorem sel_X7_enter : Cond.selects RX7 yX7_enter yX7_enter ∈ WG := WG_of 557 (by decide +kernel) (by decide +kernel)
theorem cd_X7_enter : Cond.code yX7_enter cX7_enter 6 (some .int) ∈ WG := WG_of 558 (by decide +kernel) (by decide +kernel)
theorem ml_RX7_188 : Cond.methodLink RX7 188 yX1_sillOf ∈ WG := WG_of 559 (by decide +kernel) (by decide +kernel)
theorem ml_RX7_192 : Cond.methodLink RX7 192 yX2_isAground ∈ WG := WG_of 560 (by decide +kernel) (by decide +kernel)
theorem im_X2_isAground : Cond.instanceMethod yX2_isAground ∈ WG := WG_of 561 (by decide +kernel) (by decide +kernel)
theorem sel_X2_isAground : Cond.selects RX2 yX2_isAground yX2_isAground ∈ WG := WG_of 562 (by decide +kernel) (by decide +kernel)
theorem cd_X2_isAground : Cond.code yX2_isAground cX2_isAground 3 (some .boolean) ∈ WG := WG_of 563 (by decide +kernel) (by decide +kernel)
theorem ml_RX2_94 : Cond.methodLink RX2 94 yX6_depth ∈ WG := WG_of 564 (by decide +kernel) (by decide +kernel)
theorem ml_RX2_98 : Cond.methodLink RX2 98 yX0_draught ∈ WG := WG_of 565 (by decide +kernel) (by decide +kernel)
theorem ml_RX7_202 : Cond.methodLink RX7 202 yX2_mostDraught ∈ WG := WG_of 566 (by decide +kernel) (by decide +kernel)
theorem im_X2_mostDraught : Cond.instanceMethod yX2_mostDraught ∈ WG := WG_of 567 (by decide +kernel) (by decide +kernel)
theorem sel_X2_mostDraught : Cond.selects RX2 yX2_mostDraught yX2_mostDraught ∈ WG := WG_of 568 (by decide +kernel) (by decide +kernel)
theorem cd_X2_mostDraught : Cond.code yX2_mostDraught cX2_mostDraught 3 (some .long) ∈ WG := WG_of 569 (by decide +kernel) (by decide +kernel)
theorem ml_RX2_102 : Cond.methodLink RX2 102 yX6_level ∈ WG := WG_of 570 (by decide +kernel) (by decide +kernel)
theorem ml_RX2_105 : Cond.methodLink RX2 105 yX5_height ∈ WG := WG_of 571 (by decide +kernel) (by decide +kernel)
theorem im_X5_height : Cond.instanceMethod yX5_height ∈ WG := WG_of 572 (by decide +kernel) (by decide +kernel)
theorem sel_X5_height : Cond.selects RX5 yX5_height yX5_height ∈ WG := WG_of 573 (by decide +kernel) (by decide +kernel)
theorem cd_X5_height : Cond.code yX5_height cX5_height 1 (some .int) ∈ WG := WG_of 574 (by decide +kernel) (by decide +kernel)
theorem ml_RX7_206 : Cond.methodLink RX7 206 yX1_takeIn ∈ WG := WG_of 575 (by decide +kernel) (by decide +kernel)
theorem im_X1_takeIn : Cond.instanceMethod yX1_takeIn ∈ WG := WG_of 576 (by decide +kernel) (by decide +kernel)
theorem sel_X1_takeIn : Cond.selects RX1 yX1_takeIn yX1_takeIn ∈ WG := WG_of 577 (by decide +kernel) (by decide +kernel)
theorem cd_X1_takeIn : Cond.code yX1_takeIn cX1_takeIn 5 none ∈ WG := WG_of 578 (by decide +kernel) (by decide +kernel)
theorem ml_RX7_209 : Cond.methodLink RX7 209 yX2_move ∈ WG := WG_of 579 (by decide +kernel) (by decide +kernel)
theorem im_X2_move : Cond.instanceMethod yX2_move ∈ WG := WG_of 580 (by decide +kernel) (by decide +kernel)
theorem sel_X2_move : Cond.selects RX2 yX2_move yX2_move ∈ WG := WG_of 581 (by decide +kernel) (by decide +kernel)
theorem cd_X2_move : Cond.code yX2_move cX2_move 5 none ∈ WG := WG_of 582 (by decide +kernel) (by decide +kernel)
theorem ml_RX2_110 : Cond.methodLink RX2 110 yX0_weight ∈ WG := WG_of 583 (by decide +kernel) (by decide +kernel)
theorem ml_RX2_113 : Cond.methodLink RX2 113 yX6_letOut ∈ WG := WG_of 584 (by decide +kernel) (by decide +kernel)
theorem im_X6_letOut : Cond.instanceMethod yX6_letOut ∈ WG := WG_of 585 (by decide +kernel) (by decide +kernel)
theorem sel_X6_letOut : Cond.selects RX6 yX6_letOut yX6_letOut ∈ WG := WG_of 586 (by decide +kernel) (by decide +kernel)
theorem cd_X6_letOut : Cond.code yX6_letOut cX6_letOut 2 none ∈ WG := WG_of 587 (by decide +kernel) (by decide +kernel)
theorem ml_RX7_213 : Cond.methodLink RX7 213 yX5_countPassage ∈ WG := WG_of 588 (by decide +kernel) (by decide +kernel)
theorem im_X5_countPassage : Cond.instanceMethod yX5_countPassage ∈ WG := WG_of 589 (by decide +kernel) (by decide +kernel)
theorem sel_X5_countPassage : Cond.selects RX5 yX5_countPassage yX5_countPassage ∈ WG := WG_of 590 (by decide +kernel) (by decide +kernel)
theorem cd_X5_countPassage : Cond.code yX5_countPassage cX5_countPassage 1 none ∈ WG := WG_of 591 (by decide +kernel) (by decide +kernel)
theorem ml_RL_70 : Cond.methodLink RL 70 yX7_leave ∈ WG := WG_of 592 (by decide +kernel) (by decide +kernel)
theorem im_X7_leave : Cond.instanceMethod yX7_leave ∈ WG := WG_of 593 (by decide +kernel) (by decide +kernel)
theorem sel_X7_leave : Cond.selects RX7 yX7_leave yX7_leave ∈ WG := WG_of 594 (by decide +kernel) (by decide +kernel)
theorem cd_X7_leave : Cond.code yX7_leave cX7_leave 7 (some .int) ∈ WG := WG_of 595 (by decide +kernel) (by decide +kernel)
theorem ml_RX7_216 : Cond.methodLink RX7 216 yX1_bargeNextTo ∈ WG := WG_of 596 (by decide +kernel) (by decide +kernel)
theorem im_X1_bargeNextTo : Cond.instanceMethod yX1_bargeNextTo ∈ WG := WG_of 597 (by decide +kernel) (by decide +kernel)
theorem sel_X1_bargeNextTo : Cond.selects RX1 yX1_bargeNextTo yX1_bargeNextTo ∈ WG := WG_of 598 (by decide +kernel) (by decide +kernel)
theorem cd_X1_bargeNextTo : Cond.code yX1_bargeNextTo cX1_bargeNextTo 2 (some .int) ∈ WG := WG_of 599 (by decide +kernel) (by decide +kernel)
theorem ml_RX1_52 : Cond.methodLink RX1 52 yX1_bargeIn ∈ WG := WG_of 600 (by decide +kernel) (by decide +kernel)
theorem im_X1_bargeIn : Cond.instanceMethod yX1_bargeIn ∈ WG := WG_of 601 (by decide +kernel) (by decide +kernel)
theorem sel_X1_bargeIn : Cond.selects RX1 yX1_bargeIn yX1_bargeIn ∈ WG := WG_of 602 (by decide +kernel) (by decide +kernel)
theorem cd_X1_bargeIn : Cond.code yX1_bargeIn cX1_bargeIn 2 (some .int) ∈ WG := WG_of 603 (by decide +kernel) (by decide +kernel)
theorem ml_RX7_219 : Cond.methodLink RX7 219 yX1_letOut ∈ WG := WG_of 604 (by decide +kernel) (by decide +kernel)
theorem im_X1_letOut : Cond.instanceMethod yX1_letOut ∈ WG := WG_of 605 (by decide +kernel) (by decide +kernel)
theorem sel_X1_letOut : Cond.selects RX1 yX1_letOut yX1_letOut ∈ WG := WG_of 606 (by decide +kernel) (by decide +kernel)
theorem cd_X1_letOut : Cond.code yX1_letOut cX1_letOut 3 none ∈ WG := WG_of 607 (by decide +kernel) (by decide +kernel)
theorem ml_RL_74 : Cond.methodLink RL 74 yX7_type ∈ WG := WG_of 608 (by decide +kernel) (by decide +kernel)
theorem im_X7_type : Cond.instanceMethod yX7_type ∈ WG := WG_of 609 (by decide +kernel) (by decide +kernel)
theorem sel_X7_type : Cond.selects RX7 yX7_type yX7_type ∈ WG := WG_of 610 (by decide +kernel) (by decide +kernel)
theorem cd_X7_type : Cond.code yX7_type cX7_type 2 (some .int) ∈ WG := WG_of 611 (by decide +kernel) (by decide +kernel)
theorem ml_RX7_223 : Cond.methodLink RX7 223 yX4_append ∈ WG := WG_of 612 (by decide +kernel) (by decide +kernel)
theorem im_X4_append : Cond.instanceMethod yX4_append ∈ WG := WG_of 613 (by decide +kernel) (by decide +kernel)
theorem sel_X4_append : Cond.selects RX4 yX4_append yX4_append ∈ WG := WG_of 614 (by decide +kernel) (by decide +kernel)
theorem cd_X4_append : Cond.code yX4_append cX4_append 2 (some .int) ∈ WG := WG_of 615 (by decide +kernel) (by decide +kernel)
theorem ct_RX4_31 : Cond.constant RX4 31 (-100000004) ∈ WG := WG_of 616 (by decide +kernel) (by decide +kernel)
theorem ml_RL_79 : Cond.methodLink RL 79 yX7_clearText ∈ WG := WG_of 617 (by decide +kernel) (by decide +kernel)
theorem im_X7_clearText : Cond.instanceMethod yX7_clearText ∈ WG := WG_of 618 (by decide +kernel) (by decide +kernel)
theorem sel_X7_clearText : Cond.selects RX7 yX7_clearText yX7_clearText ∈ WG := WG_of 619 (by decide +kernel) (by decide +kernel)
theorem cd_X7_clearText : Cond.code yX7_clearText cX7_clearText 1 (some .int) ∈ WG := WG_of 620 (by decide +kernel) (by decide +kernel)
theorem ml_RX7_227 : Cond.methodLink RX7 227 yX4_removeAll ∈ WG := WG_of 621 (by decide +kernel) (by decide +kernel)
theorem im_X4_removeAll : Cond.instanceMethod yX4_removeAll ∈ WG := WG_of 622 (by decide +kernel) (by decide +kernel)
theorem sel_X4_removeAll : Cond.selects RX4 yX4_removeAll yX4_removeAll ∈ WG := WG_of 623 (by decide +kernel) (by decide +kernel)
theorem cd_X4_removeAll : Cond.code yX4_removeAll cX4_removeAll 2 (some .int) ∈ WG := WG_of 624 (by decide +kernel) (by decide +kernel)
theorem ml_RL_84 : Cond.methodLink RL 84 yX7_runOrders ∈ WG := WG_of 625 (by decide +kernel) (by decide +kernel)
theorem im_X7_runOrders : Cond.instanceMethod yX7_runOrders ∈ WG := WG_of 626 (by decide +kernel) (by decide +kernel)
theorem sel_X7_runOrders : Cond.selects RX7 yX7_runOrders yX7_runOrders ∈ WG := WG_of 627 (by decide +kernel) (by decide +kernel)
theorem cd_X7_runOrders : Cond.code yX7_runOrders cX7_runOrders 3 (some .int) ∈ WG := WG_of 628 (by decide +kernel) (by decide +kernel)
theorem ml_RX7_230 : Cond.methodLink RX7 230 yX4_findFault ∈ WG := WG_of 629 (by decide +kernel) (by decide +kernel)
theorem im_X4_findFault : Cond.instanceMethod yX4_findFault ∈ WG := WG_of 630 (by decide +kernel) (by decide +kernel)
theorem sel_X4_findFault : Cond.selects RX4 yX4_findFault yX4_findFault ∈ WG := WG_of 631 (by decide +kernel) (by decide +kernel)
theorem cd_X4_findFault : Cond.code yX4_findFault cX4_findFault 3 (some .int) ∈ WG := WG_of 632 (by decide +kernel) (by decide +kernel)
theorem ml_RX4_32 : Cond.methodLink RX4 32 yX4_rewind ∈ WG := WG_of 633 (by decide +kernel) (by decide +kernel)
theorem im_X4_rewind : Cond.instanceMethod yX4_rewind ∈ WG := WG_of 634 (by decide +kernel) (by decide +kernel)
theorem sel_X4_rewind : Cond.selects RX4 yX4_rewind yX4_rewind ∈ WG := WG_of 635 (by decide +kernel) (by decide +kernel)
theorem cd_X4_rewind : Cond.code yX4_rewind cX4_rewind 1 none ∈ WG := WG_of 636 (by decide +kernel) (by decide +kernel)
theorem ml_RX4_35 : Cond.methodLink RX4 35 yX4_readOrder ∈ WG := WG_of 637 (by decide +kernel) (by decide +kernel)
theorem im_X4_readOrder : Cond.instanceMethod yX4_readOrder ∈ WG := WG_of 638 (by decide +kernel) (by decide +kernel)
theorem sel_X4_readOrder : Cond.selects RX4 yX4_readOrder yX4_readOrder ∈ WG := WG_of 639 (by decide +kernel) (by decide +kernel)
theorem cd_X4_readOrder : Cond.code yX4_readOrder cX4_readOrder 1 (some .boolean) ∈ WG := WG_of 640 (by decide +kernel) (by decide +kernel)
theorem ml_RX4_42 : Cond.methodLink RX4 42 yX4_readSign ∈ WG := WG_of 641 (by decide +kernel) (by decide +kernel)
theorem im_X4_readSign : Cond.instanceMethod yX4_readSign ∈ WG := WG_of 643 (by decide +kernel) (by decide +kernel)
theorem cd_X4_readSign : Cond.code yX4_readSign cX4_readSign 2 (some .boolean) ∈ WG := WG_of 644 (by decide +kernel) (by decide +kernel)
theorem ml_RX4_39 : Cond.methodLink RX4 39 yX4_hasMore ∈ WG := WG_of 645 (by decide +kernel) (by decide +kernel)
theorem im_X4_hasMore : Cond.instanceMethod yX4_hasMore ∈ WG := WG_of 646 (by decide +kernel) (by decide +kernel)
theorem sel_X4_hasMore : Cond.selects RX4 yX4_hasMore yX4_hasMore ∈ WG := WG_of 647 (by decide +kernel) (by decide +kernel)
theorem cd_X4_hasMore : Cond.code yX4_hasMore cX4_hasMore 1 (some .boolean) ∈ WG := WG_of 648 (by decide +kernel) (by decide +kernel)
theorem ml_RX4_73 : Cond.methodLink RX4 73 yX4_signAt ∈ WG := WG_of 649 (by decide +kernel) (by decide +kernel)
theorem im_X4_signAt : Cond.instanceMethod yX4_signAt ∈ WG := WG_of 651 (by decide +kernel) (by decide +kernel)
theorem cd_X4_signAt : Cond.code yX4_signAt cX4_signAt 2 (some .char) ∈ WG := WG_of 652 (by decide +kernel) (by decide +kernel)
theorem ml_RX4_46 : Cond.methodLink RX4 46 yX4_readVerb ∈ WG := WG_of 653 (by decide +kernel) (by decide +kernel)
theorem im_X4_readVerb : Cond.instanceMethod yX4_readVerb ∈ WG := WG_of 655 (by decide +kernel) (by decide +kernel)
theorem cd_X4_readVerb : Cond.code yX4_readVerb cX4_readVerb 3 none ∈ WG := WG_of 656 (by decide +kernel) (by decide +kernel)
theorem ml_RX4_57 : Cond.methodLink RX4 57 yX4_endOfToken ∈ WG := WG_of 657 (by decide +kernel) (by decide +kernel)
theorem im_X4_endOfToken : Cond.instanceMethod yX4_endOfToken ∈ WG := WG_of 659 (by decide +kernel) (by decide +kernel)
theorem cd_X4_endOfToken : Cond.code yX4_endOfToken cX4_endOfToken 2 (some .int) ∈ WG := WG_of 660 (by decide +kernel) (by decide +kernel)
theorem ml_RX4_61 : Cond.methodLink RX4 61 yX4_wordOf ∈ WG := WG_of 661 (by decide +kernel) (by decide +kernel)
theorem st_X4_wordOf : Cond.static yX4_wordOf ∈ WG := WG_of 662 (by decide +kernel) (by decide +kernel)
theorem cd_X4_wordOf : Cond.code yX4_wordOf cX4_wordOf 1 (some (.object "java/lang/String")) ∈ WG := WG_of 663 (by decide +kernel) (by decide +kernel)
theorem sr_RX4_88 : Cond.stringRef RX4 88 "sluice" ∈ lw_tbl := List.mem_of_getElem? (i := 664) (by decide +kernel)
theorem sr_RX4_90 : Cond.stringRef RX4 90 "open" ∈ lw_tbl := List.mem_of_getElem? (i := 665) (by decide +kernel)
theorem sr_RX4_92 : Cond.stringRef RX4 92 "close" ∈ lw_tbl := List.mem_of_getElem? (i := 666) (by decide +kernel)
theorem sr_RX4_94 : Cond.stringRef RX4 94 "enter" ∈ lw_tbl := List.mem_of_getElem? (i := 667) (by decide +kernel)
theorem sr_RX4_96 : Cond.stringRef RX4 96 "leave" ∈ lw_tbl := List.mem_of_getElem? (i := 668) (by decide +kernel)
theorem sr_RX4_98 : Cond.stringRef RX4 98 "load" ∈ lw_tbl := List.mem_of_getElem? (i := 669) (by decide +kernel)
theorem sr_RX4_100 : Cond.stringRef RX4 100 "pump" ∈ lw_tbl := List.mem_of_getElem? (i := 670) (by decide +kernel)
theorem sr_RX4_102 : Cond.stringRef RX4 102 "" ∈ lw_tbl := List.mem_of_getElem? (i := 671) (by decide +kernel)
theorem ml_RX4_65 : Cond.methodLink RX4 65 yX4_stands ∈ WG := WG_of 672 (by decide +kernel) (by decide +kernel)
theorem im_X4_stands : Cond.instanceMethod yX4_stands ∈ WG := WG_of 674 (by decide +kernel) (by decide +kernel)
theorem cd_X4_stands : Cond.code yX4_stands cX4_stands 4 (some .boolean) ∈ WG := WG_of 675 (by decide +kernel) (by decide +kernel)
theorem ml_RX4_81 : Cond.methodLink RX4 81 yJ0_length_8abf5 ∈ WG := WG_of 676 (by decide +kernel) (by decide +kernel)
theorem im_J0_length_8abf5 : Cond.instanceMethod yJ0_length_8abf5 ∈ WG := WG_of 677 (by decide +kernel) (by decide +kernel)
theorem sel_J0_length_8abf5 : Cond.selects RJ0 yJ0_length_8abf5 yJ0_length_8abf5 ∈ WG := WG_of 678 (by decide +kernel) (by decide +kernel)
theorem cd_J0_length_8abf5 : Cond.code yJ0_length_8abf5 cJ0_length_8abf5 1 (some .int) ∈ WG := WG_of 679 (by decide +kernel) (by decide +kernel)
theorem ml_RJ0_335 : Cond.methodLink RJ0 335 yJ0_coder_7d493 ∈ WG := WG_of 680 (by decide +kernel) (by decide +kernel)
theorem im_J0_coder_7d493 : Cond.instanceMethod yJ0_coder_7d493 ∈ WG := WG_of 681 (by decide +kernel) (by decide +kernel)
theorem sel_J0_coder_7d493 : Cond.selects RJ0 yJ0_coder_7d493 yJ0_coder_7d493 ∈ WG := WG_of 682 (by decide +kernel) (by decide +kernel)
theorem cd_J0_coder_7d493 : Cond.code yJ0_coder_7d493 cJ0_coder_7d493 1 (some .byte) ∈ WG := WG_of 683 (by decide +kernel) (by decide +kernel)
theorem fl_RJ0_38 : Cond.fieldLink RJ0 38 "java/lang/String" "COMPACT_STRINGS" "Z" ∈ WG := WG_of 684 (by decide +kernel) (by decide +kernel)
theorem ml_RX4_85 : Cond.methodLink RX4 85 yJ0_charAt_5068e ∈ WG := WG_of 686 (by decide +kernel) (by decide +kernel)
theorem im_J0_charAt_5068e : Cond.instanceMethod yJ0_charAt_5068e ∈ WG := WG_of 687 (by decide +kernel) (by decide +kernel)
theorem sel_J0_charAt_5068e : Cond.selects RJ0 yJ0_charAt_5068e yJ0_charAt_5068e ∈ WG := WG_of 688 (by decide +kernel) (by decide +kernel)
theorem cd_J0_charAt_5068e : Cond.code yJ0_charAt_5068e cJ0_charAt_5068e 2 (some .char) ∈ WG := WG_of 689 (by decide +kernel) (by decide +kernel)
theorem ml_RJ0_492 : Cond.methodLink RJ0 492 yJ0_isLatin1_aae02 ∈ WG := WG_of 690 (by decide +kernel) (by decide +kernel)
theorem im_J0_isLatin1_aae02 : Cond.instanceMethod yJ0_isLatin1_aae02 ∈ WG := WG_of 691 (by decide +kernel) (by decide +kernel)
theorem sel_J0_isLatin1_aae02 : Cond.selects RJ0 yJ0_isLatin1_aae02 yJ0_isLatin1_aae02 ∈ WG := WG_of 692 (by decide +kernel) (by decide +kernel)
theorem cd_J0_isLatin1_aae02 : Cond.code yJ0_isLatin1_aae02 cJ0_isLatin1_aae02 1 (some .boolean) ∈ WG := WG_of 693 (by decide +kernel) (by decide +kernel)
theorem ml_RJ0_495 : Cond.methodLink RJ0 495 yJ1_charAt_3b067 ∈ WG := WG_of 694 (by decide +kernel) (by decide +kernel)
theorem st_J1_charAt_3b067 : Cond.static yJ1_charAt_3b067 ∈ WG := WG_of 695 (by decide +kernel) (by decide +kernel)
theorem cd_J1_charAt_3b067 : Cond.code yJ1_charAt_3b067 cJ1_charAt_3b067 2 (some .char) ∈ WG := WG_of 696 (by decide +kernel) (by decide +kernel)
theorem ml_RJ1_9 : Cond.methodLink RJ1 9 yJ0_checkIndex_df160 ∈ WG := WG_of 697 (by decide +kernel) (by decide +kernel)
theorem st_J0_checkIndex_df160 : Cond.static yJ0_checkIndex_df160 ∈ WG := WG_of 698 (by decide +kernel) (by decide +kernel)
theorem cd_J0_checkIndex_df160 : Cond.code yJ0_checkIndex_df160 cJ0_checkIndex_df160 2 none ∈ WG := WG_of 699 (by decide +kernel) (by decide +kernel)
theorem fl_RJ0_1053 : Cond.fieldLink RJ0 1053 "jdk/internal/util/Preconditions" "SIOOBE_FORMATTER" "Ljava/util/function/BiFunction;" ∈ WG := WG_of 700 (by decide +kernel) (by decide +kernel)
theorem ml_RJ0_1059 : Cond.methodLink RJ0 1059 yJ3_checkIndex_8e157 ∈ WG := WG_of 702 (by decide +kernel) (by decide +kernel)
theorem st_J3_checkIndex_8e157 : Cond.static yJ3_checkIndex_8e157 ∈ WG := WG_of 703 (by decide +kernel) (by decide +kernel)
theorem cd_J3_checkIndex_8e157 : Cond.code yJ3_checkIndex_8e157 cJ3_checkIndex_8e157 3 (some .int) ∈ WG := WG_of 704 (by decide +kernel) (by decide +kernel)
theorem ml_RJ0_498 : Cond.methodLink RJ0 498 yJ2_charAt_3b067 ∈ WG := WG_of 705 (by decide +kernel) (by decide +kernel)
theorem st_J2_charAt_3b067 : Cond.static yJ2_charAt_3b067 ∈ WG := WG_of 706 (by decide +kernel) (by decide +kernel)
theorem cd_J2_charAt_3b067 : Cond.code yJ2_charAt_3b067 cJ2_charAt_3b067 2 (some .char) ∈ WG := WG_of 707 (by decide +kernel) (by decide +kernel)
theorem ml_RJ2_67 : Cond.methodLink RJ2 67 yJ2_checkIndex_2214a ∈ WG := WG_of 708 (by decide +kernel) (by decide +kernel)
theorem st_J2_checkIndex_2214a : Cond.static yJ2_checkIndex_2214a ∈ WG := WG_of 709 (by decide +kernel) (by decide +kernel)
theorem cd_J2_checkIndex_2214a : Cond.code yJ2_checkIndex_2214a cJ2_checkIndex_2214a 2 none ∈ WG := WG_of 710 (by decide +kernel) (by decide +kernel)
theorem ml_RJ2_48 : Cond.methodLink RJ2 48 yJ2_length_9d52b ∈ WG := WG_of 711 (by decide +kernel) (by decide +kernel)
theorem st_J2_length_9d52b : Cond.static yJ2_length_9d52b ∈ WG := WG_of 712 (by decide +kernel) (by decide +kernel)
theorem cd_J2_length_9d52b : Cond.code yJ2_length_9d52b cJ2_length_9d52b 1 (some .int) ∈ WG := WG_of 713 (by decide +kernel) (by decide +kernel)
theorem ml_RJ2_414 : Cond.methodLink RJ2 414 yJ0_checkIndex_df160 ∈ WG := WG_of 714 (by decide +kernel) (by decide +kernel)
theorem ml_RJ2_71 : Cond.methodLink RJ2 71 yJ2_getChar_3b067 ∈ WG := WG_of 715 (by decide +kernel) (by decide +kernel)
theorem st_J2_getChar_3b067 : Cond.static yJ2_getChar_3b067 ∈ WG := WG_of 716 (by decide +kernel) (by decide +kernel)
theorem cd_J2_getChar_3b067 : Cond.code yJ2_getChar_3b067 cJ2_getChar_3b067 2 (some .char) ∈ WG := WG_of 717 (by decide +kernel) (by decide +kernel)
theorem fl_RJ2_44 : Cond.fieldLink RJ2 44 "java/lang/StringUTF16" "$assertionsDisabled" "Z" ∈ WG := WG_of 718 (by decide +kernel) (by decide +kernel)
theorem fl_RJ2_59 : Cond.fieldLink RJ2 59 "java/lang/StringUTF16" "HI_BYTE_SHIFT" "I" ∈ WG := WG_of 720 (by decide +kernel) (by decide +kernel)
theorem fl_RJ2_63 : Cond.fieldLink RJ2 63 "java/lang/StringUTF16" "LO_BYTE_SHIFT" "I" ∈ WG := WG_of 722 (by decide +kernel) (by decide +kernel)
theorem ml_RX4_49 : Cond.methodLink RX4 49 yX4_readFirst ∈ WG := WG_of 724 (by decide +kernel) (by decide +kernel)
theorem im_X4_readFirst : Cond.instanceMethod yX4_readFirst ∈ WG := WG_of 726 (by decide +kernel) (by decide +kernel)
theorem cd_X4_readFirst : Cond.code yX4_readFirst cX4_readFirst 2 (some .boolean) ∈ WG := WG_of 727 (by decide +kernel) (by decide +kernel)
theorem ml_RX4_69 : Cond.methodLink RX4 69 yX4_readNumber ∈ WG := WG_of 728 (by decide +kernel) (by decide +kernel)
theorem im_X4_readNumber : Cond.instanceMethod yX4_readNumber ∈ WG := WG_of 730 (by decide +kernel) (by decide +kernel)
theorem cd_X4_readNumber : Cond.code yX4_readNumber cX4_readNumber 7 (some .int) ∈ WG := WG_of 731 (by decide +kernel) (by decide +kernel)
theorem mn_RX4_77 : Cond.methodLinkNest RX4 77 yX7_isWithin "BargeLocks" ∈ lw_tbl := List.mem_of_getElem? (i := 732) (by decide +kernel)
theorem ml_RX4_53 : Cond.methodLink RX4 53 yX4_readSecond ∈ WG := WG_of 733 (by decide +kernel) (by decide +kernel)
theorem im_X4_readSecond : Cond.instanceMethod yX4_readSecond ∈ WG := WG_of 735 (by decide +kernel) (by decide +kernel)
theorem cd_X4_readSecond : Cond.code yX4_readSecond cX4_readSecond 3 (some .boolean) ∈ WG := WG_of 736 (by decide +kernel) (by decide +kernel)
theorem ml_RX7_233 : Cond.methodLink RX7 233 yX4_rewind ∈ WG := WG_of 737 (by decide +kernel) (by decide +kernel)
theorem ml_RX7_236 : Cond.methodLink RX7 236 yX4_hasMore ∈ WG := WG_of 738 (by decide +kernel) (by decide +kernel)
theorem ml_RX7_239 : Cond.methodLink RX7 239 yX4_readOrder ∈ WG := WG_of 739 (by decide +kernel) (by decide +kernel)
theorem ml_RX7_242 : Cond.methodLink RX7 242 yX7_carryOut ∈ WG := WG_of 740 (by decide +kernel) (by decide +kernel)
theorem im_X7_carryOut : Cond.instanceMethod yX7_carryOut ∈ WG := WG_of 742 (by decide +kernel) (by decide +kernel)
theorem cd_X7_carryOut : Cond.code yX7_carryOut cX7_carryOut 1 (some .int) ∈ WG := WG_of 743 (by decide +kernel) (by decide +kernel)
theorem ml_RX7_330 : Cond.methodLink RX7 330 yX7_sluice ∈ WG := WG_of 744 (by decide +kernel) (by decide +kernel)
theorem ml_RX7_334 : Cond.methodLink RX7 334 yX7_open ∈ WG := WG_of 745 (by decide +kernel) (by decide +kernel)
theorem ml_RX7_337 : Cond.methodLink RX7 337 yX7_close ∈ WG := WG_of 746 (by decide +kernel) (by decide +kernel)
theorem ml_RX7_340 : Cond.methodLink RX7 340 yX7_enter ∈ WG := WG_of 747 (by decide +kernel) (by decide +kernel)
theorem ml_RX7_343 : Cond.methodLink RX7 343 yX7_leave ∈ WG := WG_of 748 (by decide +kernel) (by decide +kernel)
theorem ml_RX7_346 : Cond.methodLink RX7 346 yX7_load ∈ WG := WG_of 749 (by decide +kernel) (by decide +kernel)
theorem ml_RX7_349 : Cond.methodLink RX7 349 yX7_pump ∈ WG := WG_of 750 (by decide +kernel) (by decide +kernel)
theorem ac_byte : Cond.arrayClass .byte ∈ WG := WG_of 751 (by decide +kernel) (by decide +kernel)
theorem ml_RL_88 : Cond.methodLink RL 88 yX7_undo ∈ WG := WG_of 752 (by decide +kernel) (by decide +kernel)
theorem im_X7_undo : Cond.instanceMethod yX7_undo ∈ WG := WG_of 753 (by decide +kernel) (by decide +kernel)
theorem sel_X7_undo : Cond.selects RX7 yX7_undo yX7_undo ∈ WG := WG_of 754 (by decide +kernel) (by decide +kernel)
theorem cd_X7_undo : Cond.code yX7_undo cX7_undo 1 (some .int) ∈ WG := WG_of 755 (by decide +kernel) (by decide +kernel)
theorem ml_RX7_248 : Cond.methodLink RX7 248 yX3_takeLatest ∈ WG := WG_of 756 (by decide +kernel) (by decide +kernel)
theorem im_X3_takeLatest : Cond.instanceMethod yX3_takeLatest ∈ WG := WG_of 757 (by decide +kernel) (by decide +kernel)
theorem sel_X3_takeLatest : Cond.selects RX3 yX3_takeLatest yX3_takeLatest ∈ WG := WG_of 758 (by decide +kernel) (by decide +kernel)
theorem cd_X3_takeLatest : Cond.code yX3_takeLatest cX3_takeLatest 3 none ∈ WG := WG_of 759 (by decide +kernel) (by decide +kernel)
theorem ml_RL_92 : Cond.methodLink RL 92 yX7_keep ∈ WG := WG_of 760 (by decide +kernel) (by decide +kernel)
theorem im_X7_keep : Cond.instanceMethod yX7_keep ∈ WG := WG_of 761 (by decide +kernel) (by decide +kernel)
theorem sel_X7_keep : Cond.selects RX7 yX7_keep yX7_keep ∈ WG := WG_of 762 (by decide +kernel) (by decide +kernel)
theorem cd_X7_keep : Cond.code yX7_keep cX7_keep 3 (some .int) ∈ WG := WG_of 763 (by decide +kernel) (by decide +kernel)
theorem ml_RX7_252 : Cond.methodLink RX7 252 yX2_copyTo ∈ WG := WG_of 764 (by decide +kernel) (by decide +kernel)
theorem ml_RL_96 : Cond.methodLink RL 96 yX7_restore ∈ WG := WG_of 765 (by decide +kernel) (by decide +kernel)
theorem im_X7_restore : Cond.instanceMethod yX7_restore ∈ WG := WG_of 766 (by decide +kernel) (by decide +kernel)
theorem sel_X7_restore : Cond.selects RX7 yX7_restore yX7_restore ∈ WG := WG_of 767 (by decide +kernel) (by decide +kernel)
theorem cd_X7_restore : Cond.code yX7_restore cX7_restore 3 (some .int) ∈ WG := WG_of 768 (by decide +kernel) (by decide +kernel)
theorem ml_RL_100 : Cond.methodLink RL 100 yX7_reach ∈ WG := WG_of 769 (by decide +kernel) (by decide +kernel)
theorem im_X7_reach : Cond.instanceMethod yX7_reach ∈ WG := WG_of 770 (by decide +kernel) (by decide +kernel)
theorem sel_X7_reach : Cond.selects RX7 yX7_reach yX7_reach ∈ WG := WG_of 771 (by decide +kernel) (by decide +kernel)
theorem cd_X7_reach : Cond.code yX7_reach cX7_reach 4 (some .int) ∈ WG := WG_of 772 (by decide +kernel) (by decide +kernel)
theorem ml_RX7_255 : Cond.methodLink RX7 255 yX6_property ∈ WG := WG_of 773 (by decide +kernel) (by decide +kernel)
theorem im_X6_property : Cond.instanceMethod yX6_property ∈ WG := WG_of 774 (by decide +kernel) (by decide +kernel)
theorem sel_X6_property : Cond.selects RX6 yX6_property yX6_property ∈ WG := WG_of 775 (by decide +kernel) (by decide +kernel)
theorem cd_X6_property : Cond.code yX6_property cX6_property 2 (some .int) ∈ WG := WG_of 776 (by decide +kernel) (by decide +kernel)
theorem ml_RX6_50 : Cond.methodLink RX6 50 yX6_level ∈ WG := WG_of 777 (by decide +kernel) (by decide +kernel)
theorem ct_RX6_53 : Cond.constant RX6 53 (-100000002) ∈ WG := WG_of 778 (by decide +kernel) (by decide +kernel)
theorem ml_RL_104 : Cond.methodLink RL 104 yX7_chamber ∈ WG := WG_of 779 (by decide +kernel) (by decide +kernel)
theorem im_X7_chamber : Cond.instanceMethod yX7_chamber ∈ WG := WG_of 780 (by decide +kernel) (by decide +kernel)
theorem sel_X7_chamber : Cond.selects RX7 yX7_chamber yX7_chamber ∈ WG := WG_of 781 (by decide +kernel) (by decide +kernel)
theorem cd_X7_chamber : Cond.code yX7_chamber cX7_chamber 4 (some .int) ∈ WG := WG_of 782 (by decide +kernel) (by decide +kernel)
theorem ml_RX7_263 : Cond.methodLink RX7 263 yX5_height ∈ WG := WG_of 783 (by decide +kernel) (by decide +kernel)
theorem ml_RL_108 : Cond.methodLink RL 108 yX7_lying ∈ WG := WG_of 784 (by decide +kernel) (by decide +kernel)
theorem im_X7_lying : Cond.instanceMethod yX7_lying ∈ WG := WG_of 785 (by decide +kernel) (by decide +kernel)
theorem sel_X7_lying : Cond.selects RX7 yX7_lying yX7_lying ∈ WG := WG_of 786 (by decide +kernel) (by decide +kernel)
theorem cd_X7_lying : Cond.code yX7_lying cX7_lying 5 (some .int) ∈ WG := WG_of 787 (by decide +kernel) (by decide +kernel)
theorem ml_RX7_272 : Cond.methodLink RX7 272 yX1_bargeIn ∈ WG := WG_of 788 (by decide +kernel) (by decide +kernel)
theorem ml_RL_112 : Cond.methodLink RL 112 yX7_barge ∈ WG := WG_of 789 (by decide +kernel) (by decide +kernel)
theorem im_X7_barge : Cond.instanceMethod yX7_barge ∈ WG := WG_of 790 (by decide +kernel) (by decide +kernel)
theorem sel_X7_barge : Cond.selects RX7 yX7_barge yX7_barge ∈ WG := WG_of 791 (by decide +kernel) (by decide +kernel)
theorem cd_X7_barge : Cond.code yX7_barge cX7_barge 4 (some .int) ∈ WG := WG_of 792 (by decide +kernel) (by decide +kernel)
theorem ml_RX7_275 : Cond.methodLink RX7 275 yX2_propertyOf ∈ WG := WG_of 793 (by decide +kernel) (by decide +kernel)
theorem im_X2_propertyOf : Cond.instanceMethod yX2_propertyOf ∈ WG := WG_of 794 (by decide +kernel) (by decide +kernel)
theorem sel_X2_propertyOf : Cond.selects RX2 yX2_propertyOf yX2_propertyOf ∈ WG := WG_of 795 (by decide +kernel) (by decide +kernel)
theorem cd_X2_propertyOf : Cond.code yX2_propertyOf cX2_propertyOf 3 (some .int) ∈ WG := WG_of 796 (by decide +kernel) (by decide +kernel)
theorem ml_RX2_139 : Cond.methodLink RX2 139 yX0_freeHold ∈ WG := WG_of 797 (by decide +kernel) (by decide +kernel)
theorem ml_RX2_142 : Cond.methodLink RX2 142 yX2_isAground ∈ WG := WG_of 798 (by decide +kernel) (by decide +kernel)
theorem ct_RX2_146 : Cond.constant RX2 146 (-100000002) ∈ WG := WG_of 799 (by decide +kernel) (by decide +kernel)
theorem ml_RL_116 : Cond.methodLink RL 116 yX7_margin ∈ WG := WG_of 800 (by decide +kernel) (by decide +kernel)
theorem im_X7_margin : Cond.instanceMethod yX7_margin ∈ WG := WG_of 801 (by decide +kernel) (by decide +kernel)
theorem sel_X7_margin : Cond.selects RX7 yX7_margin yX7_margin ∈ WG := WG_of 802 (by decide +kernel) (by decide +kernel)
theorem cd_X7_margin : Cond.code yX7_margin cX7_margin 9 (some .int) ∈ WG := WG_of 803 (by decide +kernel) (by decide +kernel)
theorem ml_RX7_282 : Cond.methodLink RX7 282 yX0_weight ∈ WG := WG_of 804 (by decide +kernel) (by decide +kernel)
theorem ml_RX7_285 : Cond.methodLink RX7 285 yJ9_min_f86c9 ∈ WG := WG_of 805 (by decide +kernel) (by decide +kernel)
theorem ml_RL_120 : Cond.methodLink RL 120 yX7_flow ∈ WG := WG_of 806 (by decide +kernel) (by decide +kernel)
theorem im_X7_flow : Cond.instanceMethod yX7_flow ∈ WG := WG_of 807 (by decide +kernel) (by decide +kernel)
theorem sel_X7_flow : Cond.selects RX7 yX7_flow yX7_flow ∈ WG := WG_of 808 (by decide +kernel) (by decide +kernel)
theorem cd_X7_flow : Cond.code yX7_flow cX7_flow 5 (some .int) ∈ WG := WG_of 809 (by decide +kernel) (by decide +kernel)
theorem ml_RX7_289 : Cond.methodLink RX7 289 yX6_flowFrom ∈ WG := WG_of 810 (by decide +kernel) (by decide +kernel)
theorem ml_RL_124 : Cond.methodLink RL 124 yX7_account ∈ WG := WG_of 811 (by decide +kernel) (by decide +kernel)
theorem im_X7_account : Cond.instanceMethod yX7_account ∈ WG := WG_of 812 (by decide +kernel) (by decide +kernel)
theorem sel_X7_account : Cond.selects RX7 yX7_account yX7_account ∈ WG := WG_of 813 (by decide +kernel) (by decide +kernel)
theorem cd_X7_account : Cond.code yX7_account cX7_account 2 (some .long) ∈ WG := WG_of 814 (by decide +kernel) (by decide +kernel)
theorem ml_RX7_293 : Cond.methodLink RX7 293 yX2_allWater ∈ WG := WG_of 815 (by decide +kernel) (by decide +kernel)
theorem im_X2_allWater : Cond.instanceMethod yX2_allWater ∈ WG := WG_of 816 (by decide +kernel) (by decide +kernel)
theorem sel_X2_allWater : Cond.selects RX2 yX2_allWater yX2_allWater ∈ WG := WG_of 817 (by decide +kernel) (by decide +kernel)
theorem cd_X2_allWater : Cond.code yX2_allWater cX2_allWater 6 (some .long) ∈ WG := WG_of 818 (by decide +kernel) (by decide +kernel)
theorem ml_RX7_296 : Cond.methodLink RX7 296 yX2_sumOfBarges ∈ WG := WG_of 819 (by decide +kernel) (by decide +kernel)
theorem im_X2_sumOfBarges : Cond.instanceMethod yX2_sumOfBarges ∈ WG := WG_of 820 (by decide +kernel) (by decide +kernel)
theorem sel_X2_sumOfBarges : Cond.selects RX2 yX2_sumOfBarges yX2_sumOfBarges ∈ WG := WG_of 821 (by decide +kernel) (by decide +kernel)
theorem cd_X2_sumOfBarges : Cond.code yX2_sumOfBarges cX2_sumOfBarges 6 (some .long) ∈ WG := WG_of 822 (by decide +kernel) (by decide +kernel)
theorem ml_RX2_147 : Cond.methodLink RX2 147 yX2_propertyOf ∈ WG := WG_of 823 (by decide +kernel) (by decide +kernel)
theorem ctl_RX7_303 : Cond.constantLong RX7 303 (-100000002) ∈ WG := WG_of 824 (by decide +kernel) (by decide +kernel)
theorem ml_RL_129 : Cond.methodLink RL 129 yX7_count ∈ WG := WG_of 825 (by decide +kernel) (by decide +kernel)
theorem im_X7_count : Cond.instanceMethod yX7_count ∈ WG := WG_of 826 (by decide +kernel) (by decide +kernel)
theorem sel_X7_count : Cond.selects RX7 yX7_count yX7_count ∈ WG := WG_of 827 (by decide +kernel) (by decide +kernel)
theorem cd_X7_count : Cond.code yX7_count cX7_count 2 (some .int) ∈ WG := WG_of 828 (by decide +kernel) (by decide +kernel)
theorem ml_RX7_305 : Cond.methodLink RX7 305 yX2_openGates ∈ WG := WG_of 829 (by decide +kernel) (by decide +kernel)
theorem im_X2_openGates : Cond.instanceMethod yX2_openGates ∈ WG := WG_of 830 (by decide +kernel) (by decide +kernel)
theorem sel_X2_openGates : Cond.selects RX2 yX2_openGates yX2_openGates ∈ WG := WG_of 831 (by decide +kernel) (by decide +kernel)
theorem cd_X2_openGates : Cond.code yX2_openGates cX2_openGates 4 (some .int) ∈ WG := WG_of 832 (by decide +kernel) (by decide +kernel)
theorem ml_RX7_308 : Cond.methodLink RX7 308 yX2_bargesInChambers ∈ WG := WG_of 833 (by decide +kernel) (by decide +kernel)
theorem im_X2_bargesInChambers : Cond.instanceMethod yX2_bargesInChambers ∈ WG := WG_of 834 (by decide +kernel) (by decide +kernel)
theorem sel_X2_bargesInChambers : Cond.selects RX2 yX2_bargesInChambers yX2_bargesInChambers ∈ WG := WG_of 835 (by decide +kernel) (by decide +kernel)
theorem cd_X2_bargesInChambers : Cond.code yX2_bargesInChambers cX2_bargesInChambers 4 (some .int) ∈ WG := WG_of 836 (by decide +kernel) (by decide +kernel)
theorem cl_RL_10 : Cond.classLink RL 10 RX8 ∈ WG := WG_of 837 (by decide +kernel) (by decide +kernel)
theorem ins_RX8 : Cond.instantiable RX8 13 ∈ WG := WG_of 838 (by decide +kernel) (by decide +kernel)
theorem ml_RL_12 : Cond.methodLink RL 12 yX8_init ∈ WG := WG_of 839 (by decide +kernel) (by decide +kernel)
theorem im_X8_init : Cond.instanceMethod yX8_init ∈ WG := WG_of 840 (by decide +kernel) (by decide +kernel)
theorem cd_X8_init : Cond.code yX8_init cX8_init 1 none ∈ WG := WG_of 841 (by decide +kernel) (by decide +kernel)
theorem ml_RX8_1 : Cond.methodLink RX8 1 objectInit ∈ WG := WG_of 842 (by decide +kernel) (by decide +kernel)
theorem fl_RX8_7 : Cond.fieldLink RX8 7 "BargeLocksModel" "row" "[I" ∈ WG := WG_of 843 (by decide +kernel) (by decide +kernel)
theorem fl_RX8_13 : Cond.fieldLink RX8 13 "BargeLocksModel" "scratch" "[I" ∈ WG := WG_of 844 (by decide +kernel) (by decide +kernel)
theorem fl_RX8_16 : Cond.fieldLink RX8 16 "BargeLocksModel" "history" "[I" ∈ WG := WG_of 845 (by decide +kernel) (by decide +kernel)
theorem fl_RX8_38 : Cond.fieldLink RX8 38 "BargeLocksModel" "kept" "I" ∈ WG := WG_of 846 (by decide +kernel) (by decide +kernel)
theorem fl_RX8_19 : Cond.fieldLink RX8 19 "BargeLocksModel" "slots" "[I" ∈ WG := WG_of 847 (by decide +kernel) (by decide +kernel)
theorem fl_RX8_22 : Cond.fieldLink RX8 22 "BargeLocksModel" "isKept" "[Z" ∈ WG := WG_of 848 (by decide +kernel) (by decide +kernel)
theorem fl_RX8_33 : Cond.fieldLink RX8 33 "BargeLocksModel" "reason" "I" ∈ WG := WG_of 849 (by decide +kernel) (by decide +kernel)
theorem fl_RX8_180 : Cond.fieldLink RX8 180 "BargeLocksModel" "typed" "I" ∈ WG := WG_of 850 (by decide +kernel) (by decide +kernel)
theorem fl_RX8_26 : Cond.fieldLink RX8 26 "BargeLocksModel" "text" "[C" ∈ WG := WG_of 851 (by decide +kernel) (by decide +kernel)
theorem fl_RX8_190 : Cond.fieldLink RX8 190 "BargeLocksModel" "place" "I" ∈ WG := WG_of 852 (by decide +kernel) (by decide +kernel)
theorem fl_RX8_187 : Cond.fieldLink RX8 187 "BargeLocksModel" "fault" "I" ∈ WG := WG_of 853 (by decide +kernel) (by decide +kernel)
theorem fl_RX8_203 : Cond.fieldLink RX8 203 "BargeLocksModel" "orders" "I" ∈ WG := WG_of 854 (by decide +kernel) (by decide +kernel)
theorem fl_RX8_30 : Cond.fieldLink RX8 30 "BargeLocksModel" "orderOf" "[I" ∈ WG := WG_of 855 (by decide +kernel) (by decide +kernel)
theorem ac_boolean : Cond.arrayClass .boolean ∈ WG := WG_of 883 (by decide +kernel) (by decide +kernel)
theorem ml_RL_91 : Cond.methodLink RL 91 yX8_undo ∈ WG := WG_of 884 (by decide +kernel) (by decide +kernel)
theorem im_X8_undo : Cond.instanceMethod yX8_undo ∈ WG := WG_of 885 (by decide +kernel) (by decide +kernel)
theorem sel_X8_undo : Cond.selects RX8 yX8_undo yX8_undo ∈ WG := WG_of 886 (by decide +kernel) (by decide +kernel)
theorem cd_X8_undo : Cond.code yX8_undo cX8_undo 2 (some .int) ∈ WG := WG_of 887 (by decide +kernel) (by decide +kernel)
theorem ct_RX8_48 : Cond.constant RX8 48 (-100000005) ∈ WG := WG_of 888 (by decide +kernel) (by decide +kernel)
theorem ml_RL_95 : Cond.methodLink RL 95 yX8_keep ∈ WG := WG_of 889 (by decide +kernel) (by decide +kernel)
theorem im_X8_keep : Cond.instanceMethod yX8_keep ∈ WG := WG_of 890 (by decide +kernel) (by decide +kernel)
theorem sel_X8_keep : Cond.selects RX8 yX8_keep yX8_keep ∈ WG := WG_of 891 (by decide +kernel) (by decide +kernel)
theorem cd_X8_keep : Cond.code yX8_keep cX8_keep 3 (some .int) ∈ WG := WG_of 892 (by decide +kernel) (by decide +kernel)
theorem ml_RX8_49 : Cond.methodLink RX8 49 yX8_in ∈ WG := WG_of 893 (by decide +kernel) (by decide +kernel)
theorem st_X8_in : Cond.static yX8_in ∈ WG := WG_of 894 (by decide +kernel) (by decide +kernel)
theorem cd_X8_in : Cond.code yX8_in cX8_in 3 (some .boolean) ∈ WG := WG_of 895 (by decide +kernel) (by decide +kernel)
theorem ct_RX8_41 : Cond.constant RX8 41 (-100000001) ∈ WG := WG_of 896 (by decide +kernel) (by decide +kernel)
theorem ml_RL_99 : Cond.methodLink RL 99 yX8_restore ∈ WG := WG_of 897 (by decide +kernel) (by decide +kernel)
theorem im_X8_restore : Cond.instanceMethod yX8_restore ∈ WG := WG_of 898 (by decide +kernel) (by decide +kernel)
theorem sel_X8_restore : Cond.selects RX8 yX8_restore yX8_restore ∈ WG := WG_of 899 (by decide +kernel) (by decide +kernel)
theorem cd_X8_restore : Cond.code yX8_restore cX8_restore 3 (some .int) ∈ WG := WG_of 900 (by decide +kernel) (by decide +kernel)
theorem ml_RX8_53 : Cond.methodLink RX8 53 yX8_begin ∈ WG := WG_of 901 (by decide +kernel) (by decide +kernel)
theorem im_X8_begin : Cond.instanceMethod yX8_begin ∈ WG := WG_of 903 (by decide +kernel) (by decide +kernel)
theorem cd_X8_begin : Cond.code yX8_begin cX8_begin 2 none ∈ WG := WG_of 904 (by decide +kernel) (by decide +kernel)
theorem ml_RX8_42 : Cond.methodLink RX8 42 yX8_record ∈ WG := WG_of 905 (by decide +kernel) (by decide +kernel)
theorem im_X8_record : Cond.instanceMethod yX8_record ∈ WG := WG_of 907 (by decide +kernel) (by decide +kernel)
theorem cd_X8_record : Cond.code yX8_record cX8_record 2 none ∈ WG := WG_of 908 (by decide +kernel) (by decide +kernel)
theorem ml_RL_17 : Cond.methodLink RL 17 yX8_addReach ∈ WG := WG_of 909 (by decide +kernel) (by decide +kernel)
theorem im_X8_addReach : Cond.instanceMethod yX8_addReach ∈ WG := WG_of 910 (by decide +kernel) (by decide +kernel)
theorem sel_X8_addReach : Cond.selects RX8 yX8_addReach yX8_addReach ∈ WG := WG_of 911 (by decide +kernel) (by decide +kernel)
theorem cd_X8_addReach : Cond.code yX8_addReach cX8_addReach 4 (some .int) ∈ WG := WG_of 912 (by decide +kernel) (by decide +kernel)
theorem ml_RX8_101 : Cond.methodLink RX8 101 yX8_isReach ∈ WG := WG_of 913 (by decide +kernel) (by decide +kernel)
theorem st_X8_isReach : Cond.static yX8_isReach ∈ WG := WG_of 914 (by decide +kernel) (by decide +kernel)
theorem cd_X8_isReach : Cond.code yX8_isReach cX8_isReach 3 (some .boolean) ∈ WG := WG_of 915 (by decide +kernel) (by decide +kernel)
theorem ct_RX8_99 : Cond.constant RX8 99 (100000) ∈ WG := WG_of 916 (by decide +kernel) (by decide +kernel)
theorem ct_RX8_100 : Cond.constant RX8 100 (10000000) ∈ WG := WG_of 917 (by decide +kernel) (by decide +kernel)
theorem ct_RX8_104 : Cond.constant RX8 104 (-100000002) ∈ WG := WG_of 918 (by decide +kernel) (by decide +kernel)
theorem ct_RX8_105 : Cond.constant RX8 105 (-100000004) ∈ WG := WG_of 919 (by decide +kernel) (by decide +kernel)
theorem ml_RX8_106 : Cond.methodLink RX8 106 yX8_putReach ∈ WG := WG_of 920 (by decide +kernel) (by decide +kernel)
theorem im_X8_putReach : Cond.instanceMethod yX8_putReach ∈ WG := WG_of 922 (by decide +kernel) (by decide +kernel)
theorem cd_X8_putReach : Cond.code yX8_putReach cX8_putReach 5 none ∈ WG := WG_of 923 (by decide +kernel) (by decide +kernel)
theorem ml_RX8_110 : Cond.methodLink RX8 110 yX8_done ∈ WG := WG_of 924 (by decide +kernel) (by decide +kernel)
theorem im_X8_done : Cond.instanceMethod yX8_done ∈ WG := WG_of 926 (by decide +kernel) (by decide +kernel)
theorem cd_X8_done : Cond.code yX8_done cX8_done 2 (some .int) ∈ WG := WG_of 927 (by decide +kernel) (by decide +kernel)
theorem ml_RX8_45 : Cond.methodLink RX8 45 yX8_shareAll ∈ WG := WG_of 928 (by decide +kernel) (by decide +kernel)
theorem im_X8_shareAll : Cond.instanceMethod yX8_shareAll ∈ WG := WG_of 930 (by decide +kernel) (by decide +kernel)
theorem cd_X8_shareAll : Cond.code yX8_shareAll cX8_shareAll 2 none ∈ WG := WG_of 931 (by decide +kernel) (by decide +kernel)
theorem ml_RX8_92 : Cond.methodLink RX8 92 yX8_openGate ∈ WG := WG_of 932 (by decide +kernel) (by decide +kernel)
theorem im_X8_openGate : Cond.instanceMethod yX8_openGate ∈ WG := WG_of 934 (by decide +kernel) (by decide +kernel)
theorem cd_X8_openGate : Cond.code yX8_openGate cX8_openGate 2 (some .int) ∈ WG := WG_of 935 (by decide +kernel) (by decide +kernel)
theorem ml_RX8_89 : Cond.methodLink RX8 89 yX8_chamberOf ∈ WG := WG_of 936 (by decide +kernel) (by decide +kernel)
theorem im_X8_chamberOf : Cond.instanceMethod yX8_chamberOf ∈ WG := WG_of 938 (by decide +kernel) (by decide +kernel)
theorem cd_X8_chamberOf : Cond.code yX8_chamberOf cX8_chamberOf 3 (some .int) ∈ WG := WG_of 939 (by decide +kernel) (by decide +kernel)
theorem ml_RX8_95 : Cond.methodLink RX8 95 yX8_share ∈ WG := WG_of 940 (by decide +kernel) (by decide +kernel)
theorem im_X8_share : Cond.instanceMethod yX8_share ∈ WG := WG_of 942 (by decide +kernel) (by decide +kernel)
theorem cd_X8_share : Cond.code yX8_share cX8_share 5 none ∈ WG := WG_of 943 (by decide +kernel) (by decide +kernel)
theorem ml_RX8_86 : Cond.methodLink RX8 86 yX8_shared ∈ WG := WG_of 944 (by decide +kernel) (by decide +kernel)
theorem im_X8_shared : Cond.instanceMethod yX8_shared ∈ WG := WG_of 946 (by decide +kernel) (by decide +kernel)
theorem cd_X8_shared : Cond.code yX8_shared cX8_shared 17 (some .int) ∈ WG := WG_of 947 (by decide +kernel) (by decide +kernel)
theorem ml_RX8_68 : Cond.methodLink RX8 68 yX8_waterAt ∈ WG := WG_of 948 (by decide +kernel) (by decide +kernel)
theorem st_X8_waterAt : Cond.static yX8_waterAt ∈ WG := WG_of 949 (by decide +kernel) (by decide +kernel)
theorem cd_X8_waterAt : Cond.code yX8_waterAt cX8_waterAt 1 (some .int) ∈ WG := WG_of 950 (by decide +kernel) (by decide +kernel)
theorem ml_RX8_71 : Cond.methodLink RX8 71 yX8_floats ∈ WG := WG_of 951 (by decide +kernel) (by decide +kernel)
theorem im_X8_floats : Cond.instanceMethod yX8_floats ∈ WG := WG_of 953 (by decide +kernel) (by decide +kernel)
theorem cd_X8_floats : Cond.code yX8_floats cX8_floats 4 (some .int) ∈ WG := WG_of 954 (by decide +kernel) (by decide +kernel)
theorem ml_RX8_60 : Cond.methodLink RX8 60 yX8_of ∈ WG := WG_of 955 (by decide +kernel) (by decide +kernel)
theorem im_X8_of : Cond.instanceMethod yX8_of ∈ WG := WG_of 957 (by decide +kernel) (by decide +kernel)
theorem cd_X8_of : Cond.code yX8_of cX8_of 3 (some .int) ∈ WG := WG_of 958 (by decide +kernel) (by decide +kernel)
theorem ml_RX8_64 : Cond.methodLink RX8 64 yX8_weight ∈ WG := WG_of 959 (by decide +kernel) (by decide +kernel)
theorem im_X8_weight : Cond.instanceMethod yX8_weight ∈ WG := WG_of 961 (by decide +kernel) (by decide +kernel)
theorem cd_X8_weight : Cond.code yX8_weight cX8_weight 2 (some .int) ∈ WG := WG_of 962 (by decide +kernel) (by decide +kernel)
theorem ctl_RX8_74 : Cond.constantLong RX8 74 (100) ∈ WG := WG_of 963 (by decide +kernel) (by decide +kernel)
theorem ml_RX8_82 : Cond.methodLink RX8 82 yX8_down ∈ WG := WG_of 964 (by decide +kernel) (by decide +kernel)
theorem st_X8_down : Cond.static yX8_down ∈ WG := WG_of 965 (by decide +kernel) (by decide +kernel)
theorem cd_X8_down : Cond.code yX8_down cX8_down 6 (some .long) ∈ WG := WG_of 966 (by decide +kernel) (by decide +kernel)
theorem ml_RL_22 : Cond.methodLink RL 22 yX8_addChamber ∈ WG := WG_of 967 (by decide +kernel) (by decide +kernel)
theorem im_X8_addChamber : Cond.instanceMethod yX8_addChamber ∈ WG := WG_of 968 (by decide +kernel) (by decide +kernel)
theorem sel_X8_addChamber : Cond.selects RX8 yX8_addChamber yX8_addChamber ∈ WG := WG_of 969 (by decide +kernel) (by decide +kernel)
theorem cd_X8_addChamber : Cond.code yX8_addChamber cX8_addChamber 10 (some .int) ∈ WG := WG_of 970 (by decide +kernel) (by decide +kernel)
theorem ml_RL_26 : Cond.methodLink RL 26 yX8_setSill ∈ WG := WG_of 971 (by decide +kernel) (by decide +kernel)
theorem im_X8_setSill : Cond.instanceMethod yX8_setSill ∈ WG := WG_of 972 (by decide +kernel) (by decide +kernel)
theorem sel_X8_setSill : Cond.selects RX8 yX8_setSill yX8_setSill ∈ WG := WG_of 973 (by decide +kernel) (by decide +kernel)
theorem cd_X8_setSill : Cond.code yX8_setSill cX8_setSill 5 (some .int) ∈ WG := WG_of 974 (by decide +kernel) (by decide +kernel)
theorem ml_RX8_113 : Cond.methodLink RX8 113 yX8_noGate ∈ WG := WG_of 975 (by decide +kernel) (by decide +kernel)
theorem im_X8_noGate : Cond.instanceMethod yX8_noGate ∈ WG := WG_of 977 (by decide +kernel) (by decide +kernel)
theorem cd_X8_noGate : Cond.code yX8_noGate cX8_noGate 3 (some .boolean) ∈ WG := WG_of 978 (by decide +kernel) (by decide +kernel)
theorem ml_RX8_56 : Cond.methodLink RX8 56 yX8_noChamber ∈ WG := WG_of 979 (by decide +kernel) (by decide +kernel)
theorem im_X8_noChamber : Cond.instanceMethod yX8_noChamber ∈ WG := WG_of 981 (by decide +kernel) (by decide +kernel)
theorem cd_X8_noChamber : Cond.code yX8_noChamber cX8_noChamber 2 (some .boolean) ∈ WG := WG_of 982 (by decide +kernel) (by decide +kernel)
theorem ml_RL_31 : Cond.methodLink RL 31 yX8_setClearance ∈ WG := WG_of 983 (by decide +kernel) (by decide +kernel)
theorem im_X8_setClearance : Cond.instanceMethod yX8_setClearance ∈ WG := WG_of 984 (by decide +kernel) (by decide +kernel)
theorem sel_X8_setClearance : Cond.selects RX8 yX8_setClearance yX8_setClearance ∈ WG := WG_of 985 (by decide +kernel) (by decide +kernel)
theorem cd_X8_setClearance : Cond.code yX8_setClearance cX8_setClearance 3 (some .int) ∈ WG := WG_of 986 (by decide +kernel) (by decide +kernel)
theorem ml_RL_36 : Cond.methodLink RL 36 yX8_dredge ∈ WG := WG_of 987 (by decide +kernel) (by decide +kernel)
theorem im_X8_dredge : Cond.instanceMethod yX8_dredge ∈ WG := WG_of 988 (by decide +kernel) (by decide +kernel)
theorem sel_X8_dredge : Cond.selects RX8 yX8_dredge yX8_dredge ∈ WG := WG_of 989 (by decide +kernel) (by decide +kernel)
theorem cd_X8_dredge : Cond.code yX8_dredge cX8_dredge 4 (some .int) ∈ WG := WG_of 990 (by decide +kernel) (by decide +kernel)
theorem ml_RL_40 : Cond.methodLink RL 40 yX8_supply ∈ WG := WG_of 991 (by decide +kernel) (by decide +kernel)
theorem im_X8_supply : Cond.instanceMethod yX8_supply ∈ WG := WG_of 992 (by decide +kernel) (by decide +kernel)
theorem sel_X8_supply : Cond.selects RX8 yX8_supply yX8_supply ∈ WG := WG_of 993 (by decide +kernel) (by decide +kernel)
theorem cd_X8_supply : Cond.code yX8_supply cX8_supply 5 (some .int) ∈ WG := WG_of 994 (by decide +kernel) (by decide +kernel)
theorem ml_RX8_117 : Cond.methodLink RX8 117 yX8_noReach ∈ WG := WG_of 995 (by decide +kernel) (by decide +kernel)
theorem im_X8_noReach : Cond.instanceMethod yX8_noReach ∈ WG := WG_of 997 (by decide +kernel) (by decide +kernel)
theorem cd_X8_noReach : Cond.code yX8_noReach cX8_noReach 2 (some .boolean) ∈ WG := WG_of 998 (by decide +kernel) (by decide +kernel)
theorem ct_RX8_120 : Cond.constant RX8 120 (-1000000) ∈ WG := WG_of 999 (by decide +kernel) (by decide +kernel)
theorem ct_RX8_121 : Cond.constant RX8 121 (1000000) ∈ WG := WG_of 1000 (by decide +kernel) (by decide +kernel)
theorem ct_RX8_122 : Cond.constant RX8 122 (100000000) ∈ WG := WG_of 1001 (by decide +kernel) (by decide +kernel)
theorem ml_RX8_123 : Cond.methodLink RX8 123 yX8_refuse ∈ WG := WG_of 1002 (by decide +kernel) (by decide +kernel)
theorem im_X8_refuse : Cond.instanceMethod yX8_refuse ∈ WG := WG_of 1004 (by decide +kernel) (by decide +kernel)
theorem cd_X8_refuse : Cond.code yX8_refuse cX8_refuse 2 (some .int) ∈ WG := WG_of 1005 (by decide +kernel) (by decide +kernel)
theorem ct_RX8_37 : Cond.constant RX8 37 (-100000003) ∈ WG := WG_of 1006 (by decide +kernel) (by decide +kernel)
theorem ml_RX8_126 : Cond.methodLink RX8 126 yX8_level ∈ WG := WG_of 1007 (by decide +kernel) (by decide +kernel)
theorem im_X8_level : Cond.instanceMethod yX8_level ∈ WG := WG_of 1009 (by decide +kernel) (by decide +kernel)
theorem cd_X8_level : Cond.code yX8_level cX8_level 2 (some .int) ∈ WG := WG_of 1010 (by decide +kernel) (by decide +kernel)
theorem ml_RX8_76 : Cond.methodLink RX8 76 yX8_deep ∈ WG := WG_of 1011 (by decide +kernel) (by decide +kernel)
theorem im_X8_deep : Cond.instanceMethod yX8_deep ∈ WG := WG_of 1013 (by decide +kernel) (by decide +kernel)
theorem cd_X8_deep : Cond.code yX8_deep cX8_deep 3 (some .int) ∈ WG := WG_of 1014 (by decide +kernel) (by decide +kernel)
theorem ml_RL_45 : Cond.methodLink RL 45 yX8_addBarge ∈ WG := WG_of 1015 (by decide +kernel) (by decide +kernel)
theorem im_X8_addBarge : Cond.instanceMethod yX8_addBarge ∈ WG := WG_of 1016 (by decide +kernel) (by decide +kernel)
theorem sel_X8_addBarge : Cond.selects RX8 yX8_addBarge yX8_addBarge ∈ WG := WG_of 1017 (by decide +kernel) (by decide +kernel)
theorem cd_X8_addBarge : Cond.code yX8_addBarge cX8_addBarge 8 (some .int) ∈ WG := WG_of 1018 (by decide +kernel) (by decide +kernel)
theorem ml_RX8_129 : Cond.methodLink RX8 129 yX8_put ∈ WG := WG_of 1019 (by decide +kernel) (by decide +kernel)
theorem im_X8_put : Cond.instanceMethod yX8_put ∈ WG := WG_of 1021 (by decide +kernel) (by decide +kernel)
theorem cd_X8_put : Cond.code yX8_put cX8_put 4 none ∈ WG := WG_of 1022 (by decide +kernel) (by decide +kernel)
theorem ml_RL_49 : Cond.methodLink RL 49 yX8_load ∈ WG := WG_of 1023 (by decide +kernel) (by decide +kernel)
theorem im_X8_load : Cond.instanceMethod yX8_load ∈ WG := WG_of 1024 (by decide +kernel) (by decide +kernel)
theorem sel_X8_load : Cond.selects RX8 yX8_load yX8_load ∈ WG := WG_of 1025 (by decide +kernel) (by decide +kernel)
theorem cd_X8_load : Cond.code yX8_load cX8_load 3 (some .int) ∈ WG := WG_of 1026 (by decide +kernel) (by decide +kernel)
theorem ml_RX8_141 : Cond.methodLink RX8 141 yX8_doLoad ∈ WG := WG_of 1027 (by decide +kernel) (by decide +kernel)
theorem im_X8_doLoad : Cond.instanceMethod yX8_doLoad ∈ WG := WG_of 1029 (by decide +kernel) (by decide +kernel)
theorem cd_X8_doLoad : Cond.code yX8_doLoad cX8_doLoad 3 (some .int) ∈ WG := WG_of 1030 (by decide +kernel) (by decide +kernel)
theorem ml_RX8_132 : Cond.methodLink RX8 132 yX8_noBarge ∈ WG := WG_of 1031 (by decide +kernel) (by decide +kernel)
theorem im_X8_noBarge : Cond.instanceMethod yX8_noBarge ∈ WG := WG_of 1033 (by decide +kernel) (by decide +kernel)
theorem cd_X8_noBarge : Cond.code yX8_noBarge cX8_noBarge 2 (some .boolean) ∈ WG := WG_of 1034 (by decide +kernel) (by decide +kernel)
theorem ml_RX8_135 : Cond.methodLink RX8 135 yX8_isTons ∈ WG := WG_of 1035 (by decide +kernel) (by decide +kernel)
theorem st_X8_isTons : Cond.static yX8_isTons ∈ WG := WG_of 1036 (by decide +kernel) (by decide +kernel)
theorem cd_X8_isTons : Cond.code yX8_isTons cX8_isTons 1 (some .boolean) ∈ WG := WG_of 1037 (by decide +kernel) (by decide +kernel)
theorem ml_RX8_138 : Cond.methodLink RX8 138 yX8_room ∈ WG := WG_of 1038 (by decide +kernel) (by decide +kernel)
theorem im_X8_room : Cond.instanceMethod yX8_room ∈ WG := WG_of 1040 (by decide +kernel) (by decide +kernel)
theorem cd_X8_room : Cond.code yX8_room cX8_room 2 (some .int) ∈ WG := WG_of 1041 (by decide +kernel) (by decide +kernel)
theorem ml_RX8_79 : Cond.methodLink RX8 79 yX8_draught ∈ WG := WG_of 1042 (by decide +kernel) (by decide +kernel)
theorem im_X8_draught : Cond.instanceMethod yX8_draught ∈ WG := WG_of 1044 (by decide +kernel) (by decide +kernel)
theorem cd_X8_draught : Cond.code yX8_draught cX8_draught 2 (some .int) ∈ WG := WG_of 1045 (by decide +kernel) (by decide +kernel)
theorem ml_RL_53 : Cond.methodLink RL 53 yX8_pump ∈ WG := WG_of 1046 (by decide +kernel) (by decide +kernel)
theorem im_X8_pump : Cond.instanceMethod yX8_pump ∈ WG := WG_of 1047 (by decide +kernel) (by decide +kernel)
theorem sel_X8_pump : Cond.selects RX8 yX8_pump yX8_pump ∈ WG := WG_of 1048 (by decide +kernel) (by decide +kernel)
theorem cd_X8_pump : Cond.code yX8_pump cX8_pump 3 (some .int) ∈ WG := WG_of 1049 (by decide +kernel) (by decide +kernel)
theorem ml_RX8_144 : Cond.methodLink RX8 144 yX8_doPump ∈ WG := WG_of 1050 (by decide +kernel) (by decide +kernel)
theorem im_X8_doPump : Cond.instanceMethod yX8_doPump ∈ WG := WG_of 1052 (by decide +kernel) (by decide +kernel)
theorem cd_X8_doPump : Cond.code yX8_doPump cX8_doPump 4 (some .int) ∈ WG := WG_of 1053 (by decide +kernel) (by decide +kernel)
theorem ml_RL_57 : Cond.methodLink RL 57 yX8_sluice ∈ WG := WG_of 1054 (by decide +kernel) (by decide +kernel)
theorem im_X8_sluice : Cond.instanceMethod yX8_sluice ∈ WG := WG_of 1055 (by decide +kernel) (by decide +kernel)
theorem sel_X8_sluice : Cond.selects RX8 yX8_sluice yX8_sluice ∈ WG := WG_of 1056 (by decide +kernel) (by decide +kernel)
theorem cd_X8_sluice : Cond.code yX8_sluice cX8_sluice 3 (some .int) ∈ WG := WG_of 1057 (by decide +kernel) (by decide +kernel)
theorem ml_RX8_147 : Cond.methodLink RX8 147 yX8_doSluice ∈ WG := WG_of 1058 (by decide +kernel) (by decide +kernel)
theorem im_X8_doSluice : Cond.instanceMethod yX8_doSluice ∈ WG := WG_of 1060 (by decide +kernel) (by decide +kernel)
theorem cd_X8_doSluice : Cond.code yX8_doSluice cX8_doSluice 3 (some .int) ∈ WG := WG_of 1061 (by decide +kernel) (by decide +kernel)
theorem ml_RX8_150 : Cond.methodLink RX8 150 yX8_leveled ∈ WG := WG_of 1062 (by decide +kernel) (by decide +kernel)
theorem im_X8_leveled : Cond.instanceMethod yX8_leveled ∈ WG := WG_of 1064 (by decide +kernel) (by decide +kernel)
theorem cd_X8_leveled : Cond.code yX8_leveled cX8_leveled 3 (some .int) ∈ WG := WG_of 1065 (by decide +kernel) (by decide +kernel)
theorem ml_RL_61 : Cond.methodLink RL 61 yX8_open ∈ WG := WG_of 1066 (by decide +kernel) (by decide +kernel)
theorem im_X8_open : Cond.instanceMethod yX8_open ∈ WG := WG_of 1067 (by decide +kernel) (by decide +kernel)
theorem sel_X8_open : Cond.selects RX8 yX8_open yX8_open ∈ WG := WG_of 1068 (by decide +kernel) (by decide +kernel)
theorem cd_X8_open : Cond.code yX8_open cX8_open 3 (some .int) ∈ WG := WG_of 1069 (by decide +kernel) (by decide +kernel)
theorem ml_RX8_153 : Cond.methodLink RX8 153 yX8_doOpen ∈ WG := WG_of 1070 (by decide +kernel) (by decide +kernel)
theorem im_X8_doOpen : Cond.instanceMethod yX8_doOpen ∈ WG := WG_of 1072 (by decide +kernel) (by decide +kernel)
theorem cd_X8_doOpen : Cond.code yX8_doOpen cX8_doOpen 3 (some .int) ∈ WG := WG_of 1073 (by decide +kernel) (by decide +kernel)
theorem ml_RL_65 : Cond.methodLink RL 65 yX8_close ∈ WG := WG_of 1074 (by decide +kernel) (by decide +kernel)
theorem im_X8_close : Cond.instanceMethod yX8_close ∈ WG := WG_of 1075 (by decide +kernel) (by decide +kernel)
theorem sel_X8_close : Cond.selects RX8 yX8_close yX8_close ∈ WG := WG_of 1076 (by decide +kernel) (by decide +kernel)
theorem cd_X8_close : Cond.code yX8_close cX8_close 2 (some .int) ∈ WG := WG_of 1077 (by decide +kernel) (by decide +kernel)
theorem ml_RX8_156 : Cond.methodLink RX8 156 yX8_doClose ∈ WG := WG_of 1078 (by decide +kernel) (by decide +kernel)
theorem im_X8_doClose : Cond.instanceMethod yX8_doClose ∈ WG := WG_of 1080 (by decide +kernel) (by decide +kernel)
theorem cd_X8_doClose : Cond.code yX8_doClose cX8_doClose 3 (some .int) ∈ WG := WG_of 1081 (by decide +kernel) (by decide +kernel)
theorem ml_RL_69 : Cond.methodLink RL 69 yX8_enter ∈ WG := WG_of 1082 (by decide +kernel) (by decide +kernel)
theorem im_X8_enter : Cond.instanceMethod yX8_enter ∈ WG := WG_of 1083 (by decide +kernel) (by decide +kernel)
theorem sel_X8_enter : Cond.selects RX8 yX8_enter yX8_enter ∈ WG := WG_of 1084 (by decide +kernel) (by decide +kernel)
theorem cd_X8_enter : Cond.code yX8_enter cX8_enter 3 (some .int) ∈ WG := WG_of 1085 (by decide +kernel) (by decide +kernel)
theorem ml_RX8_174 : Cond.methodLink RX8 174 yX8_doEnter ∈ WG := WG_of 1086 (by decide +kernel) (by decide +kernel)
theorem im_X8_doEnter : Cond.instanceMethod yX8_doEnter ∈ WG := WG_of 1088 (by decide +kernel) (by decide +kernel)
theorem cd_X8_doEnter : Cond.code yX8_doEnter cX8_doEnter 7 (some .int) ∈ WG := WG_of 1089 (by decide +kernel) (by decide +kernel)
theorem ml_RX8_162 : Cond.methodLink RX8 162 yX8_isAground ∈ WG := WG_of 1090 (by decide +kernel) (by decide +kernel)
theorem im_X8_isAground : Cond.instanceMethod yX8_isAground ∈ WG := WG_of 1092 (by decide +kernel) (by decide +kernel)
theorem cd_X8_isAground : Cond.code yX8_isAground cX8_isAground 2 (some .boolean) ∈ WG := WG_of 1093 (by decide +kernel) (by decide +kernel)
theorem ml_RX8_165 : Cond.methodLink RX8 165 yX8_lengthLeft ∈ WG := WG_of 1094 (by decide +kernel) (by decide +kernel)
theorem im_X8_lengthLeft : Cond.instanceMethod yX8_lengthLeft ∈ WG := WG_of 1096 (by decide +kernel) (by decide +kernel)
theorem cd_X8_lengthLeft : Cond.code yX8_lengthLeft cX8_lengthLeft 4 (some .int) ∈ WG := WG_of 1097 (by decide +kernel) (by decide +kernel)
theorem ml_RX8_168 : Cond.methodLink RX8 168 yX8_canPass ∈ WG := WG_of 1098 (by decide +kernel) (by decide +kernel)
theorem im_X8_canPass : Cond.instanceMethod yX8_canPass ∈ WG := WG_of 1100 (by decide +kernel) (by decide +kernel)
theorem cd_X8_canPass : Cond.code yX8_canPass cX8_canPass 4 (some .boolean) ∈ WG := WG_of 1101 (by decide +kernel) (by decide +kernel)
theorem ml_RX8_159 : Cond.methodLink RX8 159 yX8_sillHeight ∈ WG := WG_of 1102 (by decide +kernel) (by decide +kernel)
theorem im_X8_sillHeight : Cond.instanceMethod yX8_sillHeight ∈ WG := WG_of 1104 (by decide +kernel) (by decide +kernel)
theorem cd_X8_sillHeight : Cond.code yX8_sillHeight cX8_sillHeight 3 (some .int) ∈ WG := WG_of 1105 (by decide +kernel) (by decide +kernel)
theorem ml_RX8_171 : Cond.methodLink RX8 171 yX8_pass ∈ WG := WG_of 1106 (by decide +kernel) (by decide +kernel)
theorem im_X8_pass : Cond.instanceMethod yX8_pass ∈ WG := WG_of 1108 (by decide +kernel) (by decide +kernel)
theorem cd_X8_pass : Cond.code yX8_pass cX8_pass 5 none ∈ WG := WG_of 1109 (by decide +kernel) (by decide +kernel)
theorem ml_RL_73 : Cond.methodLink RL 73 yX8_leave ∈ WG := WG_of 1110 (by decide +kernel) (by decide +kernel)
theorem im_X8_leave : Cond.instanceMethod yX8_leave ∈ WG := WG_of 1111 (by decide +kernel) (by decide +kernel)
theorem sel_X8_leave : Cond.selects RX8 yX8_leave yX8_leave ∈ WG := WG_of 1112 (by decide +kernel) (by decide +kernel)
theorem cd_X8_leave : Cond.code yX8_leave cX8_leave 3 (some .int) ∈ WG := WG_of 1113 (by decide +kernel) (by decide +kernel)
theorem ml_RX8_177 : Cond.methodLink RX8 177 yX8_doLeave ∈ WG := WG_of 1114 (by decide +kernel) (by decide +kernel)
theorem im_X8_doLeave : Cond.instanceMethod yX8_doLeave ∈ WG := WG_of 1116 (by decide +kernel) (by decide +kernel)
theorem cd_X8_doLeave : Cond.code yX8_doLeave cX8_doLeave 7 (some .int) ∈ WG := WG_of 1117 (by decide +kernel) (by decide +kernel)
theorem ml_RL_78 : Cond.methodLink RL 78 yX8_type ∈ WG := WG_of 1118 (by decide +kernel) (by decide +kernel)
theorem im_X8_type : Cond.instanceMethod yX8_type ∈ WG := WG_of 1119 (by decide +kernel) (by decide +kernel)
theorem sel_X8_type : Cond.selects RX8 yX8_type yX8_type ∈ WG := WG_of 1120 (by decide +kernel) (by decide +kernel)
theorem cd_X8_type : Cond.code yX8_type cX8_type 2 (some .int) ∈ WG := WG_of 1121 (by decide +kernel) (by decide +kernel)
theorem ml_RL_83 : Cond.methodLink RL 83 yX8_clearText ∈ WG := WG_of 1122 (by decide +kernel) (by decide +kernel)
theorem im_X8_clearText : Cond.instanceMethod yX8_clearText ∈ WG := WG_of 1123 (by decide +kernel) (by decide +kernel)
theorem sel_X8_clearText : Cond.selects RX8 yX8_clearText yX8_clearText ∈ WG := WG_of 1124 (by decide +kernel) (by decide +kernel)
theorem cd_X8_clearText : Cond.code yX8_clearText cX8_clearText 2 (some .int) ∈ WG := WG_of 1125 (by decide +kernel) (by decide +kernel)
theorem ml_RL_87 : Cond.methodLink RL 87 yX8_runOrders ∈ WG := WG_of 1126 (by decide +kernel) (by decide +kernel)
theorem im_X8_runOrders : Cond.instanceMethod yX8_runOrders ∈ WG := WG_of 1127 (by decide +kernel) (by decide +kernel)
theorem sel_X8_runOrders : Cond.selects RX8 yX8_runOrders yX8_runOrders ∈ WG := WG_of 1128 (by decide +kernel) (by decide +kernel)
theorem cd_X8_runOrders : Cond.code yX8_runOrders cX8_runOrders 2 (some .int) ∈ WG := WG_of 1129 (by decide +kernel) (by decide +kernel)
theorem ml_RX8_209 : Cond.methodLink RX8 209 yX8_readOrder ∈ WG := WG_of 1130 (by decide +kernel) (by decide +kernel)
theorem im_X8_readOrder : Cond.instanceMethod yX8_readOrder ∈ WG := WG_of 1132 (by decide +kernel) (by decide +kernel)
theorem cd_X8_readOrder : Cond.code yX8_readOrder cX8_readOrder 4 none ∈ WG := WG_of 1133 (by decide +kernel) (by decide +kernel)
theorem ml_RX8_197 : Cond.methodLink RX8 197 yX8_endOf ∈ WG := WG_of 1134 (by decide +kernel) (by decide +kernel)
theorem im_X8_endOf : Cond.instanceMethod yX8_endOf ∈ WG := WG_of 1136 (by decide +kernel) (by decide +kernel)
theorem cd_X8_endOf : Cond.code yX8_endOf cX8_endOf 3 (some .int) ∈ WG := WG_of 1137 (by decide +kernel) (by decide +kernel)
theorem ml_RX8_200 : Cond.methodLink RX8 200 yX8_word ∈ WG := WG_of 1138 (by decide +kernel) (by decide +kernel)
theorem im_X8_word : Cond.instanceMethod yX8_word ∈ WG := WG_of 1140 (by decide +kernel) (by decide +kernel)
theorem cd_X8_word : Cond.code yX8_word cX8_word 4 (some .int) ∈ WG := WG_of 1141 (by decide +kernel) (by decide +kernel)
theorem ml_RX8_183 : Cond.methodLink RX8 183 yX8_stands ∈ WG := WG_of 1142 (by decide +kernel) (by decide +kernel)
theorem im_X8_stands : Cond.instanceMethod yX8_stands ∈ WG := WG_of 1144 (by decide +kernel) (by decide +kernel)
theorem cd_X8_stands : Cond.code yX8_stands cX8_stands 6 (some .boolean) ∈ WG := WG_of 1145 (by decide +kernel) (by decide +kernel)
theorem ml_RX8_193 : Cond.methodLink RX8 193 yX8_fail ∈ WG := WG_of 1146 (by decide +kernel) (by decide +kernel)
theorem im_X8_fail : Cond.instanceMethod yX8_fail ∈ WG := WG_of 1148 (by decide +kernel) (by decide +kernel)
theorem cd_X8_fail : Cond.code yX8_fail cX8_fail 2 none ∈ WG := WG_of 1149 (by decide +kernel) (by decide +kernel)
theorem ml_RX8_206 : Cond.methodLink RX8 206 yX8_number ∈ WG := WG_of 1150 (by decide +kernel) (by decide +kernel)
theorem im_X8_number : Cond.instanceMethod yX8_number ∈ WG := WG_of 1152 (by decide +kernel) (by decide +kernel)
theorem cd_X8_number : Cond.code yX8_number cX8_number 8 (some .int) ∈ WG := WG_of 1153 (by decide +kernel) (by decide +kernel)
theorem ml_RX8_212 : Cond.methodLink RX8 212 yX8_carryOut ∈ WG := WG_of 1154 (by decide +kernel) (by decide +kernel)
theorem im_X8_carryOut : Cond.instanceMethod yX8_carryOut ∈ WG := WG_of 1156 (by decide +kernel) (by decide +kernel)
theorem cd_X8_carryOut : Cond.code yX8_carryOut cX8_carryOut 4 (some .int) ∈ WG := WG_of 1157 (by decide +kernel) (by decide +kernel)
theorem ml_RL_103 : Cond.methodLink RL 103 yX8_reach ∈ WG := WG_of 1158 (by decide +kernel) (by decide +kernel)
theorem im_X8_reach : Cond.instanceMethod yX8_reach ∈ WG := WG_of 1159 (by decide +kernel) (by decide +kernel)
theorem sel_X8_reach : Cond.selects RX8 yX8_reach yX8_reach ∈ WG := WG_of 1160 (by decide +kernel) (by decide +kernel)
theorem cd_X8_reach : Cond.code yX8_reach cX8_reach 3 (some .int) ∈ WG := WG_of 1161 (by decide +kernel) (by decide +kernel)
theorem ml_RX8_218 : Cond.methodLink RX8 218 yX8_water ∈ WG := WG_of 1162 (by decide +kernel) (by decide +kernel)
theorem im_X8_water : Cond.instanceMethod yX8_water ∈ WG := WG_of 1164 (by decide +kernel) (by decide +kernel)
theorem cd_X8_water : Cond.code yX8_water cX8_water 4 (some .int) ∈ WG := WG_of 1165 (by decide +kernel) (by decide +kernel)
theorem ml_RX8_215 : Cond.methodLink RX8 215 yX8_bargesIn ∈ WG := WG_of 1166 (by decide +kernel) (by decide +kernel)
theorem im_X8_bargesIn : Cond.instanceMethod yX8_bargesIn ∈ WG := WG_of 1168 (by decide +kernel) (by decide +kernel)
theorem cd_X8_bargesIn : Cond.code yX8_bargesIn cX8_bargesIn 4 (some .int) ∈ WG := WG_of 1169 (by decide +kernel) (by decide +kernel)
theorem ml_RL_107 : Cond.methodLink RL 107 yX8_chamber ∈ WG := WG_of 1170 (by decide +kernel) (by decide +kernel)
theorem im_X8_chamber : Cond.instanceMethod yX8_chamber ∈ WG := WG_of 1171 (by decide +kernel) (by decide +kernel)
theorem sel_X8_chamber : Cond.selects RX8 yX8_chamber yX8_chamber ∈ WG := WG_of 1172 (by decide +kernel) (by decide +kernel)
theorem cd_X8_chamber : Cond.code yX8_chamber cX8_chamber 3 (some .int) ∈ WG := WG_of 1173 (by decide +kernel) (by decide +kernel)
theorem ml_RL_111 : Cond.methodLink RL 111 yX8_lying ∈ WG := WG_of 1174 (by decide +kernel) (by decide +kernel)
theorem im_X8_lying : Cond.instanceMethod yX8_lying ∈ WG := WG_of 1175 (by decide +kernel) (by decide +kernel)
theorem sel_X8_lying : Cond.selects RX8 yX8_lying yX8_lying ∈ WG := WG_of 1176 (by decide +kernel) (by decide +kernel)
theorem cd_X8_lying : Cond.code yX8_lying cX8_lying 3 (some .int) ∈ WG := WG_of 1177 (by decide +kernel) (by decide +kernel)
theorem ml_RL_115 : Cond.methodLink RL 115 yX8_barge ∈ WG := WG_of 1178 (by decide +kernel) (by decide +kernel)
theorem im_X8_barge : Cond.instanceMethod yX8_barge ∈ WG := WG_of 1179 (by decide +kernel) (by decide +kernel)
theorem sel_X8_barge : Cond.selects RX8 yX8_barge yX8_barge ∈ WG := WG_of 1180 (by decide +kernel) (by decide +kernel)
theorem cd_X8_barge : Cond.code yX8_barge cX8_barge 3 (some .int) ∈ WG := WG_of 1181 (by decide +kernel) (by decide +kernel)
theorem ml_RL_119 : Cond.methodLink RL 119 yX8_margin ∈ WG := WG_of 1182 (by decide +kernel) (by decide +kernel)
theorem im_X8_margin : Cond.instanceMethod yX8_margin ∈ WG := WG_of 1183 (by decide +kernel) (by decide +kernel)
theorem sel_X8_margin : Cond.selects RX8 yX8_margin yX8_margin ∈ WG := WG_of 1184 (by decide +kernel) (by decide +kernel)
theorem cd_X8_margin : Cond.code yX8_margin cX8_margin 6 (some .int) ∈ WG := WG_of 1185 (by decide +kernel) (by decide +kernel)
theorem ml_RL_123 : Cond.methodLink RL 123 yX8_flow ∈ WG := WG_of 1186 (by decide +kernel) (by decide +kernel)
theorem im_X8_flow : Cond.instanceMethod yX8_flow ∈ WG := WG_of 1187 (by decide +kernel) (by decide +kernel)
theorem sel_X8_flow : Cond.selects RX8 yX8_flow yX8_flow ∈ WG := WG_of 1188 (by decide +kernel) (by decide +kernel)
theorem cd_X8_flow : Cond.code yX8_flow cX8_flow 3 (some .int) ∈ WG := WG_of 1189 (by decide +kernel) (by decide +kernel)
theorem ml_RL_128 : Cond.methodLink RL 128 yX8_account ∈ WG := WG_of 1190 (by decide +kernel) (by decide +kernel)
theorem im_X8_account : Cond.instanceMethod yX8_account ∈ WG := WG_of 1191 (by decide +kernel) (by decide +kernel)
theorem sel_X8_account : Cond.selects RX8 yX8_account yX8_account ∈ WG := WG_of 1192 (by decide +kernel) (by decide +kernel)
theorem cd_X8_account : Cond.code yX8_account cX8_account 13 (some .long) ∈ WG := WG_of 1193 (by decide +kernel) (by decide +kernel)
theorem ctl_RX8_221 : Cond.constantLong RX8 221 (-100000002) ∈ WG := WG_of 1194 (by decide +kernel) (by decide +kernel)
theorem ml_RL_132 : Cond.methodLink RL 132 yX8_count ∈ WG := WG_of 1195 (by decide +kernel) (by decide +kernel)
theorem im_X8_count : Cond.instanceMethod yX8_count ∈ WG := WG_of 1196 (by decide +kernel) (by decide +kernel)
theorem sel_X8_count : Cond.selects RX8 yX8_count yX8_count ∈ WG := WG_of 1197 (by decide +kernel) (by decide +kernel)
theorem cd_X8_count : Cond.code yX8_count cX8_count 6 (some .int) ∈ WG := WG_of 1198 (by decide +kernel) (by decide +kernel)
theorem fl_RJ0_9 : Cond.fieldLink RJ0 9 "java/lang/String" "value" "[B" ∈ WG := WG_of 1199 (by decide +kernel) (by decide +kernel)
theorem fl_RJ0_15 : Cond.fieldLink RJ0 15 "java/lang/String" "coder" "B" ∈ WG := WG_of 1200 (by decide +kernel) (by decide +kernel)
theorem lay_X0 : ∀ w ∈ u_ws RX0 TX0 8, w ∈ WG := by decide +kernel
theorem lay_X1 : ∀ w ∈ u_ws RX1 TX1 8, w ∈ WG := by decide +kernel
theorem lay_X2 : ∀ w ∈ u_ws RX2 TX2 9, w ∈ WG := by decide +kernel
theorem lay_X3 : ∀ w ∈ u_ws RX3 TX3 3, w ∈ WG := by decide +kernel
theorem lay_X4 : ∀ w ∈ u_ws RX4 TX4 6, w ∈ WG := by decide +kernel
theorem lay_X5 : ∀ w ∈ u_ws RX5 TX5 3, w ∈ WG := by decide +kernel
theorem lay_X6 : ∀ w ∈ u_ws RX6 TX6 5, w ∈ WG := by decide +kernel
theorem lay_X7 : ∀ w ∈ u_ws RX7 TX7 6, w ∈ WG := by decide +kernel
theorem lay_X8 : ∀ w ∈ u_ws RX8 TX8 13, w ∈ WG := by decide +kernel
end
section
/-! A JUDGEMENT OVER NUMBERS. Values, fields and addresses are integers; a frame's locals are a row of them; the heap is a
static half S (size, kinds, lengths, references) and a half D of numbers. JX says: from here the frame comes to its return, with Q. -/
abbrev JV : Type := Int ⊕ Int ⊕ Option Int
/-- size of the heap, kinds, lengths, references -/
abbrev JS : Type := Int × (Int → Nat) × (Int → Int) × (Int → Int → Option Int)
abbrev JD : Type := Int → Int → Int
abbrev jN (S : JS) : Int := S.1
abbrev jK (S : JS) : Int → Nat := S.2.1
abbrev jL (S : JS) : Int → Int := S.2.2.1
abbrev jR (S : JS) : Int → Int → Option Int := S.2.2.2
/-- base heap, class numbers and slots, array classes, String constants, script -/
abbrev JG : Type := Heap × va_G × (Nat → ClassId) × (Nat → Nat) × (Nat → Nat) × Nat × Nat × (Nat → Int32)
abbrev gB (G : JG) : Heap := G.1
abbrev gD (G : JG) : va_G := G.2.1
abbrev gA (G : JG) : Nat → ClassId := G.2.2.1
abbrev gS (G : JG) : Nat → Nat := G.2.2.2.1
abbrev gV (G : JG) : Nat → Nat := G.2.2.2.2.1
abbrev gb (G : JG) : Nat := G.2.2.2.2.2.1
abbrev gL (G : JG) : Nat := G.2.2.2.2.2.2.1
abbrev gX (G : JG) : Nat → Int32 := G.2.2.2.2.2.2.2
def jv (x : JV) : Value := match x with
  | .inl e => .int (Int32.ofInt e)
  | .inr (.inl e) => .long (Int64.ofInt e)
  | .inr (.inr r) => va_rf (r.map Int.toNat)
theorem jv_i (e : Int) : jv (.inl e) = .int (Int32.ofInt e) := rfl
theorem jv_l (e : Int) : jv (.inr (.inl e)) = .long (Int64.ofInt e) := rfl
theorem jv_r (a : Int) : jv (.inr (.inr (some a))) = .ref a.toNat := rfl
theorem jv_n : jv (.inr (.inr none)) = .null := rfl
/-- the classes by kinds, their fields' types -/
def jcl : List vw_C := [(RX0, TX0, 8), (RX1, TX1, 8), (RX2, TX2, 9), (RX3, TX3, 3), (RX4, TX4, 6), (RX5, TX5, 3), (RX6, TX6, 5), (RX7, TX7, 6), (RX8, TX8, 13)]
def jty (c : Nat) : Nat → FieldType := match c with
  | 0 => tyX0
  | 1 => tyX1
  | 2 => tyX2
  | 3 => tyX3
  | 4 => tyX4
  | 5 => tyX5
  | 6 => tyX6
  | 7 => tyX7
  | 8 => tyX8
  | _ => fun _ => .int
/-- elements of arrays by kinds: 9 int, 10 char, 11 boolean, 12 Water, 13 Chamber, 14 Barge, 15 Flight -/
def jat (c : Nat) : FieldType := match c with
  | 9 => .int
  | 10 => .char
  | 11 => .boolean
  | 12 => .object RX6
  | 13 => .object RX1
  | 14 => .object RX0
  | 15 => .object RX2
  | _ => .int
def jfv (ty : FieldType) (e : Int) (r : Option Int) : Value := match ty with
  | .long => .long (Int64.ofInt e)
  | .object _ => va_rf (r.map Int.toNat)
  | .array _ => va_rf (r.map Int.toNat)
  | _ => .int (Int32.ofInt e)
/-- the cell of an object of kind c -/
def jOb (G : JG) (S : JS) (D : JD) (H : Heap) (a : Int) (c : Nat) : Prop :=
  ∃ r : vw_C, jcl[c]? = some r ∧ t_OB a.toNat ((gD G).1 c) r.2.2 ((gD G).2 c) H (fun k => jfv (jty c k) (D a (k : Int)) (jR S a (k : Int)))
def jAr (G : JG) (S : JS) (D : JD) (H : Heap) (a : Int) (c : Nat) : Prop :=
  H[a.toNat]? = some (arrV (gA G c) (jL S a).toNat (fun j => jfv (jat c) (D a (j : Int)) (jR S a (j : Int))))
def JSim (G : JG) (S : JS) (D : JD) (H : Heap) : Prop :=
  (H.size : Int) = jN S ∧ (gB G).size ≤ H.size ∧ (∀ q : Nat, q < (gB G).size → H[q]? = (gB G)[q]?) ∧
  (∀ (a : Int) (c : Nat), jK S a = c → c < 9 → ((gB G).size : Int) ≤ a ∧ a < jN S ∧ jOb G S D H a c) ∧
  (∀ (a : Int) (c : Nat), jK S a = c → 9 ≤ c → c < 16 → ((gB G).size : Int) ≤ a ∧ a < jN S ∧ 0 ≤ jL S a ∧ jL S a < 2147483648 ∧ jAr G S D H a c)
def jup (D : JD) (a k e : Int) : JD := fun x y => if x = a ∧ y = k then e else D x y
def jur (S : JS) (a k : Int) (r : Option Int) : JS := (S.1, S.2.1, S.2.2.1, fun x y => if x = a ∧ y = k then r else S.2.2.2 x y)
/-- the locals -/
def jLs (nL : Nat) (ls : List (Option JV)) (A : Array Slot) : Prop := ls.length = nL ∧ A.size = nL ∧ lv_wf A ∧ ∀ (k : Nat) (v : JV), ls[k]? = some (some v) → A[k]? = some (.val (jv v))
def jcl2 (ls : List (Option JV)) (k : Nat) : List (Option JV) := match ls[k]? with
  | some (some (.inr (.inl _))) => ls.set k none
  | _ => ls
def jclr (ls : List (Option JV)) (k : Nat) : List (Option JV) := match k with
  | 0 => ls
  | k + 1 => jcl2 ls k
def jst (ls : List (Option JV)) (k : Nat) (v : JV) : List (Option JV) := (jclr ls k).set k (some v)
def jst2 (ls : List (Option JV)) (k : Nat) (v : JV) : List (Option JV) := ((jclr ls k).set k (some v)).set (k + 1) none
/-- String constants: their texts -/
def jtx (i : Nat) : List Int := match i with
  | 0 => [115, 108, 117, 105, 99, 101]
  | 1 => [111, 112, 101, 110]
  | 2 => [99, 108, 111, 115, 101]
  | 3 => [101, 110, 116, 101, 114]
  | 4 => [108, 101, 97, 118, 101]
  | 5 => [108, 111, 97, 100]
  | 6 => [112, 117, 109, 112]
  | _ => []
def jsx (i : Nat) : Nat × String := match i with
  | 0 => (88, "sluice")
  | 1 => (90, "open")
  | 2 => (92, "close")
  | 3 => (94, "enter")
  | 4 => (96, "leave")
  | 5 => (98, "load")
  | 6 => (100, "pump")
  | _ => (102, "")
def jnest : List (String × Nat × MethodName × String) := [(RX2, 29, yX6_init, "BargeLocks"), (RX1, 11, yX6_init, "BargeLocks"), (RX1, 20, yX5_init, "BargeLocks"), (RX2, 31, yX0_init, "BargeLocks"), (RX6, 30, yX7_divideDown, "BargeLocks"), (RX0, 40, yX7_divideDown, "BargeLocks"), (RX4, 77, yX7_isWithin, "BargeLocks")]
/-- what is known of the machine's tables in every method -/
def JKn (G : JG) (U : State) : Prop :=
  (∀ (c : Nat) (q : vw_C), jcl[c]? = some q → u_Kn U q.1 q.2.1 q.2.2 ((gD G).1 c) ((gD G).2 c)) ∧
  (∀ c : Nat, 9 ≤ c → c < 16 → ArrOfT U (gA G c) (jat c) ∧ va_RA U (gA G c) (jat c)) ∧
  (∀ q ∈ jnest, va_Nw (.methodLinkNest q.1 q.2.1 q.2.2.1 q.2.2.2) U) ∧
  (∀ C ∈ [RX6, RX1, RX0, RX2], va_AO C U) ∧
  (∀ i : Nat, i < 8 → vk_R RX4 (jsx i).1 (jsx i).2 (gS G i) U) ∧
  vk_S 8 [6, 4, 5, 5, 5, 4, 4, 0] [[115, 108, 117, 105, 99, 101], [111, 112, 101, 110], [99, 108, 111, 115, 101], [101, 110, 116, 101, 114], [108, 101, 97, 118, 101], [108, 111, 97, 100], [112, 117, 109, 112], []] (gS G) (gV G) (fun q => (gB G).size ≤ q) U (gB G) ∧
  va_X (gb G) (gL G) (gX G) U (gB G)
theorem JKn.same {G : JG} {u U : State} (hv : U.vm = u.vm) (h : JKn G u) : JKn G U := by
  obtain ⟨h1, h2, h3, h4, h5, h6, h7⟩ := h
  have ha : u.vm.Alike U.vm := by rw [hv]; exact Vm.Alike.refl _
  refine ⟨fun c q hq => u_Kn_moved ha (h1 c q hq), fun c a b => ⟨arrOfT_moved ha (h2 c a b).1, (h2 c a b).2.moved ha⟩, fun q hq => va_Nw.same rfl hv.symm (h3 q hq), fun C hC => (h4 C hC).moved ha, fun i hi => (h5 i hi).same hv, vk_S.moved ha h6, h7.moved ha⟩
theorem JKn.warm {G : JG} {s U : State} (hW : s.WarmedH U.vm) (h : JKn G s) : JKn G U := by
  obtain ⟨h1, h2, h3, h4, h5, h6, h7⟩ := h
  have ha : s.vm.Alike U.vm := hW.alike
  refine ⟨fun c q hq => u_Kn_moved ha (h1 c q hq), fun c a b => ⟨arrOfT_moved ha (h2 c a b).1, (h2 c a b).2.moved ha⟩, fun q hq => va_Nw.warmM hW (h3 q hq), fun C hC => (h4 C hC).moved ha, fun i hi => (h5 i hi).warm hW, vk_S.moved ha h6, h7.moved ha⟩
/-- a frame of the method y, with the code cc -/
def JCtx (G : JG) (y : MethodName) (cc : ByteArray) (nL : Nat) (rt : Option FieldType) (p : Program) (s : State) (m : MethodId) (args : Array Value) (meth : Method) (c : Code) : Prop :=
  p.tables.exec = Jvm.exec ∧ c.code = cc ∧ c.maxLocals = nL ∧ s.vm.findClass y.cls = some m.cls ∧ (∀ w ∈ WG, w.before args s = true) ∧ JKn G s ∧ meth.sig.returnType = rt ∧ meth.locks = false ∧ meth.name = y.name
/-- pc is at a return that gives v -/
def jRet (cc : ByteArray) (rt : Option FieldType) (pc : Nat) (v : Option JV) (st : List Value) : Prop :=
  (decode cc pc = .ok (.ireturn, 1) ∧ ∃ (e : Int) (ty : FieldType), v = some (.inl e) ∧ st = [.int (Int32.ofInt e)] ∧ rt = some ty ∧ narrow ty (.int (Int32.ofInt e)) = .int (Int32.ofInt e)) ∨
  (decode cc pc = .ok (.lreturn, 1) ∧ ∃ e : Int, v = some (.inr (.inl e)) ∧ st = [.long (Int64.ofInt e)] ∧ rt = some .long) ∨
  (decode cc pc = .ok (.areturn, 1) ∧ ∃ (r : Option Int) (ty : FieldType), v = some (.inr (.inr r)) ∧ st = [va_rf (r.map Int.toNat)] ∧ rt = some ty ∧ ((∃ n, ty = .object n) ∨ ∃ t, ty = .array t)) ∨
  (decode cc pc = .ok (.return_, 1) ∧ v = none ∧ st = [] ∧ rt = none)
def JX (G : JG) (y : MethodName) (cc : ByteArray) (nL : Nat) (rt : Option FieldType) (d : Nat) (kb kc : Nat × Nat) (S : JS) (D : JD) (pc : Nat) (ls : List (Option JV)) (st : List JV) (Q : Option JV → JS → JD → Prop) : Prop :=
  ∀ (p : Program) (l : Launch) (e : Env) (R : Room) (s : State) (m : MethodId) (args : Array Value) (below : List Frame) (meth : Method) (c : Code) (H : Heap) (locs : List Loc) (A : Array Slot) (QM : State → Prop),
    JCtx G y cc nL rt p s m args meth c → d ≤ R.frames → 36 * d ≤ R.locals → kb.1 ≤ R.cells → kb.2 ≤ R.slots → JSim G S D H → (∀ q ∈ locs, (gB G).size ≤ q.base) → jLs nL ls A →
    (∀ (v : Option JV) (S' : JS) (D' : JD) (H' : Heap) (locs' : List Loc) (pc' : Nat) (A' : Array Slot) (st' : List Value), Q v S' D' → JSim G S' D' H' → (∀ q ∈ locs', (gB G).size ≤ q.base) → jRet cc rt pc' v st' → W p l e R s m args below meth c H' locs' kb.1 kb.2 QM (F0 m pc' A' st')) →
    W p l e R s m args below meth c H locs kc.1 kc.2 QM (F0 m pc A (st.map jv))
theorem JX.mono {G : JG} {y : MethodName} {cc : ByteArray} {nL : Nat} {rt : Option FieldType} {d : Nat} {kb kc : Nat × Nat} {S : JS} {D : JD} {pc : Nat} {ls : List (Option JV)} {st : List JV} {Q Q' : Option JV → JS → JD → Prop}
    (h : JX G y cc nL rt d kb kc S D pc ls st Q) (hq : ∀ v S' D', Q v S' D' → Q' v S' D') : JX G y cc nL rt d kb kc S D pc ls st Q' := by
  intro p l e R s m args below meth c H locs A QM C h1 h2 h3 h4 hS hl hA hK
  exact h p l e R s m args below meth c H locs A QM C h1 h2 h3 h4 hS hl hA (fun v S' D' H' locs' pc' A' st' q => hK v S' D' H' locs' pc' A' st' (hq v S' D' q))
end
section
/-! ROWS, an instruction each: values, locals, arithmetic, branches -/
def i32 (e : Int) : Prop := -2147483648 ≤ e ∧ e ≤ 2147483647
def i64 (e : Int) : Prop := -9223372036854775808 ≤ e ∧ e ≤ 9223372036854775807
theorem i32_t {e : Int} (h : i32 e) : (Int32.ofInt e).toInt = e := Int32.toInt_ofInt_of_le (by unfold i32 at h; omega) (by unfold i32 at h; omega)
theorem i64_t {e : Int} (h : i64 e) : (Int64.ofInt e).toInt = e := Int64.toInt_ofInt_of_le (by unfold i64 at h; omega) (by unfold i64 at h; omega)
theorem i32_lt0 {e : Int} (h : i32 e) : Int32.ofInt e < 0 ↔ e < 0 := by rw [Int32.lt_iff_toInt_lt, i32_t h, Int32.toInt_zero]
theorem i32_le0 {e : Int} (h : i32 e) : Int32.ofInt e ≤ 0 ↔ e ≤ 0 := by rw [Int32.le_iff_toInt_le, i32_t h, Int32.toInt_zero]
theorem i32_ge0 {e : Int} (h : i32 e) : (0 : Int32) ≤ Int32.ofInt e ↔ 0 ≤ e := by rw [Int32.le_iff_toInt_le, i32_t h, Int32.toInt_zero]
theorem i32_gt0 {e : Int} (h : i32 e) : (0 : Int32) < Int32.ofInt e ↔ 0 < e := by rw [Int32.lt_iff_toInt_lt, i32_t h, Int32.toInt_zero]
theorem i32_eq0 {e : Int} (h : i32 e) : Int32.ofInt e = 0 ↔ e = 0 := by rw [← Int32.toInt_inj, i32_t h, Int32.toInt_zero]
theorem i32_lt {a b : Int} (h : i32 a) (k : i32 b) : Int32.ofInt a < Int32.ofInt b ↔ a < b := by rw [Int32.lt_iff_toInt_lt, i32_t h, i32_t k]
theorem i32_le {a b : Int} (h : i32 a) (k : i32 b) : Int32.ofInt a ≤ Int32.ofInt b ↔ a ≤ b := by rw [Int32.le_iff_toInt_le, i32_t h, i32_t k]
theorem i32_eq {a b : Int} (h : i32 a) (k : i32 b) : Int32.ofInt a = Int32.ofInt b ↔ a = b := by rw [← Int32.toInt_inj, i32_t h, i32_t k]
theorem i32_nn {e : Int} (h0 : 0 ≤ e) (h1 : e < 2147483648) : (Int32.ofInt e).toNatClampNeg = e.toNat := by show (Int32.ofInt e).toInt.toNat = _; rw [i32_t ⟨by omega, by omega⟩]
theorem jd_abs {a b : Int} (h0 : 0 < b) : (a.tdiv b).natAbs ≤ a.natAbs := by rw [Int.natAbs_tdiv]; exact Nat.div_le_self _ _
theorem jd_nonneg {a b : Int} (ha : 0 ≤ a) (h0 : 0 < b) : 0 ≤ a.tdiv b := Int.tdiv_nonneg ha (by omega)
theorem jd_neg {a b : Int} (ha : a ≤ 0) (h0 : 0 < b) : a.tdiv b ≤ 0 := by
  have h := Int.tdiv_nonneg (a := -a) (b := b) (by omega) (by omega)
  rw [Int.neg_tdiv] at h
  omega
theorem jd_32 {a b : Int} (ra : i32 a) (h0 : 0 < b) : i32 (a.tdiv b) := by
  have h := jd_abs (a := a) h0
  unfold i32 at ra ⊢
  rcases Int.le_total 0 a with q | q
  · have := jd_nonneg q h0; omega
  · have := jd_neg q h0; omega
theorem jd_64 {a b : Int} (ra : i64 a) (h0 : 0 < b) : i64 (a.tdiv b) := by
  have h := jd_abs (a := a) h0
  unfold i64 at ra ⊢
  rcases Int.le_total 0 a with q | q
  · have := jd_nonneg q h0; omega
  · have := jd_neg q h0; omega
theorem jd_i {a b : Int} (ra : i32 a) (rb : i32 b) (h0 : 0 < b) : Int32.ofInt a / Int32.ofInt b = Int32.ofInt (a.tdiv b) := by
  have w := jd_32 ra h0
  rw [← Int32.toInt_inj, Int32.toInt_div, i32_t ra, i32_t rb, i32_t w, Int.bmod_def]
  unfold i32 at w
  omega
theorem jd_l {a b : Int} (ra : i64 a) (rb : i64 b) (h0 : 0 < b) : Int64.ofInt a / Int64.ofInt b = Int64.ofInt (a.tdiv b) := by
  have w := jd_64 ra h0
  rw [← Int64.toInt_inj, Int64.toInt_div, i64_t ra, i64_t rb, i64_t w, Int.bmod_def]
  unfold i64 at w
  omega
theorem jd_m (a b : Int) : a - a.tdiv b * b = a.tmod b := by
  have := Int.mul_tdiv_add_tmod a b
  have e : a.tdiv b * b = b * a.tdiv b := Int.mul_comm _ _
  omega
/-- an index that is in a row of n -/
theorem i32_in {e n : Int} (h0 : 0 ≤ e) (h1 : e < n) (h2 : n < 2147483648) : vp_in (Int32.ofInt e) n.toNat := by
  refine vp_in_iff.mpr ?_
  rw [i32_t ⟨by omega, by omega⟩]
  omega
theorem jv_c1 (v : JV) (h : ∀ e, v ≠ .inr (.inl e)) : (jv v).category = 1 := by
  rcases v with e | e | r
  · rfl
  · exact absurd rfl (h e)
  · cases r <;> rfl
def jas (ls : List (Option JV)) : List (Nat × Value) := ls.zipIdx.filterMap (fun q => q.1.map (fun v => (q.2, jv v)))
theorem jas_mem {ls : List (Option JV)} {q : Nat × Value} (h : q ∈ jas ls) : ∃ v, ls[q.1]? = some (some v) ∧ q.2 = jv v := by
  obtain ⟨x, hx, hy⟩ := List.mem_filterMap.mp h
  obtain ⟨o, k⟩ := x
  have h1 := List.mem_zipIdx_iff_getElem?.mp hx
  cases o with
  | none => simp at hy
  | some v =>
    simp at hy
    subst hy
    exact ⟨v, h1, rfl⟩
theorem jas_of {ls : List (Option JV)} {k : Nat} {v : JV} (h : ls[k]? = some (some v)) : (k, jv v) ∈ jas ls :=
  List.mem_filterMap.mpr ⟨(some v, k), List.mem_zipIdx_iff_getElem?.mpr h, rfl⟩
theorem jls_has {nL : Nat} {ls : List (Option JV)} {A : Array Slot} (h : jLs nL ls A) : lv_has A nL (jas ls) := by
  refine ⟨h.2.1, h.2.2.1, fun q hq => ?_⟩
  obtain ⟨v, h1, h2⟩ := jas_mem hq
  rw [h2]
  exact h.2.2.2 _ _ h1
theorem jcl2_get {ls : List (Option JV)} {i k : Nat} {v : JV} (h : (jcl2 ls i)[k]? = some (some v)) : ls[k]? = some (some v) ∧ ¬ (k = i ∧ (jv v).category = 2) := by
  unfold jcl2 at h
  split at h
  next e hz =>
    by_cases q : k = i
    · subst q
      rw [List.getElem?_set_self'] at h
      simp [hz] at h
    · rw [List.getElem?_set_ne (fun w => q w.symm)] at h
      exact ⟨h, fun w => q w.1⟩
  next hz =>
    refine ⟨h, fun w => ?_⟩
    obtain ⟨w1, w2⟩ := w
    subst w1
    rcases v with e | e | r
    · cases w2
    · exact hz e h
    · cases r <;> cases w2
theorem jclr_get {ls : List (Option JV)} {i k : Nat} {v : JV} (h : (jclr ls i)[k]? = some (some v)) (hk : k ≠ i) : ls[k]? = some (some v) ∧ ¬ (k + 1 = i ∧ (jv v).category = 2) := by
  cases i with
  | zero => exact ⟨h, fun q => by omega⟩
  | succ i =>
    obtain ⟨h1, h2⟩ := jcl2_get (ls := ls) (i := i) h
    exact ⟨h1, fun q => h2 ⟨by omega, q.2⟩⟩
theorem jclr_len (ls : List (Option JV)) (i : Nat) : (jclr ls i).length = ls.length := by
  cases i with
  | zero => rfl
  | succ i =>
    show (jcl2 ls i).length = _
    unfold jcl2
    split
    · simp
    · rfl
theorem jls_of1 {nL i : Nat} {ls : List (Option JV)} {A' : Array Slot} {v : JV} (hlen : ls.length = nL)
    (h : lv_has A' nL ((i, jv v) :: (jas ls).filter (fun q => !(q.1 == i) && !(q.1 + 1 == i && q.2.category == 2)))) : jLs nL (jst ls i v) A' := by
  refine ⟨by simp [jst, jclr_len, hlen], h.1, h.2.1, fun k w hk => ?_⟩
  unfold jst at hk
  by_cases q : k = i
  · subst q
    rw [List.getElem?_set_self'] at hk
    have : v = w := by
      cases hz : (jclr ls k)[k]? with
      | none => rw [hz] at hk; simp at hk
      | some z => rw [hz] at hk; simpa using hk
    subst this
    exact h.2.2 _ List.mem_cons_self
  · rw [List.getElem?_set_ne (fun w => q w.symm)] at hk
    obtain ⟨h1, h2⟩ := jclr_get hk q
    refine h.2.2 (k, jv w) (List.mem_cons_of_mem _ (List.mem_filter.mpr ⟨jas_of h1, ?_⟩))
    by_cases c1 : k + 1 = i
    · have c2 : ¬ (jv w).category = 2 := fun c => h2 ⟨c1, c⟩
      simp [q, c2]
    · simp [q, c1]
theorem jls_of2 {nL i : Nat} {ls : List (Option JV)} {A' : Array Slot} {v : JV} (hlen : ls.length = nL)
    (h : lv_has A' nL ((i, jv v) :: (jas ls).filter (fun q => !(q.1 == i) && (!(q.1 == i + 1) && !(q.1 + 1 == i && q.2.category == 2))))) : jLs nL (jst2 ls i v) A' := by
  refine ⟨by simp [jst2, jclr_len, hlen], h.1, h.2.1, fun k w hk => ?_⟩
  unfold jst2 at hk
  by_cases q2 : k = i + 1
  · subst q2
    rw [List.getElem?_set_self'] at hk
    cases hz : ((jclr ls i).set i (some v))[i + 1]? with
    | none => rw [hz] at hk; simp at hk
    | some z => rw [hz] at hk; simp at hk
  · rw [List.getElem?_set_ne (fun w => q2 w.symm)] at hk
    by_cases q : k = i
    · subst q
      rw [List.getElem?_set_self'] at hk
      have : v = w := by
        cases hz : (jclr ls k)[k]? with
        | none => rw [hz] at hk; simp at hk
        | some z => rw [hz] at hk; simpa using hk
      subst this
      exact h.2.2 _ List.mem_cons_self
    · rw [List.getElem?_set_ne (fun w => q w.symm)] at hk
      obtain ⟨h1, h2⟩ := jclr_get hk q
      refine h.2.2 (k, jv w) (List.mem_cons_of_mem _ (List.mem_filter.mpr ⟨jas_of h1, ?_⟩))
      by_cases c1 : k + 1 = i
      · have c2 : ¬ (jv w).category = 2 := fun c => h2 ⟨c1, c⟩
        simp [q, q2, c2]
      · simp [q, q2, c1]
section JROWS
variable {G : JG} {y : MethodName} {cc : ByteArray} {nL : Nat} {rt : Option FieldType} {d : Nat} {kb kc : Nat × Nat} {S : JS} {D : JD} {pc : Nat} {ls : List (Option JV)} {st : List JV} {Q : Option JV → JS → JD → Prop}
theorem x_iconst {e : Int} (hd : decode cc pc = .ok (.iconst e, 1))  (K : JX G y cc nL rt d kb kc S D (pc + 1) ls (.inl e :: st) Q) : JX G y cc nL rt d kb kc S D pc ls st Q := by
  intro p l e9 R s m args below meth c H locs A QM C h1 h2 h3 h4 hS hl hA hK
  exact lv_iconst C.1 C.2.1 hd rfl (K p l e9 R s m args below meth c H locs A QM C h1 h2 h3 h4 hS hl hA hK)
theorem x_bipush {n : Int} (hd : decode cc pc = .ok (.bipush n, 2)) (hn : (Int8.ofInt n).toInt32 = Int32.ofInt n) (K : JX G y cc nL rt d kb kc S D (pc + 2) ls (.inl n :: st) Q) : JX G y cc nL rt d kb kc S D pc ls st Q := by
  intro p l e9 R s m args below meth c H locs A QM C h1 h2 h3 h4 hS hl hA hK
  exact lv_bipush C.1 C.2.1 hd hn (K p l e9 R s m args below meth c H locs A QM C h1 h2 h3 h4 hS hl hA hK)
theorem x_sipush {n : Int} (hd : decode cc pc = .ok (.sipush n, 3)) (hn : (Int16.ofInt n).toInt32 = Int32.ofInt n) (K : JX G y cc nL rt d kb kc S D (pc + 3) ls (.inl n :: st) Q) : JX G y cc nL rt d kb kc S D pc ls st Q := by
  intro p l e9 R s m args below meth c H locs A QM C h1 h2 h3 h4 hS hl hA hK
  exact lv_sipush C.1 C.2.1 hd hn (K p l e9 R s m args below meth c H locs A QM C h1 h2 h3 h4 hS hl hA hK)
theorem x_lconst {n : Fin 2} {e : Int} (hd : decode cc pc = .ok (.lconst n, 1)) (hn : Int64.ofNat (n : Nat) = Int64.ofInt e) (K : JX G y cc nL rt d kb kc S D (pc + 1) ls (.inr (.inl e) :: st) Q) : JX G y cc nL rt d kb kc S D pc ls st Q := by
  intro p l e9 R s m args below meth c H locs A QM C h1 h2 h3 h4 hS hl hA hK
  exact lv_lconst C.1 C.2.1 hd hn (K p l e9 R s m args below meth c H locs A QM C h1 h2 h3 h4 hS hl hA hK)
theorem x_null  (hd : decode cc pc = .ok (.aconst_null, 1))  (K : JX G y cc nL rt d kb kc S D (pc + 1) ls (.inr (.inr none) :: st) Q) : JX G y cc nL rt d kb kc S D pc ls st Q := by
  intro p l e9 R s m args below meth c H locs A QM C h1 h2 h3 h4 hS hl hA hK
  exact lv_null C.1 C.2.1 hd (K p l e9 R s m args below meth c H locs A QM C h1 h2 h3 h4 hS hl hA hK)
theorem x_ldc {index : Nat} {v : Int32} {e : Int} (hd : decode cc pc = .ok (.ldc index, 2)) (hw : Cond.constant y.cls index v ∈ WG) (hv : v = Int32.ofInt e) (K : JX G y cc nL rt d kb kc S D (pc + 2) ls (.inl e :: st) Q) : JX G y cc nL rt d kb kc S D pc ls st Q := by
  intro p l e9 R s m args below meth c H locs A QM C h1 h2 h3 h4 hS hl hA hK
  subst hv
  exact lv_ldc C.1 C.2.1 C.2.2.2.1 (C.2.2.2.2.1 _ hw) hd (K p l e9 R s m args below meth c H locs A QM C h1 h2 h3 h4 hS hl hA hK)
theorem x_ldcw {index : Nat} {v : Int32} {e : Int} (hd : decode cc pc = .ok (.ldc_w index, 3)) (hw : Cond.constant y.cls index v ∈ WG) (hv : v = Int32.ofInt e) (K : JX G y cc nL rt d kb kc S D (pc + 3) ls (.inl e :: st) Q) : JX G y cc nL rt d kb kc S D pc ls st Q := by
  intro p l e9 R s m args below meth c H locs A QM C h1 h2 h3 h4 hS hl hA hK
  subst hv
  exact lv_ldcw C.1 C.2.1 C.2.2.2.1 (C.2.2.2.2.1 _ hw) hd (K p l e9 R s m args below meth c H locs A QM C h1 h2 h3 h4 hS hl hA hK)
theorem x_ldc2 {index : Nat} {v : Int64} {e : Int} (hd : decode cc pc = .ok (.ldc2_w index, 3)) (hw : Cond.constantLong y.cls index v ∈ WG) (hv : v = Int64.ofInt e) (K : JX G y cc nL rt d kb kc S D (pc + 3) ls (.inr (.inl e) :: st) Q) : JX G y cc nL rt d kb kc S D pc ls st Q := by
  intro p l e9 R s m args below meth c H locs A QM C h1 h2 h3 h4 hS hl hA hK
  subst hv
  exact lv_ldc2 C.1 C.2.1 C.2.2.2.1 (C.2.2.2.2.1 _ hw) hd (K p l e9 R s m args below meth c H locs A QM C h1 h2 h3 h4 hS hl hA hK)
theorem x_iload_n {k : Fin 4} {e : Int} (hd : decode cc pc = .ok (.iload_n k, 1)) (hl0 : ls[(k : Nat)]? = some (some (.inl e))) (K : JX G y cc nL rt d kb kc S D (pc + 1) ls (.inl e :: st) Q) : JX G y cc nL rt d kb kc S D pc ls st Q := by
  intro p l e9 R s m args below meth c H locs A QM C h1 h2 h3 h4 hS hl hA hK
  exact lv_iload_n C.1 C.2.1 hd rfl (hA.2.2.2 _ _ hl0) (K p l e9 R s m args below meth c H locs A QM C h1 h2 h3 h4 hS hl hA hK)
theorem x_iload {k : Nat} {e : Int} (hd : decode cc pc = .ok (.iload k, 2)) (hl0 : ls[k]? = some (some (.inl e))) (K : JX G y cc nL rt d kb kc S D (pc + 2) ls (.inl e :: st) Q) : JX G y cc nL rt d kb kc S D pc ls st Q := by
  intro p l e9 R s m args below meth c H locs A QM C h1 h2 h3 h4 hS hl hA hK
  exact lv_iload C.1 C.2.1 hd (hA.2.2.2 _ _ hl0) (K p l e9 R s m args below meth c H locs A QM C h1 h2 h3 h4 hS hl hA hK)
theorem x_lload_n {k : Fin 4} {e : Int} (hd : decode cc pc = .ok (.lload_n k, 1)) (hl0 : ls[(k : Nat)]? = some (some (.inr (.inl e)))) (K : JX G y cc nL rt d kb kc S D (pc + 1) ls (.inr (.inl e) :: st) Q) : JX G y cc nL rt d kb kc S D pc ls st Q := by
  intro p l e9 R s m args below meth c H locs A QM C h1 h2 h3 h4 hS hl hA hK
  exact lv_lload_n C.1 C.2.1 hd rfl (hA.2.2.2 _ _ hl0) (K p l e9 R s m args below meth c H locs A QM C h1 h2 h3 h4 hS hl hA hK)
theorem x_lload {k : Nat} {e : Int} (hd : decode cc pc = .ok (.lload k, 2)) (hl0 : ls[k]? = some (some (.inr (.inl e)))) (K : JX G y cc nL rt d kb kc S D (pc + 2) ls (.inr (.inl e) :: st) Q) : JX G y cc nL rt d kb kc S D pc ls st Q := by
  intro p l e9 R s m args below meth c H locs A QM C h1 h2 h3 h4 hS hl hA hK
  exact lv_lload C.1 C.2.1 hd (hA.2.2.2 _ _ hl0) (K p l e9 R s m args below meth c H locs A QM C h1 h2 h3 h4 hS hl hA hK)
theorem x_aload_n {k : Fin 4} {r : Option Int} (hd : decode cc pc = .ok (.aload_n k, 1)) (hl0 : ls[(k : Nat)]? = some (some (.inr (.inr r)))) (K : JX G y cc nL rt d kb kc S D (pc + 1) ls (.inr (.inr r) :: st) Q) : JX G y cc nL rt d kb kc S D pc ls st Q := by
  intro p l e9 R s m args below meth c H locs A QM C h1 h2 h3 h4 hS hl hA hK
  cases r with
  | none => exact lv_aload_nN C.1 C.2.1 hd rfl (hA.2.2.2 _ _ hl0) (K p l e9 R s m args below meth c H locs A QM C h1 h2 h3 h4 hS hl hA hK)
  | some a => exact lv_aload_n C.1 C.2.1 hd rfl (hA.2.2.2 _ _ hl0) (K p l e9 R s m args below meth c H locs A QM C h1 h2 h3 h4 hS hl hA hK)
theorem x_aload {k : Nat} {r : Option Int} (hd : decode cc pc = .ok (.aload k, 2)) (hl0 : ls[k]? = some (some (.inr (.inr r)))) (K : JX G y cc nL rt d kb kc S D (pc + 2) ls (.inr (.inr r) :: st) Q) : JX G y cc nL rt d kb kc S D pc ls st Q := by
  intro p l e9 R s m args below meth c H locs A QM C h1 h2 h3 h4 hS hl hA hK
  cases r with
  | none => exact lv_aloadN C.1 C.2.1 hd (hA.2.2.2 _ _ hl0) (K p l e9 R s m args below meth c H locs A QM C h1 h2 h3 h4 hS hl hA hK)
  | some a => exact lv_aload C.1 C.2.1 hd (hA.2.2.2 _ _ hl0) (K p l e9 R s m args below meth c H locs A QM C h1 h2 h3 h4 hS hl hA hK)
theorem x_istore_n {k : Fin 4} {e : Int} (hd : decode cc pc = .ok (.istore_n k, 1)) (hn : (k : Nat) < nL) (K : JX G y cc nL rt d kb kc S D (pc + 1) (jst ls k (.inl e)) st Q) : JX G y cc nL rt d kb kc S D pc ls (.inl e :: st) Q := by
  intro p l e9 R s m args below meth c H locs A QM C h1 h2 h3 h4 hS hl hA hK
  exact lv_istore_n C.1 C.2.1 hd rfl (jls_has hA) hn rfl (fun A2 hA2 => K p l e9 R s m args below meth c H locs A2 QM C h1 h2 h3 h4 hS hl (jls_of1 hA.1 hA2) hK)
theorem x_istore {k : Nat} {e : Int} (hd : decode cc pc = .ok (.istore k, 2)) (hn : k < nL) (K : JX G y cc nL rt d kb kc S D (pc + 2) (jst ls k (.inl e)) st Q) : JX G y cc nL rt d kb kc S D pc ls (.inl e :: st) Q := by
  intro p l e9 R s m args below meth c H locs A QM C h1 h2 h3 h4 hS hl hA hK
  exact lv_istore C.1 C.2.1 hd (jls_has hA) hn rfl (fun A2 hA2 => K p l e9 R s m args below meth c H locs A2 QM C h1 h2 h3 h4 hS hl (jls_of1 hA.1 hA2) hK)
theorem x_lstore_n {k : Fin 4} {e : Int} (hd : decode cc pc = .ok (.lstore_n k, 1)) (hn : (k : Nat) + 1 < nL) (K : JX G y cc nL rt d kb kc S D (pc + 1) (jst2 ls k (.inr (.inl e))) st Q) : JX G y cc nL rt d kb kc S D pc ls (.inr (.inl e) :: st) Q := by
  intro p l e9 R s m args below meth c H locs A QM C h1 h2 h3 h4 hS hl hA hK
  exact lv_lstore_n C.1 C.2.1 hd rfl (jls_has hA) hn rfl (fun A2 hA2 => K p l e9 R s m args below meth c H locs A2 QM C h1 h2 h3 h4 hS hl (jls_of2 hA.1 hA2) hK)
theorem x_lstore {k : Nat} {e : Int} (hd : decode cc pc = .ok (.lstore k, 2)) (hn : k + 1 < nL) (K : JX G y cc nL rt d kb kc S D (pc + 2) (jst2 ls k (.inr (.inl e))) st Q) : JX G y cc nL rt d kb kc S D pc ls (.inr (.inl e) :: st) Q := by
  intro p l e9 R s m args below meth c H locs A QM C h1 h2 h3 h4 hS hl hA hK
  exact lv_lstore C.1 C.2.1 hd (jls_has hA) hn rfl (fun A2 hA2 => K p l e9 R s m args below meth c H locs A2 QM C h1 h2 h3 h4 hS hl (jls_of2 hA.1 hA2) hK)
theorem x_astore_n {k : Fin 4} {r : Option Int} (hd : decode cc pc = .ok (.astore_n k, 1)) (hn : (k : Nat) < nL) (K : JX G y cc nL rt d kb kc S D (pc + 1) (jst ls k (.inr (.inr r))) st Q) : JX G y cc nL rt d kb kc S D pc ls (.inr (.inr r) :: st) Q := by
  intro p l e9 R s m args below meth c H locs A QM C h1 h2 h3 h4 hS hl hA hK
  cases r with
  | none => exact lv_astore_nN C.1 C.2.1 hd rfl (jls_has hA) hn rfl (fun A2 hA2 => K p l e9 R s m args below meth c H locs A2 QM C h1 h2 h3 h4 hS hl (jls_of1 hA.1 hA2) hK)
  | some a => exact lv_astore_n C.1 C.2.1 hd rfl (jls_has hA) hn rfl (fun A2 hA2 => K p l e9 R s m args below meth c H locs A2 QM C h1 h2 h3 h4 hS hl (jls_of1 hA.1 hA2) hK)
theorem x_astore {k : Nat} {r : Option Int} (hd : decode cc pc = .ok (.astore k, 2)) (hn : k < nL) (K : JX G y cc nL rt d kb kc S D (pc + 2) (jst ls k (.inr (.inr r))) st Q) : JX G y cc nL rt d kb kc S D pc ls (.inr (.inr r) :: st) Q := by
  intro p l e9 R s m args below meth c H locs A QM C h1 h2 h3 h4 hS hl hA hK
  cases r with
  | none => exact lv_astoreN C.1 C.2.1 hd (jls_has hA) hn rfl (fun A2 hA2 => K p l e9 R s m args below meth c H locs A2 QM C h1 h2 h3 h4 hS hl (jls_of1 hA.1 hA2) hK)
  | some a => exact lv_astore C.1 C.2.1 hd (jls_has hA) hn rfl (fun A2 hA2 => K p l e9 R s m args below meth c H locs A2 QM C h1 h2 h3 h4 hS hl (jls_of1 hA.1 hA2) hK)
theorem x_iinc {k : Nat} {n e : Int} (hd : decode cc pc = .ok (.iinc k n, 3)) (hl0 : ls[k]? = some (some (.inl e))) (hn : k < nL) (K : JX G y cc nL rt d kb kc S D (pc + 3) (jst ls k (.inl (e + n))) st Q) : JX G y cc nL rt d kb kc S D pc ls st Q := by
  intro p l e9 R s m args below meth c H locs A QM C h1 h2 h3 h4 hS hl hA hK
  obtain ⟨j, hj⟩ := List.getElem?_of_mem (jas_of hl0)
  exact lv_iinc C.1 C.2.1 hd (jls_has hA) hj (v := Int32.ofInt (e + n)) (by rw [Int32.ofInt_add]) hn rfl (fun A2 hA2 => K p l e9 R s m args below meth c H locs A2 QM C h1 h2 h3 h4 hS hl (jls_of1 hA.1 hA2) hK)
theorem x_iadd {a b : Int} (hd : decode cc pc = .ok (.iadd, 1))  (K : JX G y cc nL rt d kb kc S D (pc + 1) ls (.inl (a + b) :: st) Q) : JX G y cc nL rt d kb kc S D pc ls (.inl b :: .inl a :: st) Q := by
  intro p l e9 R s m args below meth c H locs A QM C h1 h2 h3 h4 hS hl hA hK
  refine lv_iadd C.1 C.2.1 hd ?_
  rw [← Int32.ofInt_add]
  exact K p l e9 R s m args below meth c H locs A QM C h1 h2 h3 h4 hS hl hA hK
theorem x_isub {a b : Int} (hd : decode cc pc = .ok (.isub, 1))  (K : JX G y cc nL rt d kb kc S D (pc + 1) ls (.inl (a - b) :: st) Q) : JX G y cc nL rt d kb kc S D pc ls (.inl b :: .inl a :: st) Q := by
  intro p l e9 R s m args below meth c H locs A QM C h1 h2 h3 h4 hS hl hA hK
  refine lv_isub C.1 C.2.1 hd ?_
  rw [← Int32.ofInt_sub]
  exact K p l e9 R s m args below meth c H locs A QM C h1 h2 h3 h4 hS hl hA hK
theorem x_imul {a b : Int} (hd : decode cc pc = .ok (.imul, 1))  (K : JX G y cc nL rt d kb kc S D (pc + 1) ls (.inl (a * b) :: st) Q) : JX G y cc nL rt d kb kc S D pc ls (.inl b :: .inl a :: st) Q := by
  intro p l e9 R s m args below meth c H locs A QM C h1 h2 h3 h4 hS hl hA hK
  refine lv_imul C.1 C.2.1 hd ?_
  rw [← Int32.ofInt_mul]
  exact K p l e9 R s m args below meth c H locs A QM C h1 h2 h3 h4 hS hl hA hK
theorem x_ladd {a b : Int} (hd : decode cc pc = .ok (.ladd, 1))  (K : JX G y cc nL rt d kb kc S D (pc + 1) ls (.inr (.inl (a + b)) :: st) Q) : JX G y cc nL rt d kb kc S D pc ls (.inr (.inl b) :: .inr (.inl a) :: st) Q := by
  intro p l e9 R s m args below meth c H locs A QM C h1 h2 h3 h4 hS hl hA hK
  refine lv_ladd C.1 C.2.1 hd ?_
  rw [← Int64.ofInt_add]
  exact K p l e9 R s m args below meth c H locs A QM C h1 h2 h3 h4 hS hl hA hK
theorem x_lsub {a b : Int} (hd : decode cc pc = .ok (.lsub, 1))  (K : JX G y cc nL rt d kb kc S D (pc + 1) ls (.inr (.inl (a - b)) :: st) Q) : JX G y cc nL rt d kb kc S D pc ls (.inr (.inl b) :: .inr (.inl a) :: st) Q := by
  intro p l e9 R s m args below meth c H locs A QM C h1 h2 h3 h4 hS hl hA hK
  refine lv_lsub C.1 C.2.1 hd ?_
  rw [← Int64.ofInt_sub]
  exact K p l e9 R s m args below meth c H locs A QM C h1 h2 h3 h4 hS hl hA hK
theorem x_lmul {a b : Int} (hd : decode cc pc = .ok (.lmul, 1))  (K : JX G y cc nL rt d kb kc S D (pc + 1) ls (.inr (.inl (a * b)) :: st) Q) : JX G y cc nL rt d kb kc S D pc ls (.inr (.inl b) :: .inr (.inl a) :: st) Q := by
  intro p l e9 R s m args below meth c H locs A QM C h1 h2 h3 h4 hS hl hA hK
  refine lv_lmul C.1 C.2.1 hd ?_
  rw [← Int64.ofInt_mul]
  exact K p l e9 R s m args below meth c H locs A QM C h1 h2 h3 h4 hS hl hA hK
theorem x_lneg {a : Int} (hd : decode cc pc = .ok (.lneg, 1))  (K : JX G y cc nL rt d kb kc S D (pc + 1) ls (.inr (.inl (-a)) :: st) Q) : JX G y cc nL rt d kb kc S D pc ls (.inr (.inl a) :: st) Q := by
  intro p l e9 R s m args below meth c H locs A QM C h1 h2 h3 h4 hS hl hA hK
  refine lv_lneg C.1 C.2.1 hd ?_
  rw [← Int64.ofInt_neg]
  exact K p l e9 R s m args below meth c H locs A QM C h1 h2 h3 h4 hS hl hA hK
theorem x_idiv {a b : Int} (hd : decode cc pc = .ok (.idiv, 1)) (ra : i32 a) (rb : i32 b) (h0 : 0 < b) (K : JX G y cc nL rt d kb kc S D (pc + 1) ls (.inl (a.tdiv b) :: st) Q) : JX G y cc nL rt d kb kc S D pc ls (.inl b :: .inl a :: st) Q := by
  intro p l e9 R s m args below meth c H locs A QM C h1 h2 h3 h4 hS hl hA hK
  refine lv_idiv C.1 C.2.1 hd (fun z => by have := (i32_eq0 rb).mp z; omega) ?_
  rw [jd_i ra rb h0]
  exact K p l e9 R s m args below meth c H locs A QM C h1 h2 h3 h4 hS hl hA hK
theorem x_irem {a b : Int} (hd : decode cc pc = .ok (.irem, 1)) (ra : i32 a) (rb : i32 b) (h0 : 0 < b) (K : JX G y cc nL rt d kb kc S D (pc + 1) ls (.inl (a.tmod b) :: st) Q) : JX G y cc nL rt d kb kc S D pc ls (.inl b :: .inl a :: st) Q := by
  intro p l e9 R s m args below meth c H locs A QM C h1 h2 h3 h4 hS hl hA hK
  refine lv_irem C.1 C.2.1 hd (fun z => by have := (i32_eq0 rb).mp z; omega) ?_
  rw [jd_i ra rb h0, ← Int32.ofInt_mul, ← Int32.ofInt_sub, jd_m]
  exact K p l e9 R s m args below meth c H locs A QM C h1 h2 h3 h4 hS hl hA hK
theorem x_ldiv {a b : Int} (hd : decode cc pc = .ok (.ldiv, 1)) (ra : i64 a) (rb : i64 b) (h0 : 0 < b) (K : JX G y cc nL rt d kb kc S D (pc + 1) ls (.inr (.inl (a.tdiv b)) :: st) Q) : JX G y cc nL rt d kb kc S D pc ls (.inr (.inl b) :: .inr (.inl a) :: st) Q := by
  intro p l e9 R s m args below meth c H locs A QM C h1 h2 h3 h4 hS hl hA hK
  refine lv_ldiv C.1 C.2.1 hd (fun z => by have z2 := Int64.toInt_inj.mpr z; rw [i64_t rb, Int64.toInt_zero] at z2; omega) ?_
  rw [jd_l ra rb h0]
  exact K p l e9 R s m args below meth c H locs A QM C h1 h2 h3 h4 hS hl hA hK
theorem x_lrem {a b : Int} (hd : decode cc pc = .ok (.lrem, 1)) (ra : i64 a) (rb : i64 b) (h0 : 0 < b) (K : JX G y cc nL rt d kb kc S D (pc + 1) ls (.inr (.inl (a.tmod b)) :: st) Q) : JX G y cc nL rt d kb kc S D pc ls (.inr (.inl b) :: .inr (.inl a) :: st) Q := by
  intro p l e9 R s m args below meth c H locs A QM C h1 h2 h3 h4 hS hl hA hK
  refine lv_lrem C.1 C.2.1 hd (fun z => by have z2 := Int64.toInt_inj.mpr z; rw [i64_t rb, Int64.toInt_zero] at z2; omega) ?_
  rw [jd_l ra rb h0, ← Int64.ofInt_mul, ← Int64.ofInt_sub, jd_m]
  exact K p l e9 R s m args below meth c H locs A QM C h1 h2 h3 h4 hS hl hA hK
def jxor (a b : Int) : Int := (Int64.ofInt a ^^^ Int64.ofInt b).toInt
theorem x_lxor {a b : Int} (hd : decode cc pc = .ok (.lxor, 1))  (K : JX G y cc nL rt d kb kc S D (pc + 1) ls (.inr (.inl (jxor a b)) :: st) Q) : JX G y cc nL rt d kb kc S D pc ls (.inr (.inl b) :: .inr (.inl a) :: st) Q := by
  intro p l e9 R s m args below meth c H locs A QM C h1 h2 h3 h4 hS hl hA hK
  refine lv_lxor C.1 C.2.1 hd ?_
  rw [show Int64.ofInt a ^^^ Int64.ofInt b = Int64.ofInt (jxor a b) from by rw [jxor, Int64.ofInt_toInt]]
  exact K p l e9 R s m args below meth c H locs A QM C h1 h2 h3 h4 hS hl hA hK
theorem x_iand31 {a : Int} (hd : decode cc pc = .ok (.iand, 1))  (K : JX G y cc nL rt d kb kc S D (pc + 1) ls (.inl (a % 32) :: st) Q) : JX G y cc nL rt d kb kc S D pc ls (.inl 31 :: .inl a :: st) Q := by
  intro p l e9 R s m args below meth c H locs A QM C h1 h2 h3 h4 hS hl hA hK
  refine lv_iand C.1 C.2.1 hd ?_
  have z : Int32.ofInt a &&& Int32.ofInt 31 = Int32.ofInt (a % 32) := by
    rw [pk_and _ 5 (by decide)]
    have h : (Int32.ofInt a).toBitVec = BitVec.ofInt 32 a := by first | rfl | exact Int32.toBitVec_ofInt a
    have w : ((Int32.ofInt a).toBitVec.toNat : Int) % 32 = a % 32 := by
      rw [h, BitVec.toNat_ofInt]
      have hz : (0 : Int) ≤ a % (2 ^ 32 : Nat) := Int.emod_nonneg _ (by decide)
      omega
    show Int32.ofNat _ = _
    rw [← Int32.ofInt_eq_ofNat]
    congr 1
  rw [z]
  exact K p l e9 R s m args below meth c H locs A QM C h1 h2 h3 h4 hS hl hA hK
theorem x_i2l {a : Int} (hd : decode cc pc = .ok (.i2l, 1)) (r : i32 a) (K : JX G y cc nL rt d kb kc S D (pc + 1) ls (.inr (.inl a) :: st) Q) : JX G y cc nL rt d kb kc S D pc ls (.inl a :: st) Q := by
  intro p l e9 R s m args below meth c H locs A QM C h1 h2 h3 h4 hS hl hA hK
  refine lv_i2l C.1 C.2.1 hd (v := Int64.ofInt a) ?_ ?_
  · rw [← Int64.toInt_inj, Int32.toInt_toInt64, i32_t r, i64_t ⟨by unfold i32 at r; omega, by unfold i32 at r; omega⟩]
  · exact K p l e9 R s m args below meth c H locs A QM C h1 h2 h3 h4 hS hl hA hK
theorem x_l2i {a : Int} (hd : decode cc pc = .ok (.l2i, 1))  (K : JX G y cc nL rt d kb kc S D (pc + 1) ls (.inl a :: st) Q) : JX G y cc nL rt d kb kc S D pc ls (.inr (.inl a) :: st) Q := by
  intro p l e9 R s m args below meth c H locs A QM C h1 h2 h3 h4 hS hl hA hK
  refine lv_l2i C.1 C.2.1 hd (v := Int32.ofInt a) ?_ ?_
  · first | exact Int64.toInt32_ofInt | exact Int64.toInt32_ofInt a | simp
  · exact K p l e9 R s m args below meth c H locs A QM C h1 h2 h3 h4 hS hl hA hK
theorem x_i2c {a : Int} (hd : decode cc pc = .ok (.i2c, 1))  (K : JX G y cc nL rt d kb kc S D (pc + 1) ls (.inl (a % 65536) :: st) Q) : JX G y cc nL rt d kb kc S D pc ls (.inl a :: st) Q := by
  intro p l e9 R s m args below meth c H locs A QM C h1 h2 h3 h4 hS hl hA hK
  refine lv_i2c C.1 C.2.1 hd (v := Int32.ofInt (a % 65536)) ?_ ?_
  · rw [pk_char]
    have w : ((Int32.ofInt a).toBitVec.toNat : Int) % 65536 = a % 65536 := by
      have h : (Int32.ofInt a).toBitVec = BitVec.ofInt 32 a := by first | rfl | exact Int32.toBitVec_ofInt a
      rw [h, BitVec.toNat_ofInt]
      have hz : (0 : Int) ≤ a % (2 ^ 32 : Nat) := Int.emod_nonneg _ (by decide)
      omega
    show Int32.ofNat _ = _
    rw [← Int32.ofInt_eq_ofNat]
    congr 1
  · exact K p l e9 R s m args below meth c H locs A QM C h1 h2 h3 h4 hS hl hA hK
def jcmp (a b : Int) : Int := if b < a then 1 else if a = b then 0 else -1
theorem x_lcmp {a b : Int} (hd : decode cc pc = .ok (.lcmp, 1)) (ra : i64 a) (rb : i64 b) (K : JX G y cc nL rt d kb kc S D (pc + 1) ls (.inl (jcmp a b) :: st) Q) : JX G y cc nL rt d kb kc S D pc ls (.inr (.inl b) :: .inr (.inl a) :: st) Q := by
  intro p l e9 R s m args below meth c H locs A QM C h1 h2 h3 h4 hS hl hA hK
  refine W.lcmp C.1 C.2.1 hd ?_
  have z : lg_cmp (Int64.ofInt a) (Int64.ofInt b) = Int32.ofInt (jcmp a b) := by
    have w1 : Int64.ofInt a > Int64.ofInt b ↔ b < a := by rw [gt_iff_lt, Int64.lt_iff_toInt_lt, i64_t ra, i64_t rb]
    have w2 : Int64.ofInt a = Int64.ofInt b ↔ a = b := by rw [← Int64.toInt_inj, i64_t ra, i64_t rb]
    unfold lg_cmp jcmp
    simp only [w1, w2]
    split
    · rfl
    · split <;> rfl
  rw [z]
  exact K p l e9 R s m args below meth c H locs A QM C h1 h2 h3 h4 hS hl hA hK
theorem x_dup {v : JV} (hd : decode cc pc = .ok (.dup, 1)) (hv : ∀ e, v ≠ .inr (.inl e)) (K : JX G y cc nL rt d kb kc S D (pc + 1) ls (v :: v :: st) Q) : JX G y cc nL rt d kb kc S D pc ls (v :: st) Q := by
  intro p l e9 R s m args below meth c H locs A QM C h1 h2 h3 h4 hS hl hA hK
  exact lv_dup C.1 C.2.1 hd (jv_c1 v hv) (K p l e9 R s m args below meth c H locs A QM C h1 h2 h3 h4 hS hl hA hK)
theorem x_dup2 {v w : JV} (hd : decode cc pc = .ok (.dup2, 1)) (hv : ∀ e, v ≠ .inr (.inl e)) (hw : ∀ e, w ≠ .inr (.inl e)) (K : JX G y cc nL rt d kb kc S D (pc + 1) ls (v :: w :: v :: w :: st) Q) : JX G y cc nL rt d kb kc S D pc ls (v :: w :: st) Q := by
  intro p l e9 R s m args below meth c H locs A QM C h1 h2 h3 h4 hS hl hA hK
  exact lv_dup2_11 C.1 C.2.1 hd (jv_c1 v hv) (jv_c1 w hw) (K p l e9 R s m args below meth c H locs A QM C h1 h2 h3 h4 hS hl hA hK)
theorem x_goto {off : Int} {tgt : Nat} (hd : decode cc pc = .ok (.goto off, 3)) (ht : (pc : Int) + off = (tgt : Int)) (K : JX G y cc nL rt d kb kc S D tgt ls st Q) : JX G y cc nL rt d kb kc S D pc ls st Q := by
  intro p l e9 R s m args below meth c H locs A QM C h1 h2 h3 h4 hS hl hA hK
  exact lv_goto C.1 C.2.1 hd ht (K p l e9 R s m args below meth c H locs A QM C h1 h2 h3 h4 hS hl hA hK)
theorem x_if_eq {e off : Int} {tgt : Nat} (hd : decode cc pc = .ok (.ifCond .eq off, 3)) (ht : (pc : Int) + off = (tgt : Int)) (r : i32 e) (Kt : e = 0 → JX G y cc nL rt d kb kc S D tgt ls st Q) (Kf : ¬ (e = 0) → JX G y cc nL rt d kb kc S D (pc + 3) ls st Q) : JX G y cc nL rt d kb kc S D pc ls (.inl e :: st) Q := by
  intro p l e9 R s m args below meth c H locs A QM C h1 h2 h3 h4 hS hl hA hK
  have w := i32_eq0 r
  exact lv_if_eq C.1 C.2.1 hd ht (fun q => Kt (w.mp q) p l e9 R s m args below meth c H locs A QM C h1 h2 h3 h4 hS hl hA hK) (fun q => Kf (fun z => q (w.mpr z)) p l e9 R s m args below meth c H locs A QM C h1 h2 h3 h4 hS hl hA hK)
theorem x_ic_eq {a b off : Int} {tgt : Nat} (hd : decode cc pc = .ok (.if_icmp .eq off, 3)) (ht : (pc : Int) + off = (tgt : Int)) (ra : i32 a) (rb : i32 b) (Kt : a = b → JX G y cc nL rt d kb kc S D tgt ls st Q) (Kf : ¬ (a = b) → JX G y cc nL rt d kb kc S D (pc + 3) ls st Q) : JX G y cc nL rt d kb kc S D pc ls (.inl b :: .inl a :: st) Q := by
  intro p l e9 R s m args below meth c H locs A QM C h1 h2 h3 h4 hS hl hA hK
  have w := i32_eq ra rb
  exact lv_icmp_eq C.1 C.2.1 hd ht (fun q => Kt (w.mp q) p l e9 R s m args below meth c H locs A QM C h1 h2 h3 h4 hS hl hA hK) (fun q => Kf (fun z => q (w.mpr z)) p l e9 R s m args below meth c H locs A QM C h1 h2 h3 h4 hS hl hA hK)
theorem x_if_ne {e off : Int} {tgt : Nat} (hd : decode cc pc = .ok (.ifCond .ne off, 3)) (ht : (pc : Int) + off = (tgt : Int)) (r : i32 e) (Kt : ¬ e = 0 → JX G y cc nL rt d kb kc S D tgt ls st Q) (Kf : ¬ (¬ e = 0) → JX G y cc nL rt d kb kc S D (pc + 3) ls st Q) : JX G y cc nL rt d kb kc S D pc ls (.inl e :: st) Q := by
  intro p l e9 R s m args below meth c H locs A QM C h1 h2 h3 h4 hS hl hA hK
  have w := not_congr (i32_eq0 r)
  exact lv_if_ne C.1 C.2.1 hd ht (fun q => Kt (w.mp q) p l e9 R s m args below meth c H locs A QM C h1 h2 h3 h4 hS hl hA hK) (fun q => Kf (fun z => (w.mpr z) q) p l e9 R s m args below meth c H locs A QM C h1 h2 h3 h4 hS hl hA hK)
theorem x_ic_ne {a b off : Int} {tgt : Nat} (hd : decode cc pc = .ok (.if_icmp .ne off, 3)) (ht : (pc : Int) + off = (tgt : Int)) (ra : i32 a) (rb : i32 b) (Kt : ¬ a = b → JX G y cc nL rt d kb kc S D tgt ls st Q) (Kf : ¬ (¬ a = b) → JX G y cc nL rt d kb kc S D (pc + 3) ls st Q) : JX G y cc nL rt d kb kc S D pc ls (.inl b :: .inl a :: st) Q := by
  intro p l e9 R s m args below meth c H locs A QM C h1 h2 h3 h4 hS hl hA hK
  have w := not_congr (i32_eq ra rb)
  exact lv_icmp_ne C.1 C.2.1 hd ht (fun q => Kt (w.mp q) p l e9 R s m args below meth c H locs A QM C h1 h2 h3 h4 hS hl hA hK) (fun q => Kf (fun z => (w.mpr z) q) p l e9 R s m args below meth c H locs A QM C h1 h2 h3 h4 hS hl hA hK)
theorem x_if_lt {e off : Int} {tgt : Nat} (hd : decode cc pc = .ok (.ifCond .lt off, 3)) (ht : (pc : Int) + off = (tgt : Int)) (r : i32 e) (Kt : e < 0 → JX G y cc nL rt d kb kc S D tgt ls st Q) (Kf : ¬ (e < 0) → JX G y cc nL rt d kb kc S D (pc + 3) ls st Q) : JX G y cc nL rt d kb kc S D pc ls (.inl e :: st) Q := by
  intro p l e9 R s m args below meth c H locs A QM C h1 h2 h3 h4 hS hl hA hK
  have w := i32_lt0 r
  exact lv_if_lt C.1 C.2.1 hd ht (fun q => Kt (w.mp q) p l e9 R s m args below meth c H locs A QM C h1 h2 h3 h4 hS hl hA hK) (fun q => Kf (fun z => q (w.mpr z)) p l e9 R s m args below meth c H locs A QM C h1 h2 h3 h4 hS hl hA hK)
theorem x_ic_lt {a b off : Int} {tgt : Nat} (hd : decode cc pc = .ok (.if_icmp .lt off, 3)) (ht : (pc : Int) + off = (tgt : Int)) (ra : i32 a) (rb : i32 b) (Kt : a < b → JX G y cc nL rt d kb kc S D tgt ls st Q) (Kf : ¬ (a < b) → JX G y cc nL rt d kb kc S D (pc + 3) ls st Q) : JX G y cc nL rt d kb kc S D pc ls (.inl b :: .inl a :: st) Q := by
  intro p l e9 R s m args below meth c H locs A QM C h1 h2 h3 h4 hS hl hA hK
  have w := i32_lt ra rb
  exact lv_icmp_lt C.1 C.2.1 hd ht (fun q => Kt (w.mp q) p l e9 R s m args below meth c H locs A QM C h1 h2 h3 h4 hS hl hA hK) (fun q => Kf (fun z => q (w.mpr z)) p l e9 R s m args below meth c H locs A QM C h1 h2 h3 h4 hS hl hA hK)
theorem x_if_ge {e off : Int} {tgt : Nat} (hd : decode cc pc = .ok (.ifCond .ge off, 3)) (ht : (pc : Int) + off = (tgt : Int)) (r : i32 e) (Kt : 0 ≤ e → JX G y cc nL rt d kb kc S D tgt ls st Q) (Kf : ¬ (0 ≤ e) → JX G y cc nL rt d kb kc S D (pc + 3) ls st Q) : JX G y cc nL rt d kb kc S D pc ls (.inl e :: st) Q := by
  intro p l e9 R s m args below meth c H locs A QM C h1 h2 h3 h4 hS hl hA hK
  have w := i32_ge0 r
  exact lv_if_ge C.1 C.2.1 hd ht (fun q => Kt (w.mp q) p l e9 R s m args below meth c H locs A QM C h1 h2 h3 h4 hS hl hA hK) (fun q => Kf (fun z => q (w.mpr z)) p l e9 R s m args below meth c H locs A QM C h1 h2 h3 h4 hS hl hA hK)
theorem x_ic_ge {a b off : Int} {tgt : Nat} (hd : decode cc pc = .ok (.if_icmp .ge off, 3)) (ht : (pc : Int) + off = (tgt : Int)) (ra : i32 a) (rb : i32 b) (Kt : b ≤ a → JX G y cc nL rt d kb kc S D tgt ls st Q) (Kf : ¬ (b ≤ a) → JX G y cc nL rt d kb kc S D (pc + 3) ls st Q) : JX G y cc nL rt d kb kc S D pc ls (.inl b :: .inl a :: st) Q := by
  intro p l e9 R s m args below meth c H locs A QM C h1 h2 h3 h4 hS hl hA hK
  have w := i32_le rb ra
  exact lv_icmp_ge C.1 C.2.1 hd ht (fun q => Kt (w.mp q) p l e9 R s m args below meth c H locs A QM C h1 h2 h3 h4 hS hl hA hK) (fun q => Kf (fun z => q (w.mpr z)) p l e9 R s m args below meth c H locs A QM C h1 h2 h3 h4 hS hl hA hK)
theorem x_if_gt {e off : Int} {tgt : Nat} (hd : decode cc pc = .ok (.ifCond .gt off, 3)) (ht : (pc : Int) + off = (tgt : Int)) (r : i32 e) (Kt : 0 < e → JX G y cc nL rt d kb kc S D tgt ls st Q) (Kf : ¬ (0 < e) → JX G y cc nL rt d kb kc S D (pc + 3) ls st Q) : JX G y cc nL rt d kb kc S D pc ls (.inl e :: st) Q := by
  intro p l e9 R s m args below meth c H locs A QM C h1 h2 h3 h4 hS hl hA hK
  have w := i32_gt0 r
  exact lv_if_gt C.1 C.2.1 hd ht (fun q => Kt (w.mp q) p l e9 R s m args below meth c H locs A QM C h1 h2 h3 h4 hS hl hA hK) (fun q => Kf (fun z => q (w.mpr z)) p l e9 R s m args below meth c H locs A QM C h1 h2 h3 h4 hS hl hA hK)
theorem x_ic_gt {a b off : Int} {tgt : Nat} (hd : decode cc pc = .ok (.if_icmp .gt off, 3)) (ht : (pc : Int) + off = (tgt : Int)) (ra : i32 a) (rb : i32 b) (Kt : b < a → JX G y cc nL rt d kb kc S D tgt ls st Q) (Kf : ¬ (b < a) → JX G y cc nL rt d kb kc S D (pc + 3) ls st Q) : JX G y cc nL rt d kb kc S D pc ls (.inl b :: .inl a :: st) Q := by
  intro p l e9 R s m args below meth c H locs A QM C h1 h2 h3 h4 hS hl hA hK
  have w := i32_lt rb ra
  exact lv_icmp_gt C.1 C.2.1 hd ht (fun q => Kt (w.mp q) p l e9 R s m args below meth c H locs A QM C h1 h2 h3 h4 hS hl hA hK) (fun q => Kf (fun z => q (w.mpr z)) p l e9 R s m args below meth c H locs A QM C h1 h2 h3 h4 hS hl hA hK)
theorem x_if_le {e off : Int} {tgt : Nat} (hd : decode cc pc = .ok (.ifCond .le off, 3)) (ht : (pc : Int) + off = (tgt : Int)) (r : i32 e) (Kt : e ≤ 0 → JX G y cc nL rt d kb kc S D tgt ls st Q) (Kf : ¬ (e ≤ 0) → JX G y cc nL rt d kb kc S D (pc + 3) ls st Q) : JX G y cc nL rt d kb kc S D pc ls (.inl e :: st) Q := by
  intro p l e9 R s m args below meth c H locs A QM C h1 h2 h3 h4 hS hl hA hK
  have w := i32_le0 r
  exact lv_if_le C.1 C.2.1 hd ht (fun q => Kt (w.mp q) p l e9 R s m args below meth c H locs A QM C h1 h2 h3 h4 hS hl hA hK) (fun q => Kf (fun z => q (w.mpr z)) p l e9 R s m args below meth c H locs A QM C h1 h2 h3 h4 hS hl hA hK)
theorem x_ic_le {a b off : Int} {tgt : Nat} (hd : decode cc pc = .ok (.if_icmp .le off, 3)) (ht : (pc : Int) + off = (tgt : Int)) (ra : i32 a) (rb : i32 b) (Kt : a ≤ b → JX G y cc nL rt d kb kc S D tgt ls st Q) (Kf : ¬ (a ≤ b) → JX G y cc nL rt d kb kc S D (pc + 3) ls st Q) : JX G y cc nL rt d kb kc S D pc ls (.inl b :: .inl a :: st) Q := by
  intro p l e9 R s m args below meth c H locs A QM C h1 h2 h3 h4 hS hl hA hK
  have w := i32_le ra rb
  exact lv_icmp_le C.1 C.2.1 hd ht (fun q => Kt (w.mp q) p l e9 R s m args below meth c H locs A QM C h1 h2 h3 h4 hS hl hA hK) (fun q => Kf (fun z => q (w.mpr z)) p l e9 R s m args below meth c H locs A QM C h1 h2 h3 h4 hS hl hA hK)
theorem x_ifnull {off : Int} {tgt : Nat} {r : Option Int} (hd : decode cc pc = .ok (.ifnull off, 3)) (ht : (pc : Int) + off = (tgt : Int)) (Kt : r = none → JX G y cc nL rt d kb kc S D tgt ls st Q) (Kf : ¬ r = none → JX G y cc nL rt d kb kc S D (pc + 3) ls st Q) : JX G y cc nL rt d kb kc S D pc ls (.inr (.inr r) :: st) Q := by
  intro p l e9 R s m args below meth c H locs A QM C h1 h2 h3 h4 hS hl hA hK
  cases r with
  | none => exact lv_ifnullN C.1 C.2.1 hd ht (Kt rfl p l e9 R s m args below meth c H locs A QM C h1 h2 h3 h4 hS hl hA hK)
  | some a => exact lv_ifnull C.1 C.2.1 hd (Kf (fun z => by cases z) p l e9 R s m args below meth c H locs A QM C h1 h2 h3 h4 hS hl hA hK)
theorem x_ifnonnull {off : Int} {tgt : Nat} {r : Option Int} (hd : decode cc pc = .ok (.ifnonnull off, 3)) (ht : (pc : Int) + off = (tgt : Int)) (Kt : ¬ r = none → JX G y cc nL rt d kb kc S D tgt ls st Q) (Kf : r = none → JX G y cc nL rt d kb kc S D (pc + 3) ls st Q) : JX G y cc nL rt d kb kc S D pc ls (.inr (.inr r) :: st) Q := by
  intro p l e9 R s m args below meth c H locs A QM C h1 h2 h3 h4 hS hl hA hK
  cases r with
  | none => exact lv_ifnonnullN C.1 C.2.1 hd (Kf rfl p l e9 R s m args below meth c H locs A QM C h1 h2 h3 h4 hS hl hA hK)
  | some a => exact lv_ifnonnull C.1 C.2.1 hd ht (Kt (fun z => by cases z) p l e9 R s m args below meth c H locs A QM C h1 h2 h3 h4 hS hl hA hK)
/-- a switch: the place behind the offset, or the default -/
theorem x_switch {dflt lo hi e : Int} {offs : Array Int} {len tgt : Nat} (hd : decode cc pc = .ok (.tableswitch dflt lo hi offs, len)) (r : i32 e) (ht : (pc : Int) + (if e < lo ∨ hi < e then dflt else offs.getD (e - lo).toNat 0) = (tgt : Int)) (hz : hi < lo + offs.size) (K : JX G y cc nL rt d kb kc S D tgt ls st Q) : JX G y cc nL rt d kb kc S D pc ls (.inl e :: st) Q := by
  intro p l e9 R s m args below meth c H locs A QM C h1 h2 h3 h4 hS hl hA hK
  by_cases q : e < lo ∨ hi < e
  · rw [if_pos q] at ht
    exact lv_tableOut C.1 C.2.1 hd (by rw [i32_t r]; exact q) ht (K p l e9 R s m args below meth c H locs A QM C h1 h2 h3 h4 hS hl hA hK)
  · rw [if_neg q] at ht
    have q1 : (e - lo).toNat < offs.size := by omega
    exact lv_tableIn C.1 C.2.1 hd (off := offs.getD (e - lo).toNat 0) (by rw [i32_t r]; omega) (by rw [i32_t r]; omega) (by rw [i32_t r]; simp [Array.getD, q1]) ht (K p l e9 R s m args below meth c H locs A QM C h1 h2 h3 h4 hS hl hA hK)
theorem x_ireturn {e : Int} {ty : FieldType} (hd : decode cc pc = .ok (.ireturn, 1)) (hr : rt = some ty) (hn : narrow ty (.int (Int32.ofInt e)) = .int (Int32.ofInt e)) (hk : kc.1 ≤ kb.1 ∧ kc.2 ≤ kb.2) (K : Q (some (.inl e)) S D) : JX G y cc nL rt d kb kc S D pc ls [.inl e] Q := by
  intro p l e9 R s m args below meth c H locs A QM C h1 h2 h3 h4 hS hl hA hK
  exact W.widen hk.1 hk.2 (hK _ S D H locs pc A _ K hS hl (Or.inl ⟨hd, e, ty, rfl, rfl, hr, hn⟩))
theorem x_lreturn {e : Int} (hd : decode cc pc = .ok (.lreturn, 1)) (hr : rt = some .long) (hk : kc.1 ≤ kb.1 ∧ kc.2 ≤ kb.2) (K : Q (some (.inr (.inl e))) S D) : JX G y cc nL rt d kb kc S D pc ls [.inr (.inl e)] Q := by
  intro p l e9 R s m args below meth c H locs A QM C h1 h2 h3 h4 hS hl hA hK
  exact W.widen hk.1 hk.2 (hK _ S D H locs pc A _ K hS hl (Or.inr (Or.inl ⟨hd, e, rfl, rfl, hr⟩)))
theorem x_areturn {r : Option Int} {ty : FieldType} (hd : decode cc pc = .ok (.areturn, 1)) (hr : rt = some ty) (ht : (∃ n, ty = .object n) ∨ ∃ t, ty = .array t) (hk : kc.1 ≤ kb.1 ∧ kc.2 ≤ kb.2) (K : Q (some (.inr (.inr r))) S D) : JX G y cc nL rt d kb kc S D pc ls [.inr (.inr r)] Q := by
  intro p l e9 R s m args below meth c H locs A QM C h1 h2 h3 h4 hS hl hA hK
  exact W.widen hk.1 hk.2 (hK _ S D H locs pc A _ K hS hl (Or.inr (Or.inr (Or.inl ⟨hd, r, ty, rfl, rfl, hr, ht⟩))))
theorem x_return (hd : decode cc pc = .ok (.return_, 1)) (hr : rt = none) (hk : kc.1 ≤ kb.1 ∧ kc.2 ≤ kb.2) (K : Q none S D) : JX G y cc nL rt d kb kc S D pc ls [] Q := by
  intro p l e9 R s m args below meth c H locs A QM C h1 h2 h3 h4 hS hl hA hK
  exact W.widen hk.1 hk.2 (hK _ S D H locs pc A _ K hS hl (Or.inr (Or.inr (Or.inr ⟨hd, rfl, rfl, hr⟩))))
end JROWS
end
section
/-! ROWS of the heap: fields, arrays, new objects -/
theorem jfv_i (ty : FieldType) (e : Int) (r : Option Int) (h : ty = .int ∨ ty = .char ∨ ty = .boolean) : jfv ty e r = .int (Int32.ofInt e) := by
  rcases h with rfl | rfl | rfl <;> rfl
theorem jOb.to {G : JG} {S S' : JS} {D D' : JD} {H H' : Heap} {a : Int} {c : Nat} (h : jOb G S D H a c) (hH : H'[a.toNat]? = H[a.toNat]?) (hv : ∀ k : Int, D' a k = D a k ∧ jR S' a k = jR S a k) : jOb G S' D' H' a c := by
  obtain ⟨r, h1, cell, q1, q2, q3, q4⟩ := h
  exact ⟨r, h1, cell, by rw [hH]; exact q1, q2, q3, fun k hk => by show _ = some (jfv (jty c k) (D' a (k : Int)) (jR S' a (k : Int))); rw [(hv k).1, (hv k).2]; exact q4 k hk⟩
theorem jAr.to {G : JG} {S S' : JS} {D D' : JD} {H H' : Heap} {a : Int} {c : Nat} (h : jAr G S D H a c) (hH : H'[a.toNat]? = H[a.toNat]?) (hL : jL S' a = jL S a) (hv : ∀ k : Int, D' a k = D a k ∧ jR S' a k = jR S a k) : jAr G S' D' H' a c := by
  unfold jAr at h ⊢
  rw [hH, h, hL]
  congr 2
  funext j
  rw [(hv j).1, (hv j).2]
/-- one cell is written -/
theorem JSim.set {G : JG} {S S' : JS} {D D' : JD} {H H' : Heap} {a : Int} (hS : JSim G S D H) (hn : jN S' = jN S) (hk : jK S' = jK S) (hL : jL S' = jL S) (ha : ((gB G).size : Int) ≤ a)
    (hv : ∀ x k : Int, x ≠ a → D' x k = D x k ∧ jR S' x k = jR S x k) (hz : H'.size = H.size) (ho : ∀ q : Nat, q ≠ a.toNat → H'[q]? = H[q]?)
    (h9 : ∀ c, jK S a = c → c < 9 → jOb G S' D' H' a c) (h10 : ∀ c, jK S a = c → 9 ≤ c → c < 16 → jAr G S' D' H' a c) : JSim G S' D' H' := by
  obtain ⟨s1, s2, s3, s4, s5⟩ := hS
  refine ⟨by rw [hz, hn]; exact s1, by rw [hz]; exact s2, fun q hq => by rw [ho q (by omega)]; exact s3 q hq, fun x c hc h => ?_, fun x c hc h1 h2 => ?_⟩
  · rw [hk] at hc
    obtain ⟨t1, t2, t3⟩ := s4 x c hc h
    refine ⟨t1, by rw [hn]; exact t2, ?_⟩
    by_cases e : x = a
    · subst e; exact h9 c hc h
    · exact t3.to (ho _ (by omega)) (fun k => hv x k e)
  · rw [hk] at hc
    obtain ⟨t1, t2, t3, t4, t5⟩ := s5 x c hc h1 h2
    rw [hL]
    refine ⟨t1, by rw [hn]; exact t2, t3, t4, ?_⟩
    by_cases e : x = a
    · subst e; exact h10 c hc h1 h2
    · exact t5.to (ho _ (by omega)) (by rw [hL]) (fun k => hv x k e)
theorem jup_ne {D : JD} {a k e x z : Int} (h : x ≠ a) : jup D a k e x z = D x z := by simp [jup, h]
theorem jup_eq {D : JD} {a k e : Int} : jup D a k e a k = e := by simp [jup]
theorem jup_nk {D : JD} {a k e x z : Int} (h : z ≠ k) : jup D a k e x z = D x z := by simp [jup, h]
/-- what comes in at the end of the heap -/
def jnw (S : JS) (c : Nat) (n : Int) : JS := (S.1 + 1, fun x => if x = S.1 then c else S.2.1 x, fun x => if x = S.1 then n else S.2.2.1 x, fun x z => if x = S.1 then none else S.2.2.2 x z)
def jnd (S : JS) (D : JD) : JD := fun x z => if x = S.1 then 0 else D x z
theorem JSim.new {G : JG} {S : JS} {D : JD} {H H' : Heap} {c : Nat} {n : Int} (hS : JSim G S D H) (hz : H'.size = H.size + 1) (ho : ∀ q : Nat, q < H.size → H'[q]? = H[q]?) (hn : 0 ≤ n ∧ n < 2147483648)
    (h9 : c < 9 → jOb G (jnw S c n) (jnd S D) H' S.1 c) (h10 : 9 ≤ c → c < 16 → jAr G (jnw S c n) (jnd S D) H' S.1 c) : JSim G (jnw S c n) (jnd S D) H' := by
  obtain ⟨s1, s2, s3, s4, s5⟩ := hS
  have s1' : (H.size : Int) = S.1 := s1
  have old : ∀ x : Int, x < S.1 → 0 ≤ x → H'[x.toNat]? = H[x.toNat]? := fun x h h0 => ho _ (by omega)
  refine ⟨by rw [hz]; show _ = S.1 + 1; omega, by omega, fun q hq => by rw [ho q (by omega)]; exact s3 q hq, fun x k hc h => ?_, fun x k hc h1 h2 => ?_⟩
  · by_cases e : x = S.1
    · subst e
      have : c = k := by simpa [jK, jnw] using hc
      subst this
      exact ⟨by omega, by show S.1 < S.1 + 1; omega, h9 h⟩
    · have hc' : jK S x = k := by simpa [jK, jnw, e] using hc
      obtain ⟨t1, t2, t3⟩ := s4 x k hc' h
      exact ⟨t1, by show x < S.1 + 1; have : x < S.1 := t2; omega, t3.to (old x t2 (by omega)) (fun z => ⟨by simp [jnd, e], by simp [jR, jnw, e]⟩)⟩
  · by_cases e : x = S.1
    · subst e
      have : c = k := by simpa [jK, jnw] using hc
      subst this
      exact ⟨by omega, by show S.1 < S.1 + 1; omega, by simp [jL, jnw]; omega, by simp [jL, jnw]; omega, h10 h1 h2⟩
    · have hc' : jK S x = k := by simpa [jK, jnw, e] using hc
      obtain ⟨t1, t2, t3, t4, t5⟩ := s5 x k hc' h1 h2
      have el : jL (jnw S c n) x = jL S x := by simp [jL, jnw, e]
      exact ⟨t1, by show x < S.1 + 1; have : x < S.1 := t2; omega, by rw [el]; exact t3, by rw [el]; exact t4, t5.to (old x t2 (by omega)) el (fun z => ⟨by simp [jnd, e], by simp [jR, jnw, e]⟩)⟩
theorem jparse {c k : Nat} {C : String} {T : u_T} {N : Nat} (hc : jcl[c]? = some (C, T, N)) (hk : k < N) : parseFieldDescriptor (T k).2.2.1 = some (jty c k) := by
  match c, hc with
  | 0, hc => cases hc; exact tyX0_ok k hk
  | 1, hc => cases hc; exact tyX1_ok k hk
  | 2, hc => cases hc; exact tyX2_ok k hk
  | 3, hc => cases hc; exact tyX3_ok k hk
  | 4, hc => cases hc; exact tyX4_ok k hk
  | 5, hc => cases hc; exact tyX5_ok k hk
  | 6, hc => cases hc; exact tyX6_ok k hk
  | 7, hc => cases hc; exact tyX7_ok k hk
  | 8, hc => cases hc; exact tyX8_ok k hk
  | n + 9, hc => simp [jcl] at hc
theorem jnames {c : Nat} {C : String} {T : u_T} {N : Nat} (hc : jcl[c]? = some (C, T, N)) : ∀ a, a < N → ∀ b, b < N → a ≠ b → (T a).2.1 ≠ (T b).2.1 := by
  match c, hc with
  | 0, hc => cases hc; exact nmX0
  | 1, hc => cases hc; exact nmX1
  | 2, hc => cases hc; exact nmX2
  | 3, hc => cases hc; exact nmX3
  | 4, hc => cases hc; exact nmX4
  | 5, hc => cases hc; exact nmX5
  | 6, hc => cases hc; exact nmX6
  | 7, hc => cases hc; exact nmX7
  | 8, hc => cases hc; exact nmX8
  | n + 9, hc => simp [jcl] at hc
theorem jlays {c : Nat} {C : String} {T : u_T} {N : Nat} (hc : jcl[c]? = some (C, T, N)) : ∀ w ∈ u_ws C T N, w ∈ WG := by
  match c, hc with
  | 0, hc => cases hc; exact lay_X0
  | 1, hc => cases hc; exact lay_X1
  | 2, hc => cases hc; exact lay_X2
  | 3, hc => cases hc; exact lay_X3
  | 4, hc => cases hc; exact lay_X4
  | 5, hc => cases hc; exact lay_X5
  | 6, hc => cases hc; exact lay_X6
  | 7, hc => cases hc; exact lay_X7
  | 8, hc => cases hc; exact lay_X8
  | n + 9, hc => simp [jcl] at hc
theorem jdef {c k : Nat} {C : String} {T : u_T} {N : Nat} (hc : jcl[c]? = some (C, T, N)) (hk : k < N) : defaultValue (jty c k) = jfv (jty c k) 0 none := by
  match c, hc with
  | 0, hc => cases hc; exact (by decide +kernel : ∀ k, k < 8 → defaultValue (jty 0 k) = jfv (jty 0 k) 0 none) k hk
  | 1, hc => cases hc; exact (by decide +kernel : ∀ k, k < 8 → defaultValue (jty 1 k) = jfv (jty 1 k) 0 none) k hk
  | 2, hc => cases hc; exact (by decide +kernel : ∀ k, k < 9 → defaultValue (jty 2 k) = jfv (jty 2 k) 0 none) k hk
  | 3, hc => cases hc; exact (by decide +kernel : ∀ k, k < 3 → defaultValue (jty 3 k) = jfv (jty 3 k) 0 none) k hk
  | 4, hc => cases hc; exact (by decide +kernel : ∀ k, k < 6 → defaultValue (jty 4 k) = jfv (jty 4 k) 0 none) k hk
  | 5, hc => cases hc; exact (by decide +kernel : ∀ k, k < 3 → defaultValue (jty 5 k) = jfv (jty 5 k) 0 none) k hk
  | 6, hc => cases hc; exact (by decide +kernel : ∀ k, k < 5 → defaultValue (jty 6 k) = jfv (jty 6 k) 0 none) k hk
  | 7, hc => cases hc; exact (by decide +kernel : ∀ k, k < 6 → defaultValue (jty 7 k) = jfv (jty 7 k) 0 none) k hk
  | 8, hc => cases hc; exact (by decide +kernel : ∀ k, k < 13 → defaultValue (jty 8 k) = jfv (jty 8 k) 0 none) k hk
  | n + 9, hc => simp [jcl] at hc
/-- a value for a field or a place of the type ty -/
def jok (ty : FieldType) (v : JV) : Prop := narrow ty (jv v) = jv v ∧ fits ty (jv v) = true
/-- the number and the reference that v is -/
def jve (v : JV) : Int := match v with
  | .inl e => e
  | .inr (.inl e) => e
  | .inr (.inr _) => 0
def jvr (v : JV) : Option Int := match v with
  | .inr (.inr r) => r
  | _ => none
section JHEAP
variable {G : JG} {y : MethodName} {cc : ByteArray} {nL : Nat} {rt : Option FieldType} {d : Nat} {kb kc : Nat × Nat} {S : JS} {D : JD} {pc : Nat} {ls : List (Option JV)} {st : List JV} {Q : Option JV → JS → JD → Prop}
theorem x_get {a : Int} {c k index N : Nat} {C : String} {T : u_T} {v : JV} (hd : decode cc pc = .ok (.getfield index, 3)) (hw : Cond.fieldLink y.cls index (T k).1 (T k).2.1 (T k).2.2.1 ∈ WG) (hc : jcl[c]? = some (C, T, N)) (hk : k < N) (h9 : c < 9)
    (hv : jfv (jty c k) (D a (k : Int)) (jR S a (k : Int)) = jv v) (hK : jK S a = c) (K : JX G y cc nL rt d kb kc S D (pc + 3) ls (v :: st) Q) : JX G y cc nL rt d kb kc S D pc ls (.inr (.inr (some a)) :: st) Q := by
  intro p l e9 R s m args below meth c9 H locs A QM C9 h1 h2 h3 h4 hS hl hA hK9
  obtain ⟨t1, t2, r, hr, cell, q1, q2, q3, q4⟩ := hS.2.2.2.1 a c hK h9
  have hr' : r = (C, T, N) := Option.some.inj (hr.symm.trans hc)
  subst hr'
  have hts := C9.2.2.2.2.1
  have hin := jlays hc
  obtain ⟨hSl, hfc, kC, hkC, hkind⟩ := C9.2.2.2.2.2.1.1 c _ hc
  obtain ⟨cf, kf, fi, f, hi, hsl⟩ := hSl k hk
  refine W.getf C9.1 C9.2.1 C9.2.2.2.1 (hts _ hw) hi (u_facts hfc hkC (u_lays hts hin hk) hi).1 q1 (by rw [q3]; exact fun h => by cases h) (v := jv v) ?_ rfl rfl hd (K p l e9 R s m args below meth c9 H locs A QM C9 h1 h2 h3 h4 hS hl hA hK9)
  rw [hsl, q4 k hk]
  exact congrArg some hv
theorem x_put {a : Int} {c k index N : Nat} {C : String} {T : u_T} {v : JV} {S' : JS} {D' : JD} (hd : decode cc pc = .ok (.putfield index, 3)) (hw : Cond.fieldLink y.cls index (T k).1 (T k).2.1 (T k).2.2.1 ∈ WG) (hc : jcl[c]? = some (C, T, N)) (hk : k < N) (h9 : c < 9)
    (hfin : (T k).2.2.2 = false ∨ ((T k).1 = y.cls ∧ y.name = "<init>")) (hok : jok (jty c k) v) (hK : jK S a = c)
    (hS' : jN S' = jN S ∧ jK S' = jK S ∧ jL S' = jL S) (hv : ∀ x z : Int, x ≠ a ∨ z ≠ k → D' x z = D x z ∧ jR S' x z = jR S x z) (hv2 : jfv (jty c k) (D' a (k : Int)) (jR S' a (k : Int)) = jv v)
    (K : JX G y cc nL rt d kb kc S' D' (pc + 3) ls st Q) : JX G y cc nL rt d kb kc S D pc ls (v :: .inr (.inr (some a)) :: st) Q := by
  intro p l e9 R s m args below meth c9 H locs A QM C9 h1 h2 h3 h4 hS hl hA hK9
  obtain ⟨t1, t2, r, hr, cell, q1, q2, q3, q4⟩ := hS.2.2.2.1 a c hK h9
  have hr' : r = (C, T, N) := Option.some.inj (hr.symm.trans hc)
  subst hr'
  have hts := C9.2.2.2.2.1
  have hown := C9.2.2.2.1
  have hin := jlays hc
  have hKn := C9.2.2.2.2.2.1
  have hap := va_apart (own := y.cls) (D := gD G) (cl := jcl) (tys := []) hts hin (jty c) (fun k hk => jparse hc hk) (jnames hc) ⟨hKn.1, fun _ _ h => by simp at h⟩ hc
  obtain ⟨hSl, hfc, kC, hkC, hkind⟩ := hKn.1 c _ hc
  obtain ⟨cf, kf, fi, f, hi, hsl⟩ := hSl k hk
  have hst := (u_facts hfc hkC (u_lays hts hin hk) hi).1
  have hlay := hts _ (hin _ (u_in_lay hk))
  unfold u_lay at hlay
  have go : ∀ H' : Heap, H'[a.toNat]? = some (cell.setSlot f.slot (jv v)) → H'.size = H.size → (∀ q, q ≠ a.toNat → H'[q]? = H[q]?) → W p l e9 R s m args below meth c9 H' (locs ++ [⟨a.toNat, f.slot⟩]) kc.1 kc.2 QM (F0 m (pc + 3) A (st.map jv)) := by
    intro H' e1 e2 e3
    rw [hsl] at e1
    refine K p l e9 R s m args below meth c9 H' _ A QM C9 h1 h2 h3 h4 (hS.set hS'.1 hS'.2.1 hS'.2.2 t1 (fun x z hx => hv x z (Or.inl hx)) e2 e3 (fun c' hc' _ => ?_) (fun c' hc' h _ => absurd (hK.symm.trans hc') (by omega))) ?_ hA hK9
    · have : c = c' := hK.symm.trans hc'
      subst this
      refine ⟨_, hc, t_OB.to (V := updV (fun k => jfv (jty c k) (D a (k : Int)) (jR S a (k : Int))) k (jv v)) ⟨_, e1, q2, q3, t_set q4 hap hk (jv v)⟩ (fun j _ => ?_)⟩
      by_cases ej : j = k
      · subst ej
        simp [updV, hv2]
      · have hj := hv a (j : Int) (Or.inr (by omega))
        simp [updV, ej, hj.1, hj.2]
    · intro q hq
      rcases List.mem_append.mp hq with h | h
      · exact hl q h
      · rw [List.mem_singleton.mp h]
        show (gB G).size ≤ a.toNat
        omega
  by_cases hf : (T k).2.2.2 = true
  · rw [if_pos hf] at hlay
    obtain ⟨hdecl, hname⟩ := hfin.resolve_left (by rw [hf]; decide)
    have hcf : m.cls = cf := by
      obtain ⟨_, _, c', _, _, _, -, -, hf', -, -, -, hown2, -⟩ := Cond.laysFinal_spec hlay
      have e1 : c' = cf := by have := hi.symm.trans hf'; simp at this; exact this.1.symm
      rw [hdecl] at hown2
      rw [← e1]; exact Option.some.inj (hown.symm.trans hown2)
    have h6 := u_fits hfc hkC hkind (Or.inr hlay) hi (jparse hc hk) hok.1 hok.2
    exact W.putFinK C9.1 C9.2.1 hown (hts _ hw) hi hst hcf (by rw [C9.2.2.2.2.2.2.2.2, hname]) (by rw [q2]; exact h6) q1 q3 (by rw [hsl]; exact k2_hasslot (q4 k hk)) rfl rfl hd go
  · rw [if_neg hf] at hlay
    have h6 := u_store hfc hkC hkind hlay hi (jparse hc hk) hok.1 hok.2
    exact W.putK C9.1 C9.2.1 (f := f) ⟨hown, hts _ hw, ⟨_, _, _, hi⟩, hst⟩ (by rw [q2]; exact h6) q1 q3 (by rw [hsl]; exact k2_hasslot (q4 k hk)) rfl rfl hd go
theorem x_new {c index N : Nat} {C : String} {T : u_T} (hd : decode cc pc = .ok (.new index, 3)) (hc : jcl[c]? = some (C, T, N)) (h9 : c < 9) (hcl : Cond.classLink y.cls index C ∈ WG) (hin : Cond.instantiable C N ∈ WG) (hini : Cond.initialized C ∈ WG) (hk : kc.1 + 1 ≤ kb.1 ∧ kc.2 + N ≤ kb.2)
    (K : JX G y cc nL rt d kb (kc.1 + 1, kc.2 + N) (jnw S c 0) (jnd S D) (pc + 3) ls (.inr (.inr (some S.1)) :: st) Q) : JX G y cc nL rt d kb kc S D pc ls st Q := by
  intro p l e9 R s m args below meth c9 H locs A QM C9 h1 h2 h3 h4 hS hl hA hK9
  have hts := C9.2.2.2.2.1
  have hKn := C9.2.2.2.2.2.1.1 c _ hc
  refine W.newcK C9.1 C9.2.1 C9.2.2.2.1 (hts _ hcl) (hts _ hin) (hts _ hini) rfl hd (by omega) (by omega) hKn.2.1 rfl fun H1 kC hkC e1 z1 o1 => ?_
  have hz : (H.size : Int) = S.1 := hS.1
  have hS1 : JSim G (jnw S c 0) (jnd S D) H1 := by
    refine hS.new z1 o1 ⟨by omega, by omega⟩ (fun _ => ?_) (fun h _ => by omega)
    have e : S.1.toNat = H.size := by omega
    refine ⟨_, hc, ?_⟩
    rw [e]
    refine (u_born (jty c) hts (jlays hc) hKn hkC e1 (fun k hk => jparse hc hk)).to (fun k hk => ?_)
    have z1 : jnd S D S.1 (k : Int) = 0 := by simp [jnd]
    have z2 : jR (jnw S c 0) S.1 (k : Int) = none := by simp [jR, jnw]
    rw [z1, z2]
    exact jdef hc hk
  have hst : (Value.ref H.size :: st.map jv) = ((.inr (.inr (some S.1)) :: st : List JV).map jv) := by
    show _ = jv (.inr (.inr (some S.1))) :: st.map jv
    rw [jv_r, show S.1.toNat = H.size from by omega]
  have K1 := K p l e9 R s m args below meth c9 H1 locs A QM C9 h1 h2 h3 h4 hS1 hl hA hK9
  rw [← hst] at K1
  exact K1
end JHEAP
end
section
/-! ROWS of the heap: arrays, the script, what the JDK does itself -/
theorem jN_of {n : Int} (h : 0 ≤ n) : (n.toNat : Int) = n := Int.toNat_of_nonneg h
theorem jO_of {n : Int} (h : 0 ≤ n) : Int32.ofNat n.toNat = Int32.ofInt n := by rw [← Int32.ofInt_eq_ofNat, jN_of h]
theorem jchar {v : Int} (h0 : 0 ≤ v) (h1 : v < 65536) : narrow .char (.int (Int32.ofInt v)) = .int (Int32.ofInt v) ∧ fits .char (.int (Int32.ofInt v)) = true := by
  have h := pk_charN (q := v.toNat) (by omega)
  have e : nI v.toNat = Int32.ofInt v := jO_of h0
  rw [e] at h
  exact h
theorem jbool {v : Int} (h : v = 0 ∨ v = 1) : narrow .boolean (.int (Int32.ofInt v)) = .int (Int32.ofInt v) ∧ fits .boolean (.int (Int32.ofInt v)) = true := by
  rcases h with rfl | rfl <;> exact ⟨by decide, by decide⟩
theorem jok_i {ty : FieldType} (e : Int) (h : ty = .int) : jok ty (.inl e) := by subst h; exact ⟨rfl, rfl⟩
theorem jok_l {ty : FieldType} (e : Int) (h : ty = .long) : jok ty (.inr (.inl e)) := by subst h; exact ⟨rfl, rfl⟩
theorem jok_z {ty : FieldType} {e : Int} (h : ty = .boolean) (he : e = 0 ∨ e = 1) : jok ty (.inl e) := by subst h; exact jbool he
theorem jok_c {ty : FieldType} {e : Int} (h : ty = .char) (h0 : 0 ≤ e) (h1 : e < 65536) : jok ty (.inl e) := by subst h; exact jchar h0 h1
theorem jok_o {ty : FieldType} {n : String} (r : Option Int) (h : ty = .object n) : jok ty (.inr (.inr r)) := by subst h; cases r <;> exact ⟨rfl, rfl⟩
theorem jok_a {ty t : FieldType} (r : Option Int) (h : ty = .array t) : jok ty (.inr (.inr r)) := by subst h; cases r <;> exact ⟨rfl, rfl⟩
/-- a stretch is copied -/
def jcp (D : JD) (a0 sp a dp n : Int) : JD := fun x z => if x = a ∧ dp ≤ z ∧ z < dp + n then D a0 (sp + (z - dp)) else D x z
section JARR
variable {G : JG} {y : MethodName} {cc : ByteArray} {nL : Nat} {rt : Option FieldType} {d : Nat} {kb kc : Nat × Nat} {S : JS} {D : JD} {pc : Nat} {ls : List (Option JV)} {st : List JV} {Q : Option JV → JS → JD → Prop}
theorem x_alen {a : Int} {c : Nat} (hd : decode cc pc = .ok (.arraylength, 1)) (h9 : 9 ≤ c ∧ c < 16) (hK : jK S a = c) (K : JX G y cc nL rt d kb kc S D (pc + 1) ls (.inl (jL S a) :: st) Q) : JX G y cc nL rt d kb kc S D pc ls (.inr (.inr (some a)) :: st) Q := by
  intro p l e9 R s m args below meth c9 H locs A QM C9 h1 h2 h3 h4 hS hl hA hK9
  obtain ⟨t1, t2, t3, t4, t5⟩ := hS.2.2.2.2 a c hK h9.1 h9.2
  have hAr := (C9.2.2.2.2.2.1.2.1 c h9.1 h9.2).1 (jL S a).toNat (fun j => jfv (jat c) (D a (j : Int)) (jR S a (j : Int)))
  refine W.alen (n := Int32.ofInt (jL S a)) C9.1 C9.2.1 t5 hAr ?_ rfl rfl hd (K p l e9 R s m args below meth c9 H locs A QM C9 h1 h2 h3 h4 hS hl hA hK9)
  rw [arrV_size]
  exact jO_of t3
theorem x_iald {a e : Int} (hd : decode cc pc = .ok (.iaload, 1)) (hK : jK S a = 9) (he : 0 ≤ e ∧ e < jL S a) (K : JX G y cc nL rt d kb kc S D (pc + 1) ls (.inl (D a e) :: st) Q) : JX G y cc nL rt d kb kc S D pc ls (.inl e :: .inr (.inr (some a)) :: st) Q := by
  intro p l e9 R s m args below meth c9 H locs A QM C9 h1 h2 h3 h4 hS hl hA hK9
  obtain ⟨t1, t2, t3, t4, t5⟩ := hS.2.2.2.2 a 9 hK (by decide) (by decide)
  have hAr := (C9.2.2.2.2.2.1.2.1 9 (by decide) (by decide)).1 (jL S a).toNat (fun j => jfv (jat 9) (D a (j : Int)) (jR S a (j : Int)))
  refine W.iald (j := Int32.ofInt e) (v := .int (Int32.ofInt (D a e))) C9.1 C9.2.1 t5 hAr (fun q => by cases q) (by rw [arrV_size]; exact i32_in he.1 he.2 t4) ?_ rfl rfl hd (K p l e9 R s m args below meth c9 H locs A QM C9 h1 h2 h3 h4 hS hl hA hK9)
  rw [i32_nn he.1 (by omega), arrV_read _ _ (by omega)]
  show some (Value.int (Int32.ofInt (D a (e.toNat : Int)))) = _
  rw [jN_of he.1]
theorem x_cald {a e : Int} (hd : decode cc pc = .ok (.caload, 1)) (hK : jK S a = 10) (he : 0 ≤ e ∧ e < jL S a) (K : JX G y cc nL rt d kb kc S D (pc + 1) ls (.inl (D a e) :: st) Q) : JX G y cc nL rt d kb kc S D pc ls (.inl e :: .inr (.inr (some a)) :: st) Q := by
  intro p l e9 R s m args below meth c9 H locs A QM C9 h1 h2 h3 h4 hS hl hA hK9
  obtain ⟨t1, t2, t3, t4, t5⟩ := hS.2.2.2.2 a 10 hK (by decide) (by decide)
  have hAr := (C9.2.2.2.2.2.1.2.1 10 (by decide) (by decide)).1 (jL S a).toNat (fun j => jfv (jat 10) (D a (j : Int)) (jR S a (j : Int)))
  refine W.cald (j := Int32.ofInt e) (v := .int (Int32.ofInt (D a e))) C9.1 C9.2.1 t5 hAr (fun q => by cases q) (by rw [arrV_size]; exact i32_in he.1 he.2 t4) ?_ rfl rfl hd (K p l e9 R s m args below meth c9 H locs A QM C9 h1 h2 h3 h4 hS hl hA hK9)
  rw [i32_nn he.1 (by omega), arrV_read _ _ (by omega)]
  show some (Value.int (Int32.ofInt (D a (e.toNat : Int)))) = _
  rw [jN_of he.1]
theorem x_zald {a e : Int} (hd : decode cc pc = .ok (.baload, 1)) (hK : jK S a = 11) (he : 0 ≤ e ∧ e < jL S a) (K : JX G y cc nL rt d kb kc S D (pc + 1) ls (.inl (D a e) :: st) Q) : JX G y cc nL rt d kb kc S D pc ls (.inl e :: .inr (.inr (some a)) :: st) Q := by
  intro p l e9 R s m args below meth c9 H locs A QM C9 h1 h2 h3 h4 hS hl hA hK9
  obtain ⟨t1, t2, t3, t4, t5⟩ := hS.2.2.2.2 a 11 hK (by decide) (by decide)
  have hAr := (C9.2.2.2.2.2.1.2.1 11 (by decide) (by decide)).1 (jL S a).toNat (fun j => jfv (jat 11) (D a (j : Int)) (jR S a (j : Int)))
  refine W.zald (j := Int32.ofInt e) (v := .int (Int32.ofInt (D a e))) C9.1 C9.2.1 t5 hAr (fun q => by cases q) (by rw [arrV_size]; exact i32_in he.1 he.2 t4) ?_ rfl rfl hd (K p l e9 R s m args below meth c9 H locs A QM C9 h1 h2 h3 h4 hS hl hA hK9)
  rw [i32_nn he.1 (by omega), arrV_read _ _ (by omega)]
  show some (Value.int (Int32.ofInt (D a (e.toNat : Int)))) = _
  rw [jN_of he.1]
theorem x_aald {a e : Int} {c : Nat} {Cn : String} (hd : decode cc pc = .ok (.aaload, 1)) (h9 : 9 ≤ c ∧ c < 16) (ht : jat c = .object Cn) (hK : jK S a = c) (he : 0 ≤ e ∧ e < jL S a) (K : JX G y cc nL rt d kb kc S D (pc + 1) ls (.inr (.inr (jR S a e)) :: st) Q) : JX G y cc nL rt d kb kc S D pc ls (.inl e :: .inr (.inr (some a)) :: st) Q := by
  intro p l e9 R s m args below meth c9 H locs A QM C9 h1 h2 h3 h4 hS hl hA hK9
  obtain ⟨t1, t2, t3, t4, t5⟩ := hS.2.2.2.2 a c hK h9.1 h9.2
  have hAr := (C9.2.2.2.2.2.1.2.1 c h9.1 h9.2).1 (jL S a).toNat (fun j => jfv (jat c) (D a (j : Int)) (jR S a (j : Int)))
  refine W.aald (j := Int32.ofInt e) (v := jv (.inr (.inr (jR S a e)))) (ty := .object Cn) C9.1 C9.2.1 t5 (by rw [← ht]; exact hAr) rfl (fun q => by cases q) (by rw [arrV_size]; exact i32_in he.1 he.2 t4) ?_ rfl rfl hd (K p l e9 R s m args below meth c9 H locs A QM C9 h1 h2 h3 h4 hS hl hA hK9)
  rw [i32_nn he.1 (by omega), arrV_read _ _ (by omega), ht]
  show some (va_rf ((jR S a (e.toNat : Int)).map Int.toNat)) = _
  rw [jN_of he.1]
  rfl
theorem jAr_set {G : JG} {S : JS} {D : JD} {H' : Heap} {a e v : Int} {c : Nat} (h : H'[a.toNat]? = some ((arrV (gA G c) (jL S a).toNat (fun j => jfv (jat c) (D a (j : Int)) (jR S a (j : Int)))).setSlot e.toNat (.int (Int32.ofInt v)))) (he : 0 ≤ e) (ht : jat c = .int ∨ jat c = .char ∨ jat c = .boolean) : jAr G S (jup D a e v) H' a c := by
  unfold jAr
  rw [h, arrV_store]
  congr 2
  funext j
  by_cases q : j = e.toNat
  · subst q
    simp only [updV, if_true]
    rw [jN_of he, jup_eq, jfv_i _ _ _ ht]
  · have q2 : (j : Int) ≠ e := by omega
    simp only [updV, if_neg q, jup_nk q2]
theorem jup_set {D : JD} {a e v x z : Int} (h : x ≠ a) : jup D a e v x z = D x z := jup_ne h
theorem x_iast {a e v : Int} (hd : decode cc pc = .ok (.iastore, 1)) (hK : jK S a = 9) (he : 0 ≤ e ∧ e < jL S a) (K : JX G y cc nL rt d kb kc S (jup D a e v) (pc + 1) ls st Q) : JX G y cc nL rt d kb kc S D pc ls (.inl v :: .inl e :: .inr (.inr (some a)) :: st) Q := by
  intro p l e9 R s m args below meth c9 H locs A QM C9 h1 h2 h3 h4 hS hl hA hK9
  obtain ⟨t1, t2, t3, t4, t5⟩ := hS.2.2.2.2 a 9 hK (by decide) (by decide)
  have hAr := (C9.2.2.2.2.2.1.2.1 9 (by decide) (by decide)).1 (jL S a).toNat (fun j => jfv (jat 9) (D a (j : Int)) (jR S a (j : Int)))
  refine W.iast (j := Int32.ofInt e) (x := Int32.ofInt v) C9.1 C9.2.1 t5 hAr (fun q => by cases q) (by rw [arrV_size]; exact i32_in he.1 he.2 t4) rfl rfl hd fun H1 e1 z1 o1 => ?_
  rw [i32_nn he.1 (by omega)] at e1
  refine K p l e9 R s m args below meth c9 H1 _ A QM C9 h1 h2 h3 h4 (hS.set rfl rfl rfl t1 (fun x z hx => ⟨jup_ne hx, rfl⟩) z1 o1 (fun c' hc' h => by omega) (fun c' hc' _ _ => ?_)) ?_ hA hK9
  · have : 9 = c' := hK.symm.trans hc'
    subst this
    exact jAr_set e1 he.1 (Or.inl rfl)
  · intro q hq
    rcases List.mem_append.mp hq with h | h
    · exact hl q h
    · rw [List.mem_singleton.mp h]
      show (gB G).size ≤ a.toNat
      omega
theorem x_cast {a e v : Int} (hd : decode cc pc = .ok (.castore, 1)) (hK : jK S a = 10) (he : 0 ≤ e ∧ e < jL S a) (hv : 0 ≤ v ∧ v < 65536) (K : JX G y cc nL rt d kb kc S (jup D a e v) (pc + 1) ls st Q) : JX G y cc nL rt d kb kc S D pc ls (.inl v :: .inl e :: .inr (.inr (some a)) :: st) Q := by
  intro p l e9 R s m args below meth c9 H locs A QM C9 h1 h2 h3 h4 hS hl hA hK9
  obtain ⟨t1, t2, t3, t4, t5⟩ := hS.2.2.2.2 a 10 hK (by decide) (by decide)
  have hAr := (C9.2.2.2.2.2.1.2.1 10 (by decide) (by decide)).1 (jL S a).toNat (fun j => jfv (jat 10) (D a (j : Int)) (jR S a (j : Int)))
  refine W.cast (j := Int32.ofInt e) (x := Int32.ofInt v) C9.1 C9.2.1 t5 hAr (fun q => by cases q) (by rw [arrV_size]; exact i32_in he.1 he.2 t4) rfl rfl hd fun H1 e1 z1 o1 => ?_
  rw [i32_nn he.1 (by omega), (jchar hv.1 hv.2).1] at e1
  refine K p l e9 R s m args below meth c9 H1 _ A QM C9 h1 h2 h3 h4 (hS.set rfl rfl rfl t1 (fun x z hx => ⟨jup_ne hx, rfl⟩) z1 o1 (fun c' hc' h => by omega) (fun c' hc' _ _ => ?_)) ?_ hA hK9
  · have : 10 = c' := hK.symm.trans hc'
    subst this
    exact jAr_set e1 he.1 (Or.inr (Or.inl rfl))
  · intro q hq
    rcases List.mem_append.mp hq with h | h
    · exact hl q h
    · rw [List.mem_singleton.mp h]
      show (gB G).size ≤ a.toNat
      omega
theorem x_zast {a e v : Int} (hd : decode cc pc = .ok (.bastore, 1)) (hK : jK S a = 11) (he : 0 ≤ e ∧ e < jL S a) (hv : v = 0 ∨ v = 1) (K : JX G y cc nL rt d kb kc S (jup D a e v) (pc + 1) ls st Q) : JX G y cc nL rt d kb kc S D pc ls (.inl v :: .inl e :: .inr (.inr (some a)) :: st) Q := by
  intro p l e9 R s m args below meth c9 H locs A QM C9 h1 h2 h3 h4 hS hl hA hK9
  obtain ⟨t1, t2, t3, t4, t5⟩ := hS.2.2.2.2 a 11 hK (by decide) (by decide)
  have hAr := (C9.2.2.2.2.2.1.2.1 11 (by decide) (by decide)).1 (jL S a).toNat (fun j => jfv (jat 11) (D a (j : Int)) (jR S a (j : Int)))
  refine W.zast (j := Int32.ofInt e) (x := Int32.ofInt v) C9.1 C9.2.1 t5 hAr (fun q => by cases q) (by rw [arrV_size]; exact i32_in he.1 he.2 t4) rfl rfl hd fun H1 e1 z1 o1 => ?_
  rw [i32_nn he.1 (by omega), (jbool hv).1] at e1
  refine K p l e9 R s m args below meth c9 H1 _ A QM C9 h1 h2 h3 h4 (hS.set rfl rfl rfl t1 (fun x z hx => ⟨jup_ne hx, rfl⟩) z1 o1 (fun c' hc' h => by omega) (fun c' hc' _ _ => ?_)) ?_ hA hK9
  · have : 11 = c' := hK.symm.trans hc'
    subst this
    exact jAr_set e1 he.1 (Or.inr (Or.inr rfl))
  · intro q hq
    rcases List.mem_append.mp hq with h | h
    · exact hl q h
    · rw [List.mem_singleton.mp h]
      show (gB G).size ≤ a.toNat
      omega
/-- a reference to an object of kind k goes into an array of its class -/
theorem x_aast {a e v : Int} {c k N : Nat} {Cn : String} {T : u_T} (hd : decode cc pc = .ok (.aastore, 1)) (h9 : 9 ≤ c ∧ c < 16) (ht : jat c = .object Cn) (hc : jcl[k]? = some (Cn, T, N)) (h8 : k < 9) (hK : jK S a = c) (hv : jK S v = k) (he : 0 ≤ e ∧ e < jL S a) (K : JX G y cc nL rt d kb kc (jur S a e (some v)) D (pc + 1) ls st Q) : JX G y cc nL rt d kb kc S D pc ls (.inr (.inr (some v)) :: .inl e :: .inr (.inr (some a)) :: st) Q := by
  intro p l e9 R s m args below meth c9 H locs A QM C9 h1 h2 h3 h4 hS hl hA hK9
  obtain ⟨t1, t2, t3, t4, t5⟩ := hS.2.2.2.2 a c hK h9.1 h9.2
  obtain ⟨u1, u2, r', hr', cellV, g1, g2, g3, -⟩ := hS.2.2.2.1 v k hv h8
  have hcls := (C9.2.2.2.2.2.1.1 k _ hc).2
  have hRA := (C9.2.2.2.2.2.1.2.1 c h9.1 h9.2).2
  rw [ht] at hRA
  obtain ⟨kA, comp, k1, k2, k3, -⟩ := hRA
  have hcomp : comp = (gD G).1 k := Option.some.inj (k3.symm.trans hcls.1)
  subst hcomp
  obtain ⟨kC, hkC, -⟩ := hcls.2
  have hin := i32_in he.1 he.2 t4
  have hlt : (Int32.ofInt e).toNatClampNeg < (jL S a).toNat := Nat.not_le.mp fun q => hin (Or.inr q)
  have h0 : ¬ Int32.ofInt e < 0 := fun q => hin (Or.inl q)
  refine W.aast C9.1 C9.2.1 (j := Int32.ofInt e) t5 (fun q h => by cases h) (fun h => by cases h) k1 k2 rfl hkC ⟨h0, by rw [arrV_size]; exact hlt⟩ g1 (fun q h => by rw [g3] at h; cases h) (by rw [g2]; exact hkC) (by rw [g2]; exact va_assign hcls) rfl rfl hd fun H1 e1 z1 o1 => ?_
  rw [i32_nn he.1 (by omega)] at e1
  refine K p l e9 R s m args below meth c9 H1 _ A QM C9 h1 h2 h3 h4 (hS.set rfl rfl rfl t1 (fun x z hx => ⟨rfl, by simp [jR, jur, hx]⟩) z1 o1 (fun c' hc' h => by omega) (fun c' hc' _ _ => ?_)) ?_ hA hK9
  · have : c = c' := hK.symm.trans hc'
    subst this
    unfold jAr
    rw [e1, arrV_store]
    congr 2
    funext j
    rw [ht]
    by_cases q : j = e.toNat
    · subst q
      simp only [updV, if_true]
      show Value.ref v.toNat = va_rf ((jR (jur S a e (some v)) a (e.toNat : Int)).map Int.toNat)
      rw [jN_of he.1]
      simp [jR, jur, va_rf]
    · have q2 : (j : Int) ≠ e := by omega
      simp only [updV, if_neg q]
      show va_rf _ = va_rf _
      simp [jR, jur, q2]
  · intro q hq
    rcases List.mem_append.mp hq with h | h
    · exact hl q h
    · rw [List.mem_singleton.mp h]
      show (gB G).size ≤ a.toNat
      omega
theorem x_newarr {c : Nat} {n : Int} {atype : ArrayType} (hd : decode cc pc = .ok (.newarray atype, 2)) (h9 : 9 ≤ c ∧ c < 12) (ht : newarray.typeOf atype = jat c) (hw : Cond.arrayClass (newarray.typeOf atype) ∈ WG) (hn : 0 ≤ n ∧ n < 2147483648) (hb : n.toNat * componentBytes (newarray.typeOf atype) ≤ 536870912) (hk : kc.1 + 1 ≤ kb.1 ∧ kc.2 + n.toNat ≤ kb.2)
    (K : JX G y cc nL rt d kb (kc.1 + 1, kc.2 + n.toNat) (jnw S c n) (jnd S D) (pc + 2) ls (.inr (.inr (some S.1)) :: st) Q) : JX G y cc nL rt d kb kc S D pc ls (.inl n :: st) Q := by
  intro p l e9 R s m args below meth c9 H locs A QM C9 h1 h2 h3 h4 hS hl hA hK9
  have hts := C9.2.2.2.2.1
  have hz : (H.size : Int) = S.1 := hS.1
  refine va_newaK C9.1 C9.2.1 (hts _ hw) rfl hd (n := Int32.ofInt n) rfl (fun q => absurd ((i32_lt0 ⟨by omega, by omega⟩).mp q) (by omega)) (i32_nn hn.1 hn.2) hb (by omega) (by omega) rfl fun H1 cA e1 z1 o1 _ hNm => ?_
  have hcA : cA = gA G c := by
    have h2 := (C9.2.2.2.2.2.1.2.1 c h9.1 (by omega)).2
    rw [← ht] at h2
    have h3 : s.vm.findClass ("[" ++ (newarray.typeOf atype).toString) = some (gA G c) := by cases atype <;> exact h2
    exact Option.some.inj (hNm.symm.trans h3)
  subst hcA
  have hS1 : JSim G (jnw S c n) (jnd S D) H1 := by
    refine hS.new z1 o1 hn (fun h => by omega) (fun _ _ => ?_)
    have e : S.1.toNat = H.size := by omega
    unfold jAr
    rw [e, e1]
    have el : jL (jnw S c n) S.1 = n := by simp [jL, jnw]
    rw [el, ht]
    congr 2
    funext j
    have z1 : jnd S D S.1 (j : Int) = 0 := by simp [jnd]
    have z2 : jR (jnw S c n) S.1 (j : Int) = none := by simp [jR, jnw]
    rw [z1, z2]
    rcases (show c = 9 ∨ c = 10 ∨ c = 11 by omega) with rfl | rfl | rfl <;> rfl
  have hst : (Value.ref H.size :: st.map jv) = ((.inr (.inr (some S.1)) :: st : List JV).map jv) := by
    show _ = jv (.inr (.inr (some S.1))) :: st.map jv
    rw [jv_r, show S.1.toNat = H.size from by omega]
  have K1 := K p l e9 R s m args below meth c9 H1 locs A QM C9 h1 h2 h3 h4 hS1 hl hA hK9
  rw [← hst] at K1
  exact K1
theorem x_anew {c index : Nat} {n : Int} {Cn : String} (hd : decode cc pc = .ok (.anewarray index, 3)) (h9 : 9 ≤ c ∧ c < 16) (ht : jat c = .object Cn) (hcl : Cond.classLink y.cls index Cn ∈ WG) (hao : Cn ∈ [RX6, RX1, RX0, RX2]) (hn : 0 ≤ n ∧ n < 1000000) (hk : kc.1 + 1 ≤ kb.1 ∧ kc.2 + n.toNat ≤ kb.2)
    (K : JX G y cc nL rt d kb (kc.1 + 1, kc.2 + n.toNat) (jnw S c n) (jnd S D) (pc + 3) ls (.inr (.inr (some S.1)) :: st) Q) : JX G y cc nL rt d kb kc S D pc ls (.inl n :: st) Q := by
  intro p l e9 R s m args below meth c9 H locs A QM C9 h1 h2 h3 h4 hS hl hA hK9
  have hts := C9.2.2.2.2.1
  have hz : (H.size : Int) = S.1 := hS.1
  have en := i32_nn hn.1 (show n < 2147483648 by omega)
  refine W.anew (n := Int32.ofInt n) C9.1 C9.2.1 C9.2.2.2.1 (hts _ hcl) (va_AO.use (C9.2.2.2.2.2.1.2.2.2.1 _ hao)) rfl hd rfl (fun q => absurd ((i32_lt0 ⟨by omega, by omega⟩).mp q) (by omega)) (by rw [en]; omega) (by omega) (by rw [en]; omega) fun cA kA comp f1 f2 f3 f4 => ?_
  have hcA : cA = gA G c := by
    have h2 := (C9.2.2.2.2.2.1.2.1 c h9.1 h9.2).2
    rw [ht] at h2
    obtain ⟨_, _, -, -, -, h3⟩ := h2
    exact Option.some.inj (f1.symm.trans h3)
  subst hcA
  rw [en]
  generalize hH1 : H.push ({ cls := gA G c, slots := Array.replicate n.toNat .null, vm := .none } : Cell) = H1
  have z1 : H1.size = H.size + 1 := by rw [← hH1, Array.size_push]
  have e1 : H1[H.size]? = some (arrV (gA G c) n.toNat (fun _ => .null)) := by rw [← hH1, Array.getElem?_push_size, ← arrV_new]
  have o1 : ∀ q : Nat, q < H.size → H1[q]? = H[q]? := fun q hq => by rw [← hH1, Array.getElem?_push, if_neg (Nat.ne_of_lt hq)]
  have hS1 : JSim G (jnw S c n) (jnd S D) H1 := by
    refine hS.new z1 o1 ⟨hn.1, by omega⟩ (fun h => by omega) (fun _ _ => ?_)
    have e : S.1.toNat = H.size := by omega
    unfold jAr
    rw [e, e1]
    have el : jL (jnw S c n) S.1 = n := by simp [jL, jnw]
    rw [el, ht]
    congr 2
    funext j
    have z2 : jR (jnw S c n) S.1 (j : Int) = none := by simp [jR, jnw]
    rw [z2]
    rfl
  have hst : (Value.ref H.size :: st.map jv) = ((.inr (.inr (some S.1)) :: st : List JV).map jv) := by
    show _ = jv (.inr (.inr (some S.1))) :: st.map jv
    rw [jv_r, show S.1.toNat = H.size from by omega]
  have K1 := K p l e9 R s m args below meth c9 H1 locs A QM C9 h1 h2 h3 h4 hS1 hl hA hK9
  rw [← hst] at K1
  exact K1
/-- the script's length, and its ints -/
theorem x_slen (hd : decode cc pc = .ok (.arraylength, 1)) (hb : gb G < (gB G).size) (K : JX G y cc nL rt d kb kc S D (pc + 1) ls (.inl (gL G : Int) :: st) Q) : JX G y cc nL rt d kb kc S D pc ls (.inr (.inr (some (gb G : Int))) :: st) Q := by
  intro p l e9 R s m args below meth c9 H locs A QM C9 h1 h2 h3 h4 hS hl hA hK9
  obtain ⟨scr, x1, x2, x3, x4, x5⟩ := C9.2.2.2.2.2.1.2.2.2.2.2.2
  exact W.alen (n := Int32.ofInt (gL G : Int)) C9.1 C9.2.1 (a := gb G) (by rw [hS.2.2.1 _ hb]; exact x1) x2 (by rw [x4]; exact (Int32.ofInt_eq_ofNat).symm) rfl rfl hd (K p l e9 R s m args below meth c9 H locs A QM C9 h1 h2 h3 h4 hS hl hA hK9)
theorem x_sld {e : Int} (hd : decode cc pc = .ok (.iaload, 1)) (hb : gb G < (gB G).size) (hL : gL G < 2147483648) (he : 0 ≤ e ∧ e < (gL G : Int)) (K : JX G y cc nL rt d kb kc S D (pc + 1) ls (.inl ((gX G e.toNat).toInt) :: st) Q) : JX G y cc nL rt d kb kc S D pc ls (.inl e :: .inr (.inr (some (gb G : Int))) :: st) Q := by
  intro p l e9 R s m args below meth c9 H locs A QM C9 h1 h2 h3 h4 hS hl hA hK9
  obtain ⟨scr, x1, x2, x3, x4, x5⟩ := C9.2.2.2.2.2.1.2.2.2.2.2.2
  refine W.iald (j := Int32.ofInt e) (v := .int (Int32.ofInt ((gX G e.toNat).toInt))) C9.1 C9.2.1 (a := gb G) (by rw [hS.2.2.1 _ hb]; exact x1) x2 x3 (by rw [x4]; exact i32_in (n := (gL G : Int)) he.1 he.2 (by omega)) ?_ rfl rfl hd (K p l e9 R s m args below meth c9 H locs A QM C9 h1 h2 h3 h4 hS hl hA hK9)
  rw [i32_nn he.1 (by omega), x5 _ (by omega), Int32.ofInt_toInt]
def jcat (v : JV) : Nat := match v with
  | .inr (.inl _) => 2
  | _ => 1
theorem jcat_eq (v : JV) : (jv v).category = jcat v := by
  rcases v with e | e | r
  · rfl
  · rfl
  · cases r <;> rfl
theorem jcat_sum (st : List JV) : ((st.map jv).map fun v => v.category).sum = (st.map jcat).sum := by
  rw [List.map_map]
  congr 1
  exact List.map_congr_left (fun v _ => jcat_eq v)
/-- Object's own constructor -/
theorem x_object {index : Nat} {r : Option Int} {a : Int} (hd : decode cc pc = .ok (.invokespecial index, 3)) (hw : Cond.methodLink y.cls index objectInit ∈ WG) (hr : r = some a) (hd1 : 1 ≤ d) (hcat : (st.map jcat).sum ≤ 8) (K : JX G y cc nL rt d kb kc S D (pc + 3) ls st Q) : JX G y cc nL rt d kb kc S D pc ls (.inr (.inr r) :: st) Q := by
  subst hr
  intro p l e9 R s m args below meth c9 H locs A QM C9 h1 h2 h3 h4 hS hl hA hK9
  have hts := C9.2.2.2.2.1
  refine W.objInit C9.1 C9.2.1 C9.2.2.2.1 (hts _ hw) (hts _ im_objectInit) (hts _ cd_objectInit) (a := a.toNat) (rest := st.map jv) rfl (by rw [C9.2.2.1]; exact hA.2.1) rfl hd (by omega) ?_ (K p l e9 R s m args below meth c9 H locs A QM C9 h1 h2 h3 h4 hS hl hA hK9)
  rw [jcat_sum]
  show 2 * 0 + _ + 12 ≤ _
  omega
theorem x_acopy {index : Nat} {a0 a sp dp n : Int} (hd : decode cc pc = .ok (.invokestatic index, 3)) (hw : Cond.methodLink y.cls index arraycopyName ∈ WG) (hd1 : 1 ≤ d) (hst : (st.map jcat).sum = 0) (hK0 : jK S a0 = 9) (hK : jK S a = 9) (h0 : 0 ≤ sp ∧ 0 ≤ dp ∧ 0 ≤ n ∧ sp + n ≤ jL S a0 ∧ dp + n ≤ jL S a)
    (K : JX G y cc nL rt d kb kc S (jcp D a0 sp a dp n) (pc + 3) ls st Q) : JX G y cc nL rt d kb kc S D pc ls (.inl n :: .inl dp :: .inr (.inr (some a)) :: .inl sp :: .inr (.inr (some a0)) :: st) Q := by
  intro p l e9 R s m args below meth c9 H locs A QM C9 h1 h2 h3 h4 hS hl hA hK9
  have hts := C9.2.2.2.2.1
  obtain ⟨t1, t2, t3, t4, t5⟩ := hS.2.2.2.2 a 9 hK (by decide) (by decide)
  obtain ⟨u1, u2, u3, u4, u5⟩ := hS.2.2.2.2 a0 9 hK0 (by decide) (by decide)
  have hAr0 := (C9.2.2.2.2.2.1.2.1 9 (by decide) (by decide)).1 (jL S a0).toNat (fun j => jfv (jat 9) (D a0 (j : Int)) (jR S a0 (j : Int)))
  have hAr1 := (C9.2.2.2.2.2.1.2.1 9 (by decide) (by decide)).1 (jL S a).toNat (fun j => jfv (jat 9) (D a (j : Int)) (jR S a (j : Int)))
  have es := i32_t (e := sp) ⟨by omega, by omega⟩
  have ed := i32_t (e := dp) ⟨by omega, by omega⟩
  have en := i32_t (e := n) ⟨by omega, by omega⟩
  have cs := i32_nn (e := sp) h0.1 (by omega)
  have cd := i32_nn (e := dp) h0.2.1 (by omega)
  have cn := i32_nn (e := n) h0.2.2.1 (by omega)
  have neg : ∀ z : Int, 0 ≤ z → z < 2147483648 → ¬ Int32.ofInt z < 0 := fun z z0 z1 q => absurd ((i32_lt0 ⟨by omega, by omega⟩).mp q) (by omega)
  intro T hT X
  obtain ⟨-, k0, hk0, cm0, hkk0⟩ := hAr0
  obtain ⟨-, k1, hk1, cm1, hkk1⟩ := hAr1
  have hlo : 36 ≤ R.locals := by omega
  obtain ⟨vm', X', step⟩ := X.arraycopy C9.1 C9.2.2.2.1 (hts _ hw) (hts _ nat_arraycopy) (hts _ st_arraycopy) (hts _ ini_RJ10) (src := a0.toNat) (dst := a.toNat) (srcPos := Int32.ofInt sp) (destPos := Int32.ofInt dp) (n := Int32.ofInt n) (by rw [hT]; exact u5) (by rw [hT]; exact t5)
    (fun _ h => by cases h) (fun _ h => by cases h) (fun h => by cases h) (fun h => by cases h) hk0 hk1 hkk0 hkk1 (by simp [refKind, jat]) (neg sp h0.1 (by omega)) (neg dp h0.2.1 (by omega)) (neg n h0.2.2.1 (by omega))
    (by rw [es, en, arrV_size]; omega) (by rw [ed, en, arrV_size]; omega)
    (fun vm₁ _ i hi => by
      rw [cn] at hi
      rw [Array.getD_eq_getD_getElem?, cs, arrV_read _ _ (by omega)]
      exact ⟨rfl, trivial⟩)
    (g := F0 m pc A (.int (Int32.ofInt n) :: .int (Int32.ofInt dp) :: .ref a.toNat :: .int (Int32.ofInt sp) :: .ref a0.toNat :: st.map jv)) rfl (by rw [C9.2.2.1]; exact hA.2.1) (rest := st.map jv) rfl (by rw [C9.2.1]; exact hd) (by omega)
    (by rw [jcat_sum, hst]; show 2 * 0 + 0 + _ ≤ _; exact Nat.le_trans (by decide +kernel) hlo)
  have e1 : copied (arrV (gA G 9) (jL S a0).toNat (fun j => jfv (jat 9) (D a0 (j : Int)) (jR S a0 (j : Int)))) (arrV (gA G 9) (jL S a).toNat (fun j => jfv (jat 9) (D a (j : Int)) (jR S a (j : Int)))) (Int32.ofInt sp) (Int32.ofInt dp) (Int32.ofInt n) = arrV (gA G 9) (jL S a).toNat (fun j => jfv (jat 9) (jcp D a0 sp a dp n a (j : Int)) (jR S a (j : Int))) := by
    have h := va_copied (fun z : Int => Value.int (Int32.ofInt z)) (gA G 9) (gA G 9) (n0 := (jL S a0).toNat) (n1 := (jL S a).toNat) (sp := sp.toNat) (dp := dp.toNat) (n := n.toNat) (fun j => D a0 (j : Int)) (fun j => D a (j : Int)) (by omega)
    unfold copied
    rw [cs, cd, cn]
    refine h.trans ?_
    congr 1
    funext j
    show Value.int _ = Value.int _
    congr 2
    unfold va_cpy jcp
    by_cases q : dp.toNat ≤ j ∧ j < dp.toNat + n.toNat
    · rw [if_pos q, if_pos (by omega)]
      show D a0 ((sp.toNat + (j - dp.toNat) : Nat) : Int) = _
      congr 1
      omega
    · rw [if_neg q, if_neg (by omega)]
  rw [e1] at X' step
  have hla : a.toNat < H.size := (Array.getElem?_eq_some_iff.mp t5).1
  generalize hcell : arrV (gA G 9) (jL S a).toNat (fun j => jfv (jat 9) (jcp D a0 sp a dp n a (j : Int)) (jR S a (j : Int))) = cell at X' step
  have hheap : ((T.setVm vm').setCell a.toNat cell).heap = H.setIfInBounds a.toNat cell := by rw [← hT]; rfl
  have oq : ∀ q : Nat, q ≠ a.toNat → (H.setIfInBounds a.toNat cell)[q]? = H[q]? := fun q hq => by simp [Array.getElem?_setIfInBounds, Ne.symm hq]
  obtain ⟨t, a1, b1⟩ := K p l e9 R s m args below meth c9 (H.setIfInBounds a.toNat cell) _ A QM C9 h1 h2 h3 h4
    (hS.set (S' := S) (D' := jcp D a0 sp a dp n) rfl rfl rfl t1 (fun x z hx => ⟨by simp [jcp, hx], rfl⟩) (by simp) oq (fun c' hc' h => by omega) (fun c' hc' _ _ => by
      have : 9 = c' := hK.symm.trans hc'
      subst this
      unfold jAr
      rw [hcell]
      simp [Array.getElem?_setIfInBounds, hla]))
    (fun q hq => by
      rcases List.mem_append.mp hq with h | h
      · exact hl q h
      · obtain ⟨z, -, hz⟩ := List.mem_map.mp h
        rw [← hz]
        show (gB G).size ≤ a.toNat
        omega) hA hK9 _ hheap X'
  exact ⟨t, step t a1, b1⟩
end JARR
end
section
/-! CALLS: a judgement of the callee's body is a contract; a row a call -/
def jarg (vs : List JV) : List (Option JV) := match vs with
  | [] => []
  | .inr (.inl e) :: t => some (.inr (.inl e)) :: none :: jarg t
  | v :: t => some v :: jarg t
/-- the locals with which a method begins -/
def jent (nL : Nat) (vs : List JV) : List (Option JV) := jarg vs ++ List.replicate (nL - (jarg vs).length) none
theorem jarg_len (vs : List JV) : (lg_sl (vs.map jv)).length = (jarg vs).length := by
  induction vs with
  | nil => rfl
  | cons v t ih =>
    rcases v with e | e | r
    · show ([Slot.val _] ++ lg_sl (t.map jv)).length = (jarg t).length + 1
      rw [List.length_append, ih]; simp; omega
    · show ([Slot.val _, Slot.second] ++ lg_sl (t.map jv)).length = (jarg t).length + 1 + 1
      rw [List.length_append, ih]; simp; omega
    · cases r with
      | none =>
        show ([Slot.val _] ++ lg_sl (t.map jv)).length = (jarg t).length + 1
        rw [List.length_append, ih]; simp; omega
      | some a =>
        show ([Slot.val _] ++ lg_sl (t.map jv)).length = (jarg t).length + 1
        rw [List.length_append, ih]; simp; omega
theorem jarg_in : ∀ (vs : List JV) (i k : Nat) (v : JV), (jarg vs)[k]? = some (some v) → (i + k, jv v) ∈ lv_args i (vs.map jv)
  | [], i, k, v, h => by simp [jarg] at h
  | w :: t, i, k, v, h => by
    have one : (jv w).category ≠ 2 → (some w :: jarg t)[k]? = some (some v) → (i + k, jv v) ∈ lv_args i ((w :: t).map jv) := by
      intro hc h
      simp only [List.map_cons, lv_args, if_neg hc]
      cases k with
      | zero =>
        have : w = v := by simpa using h
        subst this
        exact List.mem_cons_self
      | succ k =>
        have := jarg_in t (i + 1) k v (by simpa using h)
        rw [show i + 1 + k = i + (k + 1) by omega] at this
        exact List.mem_cons_of_mem _ this
    rcases w with e | e | r
    · exact one (by rw [jcat_eq]; exact (by decide : (1 : Nat) ≠ 2)) h
    · have hc : (jv (.inr (.inl e))).category = 2 := rfl
      simp only [List.map_cons, lv_args, if_pos hc]
      have h' : (some (.inr (.inl e)) :: none :: jarg t : List (Option JV))[k]? = some (some v) := h
      match k, h' with
      | 0, h' =>
        have : (.inr (.inl e) : JV) = v := by simpa using h'
        subst this
        exact List.mem_cons_self
      | 1, h' => simp at h'
      | k + 2, h' =>
        have := jarg_in t (i + 2) k v (by simpa using h')
        rw [show i + 2 + k = i + (k + 2) by omega] at this
        exact List.mem_cons_of_mem _ this
    · exact one (by rw [jcat_eq]; exact (by decide : (1 : Nat) ≠ 2)) h
theorem jent_ls {nL : Nat} {vs : List JV} (h : (jarg vs).length ≤ nL) : jLs nL (jent nL vs) ((lg_sl (vs.map jv) ++ List.replicate (nL - (lg_sl (vs.map jv)).length) Slot.unset).toArray) := by
  have h0 := lv_entry (vs.map jv) (n := nL) (by rw [jarg_len]; exact h)
  refine ⟨by simp [jent]; omega, h0.1, h0.2.1, fun k v hk => ?_⟩
  have hk' : (jarg vs)[k]? = some (some v) := by
    unfold jent at hk
    by_cases q : k < (jarg vs).length
    · rwa [List.getElem?_append_left q] at hk
    · rw [List.getElem?_append_right (by omega)] at hk
      have := List.eq_of_mem_replicate (List.mem_of_getElem? hk)
      cases this
  have := jarg_in vs 0 k v hk'
  rw [Nat.zero_add] at this
  exact h0.2.2 (k, jv v) this
/-- a contract: what the body of y does with these arguments -/
abbrev JM (G : JG) (y : MethodName) (cc : ByteArray) (nL : Nat) (rt : Option FieldType) (d : Nat) (kb : Nat × Nat) (S : JS) (D : JD) (vs : List JV) (Q : Option JV → JS → JD → Prop) : Prop :=
  JX G y cc nL rt d kb (0, 0) S D 0 (jent nL vs) [] Q
theorem jmet {G : JG} {y : MethodName} {cc : ByteArray} {nL : Nat} {rt : Option FieldType} {d : Nat} {kb : Nat × Nat} {S : JS} {D : JD} {vs : List JV} {Q : Option JV → JS → JD → Prop} (l : Launch) (hJ : JM G y cc nL rt d kb S D vs Q) (hp : plainName y.cls = true) (hn : (jarg vs).length ≤ nL) :
    Met l y (Cond.code y cc nL rt :: WG) { frames := d, cells := kb.1, slots := kb.2, locals := 36 * d } (fun a U => a = (vs.map jv).toArray ∧ JSim G S D U.heap ∧ JKn G U)
      (fun _ _ o t => ∃ (v : Option JV) (S' : JS) (D' : JD), o = .returned (v.map jv) ∧ Q v S' D' ∧ JSim G S' D' t.heap) kb.1 kb.2 (fun q => (gB G).size ≤ q) := by
  refine Met.ofW (cc := cc) (maxL := nL) (ret := rt) hp rfl ?_
  intro p e s m args below meth c s₁ B hml hv
  obtain ⟨rfl, hS, hK⟩ := hv
  have hts0 := atoms_spec (ws := Cond.code y cc nL rt :: WG) B.pre
  have hown : s.vm.findClass y.cls = some m.cls := findClass_of_methodNamed B.named
  have hname : meth.name = y.name := (name_of_methodNamed B.named B.method).1
  have C9 : JCtx G y cc nL rt p s m (vs.map jv).toArray meth c := ⟨B.exec, B.bytes, hml, hown, fun w hw => hts0 w (List.mem_cons_of_mem _ hw), hK, B.returns, B.notSynchronized, hname⟩
  have hlocks := B.notSynchronized
  rw [lg_entry_eq]
  refine hJ p l e _ s m _ below meth c s.heap [] _ _ C9 (Nat.le_refl _) (Nat.le_refl _) (Nat.le_refl _) (Nat.le_refl _) hS (fun q h => by cases h) (jent_ls hn) ?_
  intro v S' D' H' locs' pc' A' st' hq hS' hl' hr
  rcases hr with ⟨hd, e', ty, rfl, rfl, hty, hnar⟩ | ⟨hd, e', rfl, rfl, hty⟩ | ⟨hd, r', ty, rfl, rfl, hty, hob⟩ | ⟨hd, rfl, rfl, hty⟩
  · exact W.zret B.exec B.bytes (B.returns.trans hty) hnar (fun t ht _ => ⟨_, S', D', rfl, hq, by rw [ht]; exact hS'⟩) hl' hd
  · exact W.lret B.exec B.bytes (B.returns.trans hty) (fun t ht _ => ⟨_, S', D', rfl, hq, by rw [ht]; exact hS'⟩) hl' hd
  · exact W.aret B.exec B.bytes (B.returns.trans hty) hob (by cases r' <;> simp [va_rf]) (fun t ht _ => ⟨_, S', D', rfl, hq, by rw [ht]; exact hS'⟩) hl' hd
  · exact W.vret B.exec B.bytes (B.returns.trans hty) (fun t ht _ => ⟨_, S', D', rfl, hq, by rw [ht]; exact hS'⟩) hl' hd
theorem jblind {G : JG} {S : JS} {D : JD} {vs : List JV} : FrameBlind (fun a U => a = (vs.map jv).toArray ∧ JSim G S D U.heap ∧ JKn G U) := fun a U g mk h => ⟨h.1, h.2.1, h.2.2.same rfl⟩
theorem jgood {ws : List Cond} (h : ∀ w ∈ ws, w ∈ WG) : GoodIn WG ws := fun w hw => ⟨h w hw, WG_good w (h w hw)⟩
theorem jgood_code {y : MethodName} {cc : ByteArray} {nL : Nat} {rt : Option FieldType} (hc : Cond.code y cc nL rt ∈ WG) : GoodIn WG (Cond.code y cc nL rt :: WG) := jgood (fun w hw => by
  rcases List.mem_cons.mp hw with rfl | h
  · exact hc
  · exact h)
section JCALL
variable {G : JG} {y : MethodName} {cc : ByteArray} {nL : Nat} {rt : Option FieldType} {d : Nat} {kb kc : Nat × Nat} {S : JS} {D : JD} {pc : Nat} {ls : List (Option JV)} {st : List JV} {Q : Option JV → JS → JD → Prop}
variable {y2 : MethodName} {c2 : ByteArray} {n2 : Nat} {r2 : Option FieldType} {b2 : Nat × Nat} {Q2 : Option JV → JS → JD → Prop} {index : Nat}
/-- behind the call -/
theorem jback {vs As : List JV} {st0 : List JV} (hK : ∀ (v : Option JV) (S' : JS) (D' : JD), Q2 v S' D' → JX G y cc nL rt d kb (kc.1 + b2.1, kc.2 + b2.2) S' D' (pc + 3) ls (v.toList ++ st) Q)
    {p : Program} {l : Launch} {e : Env} {R : Room} {s : State} {m : MethodId} {args : Array Value} {below : List Frame} {meth : Method} {c : Code} {H : Heap} {locs : List Loc} {A : Array Slot} {QM : State → Prop} {a : Array Value}
    (C9 : JCtx G y cc nL rt p s m args meth c) (h1 : d ≤ R.frames) (h2 : 36 * d ≤ R.locals) (h3 : kb.1 ≤ R.cells) (h4 : kb.2 ≤ R.slots) (hl : ∀ q ∈ locs, (gB G).size ≤ q.base) (hA : jLs nL ls A)
    (hK9 : ∀ (v : Option JV) (S' : JS) (D' : JD) (H' : Heap) (locs' : List Loc) (pc' : Nat) (A' : Array Slot) (st' : List Value), Q v S' D' → JSim G S' D' H' → (∀ q ∈ locs', (gB G).size ≤ q.base) → jRet cc rt pc' v st' → W p l e R s m args below meth c H' locs' kb.1 kb.2 QM (F0 m pc' A' st'))
    (hr : va_Run p l e R s m args below meth c H locs kc.1 kc.2 b2.1 b2.2 (F0 m pc A (st0.map jv)) (st.map jv) ((fun (_ : Array Value) (_ : State) (o : Outcome) (t : State) => ∃ (v : Option JV) (S' : JS) (D' : JD), o = .returned (v.map jv) ∧ Q2 v S' D' ∧ JSim G S' D' t.heap) a) (fun q => (gB G).size ≤ q)) :
    W p l e R s m args below meth c H locs kc.1 kc.2 QM (F0 m pc A (st0.map jv)) := by
  intro T hT X
  obtain ⟨v, st₀, t, T', L, h0, X', hL, e1, e2, ⟨v', S', D', hv, hq, hs⟩, step⟩ := hr T hT X
  have hv' : v = v'.map jv := by injection hv
  subst hv'
  have K1 := hK v' S' D' hq p l e R s m args below meth c T'.heap (locs ++ L) A QM C9 h1 h2 h3 h4 (by rw [e1]; exact hs) (fun q hq => by
      rcases List.mem_append.mp hq with h | h
      · exact hl q h
      · exact hL q h) hA hK9
  obtain ⟨t2, a1, b1⟩ := K1 T' rfl X'
  refine ⟨t2, step t2 ?_, b1⟩
  have est : (v'.toList ++ st).map jv = (v'.map jv).toList ++ st.map jv := by cases v' <;> rfl
  rw [est] at a1
  exact a1
theorem jV {As : List JV} {a : Int} {ck N : Nat} {T : u_T} (hd : decode cc pc = .ok (.invokevirtual index, 3)) (hM : JM G y2 c2 n2 r2 d b2 S D (.inr (.inr (some a)) :: As) Q2)
    (hw : Cond.methodLink y.cls index y2 ∈ WG ∧ Cond.instanceMethod y2 ∈ WG ∧ Cond.selects y2.cls y2 y2 ∈ WG ∧ Cond.initialized y2.cls ∈ WG ∧ Cond.code y2 c2 n2 r2 ∈ WG) (hp : plainName y2.cls = true) (hx : y2.cls ≠ "java/lang/invoke/MethodHandle" ∧ y2.cls ≠ "java/lang/invoke/VarHandle" ∧ (parseMethodDescriptor y2.desc).map (fun d => d.parameters.length) = some As.length)
    (hn : (jarg (.inr (.inr (some a)) :: As)).length ≤ n2) (h17 : n2 ≤ 17) (hc : jcl[ck]? = some (y2.cls, T, N)) (h9 : ck < 9) (hk : jK S a = ck) (hcat : (st.map jcat).sum ≤ 8) (hb : kc.1 + b2.1 ≤ kb.1 ∧ kc.2 + b2.2 ≤ kb.2)
    (K : ∀ (v : Option JV) (S' : JS) (D' : JD), Q2 v S' D' → JX G y cc nL rt (d + 1) kb (kc.1 + b2.1, kc.2 + b2.2) S' D' (pc + 3) ls (v.toList ++ st) Q) : JX G y cc nL rt (d + 1) kb kc S D pc ls (As.reverse ++ .inr (.inr (some a)) :: st) Q := by
  intro p l e R s m args below meth c H locs A QM C9 h1 h2 h3 h4 hS hl hA hK9
  have hts := C9.2.2.2.2.1
  obtain ⟨t1, t2, r, hr, cell, q1, q2, q3, q4⟩ := hS.2.2.2.1 a ck hk h9
  have hcls := (C9.2.2.2.2.2.1.1 ck _ hc).2
  refine jback (vs := []) (As := []) (st0 := As.reverse ++ .inr (.inr (some a)) :: st) K C9 h1 h2 h3 h4 hl hA hK9 ?_ (a := (Value.ref a.toNat :: As.map jv).toArray)
  refine va_runV (As := As.map jv) (b := a.toNat) (Ts := WG) ⟨C9.1, C9.2.1, C9.2.2.1, C9.2.2.2.1, hts⟩ (jmet l hM hp hn)
    (cwV As.length hts (C := y2.cls) (jgood (fun w hw2 => ?_)) rfl rfl rfl ⟨rfl, hx⟩ ⟨by show d + 1 ≤ _; omega, by show 8 + (n2 + 11) + 36 * d ≤ _; omega⟩)
    ⟨jblind, ⟨cell, q1, by rw [q3]; rfl, by rw [q2]; exact hcls.1⟩, fun U hU hW => ⟨rfl, by rw [hU]; exact hS, C9.2.2.2.2.2.1.warm hW⟩⟩ rfl (by simp) hA.2.1 (by simp [List.map_reverse, jv_r]) ?_ hd (by omega)
  · rcases List.mem_append.mp hw2 with h | h
    · simp only [List.mem_cons, List.not_mem_nil, or_false] at h
      rcases h with rfl | rfl | rfl | rfl
      · exact hw.1
      · exact hw.2.1
      · exact hw.2.2.1
      · exact hw.2.2.2.1
    · rcases List.mem_cons.mp h with rfl | h
      · exact hw.2.2.2.2
      · exact h
  · rw [jcat_sum]
    show 2 * 0 + _ ≤ 8
    omega
theorem jI {As : List JV} {a : Int} (hd : decode cc pc = .ok (.invokespecial index, 3)) (hM : JM G y2 c2 n2 none d b2 S D (.inr (.inr (some a)) :: As) Q2)
    (hw : Cond.methodLink y.cls index y2 ∈ WG ∧ Cond.instanceMethod y2 ∈ WG ∧ Cond.initialized y2.cls ∈ WG ∧ Cond.code y2 c2 n2 none ∈ WG) (hi : y2.name = "<init>") (hp : plainName y2.cls = true) (hx : y2.cls ≠ "java/lang/invoke/MethodHandle" ∧ y2.cls ≠ "java/lang/invoke/VarHandle" ∧ (parseMethodDescriptor y2.desc).map (fun d => d.parameters.length) = some As.length)
    (hn : (jarg (.inr (.inr (some a)) :: As)).length ≤ n2) (h17 : n2 ≤ 17) (hcat : (st.map jcat).sum ≤ 8) (hb : kc.1 + b2.1 ≤ kb.1 ∧ kc.2 + b2.2 ≤ kb.2)
    (K : ∀ (v : Option JV) (S' : JS) (D' : JD), Q2 v S' D' → JX G y cc nL rt (d + 1) kb (kc.1 + b2.1, kc.2 + b2.2) S' D' (pc + 3) ls (v.toList ++ st) Q) : JX G y cc nL rt (d + 1) kb kc S D pc ls (As.reverse ++ .inr (.inr (some a)) :: st) Q := by
  intro p l e R s m args below meth c H locs A QM C9 h1 h2 h3 h4 hS hl hA hK9
  have hts := C9.2.2.2.2.1
  refine jback (vs := []) (As := []) (st0 := As.reverse ++ .inr (.inr (some a)) :: st) K C9 h1 h2 h3 h4 hl hA hK9 ?_ (a := (Value.ref a.toNat :: As.map jv).toArray)
  refine va_runI (As := As.map jv) (b := a.toNat) (Ts := WG) ⟨C9.1, C9.2.1, C9.2.2.1, C9.2.2.2.1, hts⟩ (jmet l hM hp hn)
    (cwI As.length hts (jgood_code hw.2.2.2) rfl rfl rfl (hts _ hw.2.2.1) (hts _ hw.1) (hts _ hw.2.1) hi hx ⟨by show d + 1 ≤ _; omega, by show 8 + (n2 + 11) + 36 * d ≤ _; omega⟩)
    ⟨jblind, fun U hU hW => ⟨rfl, by rw [hU]; exact hS, C9.2.2.2.2.2.1.warm hW⟩⟩ rfl (by simp) hA.2.1 (by simp [List.map_reverse, jv_r]) ?_ hd (by omega)
  rw [jcat_sum]
  show 2 * 0 + _ ≤ 8
  omega
theorem jS {As : List JV} (hd : decode cc pc = .ok (.invokestatic index, 3)) (hM : JM G y2 c2 n2 r2 d b2 S D As Q2)
    (hw : Cond.methodLink y.cls index y2 ∈ WG ∧ Cond.static y2 ∈ WG ∧ Cond.initialized y2.cls ∈ WG ∧ Cond.code y2 c2 n2 r2 ∈ WG) (hp : plainName y2.cls = true) (hx : y2.cls ≠ "java/lang/invoke/MethodHandle" ∧ y2.cls ≠ "java/lang/invoke/VarHandle" ∧ (parseMethodDescriptor y2.desc).map (fun d => d.parameters.length) = some As.length)
    (hn : (jarg As).length ≤ n2) (h17 : n2 ≤ 17) (hcat : (st.map jcat).sum ≤ 8) (hb : kc.1 + b2.1 ≤ kb.1 ∧ kc.2 + b2.2 ≤ kb.2)
    (K : ∀ (v : Option JV) (S' : JS) (D' : JD), Q2 v S' D' → JX G y cc nL rt (d + 1) kb (kc.1 + b2.1, kc.2 + b2.2) S' D' (pc + 3) ls (v.toList ++ st) Q) : JX G y cc nL rt (d + 1) kb kc S D pc ls (As.reverse ++ st) Q := by
  intro p l e R s m args below meth c H locs A QM C9 h1 h2 h3 h4 hS hl hA hK9
  have hts := C9.2.2.2.2.1
  refine jback (vs := []) (As := []) (st0 := As.reverse ++ st) K C9 h1 h2 h3 h4 hl hA hK9 ?_ (a := (As.map jv).toArray)
  refine va_runS (As := As.map jv) (Ts := WG) ⟨C9.1, C9.2.1, C9.2.2.1, C9.2.2.2.1, hts⟩ (jmet l hM hp hn)
    (va_cwS As.length hts (jgood (fun w hw2 => ?_)) rfl rfl rfl hx ⟨by show d + 1 ≤ _; omega, by show 8 + (n2 + 11) + 36 * d ≤ _; omega⟩)
    ⟨jblind, fun U hU hW => ⟨rfl, by rw [hU]; exact hS, C9.2.2.2.2.2.1.warm hW⟩⟩ rfl (by simp) hA.2.1 (by simp [List.map_reverse]) ?_ hd (by omega)
  · rcases List.mem_append.mp hw2 with h | h
    · simp only [List.mem_cons, List.not_mem_nil, or_false] at h
      rcases h with rfl | rfl | rfl
      · exact hw.1
      · exact hw.2.1
      · exact hw.2.2.1
    · rcases List.mem_cons.mp h with rfl | h
      · exact hw.2.2.2
      · exact h
  · rw [jcat_sum]
    show 2 * 0 + _ ≤ 8
    omega
/-- private members of a nest mate: a constructor, a static function -/
theorem jIN {As : List JV} {a : Int} (hd : decode cc pc = .ok (.invokespecial index, 3)) (hM : JM G y2 c2 n2 none d b2 S D (.inr (.inr (some a)) :: As) Q2)
    (hw : (y.cls, index, y2, "BargeLocks") ∈ jnest ∧ Cond.instanceMethod y2 ∈ WG ∧ Cond.initialized y2.cls ∈ WG ∧ Cond.code y2 c2 n2 none ∈ WG) (hi : y2.name = "<init>") (hp : plainName y2.cls = true) (hx : y2.cls ≠ "java/lang/invoke/MethodHandle" ∧ y2.cls ≠ "java/lang/invoke/VarHandle" ∧ (parseMethodDescriptor y2.desc).map (fun d => d.parameters.length) = some As.length)
    (hn : (jarg (.inr (.inr (some a)) :: As)).length ≤ n2) (h17 : n2 ≤ 17) (hcat : (st.map jcat).sum ≤ 8) (hb : kc.1 + b2.1 ≤ kb.1 ∧ kc.2 + b2.2 ≤ kb.2)
    (K : ∀ (v : Option JV) (S' : JS) (D' : JD), Q2 v S' D' → JX G y cc nL rt (d + 1) kb (kc.1 + b2.1, kc.2 + b2.2) S' D' (pc + 3) ls (v.toList ++ st) Q) : JX G y cc nL rt (d + 1) kb kc S D pc ls (As.reverse ++ .inr (.inr (some a)) :: st) Q := by
  intro p l e R s m args below meth c H locs A QM C9 h1 h2 h3 h4 hS hl hA hK9
  have hts := C9.2.2.2.2.1
  refine jback (vs := []) (As := []) (st0 := As.reverse ++ .inr (.inr (some a)) :: st) K C9 h1 h2 h3 h4 hl hA hK9 ?_ (a := (Value.ref a.toNat :: As.map jv).toArray)
  refine va_runIN (As := As.map jv) (b := a.toNat) (Ts := WG) ⟨C9.1, C9.2.1, C9.2.2.1, C9.2.2.2.1, hts⟩ (jmet l hM hp hn)
    ⟨va_cnB As.length hts (jgood_code hw.2.2.2) rfl rfl rfl (C9.2.2.2.2.2.1.2.2.1 _ hw.1) (hts _ hw.2.2.1) hx ⟨by show d + 1 ≤ _; omega, by show 8 + (n2 + 11) + 36 * d ≤ _; omega⟩, hi, hts _ hw.2.1⟩
    ⟨jblind, fun U hU hW => ⟨rfl, by rw [hU]; exact hS, C9.2.2.2.2.2.1.warm hW⟩⟩ rfl (by simp) hA.2.1 (by simp [List.map_reverse, jv_r]) ?_ hd (by omega)
  rw [jcat_sum]
  show 2 * 0 + _ ≤ 8
  omega
theorem jSN {As : List JV} (hd : decode cc pc = .ok (.invokestatic index, 3)) (hM : JM G y2 c2 n2 r2 d b2 S D As Q2)
    (hw : (y.cls, index, y2, "BargeLocks") ∈ jnest ∧ Cond.static y2 ∈ WG ∧ Cond.initialized y2.cls ∈ WG ∧ Cond.code y2 c2 n2 r2 ∈ WG) (hp : plainName y2.cls = true) (hx : y2.cls ≠ "java/lang/invoke/MethodHandle" ∧ y2.cls ≠ "java/lang/invoke/VarHandle" ∧ (parseMethodDescriptor y2.desc).map (fun d => d.parameters.length) = some As.length)
    (hn : (jarg As).length ≤ n2) (h17 : n2 ≤ 17) (hcat : (st.map jcat).sum ≤ 8) (hb : kc.1 + b2.1 ≤ kb.1 ∧ kc.2 + b2.2 ≤ kb.2)
    (K : ∀ (v : Option JV) (S' : JS) (D' : JD), Q2 v S' D' → JX G y cc nL rt (d + 1) kb (kc.1 + b2.1, kc.2 + b2.2) S' D' (pc + 3) ls (v.toList ++ st) Q) : JX G y cc nL rt (d + 1) kb kc S D pc ls (As.reverse ++ st) Q := by
  intro p l e R s m args below meth c H locs A QM C9 h1 h2 h3 h4 hS hl hA hK9
  have hts := C9.2.2.2.2.1
  refine jback (vs := []) (As := []) (st0 := As.reverse ++ st) K C9 h1 h2 h3 h4 hl hA hK9 ?_ (a := (As.map jv).toArray)
  refine va_runSN (As := As.map jv) (Ts := WG) ⟨C9.1, C9.2.1, C9.2.2.1, C9.2.2.2.1, hts⟩ (jmet l hM hp hn)
    ⟨va_cnB As.length hts (jgood_code hw.2.2.2) rfl rfl rfl (C9.2.2.2.2.2.1.2.2.1 _ hw.1) (hts _ hw.2.2.1) hx ⟨by show d + 1 ≤ _; omega, by show 8 + (n2 + 11) + 36 * d ≤ _; omega⟩, hts _ hw.2.1, trivial⟩
    ⟨jblind, fun U hU hW => ⟨rfl, by rw [hU]; exact hS, C9.2.2.2.2.2.1.warm hW⟩⟩ rfl (by simp) hA.2.1 (by simp [List.map_reverse]) ?_ hd (by omega)
  rw [jcat_sum]
  show 2 * 0 + _ ≤ 8
  omega
end JCALL
end
