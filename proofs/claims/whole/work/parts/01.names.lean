-- ===== PART A: goes FIRST, ahead of the names: the tables' words, and 'selects' of the private methods out of them =====
/-- a private method of a class that the tables say can be made, by its rows of tables_1 -/
def lw_okq (q : MethodName × Nat) : Prop := (q.1.cls ≠ "java/lang/invoke/MethodHandle" ∧ q.1.cls ≠ "java/lang/invoke/VarHandle") ∧ Cond.instantiable q.1.cls q.2 ∈ tables_1 ∧ Cond.privateMethod q.1 ∈ tables_1 ∧ Cond.instanceMethod q.1 ∈ tables_1
theorem lw_p0 : lw_okq (⟨"PegField$Page", "fits", "(I)Z"⟩, 2) := ⟨⟨by decide +kernel, by decide +kernel⟩, List.mem_of_getElem? (i := 19) (by decide +kernel), List.mem_of_getElem? (i := 212) (by decide +kernel), List.mem_of_getElem? (i := 213) (by decide +kernel)⟩
theorem lw_p1 : lw_okq (⟨"PegField$Page", "pegsBefore", "(I)I"⟩, 2) := ⟨⟨by decide +kernel, by decide +kernel⟩, List.mem_of_getElem? (i := 19) (by decide +kernel), List.mem_of_getElem? (i := 234) (by decide +kernel), List.mem_of_getElem? (i := 235) (by decide +kernel)⟩
theorem lw_p2 : lw_okq (⟨"PegField$Grid", "placeAt", "(II)I"⟩, 4) := ⟨⟨by decide +kernel, by decide +kernel⟩, List.mem_of_getElem? (i := 34) (by decide +kernel), List.mem_of_getElem? (i := 256) (by decide +kernel), List.mem_of_getElem? (i := 257) (by decide +kernel)⟩
theorem lw_p3 : lw_okq (⟨"PegField$State", "addPeg", "(II)V"⟩, 8) := ⟨⟨by decide +kernel, by decide +kernel⟩, List.mem_of_getElem? (i := 57) (by decide +kernel), List.mem_of_getElem? (i := 266) (by decide +kernel), List.mem_of_getElem? (i := 267) (by decide +kernel)⟩
theorem lw_p4 : lw_okq (⟨"PegField$State", "lift", "(I)V"⟩, 8) := ⟨⟨by decide +kernel, by decide +kernel⟩, List.mem_of_getElem? (i := 57) (by decide +kernel), List.mem_of_getElem? (i := 380) (by decide +kernel), List.mem_of_getElem? (i := 381) (by decide +kernel)⟩
theorem lw_p5 : lw_okq (⟨"PegField", "lookAhead", "()V"⟩, 13) := ⟨⟨by decide +kernel, by decide +kernel⟩, List.mem_of_getElem? (i := 11) (by decide +kernel), List.mem_of_getElem? (i := 410) (by decide +kernel), List.mem_of_getElem? (i := 411) (by decide +kernel)⟩
theorem lw_p6 : lw_okq (⟨"PegField", "fewestWithOneMore", "(I)I"⟩, 13) := ⟨⟨by decide +kernel, by decide +kernel⟩, List.mem_of_getElem? (i := 11) (by decide +kernel), List.mem_of_getElem? (i := 451) (by decide +kernel), List.mem_of_getElem? (i := 452) (by decide +kernel)⟩
theorem lw_p7 : lw_okq (⟨"PegFieldModel", "read", "()I"⟩, 40) := ⟨⟨by decide +kernel, by decide +kernel⟩, List.mem_of_getElem? (i := 527) (by decide +kernel), List.mem_of_getElem? (i := 670) (by decide +kernel), List.mem_of_getElem? (i := 671) (by decide +kernel)⟩
theorem lw_p8 : lw_okq (⟨"PegFieldModel", "at", "(I)I"⟩, 40) := ⟨⟨by decide +kernel, by decide +kernel⟩, List.mem_of_getElem? (i := 527) (by decide +kernel), List.mem_of_getElem? (i := 674) (by decide +kernel), List.mem_of_getElem? (i := 675) (by decide +kernel)⟩
theorem lw_p9 : lw_okq (⟨"PegFieldModel", "readPlaces", "(I)I"⟩, 40) := ⟨⟨by decide +kernel, by decide +kernel⟩, List.mem_of_getElem? (i := 527) (by decide +kernel), List.mem_of_getElem? (i := 678) (by decide +kernel), List.mem_of_getElem? (i := 679) (by decide +kernel)⟩
theorem lw_p10 : lw_okq (⟨"PegFieldModel", "places", "()I"⟩, 40) := ⟨⟨by decide +kernel, by decide +kernel⟩, List.mem_of_getElem? (i := 527) (by decide +kernel), List.mem_of_getElem? (i := 689) (by decide +kernel), List.mem_of_getElem? (i := 690) (by decide +kernel)⟩
theorem lw_p11 : lw_okq (⟨"PegFieldModel", "isPeg", "(I)Z"⟩, 40) := ⟨⟨by decide +kernel, by decide +kernel⟩, List.mem_of_getElem? (i := 527) (by decide +kernel), List.mem_of_getElem? (i := 697) (by decide +kernel), List.mem_of_getElem? (i := 698) (by decide +kernel)⟩
theorem lw_p12 : lw_okq (⟨"PegFieldModel", "pegNow", "(II)I"⟩, 40) := ⟨⟨by decide +kernel, by decide +kernel⟩, List.mem_of_getElem? (i := 527) (by decide +kernel), List.mem_of_getElem? (i := 701) (by decide +kernel), List.mem_of_getElem? (i := 702) (by decide +kernel)⟩
theorem lw_p13 : lw_okq (⟨"PegFieldModel", "putDeep", "()V"⟩, 40) := ⟨⟨by decide +kernel, by decide +kernel⟩, List.mem_of_getElem? (i := 527) (by decide +kernel), List.mem_of_getElem? (i := 705) (by decide +kernel), List.mem_of_getElem? (i := 706) (by decide +kernel)⟩
theorem lw_p14 : lw_okq (⟨"PegFieldModel", "goes", "(II)I"⟩, 40) := ⟨⟨by decide +kernel, by decide +kernel⟩, List.mem_of_getElem? (i := 527) (by decide +kernel), List.mem_of_getElem? (i := 709) (by decide +kernel), List.mem_of_getElem? (i := 710) (by decide +kernel)⟩
theorem lw_p15 : lw_okq (⟨"PegFieldModel", "isJump", "(III)Z"⟩, 40) := ⟨⟨by decide +kernel, by decide +kernel⟩, List.mem_of_getElem? (i := 527) (by decide +kernel), List.mem_of_getElem? (i := 713) (by decide +kernel), List.mem_of_getElem? (i := 714) (by decide +kernel)⟩
def lw_privs_1 : List (MethodName × Nat) := [(⟨"PegField$Page", "fits", "(I)Z"⟩, 2), (⟨"PegField$Page", "pegsBefore", "(I)I"⟩, 2), (⟨"PegField$Grid", "placeAt", "(II)I"⟩, 4), (⟨"PegField$State", "addPeg", "(II)V"⟩, 8), (⟨"PegField$State", "lift", "(I)V"⟩, 8), (⟨"PegField", "lookAhead", "()V"⟩, 13), (⟨"PegField", "fewestWithOneMore", "(I)I"⟩, 13), (⟨"PegFieldModel", "read", "()I"⟩, 40), (⟨"PegFieldModel", "at", "(I)I"⟩, 40), (⟨"PegFieldModel", "readPlaces", "(I)I"⟩, 40), (⟨"PegFieldModel", "places", "()I"⟩, 40), (⟨"PegFieldModel", "isPeg", "(I)Z"⟩, 40), (⟨"PegFieldModel", "pegNow", "(II)I"⟩, 40), (⟨"PegFieldModel", "putDeep", "()V"⟩, 40), (⟨"PegFieldModel", "goes", "(II)I"⟩, 40), (⟨"PegFieldModel", "isJump", "(III)Z"⟩, 40)]
theorem lw_r1 : ∀ q ∈ lw_privs_1, lw_okq q := List.forall_mem_cons.mpr ⟨lw_p0, List.forall_mem_cons.mpr ⟨lw_p1, List.forall_mem_cons.mpr ⟨lw_p2, List.forall_mem_cons.mpr ⟨lw_p3, List.forall_mem_cons.mpr ⟨lw_p4, List.forall_mem_cons.mpr ⟨lw_p5, List.forall_mem_cons.mpr ⟨lw_p6, List.forall_mem_cons.mpr ⟨lw_p7, List.forall_mem_cons.mpr ⟨lw_p8, List.forall_mem_cons.mpr ⟨lw_p9, List.forall_mem_cons.mpr ⟨lw_p10, List.forall_mem_cons.mpr ⟨lw_p11, List.forall_mem_cons.mpr ⟨lw_p12, List.forall_mem_cons.mpr ⟨lw_p13, List.forall_mem_cons.mpr ⟨lw_p14, List.forall_mem_cons.mpr ⟨lw_p15, fun _ h => absurd h List.not_mem_nil⟩⟩⟩⟩⟩⟩⟩⟩⟩⟩⟩⟩⟩⟩⟩⟩
theorem lw_p16 : lw_okq (⟨"PegFieldModel", "overBy", "(III)I"⟩, 40) := ⟨⟨by decide +kernel, by decide +kernel⟩, List.mem_of_getElem? (i := 527) (by decide +kernel), List.mem_of_getElem? (i := 717) (by decide +kernel), List.mem_of_getElem? (i := 718) (by decide +kernel)⟩
theorem lw_p17 : lw_okq (⟨"PegFieldModel", "whoAt", "(II)I"⟩, 40) := ⟨⟨by decide +kernel, by decide +kernel⟩, List.mem_of_getElem? (i := 527) (by decide +kernel), List.mem_of_getElem? (i := 724) (by decide +kernel), List.mem_of_getElem? (i := 725) (by decide +kernel)⟩
theorem lw_p18 : lw_okq (⟨"PegFieldModel", "goesBy", "(III)Z"⟩, 40) := ⟨⟨by decide +kernel, by decide +kernel⟩, List.mem_of_getElem? (i := 527) (by decide +kernel), List.mem_of_getElem? (i := 731) (by decide +kernel), List.mem_of_getElem? (i := 732) (by decide +kernel)⟩
theorem lw_p19 : lw_okq (⟨"PegFieldModel", "sortsOf", "(I)I"⟩, 40) := ⟨⟨by decide +kernel, by decide +kernel⟩, List.mem_of_getElem? (i := 527) (by decide +kernel), List.mem_of_getElem? (i := 735) (by decide +kernel), List.mem_of_getElem? (i := 736) (by decide +kernel)⟩
theorem lw_p20 : lw_okq (⟨"PegFieldModel", "askOf", "(I)I"⟩, 40) := ⟨⟨by decide +kernel, by decide +kernel⟩, List.mem_of_getElem? (i := 527) (by decide +kernel), List.mem_of_getElem? (i := 742) (by decide +kernel), List.mem_of_getElem? (i := 743) (by decide +kernel)⟩
theorem lw_p21 : lw_okq (⟨"PegFieldModel", "isPlace", "(I)Z"⟩, 40) := ⟨⟨by decide +kernel, by decide +kernel⟩, List.mem_of_getElem? (i := 527) (by decide +kernel), List.mem_of_getElem? (i := 758) (by decide +kernel), List.mem_of_getElem? (i := 759) (by decide +kernel)⟩
theorem lw_p22 : lw_okq (⟨"PegFieldModel", "placeNow", "(II)I"⟩, 40) := ⟨⟨by decide +kernel, by decide +kernel⟩, List.mem_of_getElem? (i := 527) (by decide +kernel), List.mem_of_getElem? (i := 762) (by decide +kernel), List.mem_of_getElem? (i := 763) (by decide +kernel)⟩
theorem lw_p23 : lw_okq (⟨"PegFieldModel", "goDeep", "(III)V"⟩, 40) := ⟨⟨by decide +kernel, by decide +kernel⟩, List.mem_of_getElem? (i := 527) (by decide +kernel), List.mem_of_getElem? (i := 770) (by decide +kernel), List.mem_of_getElem? (i := 771) (by decide +kernel)⟩
theorem lw_p24 : lw_okq (⟨"PegFieldModel", "onBoard", "(I)I"⟩, 40) := ⟨⟨by decide +kernel, by decide +kernel⟩, List.mem_of_getElem? (i := 527) (by decide +kernel), List.mem_of_getElem? (i := 774) (by decide +kernel), List.mem_of_getElem? (i := 775) (by decide +kernel)⟩
theorem lw_p25 : lw_okq (⟨"PegFieldModel", "isEmpty", "(I)Z"⟩, 40) := ⟨⟨by decide +kernel, by decide +kernel⟩, List.mem_of_getElem? (i := 527) (by decide +kernel), List.mem_of_getElem? (i := 782) (by decide +kernel), List.mem_of_getElem? (i := 783) (by decide +kernel)⟩
theorem lw_p26 : lw_okq (⟨"PegFieldModel", "coursesNow", "(I)I"⟩, 40) := ⟨⟨by decide +kernel, by decide +kernel⟩, List.mem_of_getElem? (i := 527) (by decide +kernel), List.mem_of_getElem? (i := 802) (by decide +kernel), List.mem_of_getElem? (i := 803) (by decide +kernel)⟩
theorem lw_p27 : lw_okq (⟨"PegFieldModel", "layCourses", "()V"⟩, 40) := ⟨⟨by decide +kernel, by decide +kernel⟩, List.mem_of_getElem? (i := 527) (by decide +kernel), List.mem_of_getElem? (i := 806) (by decide +kernel), List.mem_of_getElem? (i := 807) (by decide +kernel)⟩
theorem lw_p28 : lw_okq (⟨"PegFieldModel", "begin", "(I)V"⟩, 40) := ⟨⟨by decide +kernel, by decide +kernel⟩, List.mem_of_getElem? (i := 527) (by decide +kernel), List.mem_of_getElem? (i := 810) (by decide +kernel), List.mem_of_getElem? (i := 811) (by decide +kernel)⟩
theorem lw_p29 : lw_okq (⟨"PegFieldModel", "nextCode", "(I)I"⟩, 40) := ⟨⟨by decide +kernel, by decide +kernel⟩, List.mem_of_getElem? (i := 527) (by decide +kernel), List.mem_of_getElem? (i := 814) (by decide +kernel), List.mem_of_getElem? (i := 815) (by decide +kernel)⟩
theorem lw_p30 : lw_okq (⟨"PegFieldModel", "end", "(I)V"⟩, 40) := ⟨⟨by decide +kernel, by decide +kernel⟩, List.mem_of_getElem? (i := 527) (by decide +kernel), List.mem_of_getElem? (i := 818) (by decide +kernel), List.mem_of_getElem? (i := 819) (by decide +kernel)⟩
theorem lw_p31 : lw_okq (⟨"PegFieldModel", "lastPlace", "(I)I"⟩, 40) := ⟨⟨by decide +kernel, by decide +kernel⟩, List.mem_of_getElem? (i := 527) (by decide +kernel), List.mem_of_getElem? (i := 822) (by decide +kernel), List.mem_of_getElem? (i := 823) (by decide +kernel)⟩
def lw_privs_2 : List (MethodName × Nat) := [(⟨"PegFieldModel", "overBy", "(III)I"⟩, 40), (⟨"PegFieldModel", "whoAt", "(II)I"⟩, 40), (⟨"PegFieldModel", "goesBy", "(III)Z"⟩, 40), (⟨"PegFieldModel", "sortsOf", "(I)I"⟩, 40), (⟨"PegFieldModel", "askOf", "(I)I"⟩, 40), (⟨"PegFieldModel", "isPlace", "(I)Z"⟩, 40), (⟨"PegFieldModel", "placeNow", "(II)I"⟩, 40), (⟨"PegFieldModel", "goDeep", "(III)V"⟩, 40), (⟨"PegFieldModel", "onBoard", "(I)I"⟩, 40), (⟨"PegFieldModel", "isEmpty", "(I)Z"⟩, 40), (⟨"PegFieldModel", "coursesNow", "(I)I"⟩, 40), (⟨"PegFieldModel", "layCourses", "()V"⟩, 40), (⟨"PegFieldModel", "begin", "(I)V"⟩, 40), (⟨"PegFieldModel", "nextCode", "(I)I"⟩, 40), (⟨"PegFieldModel", "end", "(I)V"⟩, 40), (⟨"PegFieldModel", "lastPlace", "(I)I"⟩, 40)]
theorem lw_r2 : ∀ q ∈ lw_privs_2, lw_okq q := List.forall_mem_cons.mpr ⟨lw_p16, List.forall_mem_cons.mpr ⟨lw_p17, List.forall_mem_cons.mpr ⟨lw_p18, List.forall_mem_cons.mpr ⟨lw_p19, List.forall_mem_cons.mpr ⟨lw_p20, List.forall_mem_cons.mpr ⟨lw_p21, List.forall_mem_cons.mpr ⟨lw_p22, List.forall_mem_cons.mpr ⟨lw_p23, List.forall_mem_cons.mpr ⟨lw_p24, List.forall_mem_cons.mpr ⟨lw_p25, List.forall_mem_cons.mpr ⟨lw_p26, List.forall_mem_cons.mpr ⟨lw_p27, List.forall_mem_cons.mpr ⟨lw_p28, List.forall_mem_cons.mpr ⟨lw_p29, List.forall_mem_cons.mpr ⟨lw_p30, List.forall_mem_cons.mpr ⟨lw_p31, fun _ h => absurd h List.not_mem_nil⟩⟩⟩⟩⟩⟩⟩⟩⟩⟩⟩⟩⟩⟩⟩⟩
theorem lw_p32 : lw_okq (⟨"PegFieldModel", "takeUp", "(II)V"⟩, 40) := ⟨⟨by decide +kernel, by decide +kernel⟩, List.mem_of_getElem? (i := 527) (by decide +kernel), List.mem_of_getElem? (i := 826) (by decide +kernel), List.mem_of_getElem? (i := 827) (by decide +kernel)⟩
theorem lw_p33 : lw_okq (⟨"PegFieldModel", "winsNow", "(I)I"⟩, 40) := ⟨⟨by decide +kernel, by decide +kernel⟩, List.mem_of_getElem? (i := 527) (by decide +kernel), List.mem_of_getElem? (i := 834) (by decide +kernel), List.mem_of_getElem? (i := 835) (by decide +kernel)⟩
theorem lw_p34 : lw_okq (⟨"PegFieldModel", "addNow", "()I"⟩, 40) := ⟨⟨by decide +kernel, by decide +kernel⟩, List.mem_of_getElem? (i := 527) (by decide +kernel), List.mem_of_getElem? (i := 842) (by decide +kernel), List.mem_of_getElem? (i := 843) (by decide +kernel)⟩
theorem lw_p35 : lw_okq (⟨"PegFieldModel", "meanNow", "()I"⟩, 40) := ⟨⟨by decide +kernel, by decide +kernel⟩, List.mem_of_getElem? (i := 527) (by decide +kernel), List.mem_of_getElem? (i := 850) (by decide +kernel), List.mem_of_getElem? (i := 851) (by decide +kernel)⟩
theorem lw_p36 : lw_okq (⟨"PegFieldModel", "runsNow", "(III)I"⟩, 40) := ⟨⟨by decide +kernel, by decide +kernel⟩, List.mem_of_getElem? (i := 527) (by decide +kernel), List.mem_of_getElem? (i := 866) (by decide +kernel), List.mem_of_getElem? (i := 867) (by decide +kernel)⟩
theorem lw_p37 : lw_okq (⟨"PegFieldModel", "jumpsNow", "(I)I"⟩, 40) := ⟨⟨by decide +kernel, by decide +kernel⟩, List.mem_of_getElem? (i := 527) (by decide +kernel), List.mem_of_getElem? (i := 870) (by decide +kernel), List.mem_of_getElem? (i := 871) (by decide +kernel)⟩
theorem lw_p38 : lw_okq (⟨"PegFieldModel", "draw", "(I)I"⟩, 40) := ⟨⟨by decide +kernel, by decide +kernel⟩, List.mem_of_getElem? (i := 527) (by decide +kernel), List.mem_of_getElem? (i := 874) (by decide +kernel), List.mem_of_getElem? (i := 875) (by decide +kernel)⟩
theorem lw_p39 : lw_okq (⟨"PegFieldModel", "codeBy", "(II)I"⟩, 40) := ⟨⟨by decide +kernel, by decide +kernel⟩, List.mem_of_getElem? (i := 527) (by decide +kernel), List.mem_of_getElem? (i := 882) (by decide +kernel), List.mem_of_getElem? (i := 883) (by decide +kernel)⟩
theorem lw_p40 : lw_okq (⟨"PegFieldModel", "howMany", "(I)I"⟩, 40) := ⟨⟨by decide +kernel, by decide +kernel⟩, List.mem_of_getElem? (i := 527) (by decide +kernel), List.mem_of_getElem? (i := 898) (by decide +kernel), List.mem_of_getElem? (i := 899) (by decide +kernel)⟩
theorem lw_p41 : lw_okq (⟨"PegFieldModel", "ofBoard", "(I)I"⟩, 40) := ⟨⟨by decide +kernel, by decide +kernel⟩, List.mem_of_getElem? (i := 527) (by decide +kernel), List.mem_of_getElem? (i := 902) (by decide +kernel), List.mem_of_getElem? (i := 903) (by decide +kernel)⟩
theorem lw_p42 : lw_okq (⟨"PegFieldModel", "mix", "(J)V"⟩, 40) := ⟨⟨by decide +kernel, by decide +kernel⟩, List.mem_of_getElem? (i := 527) (by decide +kernel), List.mem_of_getElem? (i := 911) (by decide +kernel), List.mem_of_getElem? (i := 912) (by decide +kernel)⟩
theorem lw_p43 : lw_okq (⟨"PegFieldModel", "mixBoard", "()V"⟩, 40) := ⟨⟨by decide +kernel, by decide +kernel⟩, List.mem_of_getElem? (i := 527) (by decide +kernel), List.mem_of_getElem? (i := 916) (by decide +kernel), List.mem_of_getElem? (i := 917) (by decide +kernel)⟩
def lw_privs_3 : List (MethodName × Nat) := [(⟨"PegFieldModel", "takeUp", "(II)V"⟩, 40), (⟨"PegFieldModel", "winsNow", "(I)I"⟩, 40), (⟨"PegFieldModel", "addNow", "()I"⟩, 40), (⟨"PegFieldModel", "meanNow", "()I"⟩, 40), (⟨"PegFieldModel", "runsNow", "(III)I"⟩, 40), (⟨"PegFieldModel", "jumpsNow", "(I)I"⟩, 40), (⟨"PegFieldModel", "draw", "(I)I"⟩, 40), (⟨"PegFieldModel", "codeBy", "(II)I"⟩, 40), (⟨"PegFieldModel", "howMany", "(I)I"⟩, 40), (⟨"PegFieldModel", "ofBoard", "(I)I"⟩, 40), (⟨"PegFieldModel", "mix", "(J)V"⟩, 40), (⟨"PegFieldModel", "mixBoard", "()V"⟩, 40)]
theorem lw_r3 : ∀ q ∈ lw_privs_3, lw_okq q := List.forall_mem_cons.mpr ⟨lw_p32, List.forall_mem_cons.mpr ⟨lw_p33, List.forall_mem_cons.mpr ⟨lw_p34, List.forall_mem_cons.mpr ⟨lw_p35, List.forall_mem_cons.mpr ⟨lw_p36, List.forall_mem_cons.mpr ⟨lw_p37, List.forall_mem_cons.mpr ⟨lw_p38, List.forall_mem_cons.mpr ⟨lw_p39, List.forall_mem_cons.mpr ⟨lw_p40, List.forall_mem_cons.mpr ⟨lw_p41, List.forall_mem_cons.mpr ⟨lw_p42, List.forall_mem_cons.mpr ⟨lw_p43, fun _ h => absurd h List.not_mem_nil⟩⟩⟩⟩⟩⟩⟩⟩⟩⟩⟩⟩
def lw_privs : List (MethodName × Nat) := lw_privs_1 ++ (lw_privs_2 ++ (lw_privs_3))
def lw_tbl : List Cond := k2_sels lw_privs ++ tables_1
theorem lw_privs_ok : ∀ q ∈ lw_privs, lw_okq q := by
  show ∀ q ∈ lw_privs_1 ++ (lw_privs_2 ++ (lw_privs_3)), lw_okq q
  exact List.forall_mem_append.mpr ⟨lw_r1, List.forall_mem_append.mpr ⟨lw_r2, lw_r3⟩⟩
-- ===== end of PART A; then your names; then what follows =====
/-! ===== BEGIN words of one list among another's, by their places ===== -/
theorem goodIn_r {big : List Cond} (ws : List Cond) (ps : List Nat) (hp : ws = ps.filterMap (fun i => big[i]?)) (h : ws.all goodWord = true) : GoodIn big ws := by
  intro w hw
  have h1 := List.all_eq_true.mp h w hw
  rw [hp] at hw
  obtain ⟨i, -, hi⟩ := List.mem_filterMap.mp hw
  have hm : w ∈ big := by first | exact List.mem_of_getElem? hi | exact List.getElem?_mem hi
  exact ⟨hm, good_of_word h1⟩
theorem goodIn_app {big a b : List Cond} (ha : GoodIn big a) (hb : GoodIn big b) : GoodIn big (a ++ b) := fun w h => (List.mem_append.mp h).elim (ha w) (hb w)
theorem goodIn_ca {big a b : List Cond} {c : Cond} (ha : GoodIn big (c :: a)) (hb : GoodIn big b) : GoodIn big (c :: (a ++ b)) := fun w h => (List.mem_cons.mp h).elim (fun e => ha w (List.mem_cons.mpr (Or.inl e))) (fun h => (List.mem_append.mp h).elim (fun h => ha w (List.mem_cons.mpr (Or.inr h))) (hb w))
theorem goodIn_sub {big ws : List Cond} (hm : ∀ w ∈ ws, w ∈ big) (h : ws.all goodWord = true) : GoodIn big ws := fun w hw => ⟨hm w hw, good_of_word (List.all_eq_true.mp h w hw)⟩
/-! ===== END ===== -/

/-! ===== BEGIN printed: names, fields, word lists, decode rows ===== -/
def RX0 : String := "PegField$Grid"
def TX0 : u_T := fun k => match k with
  | 0 => ("PegField$Grid", "rows", "I", false)
  | 1 => ("PegField$Grid", "columns", "I", false)
  | 2 => ("PegField$Grid", "places", "I", false)
  | _ => ("PegField$Grid", "beside", "[I", true)
def tyX0 : Nat → FieldType := fun k => match k with
  | 0 => .int
  | 1 => .int
  | 2 => .int
  | _ => .array .int
abbrev wsX00 : List Cond := u_ws RX0 TX0 4
theorem nmX0 : ∀ a, a < 4 → ∀ b, b < 4 → a ≠ b → (TX0 a).2.1 ≠ (TX0 b).2.1 := by decide +kernel
theorem tyX0_ok : ∀ k, k < 4 → parseFieldDescriptor (TX0 k).2.2.1 = some (tyX0 k) := by decide +kernel
abbrev cX0_init : ByteArray := prog_2_method_1_code
def yX0_init : MethodName := ⟨RX0, "<init>", "()V"⟩
abbrev cX0_lay : ByteArray := prog_2_method_2_code
def yX0_lay : MethodName := ⟨RX0, "lay", "(II)V"⟩
abbrev cX0_placeAt : ByteArray := prog_2_method_3_code
def yX0_placeAt : MethodName := ⟨RX0, "placeAt", "(II)I"⟩
abbrev cX0_has : ByteArray := prog_2_method_4_code
def yX0_has : MethodName := ⟨RX0, "has", "(I)Z"⟩
abbrev cX0_next : ByteArray := prog_2_method_5_code
def yX0_next : MethodName := ⟨RX0, "next", "(II)I"⟩
def RX1 : String := "PegField$Outcome"
def TX1 : u_T := fun k => match k with
  | 0 => ("PegField$Outcome", "choices", "I", false)
  | 1 => ("PegField$Outcome", "fewest", "I", false)
  | 2 => ("PegField$Outcome", "first", "I", false)
  | 3 => ("PegField$Outcome", "ways", "I", false)
  | 4 => ("PegField$Outcome", "longest", "I", false)
  | 5 => ("PegField$Outcome", "shortest", "I", false)
  | 6 => ("PegField$Outcome", "alone", "I", false)
  | 7 => ("PegField$Outcome", "winning", "I", false)
  | _ => ("PegField$Outcome", "mean", "I", false)
def tyX1 : Nat → FieldType := fun k => match k with
  | 0 => .int
  | 1 => .int
  | 2 => .int
  | 3 => .int
  | 4 => .int
  | 5 => .int
  | 6 => .int
  | 7 => .int
  | _ => .int
abbrev wsX10 : List Cond := u_ws RX1 TX1 9
theorem nmX1 : ∀ a, a < 9 → ∀ b, b < 9 → a ≠ b → (TX1 a).2.1 ≠ (TX1 b).2.1 := by decide +kernel
theorem tyX1_ok : ∀ k, k < 9 → parseFieldDescriptor (TX1 k).2.2.1 = some (tyX1 k) := by decide +kernel
abbrev cX1_init : ByteArray := prog_3_method_1_code
def yX1_init : MethodName := ⟨RX1, "<init>", "()V"⟩
abbrev cX1_begin : ByteArray := prog_3_method_2_code
def yX1_begin : MethodName := ⟨RX1, "begin", "()V"⟩
abbrev cX1_take : ByteArray := prog_3_method_3_code
def yX1_take : MethodName := ⟨RX1, "take", "(ILPegField$Outcome;)V"⟩
abbrev cX1_end : ByteArray := prog_3_method_4_code
def yX1_end : MethodName := ⟨RX1, "end", "(II)V"⟩
def RX2 : String := "PegField$Page"
def TX2 : u_T := fun k => match k with
  | 0 => ("PegField$Page", "codes", "[I", true)
  | _ => ("PegField$Page", "size", "I", false)
def tyX2 : Nat → FieldType := fun k => match k with
  | 0 => .array .int
  | _ => .int
abbrev wsX20 : List Cond := u_ws RX2 TX2 2
theorem nmX2 : ∀ a, a < 2 → ∀ b, b < 2 → a ≠ b → (TX2 a).2.1 ≠ (TX2 b).2.1 := by decide +kernel
theorem tyX2_ok : ∀ k, k < 2 → parseFieldDescriptor (TX2 k).2.2.1 = some (tyX2 k) := by decide +kernel
abbrev cX2_init : ByteArray := prog_4_method_1_code
def yX2_init : MethodName := ⟨RX2, "<init>", "()V"⟩
abbrev cX2_append : ByteArray := prog_4_method_2_code
def yX2_append : MethodName := ⟨RX2, "append", "(I)Z"⟩
abbrev cX2_codeAt : ByteArray := prog_4_method_3_code
def yX2_codeAt : MethodName := ⟨RX2, "codeAt", "(I)I"⟩
abbrev cX2_digitAt : ByteArray := prog_4_method_4_code
def yX2_digitAt : MethodName := ⟨RX2, "digitAt", "(I)I"⟩
abbrev cX2_kindAt : ByteArray := prog_4_method_5_code
def yX2_kindAt : MethodName := ⟨RX2, "kindAt", "(I)I"⟩
abbrev cX2_placesTold : ByteArray := prog_4_method_6_code
def yX2_placesTold : MethodName := ⟨RX2, "placesTold", "()I"⟩
abbrev cX2_pegsBefore : ByteArray := prog_4_method_7_code
def yX2_pegsBefore : MethodName := ⟨RX2, "pegsBefore", "(I)I"⟩
abbrev cX2_fits : ByteArray := prog_4_method_8_code
def yX2_fits : MethodName := ⟨RX2, "fits", "(I)Z"⟩
abbrev cX2_firstFault : ByteArray := prog_4_method_9_code
def yX2_firstFault : MethodName := ⟨RX2, "firstFault", "()I"⟩
abbrev cX2_isBoard : ByteArray := prog_4_method_10_code
def yX2_isBoard : MethodName := ⟨RX2, "isBoard", "()Z"⟩
def RX3 : String := "PegField$Seen"
def TX3 : u_T := fun k => match k with
  | 0 => ("PegField$Seen", "pegs", "[I", true)
  | 1 => ("PegField$Seen", "sorts", "[I", true)
  | _ => ("PegField$Seen", "size", "I", false)
def tyX3 : Nat → FieldType := fun k => match k with
  | 0 => .array .int
  | 1 => .array .int
  | _ => .int
abbrev wsX30 : List Cond := u_ws RX3 TX3 3
theorem nmX3 : ∀ a, a < 3 → ∀ b, b < 3 → a ≠ b → (TX3 a).2.1 ≠ (TX3 b).2.1 := by decide +kernel
theorem tyX3_ok : ∀ k, k < 3 → parseFieldDescriptor (TX3 k).2.2.1 = some (tyX3 k) := by decide +kernel
abbrev cX3_init : ByteArray := prog_5_method_1_code
def yX3_init : MethodName := ⟨RX3, "<init>", "()V"⟩
abbrev cX3_append : ByteArray := prog_5_method_2_code
def yX3_append : MethodName := ⟨RX3, "append", "(II)Z"⟩
abbrev cX3_sortsOf : ByteArray := prog_5_method_3_code
def yX3_sortsOf : MethodName := ⟨RX3, "sortsOf", "(I)I"⟩
abbrev cX3_copyFrom : ByteArray := prog_5_method_4_code
def yX3_copyFrom : MethodName := ⟨RX3, "copyFrom", "(LPegField$Seen;)V"⟩
def RX4 : String := "PegField$State"
def TX4 : u_T := fun k => match k with
  | 0 => ("PegField$State", "grid", "LPegField$Grid;", true)
  | 1 => ("PegField$State", "holes", "I", false)
  | 2 => ("PegField$State", "pegs", "I", false)
  | 3 => ("PegField$State", "onBoard", "I", false)
  | 4 => ("PegField$State", "jumps", "I", false)
  | 5 => ("PegField$State", "kinds", "[I", true)
  | 6 => ("PegField$State", "homes", "[I", true)
  | _ => ("PegField$State", "tenants", "[I", true)
def tyX4 : Nat → FieldType := fun k => match k with
  | 0 => .object "PegField$Grid"
  | 1 => .int
  | 2 => .int
  | 3 => .int
  | 4 => .int
  | 5 => .array .int
  | 6 => .array .int
  | _ => .array .int
abbrev wsX40 : List Cond := u_ws RX4 TX4 8
theorem nmX4 : ∀ a, a < 8 → ∀ b, b < 8 → a ≠ b → (TX4 a).2.1 ≠ (TX4 b).2.1 := by decide +kernel
theorem tyX4_ok : ∀ k, k < 8 → parseFieldDescriptor (TX4 k).2.2.1 = some (tyX4 k) := by decide +kernel
abbrev cX4_init : ByteArray := prog_6_method_1_code
def yX4_init : MethodName := ⟨RX4, "<init>", "(LPegField$Grid;)V"⟩
abbrev cX4_read : ByteArray := prog_6_method_2_code
def yX4_read : MethodName := ⟨RX4, "read", "(LPegField$Page;)V"⟩
abbrev cX4_addPlain : ByteArray := prog_6_method_3_code
def yX4_addPlain : MethodName := ⟨RX4, "addPlain", "(I)V"⟩
abbrev cX4_addPeg : ByteArray := prog_6_method_4_code
def yX4_addPeg : MethodName := ⟨RX4, "addPeg", "(II)V"⟩
abbrev cX4_copyFrom : ByteArray := prog_6_method_5_code
def yX4_copyFrom : MethodName := ⟨RX4, "copyFrom", "(LPegField$State;)V"⟩
abbrev cX4_isPeg : ByteArray := prog_6_method_6_code
def yX4_isPeg : MethodName := ⟨RX4, "isPeg", "(I)Z"⟩
abbrev cX4_kindOf : ByteArray := prog_6_method_7_code
def yX4_kindOf : MethodName := ⟨RX4, "kindOf", "(I)I"⟩
abbrev cX4_homeOf : ByteArray := prog_6_method_8_code
def yX4_homeOf : MethodName := ⟨RX4, "homeOf", "(I)I"⟩
abbrev cX4_turn : ByteArray := prog_6_method_9_code
def yX4_turn : MethodName := ⟨RX4, "turn", "(II)V"⟩
abbrev cX4_isHole : ByteArray := prog_6_method_10_code
def yX4_isHole : MethodName := ⟨RX4, "isHole", "(I)Z"⟩
abbrev cX4_pegIn : ByteArray := prog_6_method_11_code
def yX4_pegIn : MethodName := ⟨RX4, "pegIn", "(I)I"⟩
abbrev cX4_isEmptyHole : ByteArray := prog_6_method_12_code
def yX4_isEmptyHole : MethodName := ⟨RX4, "isEmptyHole", "(I)Z"⟩
abbrev cX4_set : ByteArray := prog_6_method_13_code
def yX4_set : MethodName := ⟨RX4, "set", "(II)V"⟩
abbrev cX4_lift : ByteArray := prog_6_method_14_code
def yX4_lift : MethodName := ⟨RX4, "lift", "(I)V"⟩
abbrev cX4_neighbourOf : ByteArray := prog_6_method_15_code
def yX4_neighbourOf : MethodName := ⟨RX4, "neighbourOf", "(II)I"⟩
abbrev cX4_targetOf : ByteArray := prog_6_method_16_code
def yX4_targetOf : MethodName := ⟨RX4, "targetOf", "(II)I"⟩
abbrev cX4_targetsOf : ByteArray := prog_6_method_17_code
def yX4_targetsOf : MethodName := ⟨RX4, "targetsOf", "(I)I"⟩
abbrev cX4_directionTo : ByteArray := prog_6_method_18_code
def yX4_directionTo : MethodName := ⟨RX4, "directionTo", "(II)I"⟩
abbrev cX4_choices : ByteArray := prog_6_method_19_code
def yX4_choices : MethodName := ⟨RX4, "choices", "()I"⟩
abbrev cX4_leapByChoice : ByteArray := prog_6_method_20_code
def yX4_leapByChoice : MethodName := ⟨RX4, "leapByChoice", "(I)V"⟩
abbrev cX4_leap : ByteArray := prog_6_method_21_code
def yX4_leap : MethodName := ⟨RX4, "leap", "(III)V"⟩
abbrev cX4_takeBack : ByteArray := prog_6_method_22_code
def yX4_takeBack : MethodName := ⟨RX4, "takeBack", "(IIII)V"⟩
abbrev cX4_aloneBit : ByteArray := prog_6_method_23_code
def yX4_aloneBit : MethodName := ⟨RX4, "aloneBit", "()I"⟩
def RX5 : String := "PegField"
def TX5 : u_T := fun k => match k with
  | 0 => ("PegField", "page", "LPegField$Page;", true)
  | 1 => ("PegField", "grid", "LPegField$Grid;", true)
  | 2 => ("PegField", "now", "LPegField$State;", true)
  | 3 => ("PegField", "seen", "LPegField$Seen;", true)
  | 4 => ("PegField", "keptState", "LPegField$State;", true)
  | 5 => ("PegField", "keptSeen", "LPegField$Seen;", true)
  | 6 => ("PegField", "isKept", "Z", false)
  | 7 => ("PegField", "thought", "LPegField$State;", true)
  | 8 => ("PegField", "outlook", "LPegField$Outcome;", true)
  | 9 => ("PegField", "outcomes", "[LPegField$Outcome;", true)
  | 10 => ("PegField", "isLooked", "Z", false)
  | 11 => ("PegField", "reads", "I", false)
  | _ => ("PegField", "adds", "I", false)
def tyX5 : Nat → FieldType := fun k => match k with
  | 0 => .object "PegField$Page"
  | 1 => .object "PegField$Grid"
  | 2 => .object "PegField$State"
  | 3 => .object "PegField$Seen"
  | 4 => .object "PegField$State"
  | 5 => .object "PegField$Seen"
  | 6 => .boolean
  | 7 => .object "PegField$State"
  | 8 => .object "PegField$Outcome"
  | 9 => .array (.object "PegField$Outcome")
  | 10 => .boolean
  | 11 => .int
  | _ => .int
abbrev wsX50 : List Cond := u_ws RX5 TX5 13
theorem nmX5 : ∀ a, a < 13 → ∀ b, b < 13 → a ≠ b → (TX5 a).2.1 ≠ (TX5 b).2.1 := by decide +kernel
theorem tyX5_ok : ∀ k, k < 13 → parseFieldDescriptor (TX5 k).2.2.1 = some (tyX5 k) := by decide +kernel
abbrev cX5_init : ByteArray := prog_1_method_1_code
def yX5_init : MethodName := ⟨RX5, "<init>", "()V"⟩
abbrev cX5_letter : ByteArray := prog_1_method_2_code
def yX5_letter : MethodName := ⟨RX5, "letter", "(I)I"⟩
abbrev cX5_blank : ByteArray := prog_1_method_3_code
def yX5_blank : MethodName := ⟨RX5, "blank", "()I"⟩
abbrev cX5_fault : ByteArray := prog_1_method_4_code
def yX5_fault : MethodName := ⟨RX5, "fault", "()I"⟩
abbrev cX5_board : ByteArray := prog_1_method_5_code
def yX5_board : MethodName := ⟨RX5, "board", "()I"⟩
abbrev cX5_peg : ByteArray := prog_1_method_6_code
def yX5_peg : MethodName := ⟨RX5, "peg", "(II)I"⟩
abbrev cX5_as : ByteArray := prog_1_method_7_code
def yX5_as : MethodName := ⟨RX5, "as", "(II)I"⟩
abbrev cX5_place : ByteArray := prog_1_method_8_code
def yX5_place : MethodName := ⟨RX5, "place", "(II)I"⟩
abbrev cX5_jump : ByteArray := prog_1_method_9_code
def yX5_jump : MethodName := ⟨RX5, "jump", "(II)I"⟩
abbrev cX5_put : ByteArray := prog_1_method_10_code
def yX5_put : MethodName := ⟨RX5, "put", "(II)I"⟩
abbrev cX5_plug : ByteArray := prog_1_method_11_code
def yX5_plug : MethodName := ⟨RX5, "plug", "(I)I"⟩
abbrev cX5_bore : ByteArray := prog_1_method_12_code
def yX5_bore : MethodName := ⟨RX5, "bore", "(I)I"⟩
abbrev cX5_be : ByteArray := prog_1_method_13_code
def yX5_be : MethodName := ⟨RX5, "be", "(II)I"⟩
abbrev cX5_courses : ByteArray := prog_1_method_14_code
def yX5_courses : MethodName := ⟨RX5, "courses", "(I)I"⟩
abbrev cX5_wins : ByteArray := prog_1_method_15_code
def yX5_wins : MethodName := ⟨RX5, "wins", "(I)I"⟩
abbrev cX5_add : ByteArray := prog_1_method_16_code
def yX5_add : MethodName := ⟨RX5, "add", "()I"⟩
abbrev cX5_mean : ByteArray := prog_1_method_17_code
def yX5_mean : MethodName := ⟨RX5, "mean", "()I"⟩
abbrev cX5_see : ByteArray := prog_1_method_18_code
def yX5_see : MethodName := ⟨RX5, "see", "(IIZ)I"⟩
abbrev cX5_forget : ByteArray := prog_1_method_19_code
def yX5_forget : MethodName := ⟨RX5, "forget", "()I"⟩
abbrev cX5_runs : ByteArray := prog_1_method_20_code
def yX5_runs : MethodName := ⟨RX5, "runs", "(III)I"⟩
abbrev cX5_image : ByteArray := prog_1_method_21_code
def yX5_image : MethodName := ⟨RX5, "image", "()I"⟩
abbrev cX5_restore : ByteArray := prog_1_method_22_code
def yX5_restore : MethodName := ⟨RX5, "restore", "()I"⟩
abbrev cX5_count : ByteArray := prog_1_method_23_code
def yX5_count : MethodName := ⟨RX5, "count", "(I)I"⟩
abbrev cX5_digest : ByteArray := prog_1_method_24_code
def yX5_digest : MethodName := ⟨RX5, "digest", "()J"⟩
abbrev cX5_lookAhead : ByteArray := prog_1_method_25_code
def yX5_lookAhead : MethodName := ⟨RX5, "lookAhead", "()V"⟩
abbrev cX5_fewestWithOneMore : ByteArray := prog_1_method_26_code
def yX5_fewestWithOneMore : MethodName := ⟨RX5, "fewestWithOneMore", "(I)I"⟩
abbrev cX5_look : ByteArray := prog_1_method_27_code
def yX5_look : MethodName := ⟨RX5, "look", "(LPegField$State;[LPegField$Outcome;I)V"⟩
abbrev cX5_nextSeed : ByteArray := prog_1_method_28_code
def yX5_nextSeed : MethodName := ⟨RX5, "nextSeed", "(J)J"⟩
abbrev cX5_hasBit : ByteArray := prog_1_method_29_code
def yX5_hasBit : MethodName := ⟨RX5, "hasBit", "(II)Z"⟩
abbrev cX5_kindCould : ByteArray := prog_1_method_30_code
def yX5_kindCould : MethodName := ⟨RX5, "kindCould", "(II)Z"⟩
abbrev cX5_kindGoes : ByteArray := prog_1_method_31_code
def yX5_kindGoes : MethodName := ⟨RX5, "kindGoes", "(II)Z"⟩
abbrev cX5_bestQuestion : ByteArray := prog_1_method_32_code
def yX5_bestQuestion : MethodName := ⟨RX5, "bestQuestion", "(I)I"⟩
def RX6 : String := "PegFieldModel"
def TX6 : u_T := fun k => match k with
  | 0 => ("PegFieldModel", "boards", "I", false)
  | 1 => ("PegFieldModel", "high", "I", false)
  | 2 => ("PegFieldModel", "wide", "I", false)
  | 3 => ("PegFieldModel", "holes", "I", false)
  | 4 => ("PegFieldModel", "pegs", "I", false)
  | 5 => ("PegFieldModel", "kindOf", "[I", true)
  | 6 => ("PegFieldModel", "placeOf", "[I", true)
  | 7 => ("PegFieldModel", "jumps", "I", false)
  | 8 => ("PegFieldModel", "asks", "I", false)
  | 9 => ("PegFieldModel", "seen", "I", false)
  | 10 => ("PegFieldModel", "seenPeg", "[I", true)
  | 11 => ("PegFieldModel", "seenWhat", "[I", true)
  | 12 => ("PegFieldModel", "seenCould", "[I", true)
  | 13 => ("PegFieldModel", "pageLength", "I", false)
  | 14 => ("PegFieldModel", "page", "[B", true)
  | 15 => ("PegFieldModel", "isWhole", "Z", false)
  | 16 => ("PegFieldModel", "newPegs", "I", false)
  | 17 => ("PegFieldModel", "deepPlace", "[I", true)
  | 18 => ("PegFieldModel", "codeOf", "[I", true)
  | 19 => ("PegFieldModel", "jumpsOf", "[I", true)
  | 20 => ("PegFieldModel", "waysOf", "[I", true)
  | 21 => ("PegFieldModel", "fewestOf", "[I", true)
  | 22 => ("PegFieldModel", "firstOf", "[I", true)
  | 23 => ("PegFieldModel", "longestOf", "[I", true)
  | 24 => ("PegFieldModel", "shortestOf", "[I", true)
  | 25 => ("PegFieldModel", "aloneOf", "[I", true)
  | 26 => ("PegFieldModel", "winOf", "[I", true)
  | 27 => ("PegFieldModel", "sumOf", "[I", true)
  | 28 => ("PegFieldModel", "seedNow", "J", false)
  | 29 => ("PegFieldModel", "isKept", "Z", false)
  | 30 => ("PegFieldModel", "keptBoard", "I", false)
  | 31 => ("PegFieldModel", "keptHoles", "I", false)
  | 32 => ("PegFieldModel", "keptJumps", "I", false)
  | 33 => ("PegFieldModel", "keptSeen", "I", false)
  | 34 => ("PegFieldModel", "keptKind", "[I", true)
  | 35 => ("PegFieldModel", "keptPlace", "[I", true)
  | 36 => ("PegFieldModel", "keptPeg", "[I", true)
  | 37 => ("PegFieldModel", "keptWhat", "[I", true)
  | 38 => ("PegFieldModel", "keptCould", "[I", true)
  | _ => ("PegFieldModel", "h", "J", false)
def tyX6 : Nat → FieldType := fun k => match k with
  | 0 => .int
  | 1 => .int
  | 2 => .int
  | 3 => .int
  | 4 => .int
  | 5 => .array .int
  | 6 => .array .int
  | 7 => .int
  | 8 => .int
  | 9 => .int
  | 10 => .array .int
  | 11 => .array .int
  | 12 => .array .int
  | 13 => .int
  | 14 => .array .byte
  | 15 => .boolean
  | 16 => .int
  | 17 => .array .int
  | 18 => .array .int
  | 19 => .array .int
  | 20 => .array .int
  | 21 => .array .int
  | 22 => .array .int
  | 23 => .array .int
  | 24 => .array .int
  | 25 => .array .int
  | 26 => .array .int
  | 27 => .array .int
  | 28 => .long
  | 29 => .boolean
  | 30 => .int
  | 31 => .int
  | 32 => .int
  | 33 => .int
  | 34 => .array .int
  | 35 => .array .int
  | 36 => .array .int
  | 37 => .array .int
  | 38 => .array .int
  | _ => .long
abbrev wsX60 : List Cond := u_ws RX6 TX6 40
theorem nmX6 : ∀ a, a < 40 → ∀ b, b < 40 → a ≠ b → (TX6 a).2.1 ≠ (TX6 b).2.1 := by decide +kernel
theorem tyX6_ok : ∀ k, k < 40 → parseFieldDescriptor (TX6 k).2.2.1 = some (tyX6 k) := by decide +kernel
abbrev cX6_init : ByteArray := prog_8_method_1_code
def yX6_init : MethodName := ⟨RX6, "<init>", "()V"⟩
abbrev cX6_within : ByteArray := prog_8_method_3_code
def yX6_within : MethodName := ⟨RX6, "within", "(III)Z"⟩
abbrev cX6_isIn : ByteArray := prog_8_method_4_code
def yX6_isIn : MethodName := ⟨RX6, "isIn", "(II)Z"⟩
abbrev cX6_size : ByteArray := prog_8_method_5_code
def yX6_size : MethodName := ⟨RX6, "size", "(I)I"⟩
abbrev cX6_letter : ByteArray := prog_8_method_6_code
def yX6_letter : MethodName := ⟨RX6, "letter", "(I)I"⟩
abbrev cX6_blank : ByteArray := prog_8_method_7_code
def yX6_blank : MethodName := ⟨RX6, "blank", "()I"⟩
abbrev cX6_kindBy : ByteArray := prog_8_method_8_code
def yX6_kindBy : MethodName := ⟨RX6, "kindBy", "(I)I"⟩
abbrev cX6_at : ByteArray := prog_8_method_9_code
def yX6_at : MethodName := ⟨RX6, "at", "(I)I"⟩
abbrev cX6_readPlaces : ByteArray := prog_8_method_10_code
def yX6_readPlaces : MethodName := ⟨RX6, "readPlaces", "(I)I"⟩
abbrev cX6_read : ByteArray := prog_8_method_11_code
def yX6_read : MethodName := ⟨RX6, "read", "()I"⟩
abbrev cX6_fault : ByteArray := prog_8_method_12_code
def yX6_fault : MethodName := ⟨RX6, "fault", "()I"⟩
abbrev cX6_board : ByteArray := prog_8_method_13_code
def yX6_board : MethodName := ⟨RX6, "board", "()I"⟩
abbrev cX6_places : ByteArray := prog_8_method_14_code
def yX6_places : MethodName := ⟨RX6, "places", "()I"⟩
abbrev cX6_isPeg : ByteArray := prog_8_method_15_code
def yX6_isPeg : MethodName := ⟨RX6, "isPeg", "(I)Z"⟩
abbrev cX6_isPlace : ByteArray := prog_8_method_16_code
def yX6_isPlace : MethodName := ⟨RX6, "isPlace", "(I)Z"⟩
abbrev cX6_putDeep : ByteArray := prog_8_method_17_code
def yX6_putDeep : MethodName := ⟨RX6, "putDeep", "()V"⟩
abbrev cX6_whoAt : ByteArray := prog_8_method_18_code
def yX6_whoAt : MethodName := ⟨RX6, "whoAt", "(II)I"⟩
abbrev cX6_apart : ByteArray := prog_8_method_19_code
def yX6_apart : MethodName := ⟨RX6, "apart", "(II)I"⟩
abbrev cX6_goesBy : ByteArray := prog_8_method_20_code
def yX6_goesBy : MethodName := ⟨RX6, "goesBy", "(III)Z"⟩
abbrev cX6_overBy : ByteArray := prog_8_method_21_code
def yX6_overBy : MethodName := ⟨RX6, "overBy", "(III)I"⟩
abbrev cX6_isJump : ByteArray := prog_8_method_22_code
def yX6_isJump : MethodName := ⟨RX6, "isJump", "(III)Z"⟩
abbrev cX6_goDeep : ByteArray := prog_8_method_23_code
def yX6_goDeep : MethodName := ⟨RX6, "goDeep", "(III)V"⟩
abbrev cX6_onBoard : ByteArray := prog_8_method_24_code
def yX6_onBoard : MethodName := ⟨RX6, "onBoard", "(I)I"⟩
abbrev cX6_goes : ByteArray := prog_8_method_25_code
def yX6_goes : MethodName := ⟨RX6, "goes", "(II)I"⟩
abbrev cX6_jumpsNow : ByteArray := prog_8_method_26_code
def yX6_jumpsNow : MethodName := ⟨RX6, "jumpsNow", "(I)I"⟩
abbrev cX6_pegNow : ByteArray := prog_8_method_27_code
def yX6_pegNow : MethodName := ⟨RX6, "pegNow", "(II)I"⟩
abbrev cX6_peg : ByteArray := prog_8_method_28_code
def yX6_peg : MethodName := ⟨RX6, "peg", "(II)I"⟩
abbrev cX6_as : ByteArray := prog_8_method_29_code
def yX6_as : MethodName := ⟨RX6, "as", "(II)I"⟩
abbrev cX6_placeNow : ByteArray := prog_8_method_30_code
def yX6_placeNow : MethodName := ⟨RX6, "placeNow", "(II)I"⟩
abbrev cX6_place : ByteArray := prog_8_method_31_code
def yX6_place : MethodName := ⟨RX6, "place", "(II)I"⟩
abbrev cX6_jump : ByteArray := prog_8_method_32_code
def yX6_jump : MethodName := ⟨RX6, "jump", "(II)I"⟩
abbrev cX6_isEmpty : ByteArray := prog_8_method_33_code
def yX6_isEmpty : MethodName := ⟨RX6, "isEmpty", "(I)Z"⟩
abbrev cX6_put : ByteArray := prog_8_method_34_code
def yX6_put : MethodName := ⟨RX6, "put", "(II)I"⟩
abbrev cX6_plug : ByteArray := prog_8_method_35_code
def yX6_plug : MethodName := ⟨RX6, "plug", "(I)I"⟩
abbrev cX6_bore : ByteArray := prog_8_method_36_code
def yX6_bore : MethodName := ⟨RX6, "bore", "(I)I"⟩
abbrev cX6_be : ByteArray := prog_8_method_37_code
def yX6_be : MethodName := ⟨RX6, "be", "(II)I"⟩
abbrev cX6_begin : ByteArray := prog_8_method_38_code
def yX6_begin : MethodName := ⟨RX6, "begin", "(I)V"⟩
abbrev cX6_nextCode : ByteArray := prog_8_method_39_code
def yX6_nextCode : MethodName := ⟨RX6, "nextCode", "(I)I"⟩
abbrev cX6_lastPlace : ByteArray := prog_8_method_40_code
def yX6_lastPlace : MethodName := ⟨RX6, "lastPlace", "(I)I"⟩
abbrev cX6_end : ByteArray := prog_8_method_41_code
def yX6_end : MethodName := ⟨RX6, "end", "(I)V"⟩
abbrev cX6_takeUp : ByteArray := prog_8_method_42_code
def yX6_takeUp : MethodName := ⟨RX6, "takeUp", "(II)V"⟩
abbrev cX6_layCourses : ByteArray := prog_8_method_43_code
def yX6_layCourses : MethodName := ⟨RX6, "layCourses", "()V"⟩
abbrev cX6_coursesNow : ByteArray := prog_8_method_44_code
def yX6_coursesNow : MethodName := ⟨RX6, "coursesNow", "(I)I"⟩
abbrev cX6_courses : ByteArray := prog_8_method_45_code
def yX6_courses : MethodName := ⟨RX6, "courses", "(I)I"⟩
abbrev cX6_winsNow : ByteArray := prog_8_method_46_code
def yX6_winsNow : MethodName := ⟨RX6, "winsNow", "(I)I"⟩
abbrev cX6_wins : ByteArray := prog_8_method_47_code
def yX6_wins : MethodName := ⟨RX6, "wins", "(I)I"⟩
abbrev cX6_addNow : ByteArray := prog_8_method_48_code
def yX6_addNow : MethodName := ⟨RX6, "addNow", "()I"⟩
abbrev cX6_add : ByteArray := prog_8_method_49_code
def yX6_add : MethodName := ⟨RX6, "add", "()I"⟩
abbrev cX6_meanNow : ByteArray := prog_8_method_50_code
def yX6_meanNow : MethodName := ⟨RX6, "meanNow", "()I"⟩
abbrev cX6_mean : ByteArray := prog_8_method_51_code
def yX6_mean : MethodName := ⟨RX6, "mean", "()I"⟩
abbrev cX6_could : ByteArray := prog_8_method_52_code
def yX6_could : MethodName := ⟨RX6, "could", "(II)Z"⟩
abbrev cX6_see : ByteArray := prog_8_method_53_code
def yX6_see : MethodName := ⟨RX6, "see", "(IIZ)I"⟩
abbrev cX6_forget : ByteArray := prog_8_method_54_code
def yX6_forget : MethodName := ⟨RX6, "forget", "()I"⟩
abbrev cX6_sortsOf : ByteArray := prog_8_method_55_code
def yX6_sortsOf : MethodName := ⟨RX6, "sortsOf", "(I)I"⟩
abbrev cX6_askOf : ByteArray := prog_8_method_56_code
def yX6_askOf : MethodName := ⟨RX6, "askOf", "(I)I"⟩
abbrev cX6_draw : ByteArray := prog_8_method_57_code
def yX6_draw : MethodName := ⟨RX6, "draw", "(I)I"⟩
abbrev cX6_codeBy : ByteArray := prog_8_method_58_code
def yX6_codeBy : MethodName := ⟨RX6, "codeBy", "(II)I"⟩
abbrev cX6_runsNow : ByteArray := prog_8_method_59_code
def yX6_runsNow : MethodName := ⟨RX6, "runsNow", "(III)I"⟩
abbrev cX6_runs : ByteArray := prog_8_method_60_code
def yX6_runs : MethodName := ⟨RX6, "runs", "(III)I"⟩
abbrev cX6_image : ByteArray := prog_8_method_61_code
def yX6_image : MethodName := ⟨RX6, "image", "()I"⟩
abbrev cX6_restore : ByteArray := prog_8_method_62_code
def yX6_restore : MethodName := ⟨RX6, "restore", "()I"⟩
abbrev cX6_ofBoard : ByteArray := prog_8_method_63_code
def yX6_ofBoard : MethodName := ⟨RX6, "ofBoard", "(I)I"⟩
abbrev cX6_howMany : ByteArray := prog_8_method_64_code
def yX6_howMany : MethodName := ⟨RX6, "howMany", "(I)I"⟩
abbrev cX6_count : ByteArray := prog_8_method_65_code
def yX6_count : MethodName := ⟨RX6, "count", "(I)I"⟩
abbrev cX6_mix : ByteArray := prog_8_method_66_code
def yX6_mix : MethodName := ⟨RX6, "mix", "(J)V"⟩
abbrev cX6_mixBoard : ByteArray := prog_8_method_67_code
def yX6_mixBoard : MethodName := ⟨RX6, "mixBoard", "()V"⟩
abbrev cX6_digest : ByteArray := prog_8_method_68_code
def yX6_digest : MethodName := ⟨RX6, "digest", "()J"⟩
def RJ6 : String := "java/lang/Integer"
def TJ6 : u_T := fun k => match k with
  | _ => ("", "", "", false)
def tyJ6 : Nat → FieldType := fun k => match k with
  | _ => .int
abbrev wsJ60 : List Cond := u_ws RJ6 TJ6 0
theorem nmJ6 : ∀ a, a < 0 → ∀ b, b < 0 → a ≠ b → (TJ6 a).2.1 ≠ (TJ6 b).2.1 := by decide +kernel
theorem tyJ6_ok : ∀ k, k < 0 → parseFieldDescriptor (TJ6 k).2.2.1 = some (tyJ6 k) := by decide +kernel
abbrev cJ6_bitCount_0f7a4 : ByteArray := prog_9_method_49_code
def yJ6_bitCount_0f7a4 : MethodName := ⟨RJ6, "bitCount", "(I)I"⟩
def RJ9 : String := "java/lang/Math"
def TJ9 : u_T := fun k => match k with
  | _ => ("", "", "", false)
def tyJ9 : Nat → FieldType := fun k => match k with
  | _ => .int
abbrev wsJ90 : List Cond := u_ws RJ9 TJ9 0
theorem nmJ9 : ∀ a, a < 0 → ∀ b, b < 0 → a ≠ b → (TJ9 a).2.1 ≠ (TJ9 b).2.1 := by decide +kernel
theorem tyJ9_ok : ∀ k, k < 0 → parseFieldDescriptor (TJ9 k).2.2.1 = some (tyJ9 k) := by decide +kernel
abbrev cJ9_max_7cf53 : ByteArray := prog_10_method_65_code
def yJ9_max_7cf53 : MethodName := ⟨RJ9, "max", "(II)I"⟩
def RL : String := "PegFieldLaw"
abbrev cL_law : ByteArray := code
def yL_law : MethodName := ⟨RL, "law", "([I)Z"⟩
def wsX0_init : List Cond := .code yX0_init cX0_init 1 none :: ([.methodLink RX0 3 objectInit, .instanceMethod objectInit, .code objectInit ⟨#[0xb1]⟩ 1 none, .arrayClass .int, .fieldLink RX0 9 "PegField$Grid" "beside" "[I"] ++ wsX00)
def wsX0_placeAt : List Cond := .code yX0_placeAt cX0_placeAt 4 (some .int) :: ([.fieldLink RX0 15 "PegField$Grid" "rows" "I", .fieldLink RX0 19 "PegField$Grid" "columns" "I"] ++ wsX00)
def wsX0_lay : List Cond := .code yX0_lay cX0_lay 7 none :: ([.fieldLink RX0 15 "PegField$Grid" "rows" "I", .fieldLink RX0 19 "PegField$Grid" "columns" "I", .fieldLink RX0 22 "PegField$Grid" "places" "I", .fieldLink RX0 9 "PegField$Grid" "beside" "[I", .methodLink RX0 31 yX0_placeAt, .instanceMethod yX0_placeAt, .selects RX0 yX0_placeAt yX0_placeAt, .initialized RX0, .code yX0_placeAt cX0_placeAt 4 (some .int)] ++ wsX00)
def wsX0_has : List Cond := .code yX0_has cX0_has 2 (some .boolean) :: ([.fieldLink RX0 22 "PegField$Grid" "places" "I"] ++ wsX00)
def wsX0_next : List Cond := .code yX0_next cX0_next 4 (some .int) :: ([.fieldLink RX0 9 "PegField$Grid" "beside" "[I", .methodLink RX0 35 yX0_has, .instanceMethod yX0_has, .selects RX0 yX0_has yX0_has, .initialized RX0, .code yX0_has cX0_has 2 (some .boolean), .fieldLink RX0 22 "PegField$Grid" "places" "I"] ++ wsX00)
def wsX1_init : List Cond := .code yX1_init cX1_init 1 none :: ([.methodLink RX1 3 objectInit, .instanceMethod objectInit, .code objectInit ⟨#[0xb1]⟩ 1 none])
def wsX1_begin : List Cond := .code yX1_begin cX1_begin 1 none :: ([.fieldLink RX1 9 "PegField$Outcome" "choices" "I", .fieldLink RX1 15 "PegField$Outcome" "fewest" "I", .fieldLink RX1 18 "PegField$Outcome" "first" "I", .fieldLink RX1 21 "PegField$Outcome" "ways" "I", .fieldLink RX1 24 "PegField$Outcome" "longest" "I", .fieldLink RX1 27 "PegField$Outcome" "shortest" "I", .fieldLink RX1 30 "PegField$Outcome" "alone" "I", .fieldLink RX1 33 "PegField$Outcome" "winning" "I", .fieldLink RX1 36 "PegField$Outcome" "mean" "I"] ++ wsX10)
def wsX1_take : List Cond := .code yX1_take cX1_take 3 none :: ([.fieldLink RX1 9 "PegField$Outcome" "choices" "I", .fieldLink RX1 15 "PegField$Outcome" "fewest" "I", .fieldLink RX1 18 "PegField$Outcome" "first" "I", .fieldLink RX1 27 "PegField$Outcome" "shortest" "I", .fieldLink RX1 24 "PegField$Outcome" "longest" "I", .methodLink RX1 39 Lib.Math.max.name, .static Lib.Math.max.name, .initialized "java/lang/Math", .code Lib.Math.max.name Lib.Math.max.code 2 (some .int), .fieldLink RX1 21 "PegField$Outcome" "ways" "I", .fieldLink RX1 30 "PegField$Outcome" "alone" "I", .fieldLink RX1 33 "PegField$Outcome" "winning" "I", .fieldLink RX1 36 "PegField$Outcome" "mean" "I"] ++ wsX10)
def wsX1_end : List Cond := .code yX1_end cX1_end 3 none :: ([.fieldLink RX1 9 "PegField$Outcome" "choices" "I", .fieldLink RX1 36 "PegField$Outcome" "mean" "I", .fieldLink RX1 15 "PegField$Outcome" "fewest" "I", .fieldLink RX1 21 "PegField$Outcome" "ways" "I", .fieldLink RX1 30 "PegField$Outcome" "alone" "I"] ++ wsX10)
def wsX2_init : List Cond := .code yX2_init cX2_init 1 none :: ([.methodLink RX2 3 objectInit, .instanceMethod objectInit, .code objectInit ⟨#[0xb1]⟩ 1 none, .arrayClass .int, .fieldLink RX2 9 "PegField$Page" "codes" "[I"] ++ wsX20)
def wsX2_append : List Cond := .code yX2_append cX2_append 2 (some .boolean) :: ([.fieldLink RX2 15 "PegField$Page" "size" "I", .fieldLink RX2 9 "PegField$Page" "codes" "[I"] ++ wsX20)
def wsX2_codeAt : List Cond := .code yX2_codeAt cX2_codeAt 2 (some .int) :: ([.fieldLink RX2 15 "PegField$Page" "size" "I", .fieldLink RX2 9 "PegField$Page" "codes" "[I"] ++ wsX20)
def wsX2_digitAt : List Cond := .code yX2_digitAt cX2_digitAt 3 (some .int) :: ([.methodLink RX2 19 yX2_codeAt, .instanceMethod yX2_codeAt, .selects RX2 yX2_codeAt yX2_codeAt, .initialized RX2, .code yX2_codeAt cX2_codeAt 2 (some .int), .fieldLink RX2 15 "PegField$Page" "size" "I", .fieldLink RX2 9 "PegField$Page" "codes" "[I"] ++ wsX20)
def wsX2_kindAt : List Cond := .code yX2_kindAt cX2_kindAt 4 (some .int) :: ([.methodLink RX2 19 yX2_codeAt, .instanceMethod yX2_codeAt, .selects RX2 yX2_codeAt yX2_codeAt, .initialized RX2, .code yX2_codeAt cX2_codeAt 2 (some .int), .fieldLink RX2 15 "PegField$Page" "size" "I", .fieldLink RX2 9 "PegField$Page" "codes" "[I"] ++ wsX20)
def wsX2_placesTold : List Cond := .code yX2_placesTold cX2_placesTold 1 (some .int) :: ([.methodLink RX2 27 yX2_digitAt, .instanceMethod yX2_digitAt, .selects RX2 yX2_digitAt yX2_digitAt, .initialized RX2, .code yX2_digitAt cX2_digitAt 3 (some .int), .methodLink RX2 19 yX2_codeAt, .instanceMethod yX2_codeAt, .selects RX2 yX2_codeAt yX2_codeAt, .code yX2_codeAt cX2_codeAt 2 (some .int), .fieldLink RX2 15 "PegField$Page" "size" "I", .fieldLink RX2 9 "PegField$Page" "codes" "[I"] ++ wsX20)
def wsX2_pegsBefore : List Cond := .code yX2_pegsBefore cX2_pegsBefore 4 (some .int) :: ([.methodLink RX2 30 yX2_kindAt, .instanceMethod yX2_kindAt, .selects RX2 yX2_kindAt yX2_kindAt, .initialized RX2, .code yX2_kindAt cX2_kindAt 4 (some .int), .methodLink RX2 19 yX2_codeAt, .instanceMethod yX2_codeAt, .selects RX2 yX2_codeAt yX2_codeAt, .code yX2_codeAt cX2_codeAt 2 (some .int), .fieldLink RX2 15 "PegField$Page" "size" "I", .fieldLink RX2 9 "PegField$Page" "codes" "[I"] ++ wsX20)
def wsX2_fits : List Cond := .code yX2_fits cX2_fits 3 (some .boolean) :: ([.methodLink RX2 27 yX2_digitAt, .instanceMethod yX2_digitAt, .selects RX2 yX2_digitAt yX2_digitAt, .initialized RX2, .code yX2_digitAt cX2_digitAt 3 (some .int), .methodLink RX2 19 yX2_codeAt, .instanceMethod yX2_codeAt, .selects RX2 yX2_codeAt yX2_codeAt, .code yX2_codeAt cX2_codeAt 2 (some .int), .fieldLink RX2 15 "PegField$Page" "size" "I", .fieldLink RX2 9 "PegField$Page" "codes" "[I", .methodLink RX2 33 yX2_placesTold, .instanceMethod yX2_placesTold, .selects RX2 yX2_placesTold yX2_placesTold, .code yX2_placesTold cX2_placesTold 1 (some .int), .methodLink RX2 30 yX2_kindAt, .instanceMethod yX2_kindAt, .selects RX2 yX2_kindAt yX2_kindAt, .code yX2_kindAt cX2_kindAt 4 (some .int), .methodLink RX2 37 yX2_pegsBefore, .instanceMethod yX2_pegsBefore, .selects RX2 yX2_pegsBefore yX2_pegsBefore, .code yX2_pegsBefore cX2_pegsBefore 4 (some .int)] ++ wsX20)
def wsX2_firstFault_r1 : List Cond := [Cond.fieldLink RX2 15 "PegField$Page" "size" "I", Cond.methodLink RX2 40 yX2_fits, Cond.instanceMethod yX2_fits, Cond.selects RX2 yX2_fits yX2_fits, Cond.initialized RX2, Cond.code yX2_fits cX2_fits 3 (some .boolean), Cond.methodLink RX2 27 yX2_digitAt, Cond.instanceMethod yX2_digitAt, Cond.selects RX2 yX2_digitAt yX2_digitAt, Cond.code yX2_digitAt cX2_digitAt 3 (some .int), Cond.methodLink RX2 19 yX2_codeAt, Cond.instanceMethod yX2_codeAt, Cond.selects RX2 yX2_codeAt yX2_codeAt, Cond.code yX2_codeAt cX2_codeAt 2 (some .int), Cond.fieldLink RX2 9 "PegField$Page" "codes" "[I", Cond.methodLink RX2 33 yX2_placesTold, Cond.instanceMethod yX2_placesTold, Cond.selects RX2 yX2_placesTold yX2_placesTold, Cond.code yX2_placesTold cX2_placesTold 1 (some .int), Cond.methodLink RX2 30 yX2_kindAt, Cond.instanceMethod yX2_kindAt, Cond.selects RX2 yX2_kindAt yX2_kindAt, Cond.code yX2_kindAt cX2_kindAt 4 (some .int), Cond.methodLink RX2 37 yX2_pegsBefore]
def wsX2_firstFault_r2 : List Cond := [Cond.instanceMethod yX2_pegsBefore, Cond.selects RX2 yX2_pegsBefore yX2_pegsBefore, Cond.code yX2_pegsBefore cX2_pegsBefore 4 (some .int)]
def wsX2_firstFault : List Cond := .code yX2_firstFault cX2_firstFault 2 (some .int) :: ((wsX2_firstFault_r1 ++ wsX2_firstFault_r2) ++ wsX20)
def wsX2_isBoard_r1 : List Cond := [Cond.fieldLink RX2 15 "PegField$Page" "size" "I", Cond.methodLink RX2 33 yX2_placesTold, Cond.instanceMethod yX2_placesTold, Cond.selects RX2 yX2_placesTold yX2_placesTold, Cond.initialized RX2, Cond.code yX2_placesTold cX2_placesTold 1 (some .int), Cond.methodLink RX2 27 yX2_digitAt, Cond.instanceMethod yX2_digitAt, Cond.selects RX2 yX2_digitAt yX2_digitAt, Cond.code yX2_digitAt cX2_digitAt 3 (some .int), Cond.methodLink RX2 19 yX2_codeAt, Cond.instanceMethod yX2_codeAt, Cond.selects RX2 yX2_codeAt yX2_codeAt, Cond.code yX2_codeAt cX2_codeAt 2 (some .int), Cond.fieldLink RX2 9 "PegField$Page" "codes" "[I", Cond.methodLink RX2 44 yX2_firstFault, Cond.instanceMethod yX2_firstFault, Cond.selects RX2 yX2_firstFault yX2_firstFault, Cond.code yX2_firstFault cX2_firstFault 2 (some .int), Cond.methodLink RX2 40 yX2_fits, Cond.instanceMethod yX2_fits, Cond.selects RX2 yX2_fits yX2_fits, Cond.code yX2_fits cX2_fits 3 (some .boolean), Cond.methodLink RX2 30 yX2_kindAt]
def wsX2_isBoard_r2 : List Cond := [Cond.instanceMethod yX2_kindAt, Cond.selects RX2 yX2_kindAt yX2_kindAt, Cond.code yX2_kindAt cX2_kindAt 4 (some .int), Cond.methodLink RX2 37 yX2_pegsBefore, Cond.instanceMethod yX2_pegsBefore, Cond.selects RX2 yX2_pegsBefore yX2_pegsBefore, Cond.code yX2_pegsBefore cX2_pegsBefore 4 (some .int)]
def wsX2_isBoard : List Cond := .code yX2_isBoard cX2_isBoard 1 (some .boolean) :: ((wsX2_isBoard_r1 ++ wsX2_isBoard_r2) ++ wsX20)
def wsX3_init : List Cond := .code yX3_init cX3_init 1 none :: ([.methodLink RX3 3 objectInit, .instanceMethod objectInit, .code objectInit ⟨#[0xb1]⟩ 1 none, .arrayClass .int, .fieldLink RX3 9 "PegField$Seen" "pegs" "[I", .fieldLink RX3 15 "PegField$Seen" "sorts" "[I"] ++ wsX30)
def wsX3_append : List Cond := .code yX3_append cX3_append 3 (some .boolean) :: ([.fieldLink RX3 18 "PegField$Seen" "size" "I", .fieldLink RX3 9 "PegField$Seen" "pegs" "[I", .fieldLink RX3 15 "PegField$Seen" "sorts" "[I"] ++ wsX30)
def wsX3_sortsOf : List Cond := .code yX3_sortsOf cX3_sortsOf 4 (some .int) :: ([.fieldLink RX3 18 "PegField$Seen" "size" "I", .fieldLink RX3 9 "PegField$Seen" "pegs" "[I", .fieldLink RX3 15 "PegField$Seen" "sorts" "[I"] ++ wsX30)
def wsX3_copyFrom : List Cond := .code yX3_copyFrom cX3_copyFrom 3 none :: ([.fieldLink RX3 18 "PegField$Seen" "size" "I", .fieldLink RX3 9 "PegField$Seen" "pegs" "[I", .fieldLink RX3 15 "PegField$Seen" "sorts" "[I"] ++ wsX30)
def wsX4_init : List Cond := .code yX4_init cX4_init 2 none :: ([.methodLink RX4 3 objectInit, .instanceMethod objectInit, .code objectInit ⟨#[0xb1]⟩ 1 none, .arrayClass .int, .fieldLink RX4 9 "PegField$State" "kinds" "[I", .fieldLink RX4 15 "PegField$State" "homes" "[I", .fieldLink RX4 18 "PegField$State" "tenants" "[I", .fieldLink RX4 21 "PegField$State" "grid" "LPegField$Grid;"] ++ wsX40)
def wsX4_isPeg : List Cond := .code yX4_isPeg cX4_isPeg 2 (some .boolean) :: ([.fieldLink RX4 29 "PegField$State" "pegs" "I"] ++ wsX40)
def wsX4_set : List Cond := .code yX4_set cX4_set 3 none :: ([.fieldLink RX4 21 "PegField$State" "grid" "LPegField$Grid;", .fieldLink RX4 15 "PegField$State" "homes" "[I", .fieldLink RX4 18 "PegField$State" "tenants" "[I", .fieldLink RX4 32 "PegField$State" "onBoard" "I", .methodLink RX4 59 yX4_isPeg, .instanceMethod yX4_isPeg, .selects RX4 yX4_isPeg yX4_isPeg, .initialized RX4, .code yX4_isPeg cX4_isPeg 2 (some .boolean), .fieldLink RX4 29 "PegField$State" "pegs" "I", .methodLink RX4 63 yX0_has, .instanceMethod yX0_has, .selects RX0 yX0_has yX0_has, .initialized RX0, .code yX0_has cX0_has 2 (some .boolean), .fieldLink RX0 22 "PegField$Grid" "places" "I"] ++ wsX40 ++ wsX00)
def wsX4_addPeg : List Cond := .code yX4_addPeg cX4_addPeg 4 none :: ([.fieldLink RX4 29 "PegField$State" "pegs" "I", .fieldLink RX4 9 "PegField$State" "kinds" "[I", .fieldLink RX4 15 "PegField$State" "homes" "[I", .methodLink RX4 56 yX4_set, .instanceMethod yX4_set, .selects RX4 yX4_set yX4_set, .initialized RX4, .code yX4_set cX4_set 3 none, .fieldLink RX4 21 "PegField$State" "grid" "LPegField$Grid;", .fieldLink RX4 18 "PegField$State" "tenants" "[I", .fieldLink RX4 32 "PegField$State" "onBoard" "I", .methodLink RX4 59 yX4_isPeg, .instanceMethod yX4_isPeg, .selects RX4 yX4_isPeg yX4_isPeg, .code yX4_isPeg cX4_isPeg 2 (some .boolean), .methodLink RX4 63 yX0_has, .instanceMethod yX0_has, .selects RX0 yX0_has yX0_has, .initialized RX0, .code yX0_has cX0_has 2 (some .boolean), .fieldLink RX0 22 "PegField$Grid" "places" "I"] ++ wsX40 ++ wsX00)
def wsX4_read_r1 : List Cond := [Cond.fieldLink RX4 25 "PegField$State" "holes" "I", Cond.fieldLink RX4 29 "PegField$State" "pegs" "I", Cond.fieldLink RX4 32 "PegField$State" "onBoard" "I", Cond.fieldLink RX4 35 "PegField$State" "jumps" "I", Cond.fieldLink RX4 18 "PegField$State" "tenants" "[I", Cond.fieldLink RX4 21 "PegField$State" "grid" "LPegField$Grid;", Cond.methodLink RX4 43 yX2_codeAt, Cond.instanceMethod yX2_codeAt, Cond.selects RX2 yX2_codeAt yX2_codeAt, Cond.initialized RX2, Cond.code yX2_codeAt cX2_codeAt 2 (some .int), Cond.fieldLink RX2 15 "PegField$Page" "size" "I", Cond.fieldLink RX2 9 "PegField$Page" "codes" "[I", Cond.methodLink RX4 49 yX2_kindAt, Cond.instanceMethod yX2_kindAt, Cond.selects RX2 yX2_kindAt yX2_kindAt, Cond.code yX2_kindAt cX2_kindAt 4 (some .int), Cond.methodLink RX2 19 yX2_codeAt, Cond.methodLink RX4 52 yX4_addPeg, Cond.instanceMethod yX4_addPeg, Cond.selects RX4 yX4_addPeg yX4_addPeg, Cond.initialized RX4, Cond.code yX4_addPeg cX4_addPeg 4 none, Cond.fieldLink RX4 9 "PegField$State" "kinds" "[I"]
def wsX4_read_r2 : List Cond := [Cond.fieldLink RX4 15 "PegField$State" "homes" "[I", Cond.methodLink RX4 56 yX4_set, Cond.instanceMethod yX4_set, Cond.selects RX4 yX4_set yX4_set, Cond.code yX4_set cX4_set 3 none, Cond.methodLink RX4 59 yX4_isPeg, Cond.instanceMethod yX4_isPeg, Cond.selects RX4 yX4_isPeg yX4_isPeg, Cond.code yX4_isPeg cX4_isPeg 2 (some .boolean), Cond.methodLink RX4 63 yX0_has, Cond.instanceMethod yX0_has, Cond.selects RX0 yX0_has yX0_has, Cond.initialized RX0, Cond.code yX0_has cX0_has 2 (some .boolean), Cond.fieldLink RX0 22 "PegField$Grid" "places" "I"]
def wsX4_read : List Cond := .code yX4_read cX4_read 3 none :: ((wsX4_read_r1 ++ wsX4_read_r2) ++ wsX40 ++ wsX00 ++ wsX20)
def wsX4_addPlain_r1 : List Cond := [Cond.methodLink RX4 52 yX4_addPeg, Cond.instanceMethod yX4_addPeg, Cond.selects RX4 yX4_addPeg yX4_addPeg, Cond.initialized RX4, Cond.code yX4_addPeg cX4_addPeg 4 none, Cond.fieldLink RX4 29 "PegField$State" "pegs" "I", Cond.fieldLink RX4 9 "PegField$State" "kinds" "[I", Cond.fieldLink RX4 15 "PegField$State" "homes" "[I", Cond.methodLink RX4 56 yX4_set, Cond.instanceMethod yX4_set, Cond.selects RX4 yX4_set yX4_set, Cond.code yX4_set cX4_set 3 none, Cond.fieldLink RX4 21 "PegField$State" "grid" "LPegField$Grid;", Cond.fieldLink RX4 18 "PegField$State" "tenants" "[I", Cond.fieldLink RX4 32 "PegField$State" "onBoard" "I", Cond.methodLink RX4 59 yX4_isPeg, Cond.instanceMethod yX4_isPeg, Cond.selects RX4 yX4_isPeg yX4_isPeg, Cond.code yX4_isPeg cX4_isPeg 2 (some .boolean), Cond.methodLink RX4 63 yX0_has, Cond.instanceMethod yX0_has, Cond.selects RX0 yX0_has yX0_has, Cond.initialized RX0, Cond.code yX0_has cX0_has 2 (some .boolean)]
def wsX4_addPlain_r2 : List Cond := [Cond.fieldLink RX0 22 "PegField$Grid" "places" "I"]
def wsX4_addPlain : List Cond := .code yX4_addPlain cX4_addPlain 2 none :: ((wsX4_addPlain_r1 ++ wsX4_addPlain_r2) ++ wsX40 ++ wsX00)
def wsX4_copyFrom : List Cond := .code yX4_copyFrom cX4_copyFrom 3 none :: ([.fieldLink RX4 25 "PegField$State" "holes" "I", .fieldLink RX4 29 "PegField$State" "pegs" "I", .fieldLink RX4 32 "PegField$State" "onBoard" "I", .fieldLink RX4 35 "PegField$State" "jumps" "I", .fieldLink RX4 9 "PegField$State" "kinds" "[I", .fieldLink RX4 15 "PegField$State" "homes" "[I", .fieldLink RX4 18 "PegField$State" "tenants" "[I"] ++ wsX40)
def wsX4_kindOf : List Cond := .code yX4_kindOf cX4_kindOf 2 (some .int) :: ([.fieldLink RX4 9 "PegField$State" "kinds" "[I", .methodLink RX4 59 yX4_isPeg, .instanceMethod yX4_isPeg, .selects RX4 yX4_isPeg yX4_isPeg, .initialized RX4, .code yX4_isPeg cX4_isPeg 2 (some .boolean), .fieldLink RX4 29 "PegField$State" "pegs" "I"] ++ wsX40)
def wsX4_homeOf : List Cond := .code yX4_homeOf cX4_homeOf 2 (some .int) :: ([.fieldLink RX4 15 "PegField$State" "homes" "[I", .methodLink RX4 59 yX4_isPeg, .instanceMethod yX4_isPeg, .selects RX4 yX4_isPeg yX4_isPeg, .initialized RX4, .code yX4_isPeg cX4_isPeg 2 (some .boolean), .fieldLink RX4 29 "PegField$State" "pegs" "I"] ++ wsX40)
def wsX4_turn : List Cond := .code yX4_turn cX4_turn 3 none :: ([.fieldLink RX4 9 "PegField$State" "kinds" "[I", .methodLink RX4 59 yX4_isPeg, .instanceMethod yX4_isPeg, .selects RX4 yX4_isPeg yX4_isPeg, .initialized RX4, .code yX4_isPeg cX4_isPeg 2 (some .boolean), .fieldLink RX4 29 "PegField$State" "pegs" "I"] ++ wsX40)
def wsX5_hasBit : List Cond := .code yX5_hasBit cX5_hasBit 2 (some .boolean) :: ([])
def wsX4_isHole : List Cond := .code yX4_isHole cX4_isHole 2 (some .boolean) :: ([.fieldLink RX4 21 "PegField$State" "grid" "LPegField$Grid;", .fieldLink RX4 25 "PegField$State" "holes" "I", .methodLink RX4 63 yX0_has, .instanceMethod yX0_has, .selects RX0 yX0_has yX0_has, .initialized RX0, .code yX0_has cX0_has 2 (some .boolean), .fieldLink RX0 22 "PegField$Grid" "places" "I", .static yX5_hasBit, .initialized RX5, .code yX5_hasBit cX5_hasBit 2 (some .boolean)] ++ wsX40 ++ wsX00)
def wsX4_pegIn : List Cond := .code yX4_pegIn cX4_pegIn 2 (some .int) :: ([.fieldLink RX4 21 "PegField$State" "grid" "LPegField$Grid;", .fieldLink RX4 18 "PegField$State" "tenants" "[I", .methodLink RX4 63 yX0_has, .instanceMethod yX0_has, .selects RX0 yX0_has yX0_has, .initialized RX0, .code yX0_has cX0_has 2 (some .boolean), .fieldLink RX0 22 "PegField$Grid" "places" "I"] ++ wsX40 ++ wsX00)
def wsX4_isEmptyHole : List Cond := .code yX4_isEmptyHole cX4_isEmptyHole 2 (some .boolean) :: ([.fieldLink RX4 21 "PegField$State" "grid" "LPegField$Grid;", .fieldLink RX4 25 "PegField$State" "holes" "I", .fieldLink RX4 18 "PegField$State" "tenants" "[I", .methodLink RX4 63 yX0_has, .instanceMethod yX0_has, .selects RX0 yX0_has yX0_has, .initialized RX0, .code yX0_has cX0_has 2 (some .boolean), .fieldLink RX0 22 "PegField$Grid" "places" "I", .static yX5_hasBit, .initialized RX5, .code yX5_hasBit cX5_hasBit 2 (some .boolean)] ++ wsX40 ++ wsX00)
def wsX4_lift : List Cond := .code yX4_lift cX4_lift 2 none :: ([.fieldLink RX4 21 "PegField$State" "grid" "LPegField$Grid;", .fieldLink RX4 15 "PegField$State" "homes" "[I", .fieldLink RX4 18 "PegField$State" "tenants" "[I", .fieldLink RX4 32 "PegField$State" "onBoard" "I", .methodLink RX4 59 yX4_isPeg, .instanceMethod yX4_isPeg, .selects RX4 yX4_isPeg yX4_isPeg, .initialized RX4, .code yX4_isPeg cX4_isPeg 2 (some .boolean), .fieldLink RX4 29 "PegField$State" "pegs" "I", .methodLink RX4 63 yX0_has, .instanceMethod yX0_has, .selects RX0 yX0_has yX0_has, .initialized RX0, .code yX0_has cX0_has 2 (some .boolean), .fieldLink RX0 22 "PegField$Grid" "places" "I"] ++ wsX40 ++ wsX00)
def wsX4_neighbourOf_r1 : List Cond := [Cond.fieldLink RX4 21 "PegField$State" "grid" "LPegField$Grid;", Cond.methodLink RX4 70 yX4_homeOf, Cond.instanceMethod yX4_homeOf, Cond.selects RX4 yX4_homeOf yX4_homeOf, Cond.initialized RX4, Cond.code yX4_homeOf cX4_homeOf 2 (some .int), Cond.fieldLink RX4 15 "PegField$State" "homes" "[I", Cond.methodLink RX4 59 yX4_isPeg, Cond.instanceMethod yX4_isPeg, Cond.selects RX4 yX4_isPeg yX4_isPeg, Cond.code yX4_isPeg cX4_isPeg 2 (some .boolean), Cond.fieldLink RX4 29 "PegField$State" "pegs" "I", Cond.methodLink RX4 73 yX0_next, Cond.instanceMethod yX0_next, Cond.selects RX0 yX0_next yX0_next, Cond.initialized RX0, Cond.code yX0_next cX0_next 4 (some .int), Cond.fieldLink RX0 9 "PegField$Grid" "beside" "[I", Cond.methodLink RX0 35 yX0_has, Cond.instanceMethod yX0_has, Cond.selects RX0 yX0_has yX0_has, Cond.code yX0_has cX0_has 2 (some .boolean), Cond.fieldLink RX0 22 "PegField$Grid" "places" "I", Cond.methodLink RX4 77 yX4_pegIn]
def wsX4_neighbourOf_r2 : List Cond := [Cond.instanceMethod yX4_pegIn, Cond.selects RX4 yX4_pegIn yX4_pegIn, Cond.code yX4_pegIn cX4_pegIn 2 (some .int), Cond.fieldLink RX4 18 "PegField$State" "tenants" "[I", Cond.methodLink RX4 63 yX0_has]
def wsX4_neighbourOf : List Cond := .code yX4_neighbourOf cX4_neighbourOf 3 (some .int) :: ((wsX4_neighbourOf_r1 ++ wsX4_neighbourOf_r2) ++ wsX40 ++ wsX00)
def wsX5_kindGoes : List Cond := .code yX5_kindGoes cX5_kindGoes 2 (some .boolean) :: ([.fieldLink RX5 294 "PegField" "WHO_GOES" "[I", .methodLink RX5 123 yX5_hasBit, .static yX5_hasBit, .initialized RX5, .code yX5_hasBit cX5_hasBit 2 (some .boolean)])
def wsX5_kindCould : List Cond := .code yX5_kindCould cX5_kindCould 2 (some .boolean) :: ([.fieldLink RX5 203 "PegField" "WHO_COULD" "[I", .methodLink RX5 123 yX5_hasBit, .static yX5_hasBit, .initialized RX5, .code yX5_hasBit cX5_hasBit 2 (some .boolean)])
def wsX4_targetOf_r1 : List Cond := [Cond.fieldLink RX4 21 "PegField$State" "grid" "LPegField$Grid;", Cond.methodLink RX4 70 yX4_homeOf, Cond.instanceMethod yX4_homeOf, Cond.selects RX4 yX4_homeOf yX4_homeOf, Cond.initialized RX4, Cond.code yX4_homeOf cX4_homeOf 2 (some .int), Cond.fieldLink RX4 15 "PegField$State" "homes" "[I", Cond.methodLink RX4 59 yX4_isPeg, Cond.instanceMethod yX4_isPeg, Cond.selects RX4 yX4_isPeg yX4_isPeg, Cond.code yX4_isPeg cX4_isPeg 2 (some .boolean), Cond.fieldLink RX4 29 "PegField$State" "pegs" "I", Cond.methodLink RX4 73 yX0_next, Cond.instanceMethod yX0_next, Cond.selects RX0 yX0_next yX0_next, Cond.initialized RX0, Cond.code yX0_next cX0_next 4 (some .int), Cond.fieldLink RX0 9 "PegField$Grid" "beside" "[I", Cond.methodLink RX0 35 yX0_has, Cond.instanceMethod yX0_has, Cond.selects RX0 yX0_has yX0_has, Cond.code yX0_has cX0_has 2 (some .boolean), Cond.fieldLink RX0 22 "PegField$Grid" "places" "I", Cond.methodLink RX4 77 yX4_pegIn]
def wsX4_targetOf_r2 : List Cond := [Cond.instanceMethod yX4_pegIn, Cond.selects RX4 yX4_pegIn yX4_pegIn, Cond.code yX4_pegIn cX4_pegIn 2 (some .int), Cond.fieldLink RX4 18 "PegField$State" "tenants" "[I", Cond.methodLink RX4 63 yX0_has, Cond.methodLink RX4 80 yX4_kindOf, Cond.instanceMethod yX4_kindOf, Cond.selects RX4 yX4_kindOf yX4_kindOf, Cond.code yX4_kindOf cX4_kindOf 2 (some .int), Cond.fieldLink RX4 9 "PegField$State" "kinds" "[I", Cond.static yX5_kindGoes, Cond.initialized RX5, Cond.code yX5_kindGoes cX5_kindGoes 2 (some .boolean), Cond.fieldLink RX5 294 "PegField" "WHO_GOES" "[I", Cond.methodLink RX5 123 yX5_hasBit, Cond.static yX5_hasBit, Cond.code yX5_hasBit cX5_hasBit 2 (some .boolean), Cond.static yX5_kindCould, Cond.code yX5_kindCould cX5_kindCould 2 (some .boolean), Cond.fieldLink RX5 203 "PegField" "WHO_COULD" "[I", Cond.methodLink RX4 89 yX4_isEmptyHole, Cond.instanceMethod yX4_isEmptyHole, Cond.selects RX4 yX4_isEmptyHole yX4_isEmptyHole, Cond.code yX4_isEmptyHole cX4_isEmptyHole 2 (some .boolean)]
def wsX4_targetOf_r3 : List Cond := [Cond.fieldLink RX4 25 "PegField$State" "holes" "I"]
def wsX4_targetOf : List Cond := .code yX4_targetOf cX4_targetOf 6 (some .int) :: ((wsX4_targetOf_r1 ++ (wsX4_targetOf_r2 ++ wsX4_targetOf_r3)) ++ wsX40 ++ wsX00)
def wsX4_targetsOf_r1 : List Cond := [Cond.methodLink RX4 92 yX4_targetOf, Cond.instanceMethod yX4_targetOf, Cond.selects RX4 yX4_targetOf yX4_targetOf, Cond.initialized RX4, Cond.code yX4_targetOf cX4_targetOf 6 (some .int), Cond.fieldLink RX4 21 "PegField$State" "grid" "LPegField$Grid;", Cond.methodLink RX4 70 yX4_homeOf, Cond.instanceMethod yX4_homeOf, Cond.selects RX4 yX4_homeOf yX4_homeOf, Cond.code yX4_homeOf cX4_homeOf 2 (some .int), Cond.fieldLink RX4 15 "PegField$State" "homes" "[I", Cond.methodLink RX4 59 yX4_isPeg, Cond.instanceMethod yX4_isPeg, Cond.selects RX4 yX4_isPeg yX4_isPeg, Cond.code yX4_isPeg cX4_isPeg 2 (some .boolean), Cond.fieldLink RX4 29 "PegField$State" "pegs" "I", Cond.methodLink RX4 73 yX0_next, Cond.instanceMethod yX0_next, Cond.selects RX0 yX0_next yX0_next, Cond.initialized RX0, Cond.code yX0_next cX0_next 4 (some .int), Cond.fieldLink RX0 9 "PegField$Grid" "beside" "[I", Cond.methodLink RX0 35 yX0_has, Cond.instanceMethod yX0_has]
def wsX4_targetsOf_r2 : List Cond := [Cond.selects RX0 yX0_has yX0_has, Cond.code yX0_has cX0_has 2 (some .boolean), Cond.fieldLink RX0 22 "PegField$Grid" "places" "I", Cond.methodLink RX4 77 yX4_pegIn, Cond.instanceMethod yX4_pegIn, Cond.selects RX4 yX4_pegIn yX4_pegIn, Cond.code yX4_pegIn cX4_pegIn 2 (some .int), Cond.fieldLink RX4 18 "PegField$State" "tenants" "[I", Cond.methodLink RX4 63 yX0_has, Cond.methodLink RX4 80 yX4_kindOf, Cond.instanceMethod yX4_kindOf, Cond.selects RX4 yX4_kindOf yX4_kindOf, Cond.code yX4_kindOf cX4_kindOf 2 (some .int), Cond.fieldLink RX4 9 "PegField$State" "kinds" "[I", Cond.static yX5_kindGoes, Cond.initialized RX5, Cond.code yX5_kindGoes cX5_kindGoes 2 (some .boolean), Cond.fieldLink RX5 294 "PegField" "WHO_GOES" "[I", Cond.methodLink RX5 123 yX5_hasBit, Cond.static yX5_hasBit, Cond.code yX5_hasBit cX5_hasBit 2 (some .boolean), Cond.static yX5_kindCould, Cond.code yX5_kindCould cX5_kindCould 2 (some .boolean), Cond.fieldLink RX5 203 "PegField" "WHO_COULD" "[I"]
def wsX4_targetsOf_r3 : List Cond := [Cond.methodLink RX4 89 yX4_isEmptyHole, Cond.instanceMethod yX4_isEmptyHole, Cond.selects RX4 yX4_isEmptyHole yX4_isEmptyHole, Cond.code yX4_isEmptyHole cX4_isEmptyHole 2 (some .boolean), Cond.fieldLink RX4 25 "PegField$State" "holes" "I"]
def wsX4_targetsOf : List Cond := .code yX4_targetsOf cX4_targetsOf 5 (some .int) :: ((wsX4_targetsOf_r1 ++ (wsX4_targetsOf_r2 ++ wsX4_targetsOf_r3)) ++ wsX40 ++ wsX00)
def wsX4_directionTo_r1 : List Cond := [Cond.methodLink RX4 92 yX4_targetOf, Cond.instanceMethod yX4_targetOf, Cond.selects RX4 yX4_targetOf yX4_targetOf, Cond.initialized RX4, Cond.code yX4_targetOf cX4_targetOf 6 (some .int), Cond.fieldLink RX4 21 "PegField$State" "grid" "LPegField$Grid;", Cond.methodLink RX4 70 yX4_homeOf, Cond.instanceMethod yX4_homeOf, Cond.selects RX4 yX4_homeOf yX4_homeOf, Cond.code yX4_homeOf cX4_homeOf 2 (some .int), Cond.fieldLink RX4 15 "PegField$State" "homes" "[I", Cond.methodLink RX4 59 yX4_isPeg, Cond.instanceMethod yX4_isPeg, Cond.selects RX4 yX4_isPeg yX4_isPeg, Cond.code yX4_isPeg cX4_isPeg 2 (some .boolean), Cond.fieldLink RX4 29 "PegField$State" "pegs" "I", Cond.methodLink RX4 73 yX0_next, Cond.instanceMethod yX0_next, Cond.selects RX0 yX0_next yX0_next, Cond.initialized RX0, Cond.code yX0_next cX0_next 4 (some .int), Cond.fieldLink RX0 9 "PegField$Grid" "beside" "[I", Cond.methodLink RX0 35 yX0_has, Cond.instanceMethod yX0_has]
def wsX4_directionTo_r2 : List Cond := [Cond.selects RX0 yX0_has yX0_has, Cond.code yX0_has cX0_has 2 (some .boolean), Cond.fieldLink RX0 22 "PegField$Grid" "places" "I", Cond.methodLink RX4 77 yX4_pegIn, Cond.instanceMethod yX4_pegIn, Cond.selects RX4 yX4_pegIn yX4_pegIn, Cond.code yX4_pegIn cX4_pegIn 2 (some .int), Cond.fieldLink RX4 18 "PegField$State" "tenants" "[I", Cond.methodLink RX4 63 yX0_has, Cond.methodLink RX4 80 yX4_kindOf, Cond.instanceMethod yX4_kindOf, Cond.selects RX4 yX4_kindOf yX4_kindOf, Cond.code yX4_kindOf cX4_kindOf 2 (some .int), Cond.fieldLink RX4 9 "PegField$State" "kinds" "[I", Cond.static yX5_kindGoes, Cond.initialized RX5, Cond.code yX5_kindGoes cX5_kindGoes 2 (some .boolean), Cond.fieldLink RX5 294 "PegField" "WHO_GOES" "[I", Cond.methodLink RX5 123 yX5_hasBit, Cond.static yX5_hasBit, Cond.code yX5_hasBit cX5_hasBit 2 (some .boolean), Cond.static yX5_kindCould, Cond.code yX5_kindCould cX5_kindCould 2 (some .boolean), Cond.fieldLink RX5 203 "PegField" "WHO_COULD" "[I"]
def wsX4_directionTo_r3 : List Cond := [Cond.methodLink RX4 89 yX4_isEmptyHole, Cond.instanceMethod yX4_isEmptyHole, Cond.selects RX4 yX4_isEmptyHole yX4_isEmptyHole, Cond.code yX4_isEmptyHole cX4_isEmptyHole 2 (some .boolean), Cond.fieldLink RX4 25 "PegField$State" "holes" "I"]
def wsX4_directionTo : List Cond := .code yX4_directionTo cX4_directionTo 4 (some .int) :: ((wsX4_directionTo_r1 ++ (wsX4_directionTo_r2 ++ wsX4_directionTo_r3)) ++ wsX40 ++ wsX00)
def wsJ6_bitCount_0f7a4 : List Cond := .code yJ6_bitCount_0f7a4 cJ6_bitCount_0f7a4 1 (some .int) :: ([.constant RJ6 265 (1431655765), .constant RJ6 266 (858993459), .constant RJ6 267 (252645135)])
def wsX4_choices_r1 : List Cond := [Cond.fieldLink RX4 29 "PegField$State" "pegs" "I", Cond.methodLink RX4 95 yX4_targetsOf, Cond.instanceMethod yX4_targetsOf, Cond.selects RX4 yX4_targetsOf yX4_targetsOf, Cond.initialized RX4, Cond.code yX4_targetsOf cX4_targetsOf 5 (some .int), Cond.methodLink RX4 92 yX4_targetOf, Cond.instanceMethod yX4_targetOf, Cond.selects RX4 yX4_targetOf yX4_targetOf, Cond.code yX4_targetOf cX4_targetOf 6 (some .int), Cond.fieldLink RX4 21 "PegField$State" "grid" "LPegField$Grid;", Cond.methodLink RX4 70 yX4_homeOf, Cond.instanceMethod yX4_homeOf, Cond.selects RX4 yX4_homeOf yX4_homeOf, Cond.code yX4_homeOf cX4_homeOf 2 (some .int), Cond.fieldLink RX4 15 "PegField$State" "homes" "[I", Cond.methodLink RX4 59 yX4_isPeg, Cond.instanceMethod yX4_isPeg, Cond.selects RX4 yX4_isPeg yX4_isPeg, Cond.code yX4_isPeg cX4_isPeg 2 (some .boolean), Cond.methodLink RX4 73 yX0_next, Cond.instanceMethod yX0_next, Cond.selects RX0 yX0_next yX0_next, Cond.initialized RX0]
def wsX4_choices_r2 : List Cond := [Cond.code yX0_next cX0_next 4 (some .int), Cond.fieldLink RX0 9 "PegField$Grid" "beside" "[I", Cond.methodLink RX0 35 yX0_has, Cond.instanceMethod yX0_has, Cond.selects RX0 yX0_has yX0_has, Cond.code yX0_has cX0_has 2 (some .boolean), Cond.fieldLink RX0 22 "PegField$Grid" "places" "I", Cond.methodLink RX4 77 yX4_pegIn, Cond.instanceMethod yX4_pegIn, Cond.selects RX4 yX4_pegIn yX4_pegIn, Cond.code yX4_pegIn cX4_pegIn 2 (some .int), Cond.fieldLink RX4 18 "PegField$State" "tenants" "[I", Cond.methodLink RX4 63 yX0_has, Cond.methodLink RX4 80 yX4_kindOf, Cond.instanceMethod yX4_kindOf, Cond.selects RX4 yX4_kindOf yX4_kindOf, Cond.code yX4_kindOf cX4_kindOf 2 (some .int), Cond.fieldLink RX4 9 "PegField$State" "kinds" "[I", Cond.static yX5_kindGoes, Cond.initialized RX5, Cond.code yX5_kindGoes cX5_kindGoes 2 (some .boolean), Cond.fieldLink RX5 294 "PegField" "WHO_GOES" "[I", Cond.methodLink RX5 123 yX5_hasBit, Cond.static yX5_hasBit]
def wsX4_choices_r3 : List Cond := [Cond.code yX5_hasBit cX5_hasBit 2 (some .boolean), Cond.static yX5_kindCould, Cond.code yX5_kindCould cX5_kindCould 2 (some .boolean), Cond.fieldLink RX5 203 "PegField" "WHO_COULD" "[I", Cond.methodLink RX4 89 yX4_isEmptyHole, Cond.instanceMethod yX4_isEmptyHole, Cond.selects RX4 yX4_isEmptyHole yX4_isEmptyHole, Cond.code yX4_isEmptyHole cX4_isEmptyHole 2 (some .boolean), Cond.fieldLink RX4 25 "PegField$State" "holes" "I", Cond.methodLink RX4 98 yJ6_bitCount_0f7a4, Cond.static yJ6_bitCount_0f7a4, Cond.initialized RJ6, Cond.code yJ6_bitCount_0f7a4 cJ6_bitCount_0f7a4 1 (some .int), Cond.constant RJ6 265 (1431655765), Cond.constant RJ6 266 (858993459), Cond.constant RJ6 267 (252645135)]
def wsX4_choices : List Cond := .code yX4_choices cX4_choices 3 (some .int) :: ((wsX4_choices_r1 ++ (wsX4_choices_r2 ++ wsX4_choices_r3)) ++ wsX40 ++ wsX00)
def wsX4_leap_r1 : List Cond := [Cond.methodLink RX4 110 yX4_lift, Cond.instanceMethod yX4_lift, Cond.selects RX4 yX4_lift yX4_lift, Cond.initialized RX4, Cond.code yX4_lift cX4_lift 2 none, Cond.fieldLink RX4 21 "PegField$State" "grid" "LPegField$Grid;", Cond.fieldLink RX4 15 "PegField$State" "homes" "[I", Cond.fieldLink RX4 18 "PegField$State" "tenants" "[I", Cond.fieldLink RX4 32 "PegField$State" "onBoard" "I", Cond.methodLink RX4 59 yX4_isPeg, Cond.instanceMethod yX4_isPeg, Cond.selects RX4 yX4_isPeg yX4_isPeg, Cond.code yX4_isPeg cX4_isPeg 2 (some .boolean), Cond.fieldLink RX4 29 "PegField$State" "pegs" "I", Cond.methodLink RX4 63 yX0_has, Cond.instanceMethod yX0_has, Cond.selects RX0 yX0_has yX0_has, Cond.initialized RX0, Cond.code yX0_has cX0_has 2 (some .boolean), Cond.fieldLink RX0 22 "PegField$Grid" "places" "I", Cond.methodLink RX4 80 yX4_kindOf, Cond.instanceMethod yX4_kindOf, Cond.selects RX4 yX4_kindOf yX4_kindOf, Cond.code yX4_kindOf cX4_kindOf 2 (some .int)]
def wsX4_leap_r2 : List Cond := [Cond.fieldLink RX4 9 "PegField$State" "kinds" "[I", Cond.static yX5_kindCould, Cond.initialized RX5, Cond.code yX5_kindCould cX5_kindCould 2 (some .boolean), Cond.fieldLink RX5 203 "PegField" "WHO_COULD" "[I", Cond.methodLink RX5 123 yX5_hasBit, Cond.static yX5_hasBit, Cond.code yX5_hasBit cX5_hasBit 2 (some .boolean), Cond.methodLink RX4 56 yX4_set, Cond.instanceMethod yX4_set, Cond.selects RX4 yX4_set yX4_set, Cond.code yX4_set cX4_set 3 none]
def wsX4_leap : List Cond := .code yX4_leap cX4_leap 4 none :: ((wsX4_leap_r1 ++ wsX4_leap_r2) ++ wsX40 ++ wsX00)
def wsX4_leapByChoice_r1 : List Cond := [Cond.fieldLink RX4 29 "PegField$State" "pegs" "I", Cond.methodLink RX4 92 yX4_targetOf, Cond.instanceMethod yX4_targetOf, Cond.selects RX4 yX4_targetOf yX4_targetOf, Cond.initialized RX4, Cond.code yX4_targetOf cX4_targetOf 6 (some .int), Cond.fieldLink RX4 21 "PegField$State" "grid" "LPegField$Grid;", Cond.methodLink RX4 70 yX4_homeOf, Cond.instanceMethod yX4_homeOf, Cond.selects RX4 yX4_homeOf yX4_homeOf, Cond.code yX4_homeOf cX4_homeOf 2 (some .int), Cond.fieldLink RX4 15 "PegField$State" "homes" "[I", Cond.methodLink RX4 59 yX4_isPeg, Cond.instanceMethod yX4_isPeg, Cond.selects RX4 yX4_isPeg yX4_isPeg, Cond.code yX4_isPeg cX4_isPeg 2 (some .boolean), Cond.methodLink RX4 73 yX0_next, Cond.instanceMethod yX0_next, Cond.selects RX0 yX0_next yX0_next, Cond.initialized RX0, Cond.code yX0_next cX0_next 4 (some .int), Cond.fieldLink RX0 9 "PegField$Grid" "beside" "[I", Cond.methodLink RX0 35 yX0_has, Cond.instanceMethod yX0_has]
def wsX4_leapByChoice_r2 : List Cond := [Cond.selects RX0 yX0_has yX0_has, Cond.code yX0_has cX0_has 2 (some .boolean), Cond.fieldLink RX0 22 "PegField$Grid" "places" "I", Cond.methodLink RX4 77 yX4_pegIn, Cond.instanceMethod yX4_pegIn, Cond.selects RX4 yX4_pegIn yX4_pegIn, Cond.code yX4_pegIn cX4_pegIn 2 (some .int), Cond.fieldLink RX4 18 "PegField$State" "tenants" "[I", Cond.methodLink RX4 63 yX0_has, Cond.methodLink RX4 80 yX4_kindOf, Cond.instanceMethod yX4_kindOf, Cond.selects RX4 yX4_kindOf yX4_kindOf, Cond.code yX4_kindOf cX4_kindOf 2 (some .int), Cond.fieldLink RX4 9 "PegField$State" "kinds" "[I", Cond.static yX5_kindGoes, Cond.initialized RX5, Cond.code yX5_kindGoes cX5_kindGoes 2 (some .boolean), Cond.fieldLink RX5 294 "PegField" "WHO_GOES" "[I", Cond.methodLink RX5 123 yX5_hasBit, Cond.static yX5_hasBit, Cond.code yX5_hasBit cX5_hasBit 2 (some .boolean), Cond.static yX5_kindCould, Cond.code yX5_kindCould cX5_kindCould 2 (some .boolean), Cond.fieldLink RX5 203 "PegField" "WHO_COULD" "[I"]
def wsX4_leapByChoice_r3 : List Cond := [Cond.methodLink RX4 89 yX4_isEmptyHole, Cond.instanceMethod yX4_isEmptyHole, Cond.selects RX4 yX4_isEmptyHole yX4_isEmptyHole, Cond.code yX4_isEmptyHole cX4_isEmptyHole 2 (some .boolean), Cond.fieldLink RX4 25 "PegField$State" "holes" "I", Cond.methodLink RX4 103 yX4_neighbourOf, Cond.instanceMethod yX4_neighbourOf, Cond.selects RX4 yX4_neighbourOf yX4_neighbourOf, Cond.code yX4_neighbourOf cX4_neighbourOf 3 (some .int), Cond.methodLink RX4 106 yX4_leap, Cond.instanceMethod yX4_leap, Cond.selects RX4 yX4_leap yX4_leap, Cond.code yX4_leap cX4_leap 4 none, Cond.methodLink RX4 110 yX4_lift, Cond.instanceMethod yX4_lift, Cond.selects RX4 yX4_lift yX4_lift, Cond.code yX4_lift cX4_lift 2 none, Cond.fieldLink RX4 32 "PegField$State" "onBoard" "I", Cond.methodLink RX4 56 yX4_set, Cond.instanceMethod yX4_set, Cond.selects RX4 yX4_set yX4_set, Cond.code yX4_set cX4_set 3 none]
def wsX4_leapByChoice : List Cond := .code yX4_leapByChoice cX4_leapByChoice 6 none :: ((wsX4_leapByChoice_r1 ++ (wsX4_leapByChoice_r2 ++ wsX4_leapByChoice_r3)) ++ wsX40 ++ wsX00)
def wsX4_takeBack_r1 : List Cond := [Cond.fieldLink RX4 21 "PegField$State" "grid" "LPegField$Grid;", Cond.methodLink RX4 110 yX4_lift, Cond.instanceMethod yX4_lift, Cond.selects RX4 yX4_lift yX4_lift, Cond.initialized RX4, Cond.code yX4_lift cX4_lift 2 none, Cond.fieldLink RX4 15 "PegField$State" "homes" "[I", Cond.fieldLink RX4 18 "PegField$State" "tenants" "[I", Cond.fieldLink RX4 32 "PegField$State" "onBoard" "I", Cond.methodLink RX4 59 yX4_isPeg, Cond.instanceMethod yX4_isPeg, Cond.selects RX4 yX4_isPeg yX4_isPeg, Cond.code yX4_isPeg cX4_isPeg 2 (some .boolean), Cond.fieldLink RX4 29 "PegField$State" "pegs" "I", Cond.methodLink RX4 63 yX0_has, Cond.instanceMethod yX0_has, Cond.selects RX0 yX0_has yX0_has, Cond.initialized RX0, Cond.code yX0_has cX0_has 2 (some .boolean), Cond.fieldLink RX0 22 "PegField$Grid" "places" "I", Cond.methodLink RX4 56 yX4_set, Cond.instanceMethod yX4_set, Cond.selects RX4 yX4_set yX4_set, Cond.code yX4_set cX4_set 3 none]
def wsX4_takeBack_r2 : List Cond := [Cond.methodLink RX4 73 yX0_next, Cond.instanceMethod yX0_next, Cond.selects RX0 yX0_next yX0_next, Cond.code yX0_next cX0_next 4 (some .int), Cond.fieldLink RX0 9 "PegField$Grid" "beside" "[I", Cond.methodLink RX0 35 yX0_has]
def wsX4_takeBack : List Cond := .code yX4_takeBack cX4_takeBack 5 none :: ((wsX4_takeBack_r1 ++ wsX4_takeBack_r2) ++ wsX40 ++ wsX00)
def wsX4_aloneBit : List Cond := .code yX4_aloneBit cX4_aloneBit 4 (some .int) :: ([.fieldLink RX4 32 "PegField$State" "onBoard" "I", .fieldLink RX4 29 "PegField$State" "pegs" "I", .methodLink RX4 70 yX4_homeOf, .instanceMethod yX4_homeOf, .selects RX4 yX4_homeOf yX4_homeOf, .initialized RX4, .code yX4_homeOf cX4_homeOf 2 (some .int), .fieldLink RX4 15 "PegField$State" "homes" "[I", .methodLink RX4 59 yX4_isPeg, .instanceMethod yX4_isPeg, .selects RX4 yX4_isPeg yX4_isPeg, .code yX4_isPeg cX4_isPeg 2 (some .boolean)] ++ wsX40)
def wsX5_init_r1 : List Cond := [Cond.methodLink RX5 3 objectInit, Cond.instanceMethod objectInit, Cond.code objectInit ⟨#[0xb1]⟩ 1 none, Cond.classLink RX5 9 RX2, Cond.instantiable RX2 2, Cond.initialized RX2, Cond.fieldLink RX5 12 "PegField" "page" "LPegField$Page;", Cond.classLink RX5 16 RX0, Cond.instantiable RX0 4, Cond.initialized RX0, Cond.fieldLink RX5 19 "PegField" "grid" "LPegField$Grid;", Cond.classLink RX5 23 RX4, Cond.instantiable RX4 8, Cond.initialized RX4, Cond.fieldLink RX5 28 "PegField" "now" "LPegField$State;", Cond.classLink RX5 32 RX3, Cond.instantiable RX3 3, Cond.initialized RX3, Cond.fieldLink RX5 35 "PegField" "seen" "LPegField$Seen;", Cond.fieldLink RX5 39 "PegField" "keptState" "LPegField$State;", Cond.fieldLink RX5 42 "PegField" "keptSeen" "LPegField$Seen;", Cond.fieldLink RX5 45 "PegField" "thought" "LPegField$State;", Cond.classLink RX5 48 RX1, Cond.instantiable RX1 9]
def wsX5_init_r2 : List Cond := [Cond.initialized RX1, Cond.fieldLink RX5 51 "PegField" "outlook" "LPegField$Outcome;", Cond.fieldLink RX5 55 "PegField" "outcomes" "[LPegField$Outcome;", Cond.instanceMethod yX2_init, Cond.code yX2_init cX2_init 1 none, Cond.methodLink RX2 3 objectInit, Cond.arrayClass .int, Cond.fieldLink RX2 9 "PegField$Page" "codes" "[I", Cond.instanceMethod yX0_init, Cond.code yX0_init cX0_init 1 none, Cond.methodLink RX0 3 objectInit, Cond.fieldLink RX0 9 "PegField$Grid" "beside" "[I", Cond.methodLink RX5 25 yX4_init, Cond.instanceMethod yX4_init, Cond.code yX4_init cX4_init 2 none, Cond.methodLink RX4 3 objectInit, Cond.fieldLink RX4 9 "PegField$State" "kinds" "[I", Cond.fieldLink RX4 15 "PegField$State" "homes" "[I", Cond.fieldLink RX4 18 "PegField$State" "tenants" "[I", Cond.fieldLink RX4 21 "PegField$State" "grid" "LPegField$Grid;", Cond.instanceMethod yX3_init, Cond.code yX3_init cX3_init 1 none, Cond.methodLink RX3 3 objectInit, Cond.fieldLink RX3 9 "PegField$Seen" "pegs" "[I"]
def wsX5_init_r3 : List Cond := [Cond.fieldLink RX3 15 "PegField$Seen" "sorts" "[I", Cond.instanceMethod yX1_init, Cond.code yX1_init cX1_init 1 none, Cond.methodLink RX1 3 objectInit]
def wsX5_init : List Cond := .code yX5_init cX5_init 2 none :: ((wsX5_init_r1 ++ (wsX5_init_r2 ++ wsX5_init_r3)) ++ wsX20 ++ wsX50 ++ wsX00 ++ wsX40 ++ wsX30 ++ wsX10)
def wsX5_letter : List Cond := .code yX5_letter cX5_letter 2 (some .int) :: ([.fieldLink RX5 12 "PegField" "page" "LPegField$Page;", .methodLink RX5 59 yX2_append, .instanceMethod yX2_append, .selects RX2 yX2_append yX2_append, .initialized RX2, .code yX2_append cX2_append 2 (some .boolean), .fieldLink RX2 15 "PegField$Page" "size" "I", .fieldLink RX2 9 "PegField$Page" "codes" "[I"] ++ wsX50 ++ wsX20)
def wsX5_blank : List Cond := .code yX5_blank cX5_blank 2 (some .int) :: ([.fieldLink RX5 12 "PegField" "page" "LPegField$Page;"] ++ wsX50 ++ wsX20)
def wsX5_fault_r1 : List Cond := [Cond.fieldLink RX5 12 "PegField" "page" "LPegField$Page;", Cond.methodLink RX5 67 yX2_firstFault, Cond.instanceMethod yX2_firstFault, Cond.selects RX2 yX2_firstFault yX2_firstFault, Cond.initialized RX2, Cond.code yX2_firstFault cX2_firstFault 2 (some .int), Cond.fieldLink RX2 15 "PegField$Page" "size" "I", Cond.methodLink RX2 40 yX2_fits, Cond.instanceMethod yX2_fits, Cond.selects RX2 yX2_fits yX2_fits, Cond.code yX2_fits cX2_fits 3 (some .boolean), Cond.methodLink RX2 27 yX2_digitAt, Cond.instanceMethod yX2_digitAt, Cond.selects RX2 yX2_digitAt yX2_digitAt, Cond.code yX2_digitAt cX2_digitAt 3 (some .int), Cond.methodLink RX2 19 yX2_codeAt, Cond.instanceMethod yX2_codeAt, Cond.selects RX2 yX2_codeAt yX2_codeAt, Cond.code yX2_codeAt cX2_codeAt 2 (some .int), Cond.fieldLink RX2 9 "PegField$Page" "codes" "[I", Cond.methodLink RX2 33 yX2_placesTold, Cond.instanceMethod yX2_placesTold, Cond.selects RX2 yX2_placesTold yX2_placesTold, Cond.code yX2_placesTold cX2_placesTold 1 (some .int)]
def wsX5_fault_r2 : List Cond := [Cond.methodLink RX2 30 yX2_kindAt, Cond.instanceMethod yX2_kindAt, Cond.selects RX2 yX2_kindAt yX2_kindAt, Cond.code yX2_kindAt cX2_kindAt 4 (some .int), Cond.methodLink RX2 37 yX2_pegsBefore, Cond.instanceMethod yX2_pegsBefore, Cond.selects RX2 yX2_pegsBefore yX2_pegsBefore, Cond.code yX2_pegsBefore cX2_pegsBefore 4 (some .int)]
def wsX5_fault : List Cond := .code yX5_fault cX5_fault 1 (some .int) :: ((wsX5_fault_r1 ++ wsX5_fault_r2) ++ wsX50 ++ wsX20)
def wsX5_board_r1 : List Cond := [Cond.fieldLink RX5 12 "PegField" "page" "LPegField$Page;", Cond.fieldLink RX5 19 "PegField" "grid" "LPegField$Grid;", Cond.fieldLink RX5 28 "PegField" "now" "LPegField$State;", Cond.fieldLink RX5 35 "PegField" "seen" "LPegField$Seen;", Cond.fieldLink RX5 88 "PegField" "isKept" "Z", Cond.fieldLink RX5 92 "PegField" "isLooked" "Z", Cond.fieldLink RX5 95 "PegField" "reads" "I", Cond.methodLink RX5 71 yX2_isBoard, Cond.instanceMethod yX2_isBoard, Cond.selects RX2 yX2_isBoard yX2_isBoard, Cond.initialized RX2, Cond.code yX2_isBoard cX2_isBoard 1 (some .boolean), Cond.fieldLink RX2 15 "PegField$Page" "size" "I", Cond.methodLink RX2 33 yX2_placesTold, Cond.instanceMethod yX2_placesTold, Cond.selects RX2 yX2_placesTold yX2_placesTold, Cond.code yX2_placesTold cX2_placesTold 1 (some .int), Cond.methodLink RX2 27 yX2_digitAt, Cond.instanceMethod yX2_digitAt, Cond.selects RX2 yX2_digitAt yX2_digitAt, Cond.code yX2_digitAt cX2_digitAt 3 (some .int), Cond.methodLink RX2 19 yX2_codeAt, Cond.instanceMethod yX2_codeAt, Cond.selects RX2 yX2_codeAt yX2_codeAt]
def wsX5_board_r2 : List Cond := [Cond.code yX2_codeAt cX2_codeAt 2 (some .int), Cond.fieldLink RX2 9 "PegField$Page" "codes" "[I", Cond.methodLink RX2 44 yX2_firstFault, Cond.instanceMethod yX2_firstFault, Cond.selects RX2 yX2_firstFault yX2_firstFault, Cond.code yX2_firstFault cX2_firstFault 2 (some .int), Cond.methodLink RX2 40 yX2_fits, Cond.instanceMethod yX2_fits, Cond.selects RX2 yX2_fits yX2_fits, Cond.code yX2_fits cX2_fits 3 (some .boolean), Cond.methodLink RX2 30 yX2_kindAt, Cond.instanceMethod yX2_kindAt, Cond.selects RX2 yX2_kindAt yX2_kindAt, Cond.code yX2_kindAt cX2_kindAt 4 (some .int), Cond.methodLink RX2 37 yX2_pegsBefore, Cond.instanceMethod yX2_pegsBefore, Cond.selects RX2 yX2_pegsBefore yX2_pegsBefore, Cond.code yX2_pegsBefore cX2_pegsBefore 4 (some .int), Cond.methodLink RX5 75 yX2_digitAt, Cond.methodLink RX5 79 yX0_lay, Cond.instanceMethod yX0_lay, Cond.selects RX0 yX0_lay yX0_lay, Cond.initialized RX0, Cond.code yX0_lay cX0_lay 7 none]
def wsX5_board_r3 : List Cond := [Cond.fieldLink RX0 15 "PegField$Grid" "rows" "I", Cond.fieldLink RX0 19 "PegField$Grid" "columns" "I", Cond.fieldLink RX0 22 "PegField$Grid" "places" "I", Cond.fieldLink RX0 9 "PegField$Grid" "beside" "[I", Cond.methodLink RX0 31 yX0_placeAt, Cond.instanceMethod yX0_placeAt, Cond.selects RX0 yX0_placeAt yX0_placeAt, Cond.code yX0_placeAt cX0_placeAt 4 (some .int), Cond.methodLink RX5 83 yX4_read, Cond.instanceMethod yX4_read, Cond.selects RX4 yX4_read yX4_read, Cond.initialized RX4, Cond.code yX4_read cX4_read 3 none, Cond.fieldLink RX4 25 "PegField$State" "holes" "I", Cond.fieldLink RX4 29 "PegField$State" "pegs" "I", Cond.fieldLink RX4 32 "PegField$State" "onBoard" "I", Cond.fieldLink RX4 35 "PegField$State" "jumps" "I", Cond.fieldLink RX4 18 "PegField$State" "tenants" "[I", Cond.fieldLink RX4 21 "PegField$State" "grid" "LPegField$Grid;", Cond.methodLink RX4 43 yX2_codeAt, Cond.methodLink RX4 49 yX2_kindAt, Cond.methodLink RX4 52 yX4_addPeg, Cond.instanceMethod yX4_addPeg, Cond.selects RX4 yX4_addPeg yX4_addPeg]
def wsX5_board_r4 : List Cond := [Cond.code yX4_addPeg cX4_addPeg 4 none, Cond.fieldLink RX4 9 "PegField$State" "kinds" "[I", Cond.fieldLink RX4 15 "PegField$State" "homes" "[I", Cond.methodLink RX4 56 yX4_set, Cond.instanceMethod yX4_set, Cond.selects RX4 yX4_set yX4_set, Cond.code yX4_set cX4_set 3 none, Cond.methodLink RX4 59 yX4_isPeg, Cond.instanceMethod yX4_isPeg, Cond.selects RX4 yX4_isPeg yX4_isPeg, Cond.code yX4_isPeg cX4_isPeg 2 (some .boolean), Cond.methodLink RX4 63 yX0_has, Cond.instanceMethod yX0_has, Cond.selects RX0 yX0_has yX0_has, Cond.code yX0_has cX0_has 2 (some .boolean)]
def wsX5_board : List Cond := .code yX5_board cX5_board 1 (some .int) :: ((wsX5_board_r1 ++ (wsX5_board_r2 ++ (wsX5_board_r3 ++ wsX5_board_r4))) ++ wsX50 ++ wsX30 ++ wsX20 ++ wsX40 ++ wsX00)
def wsX5_bestQuestion : List Cond := .code yX5_bestQuestion cX5_bestQuestion 5 (some .int) :: ([.fieldLink RX5 203 "PegField" "WHO_COULD" "[I", .methodLink RX5 297 Lib.Math.max.name, .static Lib.Math.max.name, .initialized "java/lang/Math", .code Lib.Math.max.name Lib.Math.max.code 2 (some .int), .methodLink RX5 162 yJ6_bitCount_0f7a4, .static yJ6_bitCount_0f7a4, .initialized RJ6, .code yJ6_bitCount_0f7a4 cJ6_bitCount_0f7a4 1 (some .int), .constant RJ6 265 (1431655765), .constant RJ6 266 (858993459), .constant RJ6 267 (252645135)])
def wsX5_peg_r1 : List Cond := [Cond.fieldLink RX5 28 "PegField" "now" "LPegField$State;", Cond.fieldLink RX5 35 "PegField" "seen" "LPegField$Seen;", Cond.methodLink RX5 101 yX4_isPeg, Cond.instanceMethod yX4_isPeg, Cond.selects RX4 yX4_isPeg yX4_isPeg, Cond.initialized RX4, Cond.code yX4_isPeg cX4_isPeg 2 (some .boolean), Cond.fieldLink RX4 29 "PegField$State" "pegs" "I", Cond.methodLink RX5 104 yX4_kindOf, Cond.instanceMethod yX4_kindOf, Cond.selects RX4 yX4_kindOf yX4_kindOf, Cond.code yX4_kindOf cX4_kindOf 2 (some .int), Cond.fieldLink RX4 9 "PegField$State" "kinds" "[I", Cond.methodLink RX4 59 yX4_isPeg, Cond.methodLink RX5 107 yX4_homeOf, Cond.instanceMethod yX4_homeOf, Cond.selects RX4 yX4_homeOf yX4_homeOf, Cond.code yX4_homeOf cX4_homeOf 2 (some .int), Cond.fieldLink RX4 15 "PegField$State" "homes" "[I", Cond.methodLink RX5 110 yX4_targetsOf, Cond.instanceMethod yX4_targetsOf, Cond.selects RX4 yX4_targetsOf yX4_targetsOf, Cond.code yX4_targetsOf cX4_targetsOf 5 (some .int), Cond.methodLink RX4 92 yX4_targetOf]
def wsX5_peg_r2 : List Cond := [Cond.instanceMethod yX4_targetOf, Cond.selects RX4 yX4_targetOf yX4_targetOf, Cond.code yX4_targetOf cX4_targetOf 6 (some .int), Cond.fieldLink RX4 21 "PegField$State" "grid" "LPegField$Grid;", Cond.methodLink RX4 70 yX4_homeOf, Cond.methodLink RX4 73 yX0_next, Cond.instanceMethod yX0_next, Cond.selects RX0 yX0_next yX0_next, Cond.initialized RX0, Cond.code yX0_next cX0_next 4 (some .int), Cond.fieldLink RX0 9 "PegField$Grid" "beside" "[I", Cond.methodLink RX0 35 yX0_has, Cond.instanceMethod yX0_has, Cond.selects RX0 yX0_has yX0_has, Cond.code yX0_has cX0_has 2 (some .boolean), Cond.fieldLink RX0 22 "PegField$Grid" "places" "I", Cond.methodLink RX4 77 yX4_pegIn, Cond.instanceMethod yX4_pegIn, Cond.selects RX4 yX4_pegIn yX4_pegIn, Cond.code yX4_pegIn cX4_pegIn 2 (some .int), Cond.fieldLink RX4 18 "PegField$State" "tenants" "[I", Cond.methodLink RX4 63 yX0_has, Cond.methodLink RX4 80 yX4_kindOf, Cond.static yX5_kindGoes]
def wsX5_peg_r3 : List Cond := [Cond.initialized RX5, Cond.code yX5_kindGoes cX5_kindGoes 2 (some .boolean), Cond.fieldLink RX5 294 "PegField" "WHO_GOES" "[I", Cond.methodLink RX5 123 yX5_hasBit, Cond.static yX5_hasBit, Cond.code yX5_hasBit cX5_hasBit 2 (some .boolean), Cond.static yX5_kindCould, Cond.code yX5_kindCould cX5_kindCould 2 (some .boolean), Cond.fieldLink RX5 203 "PegField" "WHO_COULD" "[I", Cond.methodLink RX4 89 yX4_isEmptyHole, Cond.instanceMethod yX4_isEmptyHole, Cond.selects RX4 yX4_isEmptyHole yX4_isEmptyHole, Cond.code yX4_isEmptyHole cX4_isEmptyHole 2 (some .boolean), Cond.fieldLink RX4 25 "PegField$State" "holes" "I", Cond.methodLink RX5 113 yX3_sortsOf, Cond.instanceMethod yX3_sortsOf, Cond.selects RX3 yX3_sortsOf yX3_sortsOf, Cond.initialized RX3, Cond.code yX3_sortsOf cX3_sortsOf 4 (some .int), Cond.fieldLink RX3 18 "PegField$Seen" "size" "I", Cond.fieldLink RX3 9 "PegField$Seen" "pegs" "[I", Cond.fieldLink RX3 15 "PegField$Seen" "sorts" "[I", Cond.methodLink RX5 116 yX5_bestQuestion, Cond.static yX5_bestQuestion]
def wsX5_peg_r4 : List Cond := [Cond.code yX5_bestQuestion cX5_bestQuestion 5 (some .int), Cond.methodLink RX5 297 Lib.Math.max.name, Cond.static Lib.Math.max.name, Cond.initialized "java/lang/Math", Cond.code Lib.Math.max.name Lib.Math.max.code 2 (some .int), Cond.methodLink RX5 162 yJ6_bitCount_0f7a4, Cond.static yJ6_bitCount_0f7a4, Cond.initialized RJ6, Cond.code yJ6_bitCount_0f7a4 cJ6_bitCount_0f7a4 1 (some .int), Cond.constant RJ6 265 (1431655765), Cond.constant RJ6 266 (858993459), Cond.constant RJ6 267 (252645135)]
def wsX5_peg : List Cond := .code yX5_peg cX5_peg 3 (some .int) :: ((wsX5_peg_r1 ++ (wsX5_peg_r2 ++ (wsX5_peg_r3 ++ wsX5_peg_r4))) ++ wsX50 ++ wsX40 ++ wsX00 ++ wsX30)
def wsX5_as : List Cond := .code yX5_as cX5_as 3 (some .int) :: ([.fieldLink RX5 28 "PegField" "now" "LPegField$State;", .fieldLink RX5 119 "PegField" "TAKEN_AS" "[I", .methodLink RX5 101 yX4_isPeg, .instanceMethod yX4_isPeg, .selects RX4 yX4_isPeg yX4_isPeg, .initialized RX4, .code yX4_isPeg cX4_isPeg 2 (some .boolean), .fieldLink RX4 29 "PegField$State" "pegs" "I", .methodLink RX5 104 yX4_kindOf, .instanceMethod yX4_kindOf, .selects RX4 yX4_kindOf yX4_kindOf, .code yX4_kindOf cX4_kindOf 2 (some .int), .fieldLink RX4 9 "PegField$State" "kinds" "[I", .methodLink RX4 59 yX4_isPeg, .methodLink RX5 123 yX5_hasBit, .static yX5_hasBit, .initialized RX5, .code yX5_hasBit cX5_hasBit 2 (some .boolean)] ++ wsX50 ++ wsX40)
def wsX5_place : List Cond := .code yX5_place cX5_place 3 (some .int) :: ([.fieldLink RX5 19 "PegField" "grid" "LPegField$Grid;", .fieldLink RX5 28 "PegField" "now" "LPegField$State;", .methodLink RX5 127 yX0_has, .instanceMethod yX0_has, .selects RX0 yX0_has yX0_has, .initialized RX0, .code yX0_has cX0_has 2 (some .boolean), .fieldLink RX0 22 "PegField$Grid" "places" "I", .methodLink RX5 130 yX4_isHole, .instanceMethod yX4_isHole, .selects RX4 yX4_isHole yX4_isHole, .initialized RX4, .code yX4_isHole cX4_isHole 2 (some .boolean), .fieldLink RX4 21 "PegField$State" "grid" "LPegField$Grid;", .fieldLink RX4 25 "PegField$State" "holes" "I", .methodLink RX4 63 yX0_has, .static yX5_hasBit, .initialized RX5, .code yX5_hasBit cX5_hasBit 2 (some .boolean), .methodLink RX5 133 yX4_pegIn, .instanceMethod yX4_pegIn, .selects RX4 yX4_pegIn yX4_pegIn, .code yX4_pegIn cX4_pegIn 2 (some .int), .fieldLink RX4 18 "PegField$State" "tenants" "[I"] ++ wsX50 ++ wsX00 ++ wsX40)
def wsX5_jump_r1 : List Cond := [Cond.fieldLink RX5 28 "PegField" "now" "LPegField$State;", Cond.fieldLink RX5 19 "PegField" "grid" "LPegField$Grid;", Cond.fieldLink RX5 92 "PegField" "isLooked" "Z", Cond.methodLink RX5 101 yX4_isPeg, Cond.instanceMethod yX4_isPeg, Cond.selects RX4 yX4_isPeg yX4_isPeg, Cond.initialized RX4, Cond.code yX4_isPeg cX4_isPeg 2 (some .boolean), Cond.fieldLink RX4 29 "PegField$State" "pegs" "I", Cond.methodLink RX5 127 yX0_has, Cond.instanceMethod yX0_has, Cond.selects RX0 yX0_has yX0_has, Cond.initialized RX0, Cond.code yX0_has cX0_has 2 (some .boolean), Cond.fieldLink RX0 22 "PegField$Grid" "places" "I", Cond.methodLink RX5 136 yX4_directionTo, Cond.instanceMethod yX4_directionTo, Cond.selects RX4 yX4_directionTo yX4_directionTo, Cond.code yX4_directionTo cX4_directionTo 4 (some .int), Cond.methodLink RX4 92 yX4_targetOf, Cond.instanceMethod yX4_targetOf, Cond.selects RX4 yX4_targetOf yX4_targetOf, Cond.code yX4_targetOf cX4_targetOf 6 (some .int), Cond.fieldLink RX4 21 "PegField$State" "grid" "LPegField$Grid;"]
def wsX5_jump_r2 : List Cond := [Cond.methodLink RX4 70 yX4_homeOf, Cond.instanceMethod yX4_homeOf, Cond.selects RX4 yX4_homeOf yX4_homeOf, Cond.code yX4_homeOf cX4_homeOf 2 (some .int), Cond.fieldLink RX4 15 "PegField$State" "homes" "[I", Cond.methodLink RX4 59 yX4_isPeg, Cond.methodLink RX4 73 yX0_next, Cond.instanceMethod yX0_next, Cond.selects RX0 yX0_next yX0_next, Cond.code yX0_next cX0_next 4 (some .int), Cond.fieldLink RX0 9 "PegField$Grid" "beside" "[I", Cond.methodLink RX0 35 yX0_has, Cond.methodLink RX4 77 yX4_pegIn, Cond.instanceMethod yX4_pegIn, Cond.selects RX4 yX4_pegIn yX4_pegIn, Cond.code yX4_pegIn cX4_pegIn 2 (some .int), Cond.fieldLink RX4 18 "PegField$State" "tenants" "[I", Cond.methodLink RX4 63 yX0_has, Cond.methodLink RX4 80 yX4_kindOf, Cond.instanceMethod yX4_kindOf, Cond.selects RX4 yX4_kindOf yX4_kindOf, Cond.code yX4_kindOf cX4_kindOf 2 (some .int), Cond.fieldLink RX4 9 "PegField$State" "kinds" "[I", Cond.static yX5_kindGoes]
def wsX5_jump_r3 : List Cond := [Cond.initialized RX5, Cond.code yX5_kindGoes cX5_kindGoes 2 (some .boolean), Cond.fieldLink RX5 294 "PegField" "WHO_GOES" "[I", Cond.methodLink RX5 123 yX5_hasBit, Cond.static yX5_hasBit, Cond.code yX5_hasBit cX5_hasBit 2 (some .boolean), Cond.static yX5_kindCould, Cond.code yX5_kindCould cX5_kindCould 2 (some .boolean), Cond.fieldLink RX5 203 "PegField" "WHO_COULD" "[I", Cond.methodLink RX4 89 yX4_isEmptyHole, Cond.instanceMethod yX4_isEmptyHole, Cond.selects RX4 yX4_isEmptyHole yX4_isEmptyHole, Cond.code yX4_isEmptyHole cX4_isEmptyHole 2 (some .boolean), Cond.fieldLink RX4 25 "PegField$State" "holes" "I", Cond.methodLink RX5 143 yX4_neighbourOf, Cond.instanceMethod yX4_neighbourOf, Cond.selects RX4 yX4_neighbourOf yX4_neighbourOf, Cond.code yX4_neighbourOf cX4_neighbourOf 3 (some .int), Cond.methodLink RX5 146 yX4_leap, Cond.instanceMethod yX4_leap, Cond.selects RX4 yX4_leap yX4_leap, Cond.code yX4_leap cX4_leap 4 none, Cond.methodLink RX4 110 yX4_lift, Cond.instanceMethod yX4_lift]
def wsX5_jump_r4 : List Cond := [Cond.selects RX4 yX4_lift yX4_lift, Cond.code yX4_lift cX4_lift 2 none, Cond.fieldLink RX4 32 "PegField$State" "onBoard" "I", Cond.methodLink RX4 56 yX4_set, Cond.instanceMethod yX4_set, Cond.selects RX4 yX4_set yX4_set, Cond.code yX4_set cX4_set 3 none]
def wsX5_jump : List Cond := .code yX5_jump cX5_jump 4 (some .int) :: ((wsX5_jump_r1 ++ (wsX5_jump_r2 ++ (wsX5_jump_r3 ++ wsX5_jump_r4))) ++ wsX50 ++ wsX40 ++ wsX00)
def wsX5_put_r1 : List Cond := [Cond.fieldLink RX5 28 "PegField" "now" "LPegField$State;", Cond.fieldLink RX5 19 "PegField" "grid" "LPegField$Grid;", Cond.fieldLink RX5 92 "PegField" "isLooked" "Z", Cond.methodLink RX5 101 yX4_isPeg, Cond.instanceMethod yX4_isPeg, Cond.selects RX4 yX4_isPeg yX4_isPeg, Cond.initialized RX4, Cond.code yX4_isPeg cX4_isPeg 2 (some .boolean), Cond.fieldLink RX4 29 "PegField$State" "pegs" "I", Cond.methodLink RX5 127 yX0_has, Cond.instanceMethod yX0_has, Cond.selects RX0 yX0_has yX0_has, Cond.initialized RX0, Cond.code yX0_has cX0_has 2 (some .boolean), Cond.fieldLink RX0 22 "PegField$Grid" "places" "I", Cond.methodLink RX5 107 yX4_homeOf, Cond.instanceMethod yX4_homeOf, Cond.selects RX4 yX4_homeOf yX4_homeOf, Cond.code yX4_homeOf cX4_homeOf 2 (some .int), Cond.fieldLink RX4 15 "PegField$State" "homes" "[I", Cond.methodLink RX4 59 yX4_isPeg, Cond.methodLink RX5 153 yX4_isEmptyHole, Cond.instanceMethod yX4_isEmptyHole, Cond.selects RX4 yX4_isEmptyHole yX4_isEmptyHole]
def wsX5_put_r2 : List Cond := [Cond.code yX4_isEmptyHole cX4_isEmptyHole 2 (some .boolean), Cond.fieldLink RX4 21 "PegField$State" "grid" "LPegField$Grid;", Cond.fieldLink RX4 25 "PegField$State" "holes" "I", Cond.fieldLink RX4 18 "PegField$State" "tenants" "[I", Cond.methodLink RX4 63 yX0_has, Cond.static yX5_hasBit, Cond.initialized RX5, Cond.code yX5_hasBit cX5_hasBit 2 (some .boolean), Cond.methodLink RX5 156 yX4_set, Cond.instanceMethod yX4_set, Cond.selects RX4 yX4_set yX4_set, Cond.code yX4_set cX4_set 3 none, Cond.fieldLink RX4 32 "PegField$State" "onBoard" "I"]
def wsX5_put : List Cond := .code yX5_put cX5_put 3 (some .int) :: ((wsX5_put_r1 ++ wsX5_put_r2) ++ wsX50 ++ wsX40 ++ wsX00)
def wsX5_plug_r1 : List Cond := [Cond.fieldLink RX5 19 "PegField" "grid" "LPegField$Grid;", Cond.fieldLink RX5 28 "PegField" "now" "LPegField$State;", Cond.fieldLink RX5 92 "PegField" "isLooked" "Z", Cond.methodLink RX5 127 yX0_has, Cond.instanceMethod yX0_has, Cond.selects RX0 yX0_has yX0_has, Cond.initialized RX0, Cond.code yX0_has cX0_has 2 (some .boolean), Cond.fieldLink RX0 22 "PegField$Grid" "places" "I", Cond.methodLink RX5 153 yX4_isEmptyHole, Cond.instanceMethod yX4_isEmptyHole, Cond.selects RX4 yX4_isEmptyHole yX4_isEmptyHole, Cond.initialized RX4, Cond.code yX4_isEmptyHole cX4_isEmptyHole 2 (some .boolean), Cond.fieldLink RX4 21 "PegField$State" "grid" "LPegField$Grid;", Cond.fieldLink RX4 25 "PegField$State" "holes" "I", Cond.fieldLink RX4 18 "PegField$State" "tenants" "[I", Cond.methodLink RX4 63 yX0_has, Cond.static yX5_hasBit, Cond.initialized RX5, Cond.code yX5_hasBit cX5_hasBit 2 (some .boolean), Cond.methodLink RX5 162 yJ6_bitCount_0f7a4, Cond.static yJ6_bitCount_0f7a4, Cond.initialized RJ6]
def wsX5_plug_r2 : List Cond := [Cond.code yJ6_bitCount_0f7a4 cJ6_bitCount_0f7a4 1 (some .int), Cond.constant RJ6 265 (1431655765), Cond.constant RJ6 266 (858993459), Cond.constant RJ6 267 (252645135)]
def wsX5_plug : List Cond := .code yX5_plug cX5_plug 2 (some .int) :: ((wsX5_plug_r1 ++ wsX5_plug_r2) ++ wsX50 ++ wsX40 ++ wsX00)
def wsX5_bore_r1 : List Cond := [Cond.fieldLink RX5 19 "PegField" "grid" "LPegField$Grid;", Cond.fieldLink RX5 28 "PegField" "now" "LPegField$State;", Cond.fieldLink RX5 92 "PegField" "isLooked" "Z", Cond.methodLink RX5 127 yX0_has, Cond.instanceMethod yX0_has, Cond.selects RX0 yX0_has yX0_has, Cond.initialized RX0, Cond.code yX0_has cX0_has 2 (some .boolean), Cond.fieldLink RX0 22 "PegField$Grid" "places" "I", Cond.methodLink RX5 130 yX4_isHole, Cond.instanceMethod yX4_isHole, Cond.selects RX4 yX4_isHole yX4_isHole, Cond.initialized RX4, Cond.code yX4_isHole cX4_isHole 2 (some .boolean), Cond.fieldLink RX4 21 "PegField$State" "grid" "LPegField$Grid;", Cond.fieldLink RX4 25 "PegField$State" "holes" "I", Cond.methodLink RX4 63 yX0_has, Cond.static yX5_hasBit, Cond.initialized RX5, Cond.code yX5_hasBit cX5_hasBit 2 (some .boolean), Cond.methodLink RX5 162 yJ6_bitCount_0f7a4, Cond.static yJ6_bitCount_0f7a4, Cond.initialized RJ6, Cond.code yJ6_bitCount_0f7a4 cJ6_bitCount_0f7a4 1 (some .int)]
def wsX5_bore_r2 : List Cond := [Cond.constant RJ6 265 (1431655765), Cond.constant RJ6 266 (858993459), Cond.constant RJ6 267 (252645135)]
def wsX5_bore : List Cond := .code yX5_bore cX5_bore 2 (some .int) :: ((wsX5_bore_r1 ++ wsX5_bore_r2) ++ wsX50 ++ wsX40 ++ wsX00)
def wsX5_be : List Cond := .code yX5_be cX5_be 4 (some .int) :: ([.fieldLink RX5 28 "PegField" "now" "LPegField$State;", .fieldLink RX5 92 "PegField" "isLooked" "Z", .methodLink RX5 101 yX4_isPeg, .instanceMethod yX4_isPeg, .selects RX4 yX4_isPeg yX4_isPeg, .initialized RX4, .code yX4_isPeg cX4_isPeg 2 (some .boolean), .fieldLink RX4 29 "PegField$State" "pegs" "I", .methodLink RX5 104 yX4_kindOf, .instanceMethod yX4_kindOf, .selects RX4 yX4_kindOf yX4_kindOf, .code yX4_kindOf cX4_kindOf 2 (some .int), .fieldLink RX4 9 "PegField$State" "kinds" "[I", .methodLink RX4 59 yX4_isPeg, .methodLink RX5 167 yX4_turn, .instanceMethod yX4_turn, .selects RX4 yX4_turn yX4_turn, .code yX4_turn cX4_turn 3 none] ++ wsX50 ++ wsX40)
def wsX5_look_r1 : List Cond := [Cond.methodLink RX5 268 yX1_begin, Cond.instanceMethod yX1_begin, Cond.selects RX1 yX1_begin yX1_begin, Cond.initialized RX1, Cond.code yX1_begin cX1_begin 1 none, Cond.fieldLink RX1 9 "PegField$Outcome" "choices" "I", Cond.fieldLink RX1 15 "PegField$Outcome" "fewest" "I", Cond.fieldLink RX1 18 "PegField$Outcome" "first" "I", Cond.fieldLink RX1 21 "PegField$Outcome" "ways" "I", Cond.fieldLink RX1 24 "PegField$Outcome" "longest" "I", Cond.fieldLink RX1 27 "PegField$Outcome" "shortest" "I", Cond.fieldLink RX1 30 "PegField$Outcome" "alone" "I", Cond.fieldLink RX1 33 "PegField$Outcome" "winning" "I", Cond.fieldLink RX1 36 "PegField$Outcome" "mean" "I", Cond.methodLink RX5 271 yX4_targetOf, Cond.instanceMethod yX4_targetOf, Cond.selects RX4 yX4_targetOf yX4_targetOf, Cond.initialized RX4, Cond.code yX4_targetOf cX4_targetOf 6 (some .int), Cond.fieldLink RX4 21 "PegField$State" "grid" "LPegField$Grid;", Cond.methodLink RX4 70 yX4_homeOf, Cond.instanceMethod yX4_homeOf, Cond.selects RX4 yX4_homeOf yX4_homeOf, Cond.code yX4_homeOf cX4_homeOf 2 (some .int)]
def wsX5_look_r2 : List Cond := [Cond.fieldLink RX4 15 "PegField$State" "homes" "[I", Cond.methodLink RX4 59 yX4_isPeg, Cond.instanceMethod yX4_isPeg, Cond.selects RX4 yX4_isPeg yX4_isPeg, Cond.code yX4_isPeg cX4_isPeg 2 (some .boolean), Cond.fieldLink RX4 29 "PegField$State" "pegs" "I", Cond.methodLink RX4 73 yX0_next, Cond.instanceMethod yX0_next, Cond.selects RX0 yX0_next yX0_next, Cond.initialized RX0, Cond.code yX0_next cX0_next 4 (some .int), Cond.fieldLink RX0 9 "PegField$Grid" "beside" "[I", Cond.methodLink RX0 35 yX0_has, Cond.instanceMethod yX0_has, Cond.selects RX0 yX0_has yX0_has, Cond.code yX0_has cX0_has 2 (some .boolean), Cond.fieldLink RX0 22 "PegField$Grid" "places" "I", Cond.methodLink RX4 77 yX4_pegIn, Cond.instanceMethod yX4_pegIn, Cond.selects RX4 yX4_pegIn yX4_pegIn, Cond.code yX4_pegIn cX4_pegIn 2 (some .int), Cond.fieldLink RX4 18 "PegField$State" "tenants" "[I", Cond.methodLink RX4 63 yX0_has, Cond.methodLink RX4 80 yX4_kindOf]
def wsX5_look_r3 : List Cond := [Cond.instanceMethod yX4_kindOf, Cond.selects RX4 yX4_kindOf yX4_kindOf, Cond.code yX4_kindOf cX4_kindOf 2 (some .int), Cond.fieldLink RX4 9 "PegField$State" "kinds" "[I", Cond.static yX5_kindGoes, Cond.initialized RX5, Cond.code yX5_kindGoes cX5_kindGoes 2 (some .boolean), Cond.fieldLink RX5 294 "PegField" "WHO_GOES" "[I", Cond.methodLink RX5 123 yX5_hasBit, Cond.static yX5_hasBit, Cond.code yX5_hasBit cX5_hasBit 2 (some .boolean), Cond.static yX5_kindCould, Cond.code yX5_kindCould cX5_kindCould 2 (some .boolean), Cond.fieldLink RX5 203 "PegField" "WHO_COULD" "[I", Cond.methodLink RX4 89 yX4_isEmptyHole, Cond.instanceMethod yX4_isEmptyHole, Cond.selects RX4 yX4_isEmptyHole yX4_isEmptyHole, Cond.code yX4_isEmptyHole cX4_isEmptyHole 2 (some .boolean), Cond.fieldLink RX4 25 "PegField$State" "holes" "I", Cond.methodLink RX5 107 yX4_homeOf, Cond.methodLink RX5 143 yX4_neighbourOf, Cond.instanceMethod yX4_neighbourOf, Cond.selects RX4 yX4_neighbourOf yX4_neighbourOf, Cond.code yX4_neighbourOf cX4_neighbourOf 3 (some .int)]
def wsX5_look_r4 : List Cond := [Cond.methodLink RX5 146 yX4_leap, Cond.instanceMethod yX4_leap, Cond.selects RX4 yX4_leap yX4_leap, Cond.code yX4_leap cX4_leap 4 none, Cond.methodLink RX4 110 yX4_lift, Cond.instanceMethod yX4_lift, Cond.selects RX4 yX4_lift yX4_lift, Cond.code yX4_lift cX4_lift 2 none, Cond.fieldLink RX4 32 "PegField$State" "onBoard" "I", Cond.methodLink RX4 56 yX4_set, Cond.instanceMethod yX4_set, Cond.selects RX4 yX4_set yX4_set, Cond.code yX4_set cX4_set 3 none, Cond.methodLink RX5 261 yX5_look, Cond.static yX5_look, Cond.methodLink RX5 274 yX4_takeBack, Cond.instanceMethod yX4_takeBack, Cond.selects RX4 yX4_takeBack yX4_takeBack, Cond.code yX4_takeBack cX4_takeBack 5 none, Cond.methodLink RX5 278 yX1_take, Cond.instanceMethod yX1_take, Cond.selects RX1 yX1_take yX1_take, Cond.code yX1_take cX1_take 3 none, Cond.methodLink RX1 39 Lib.Math.max.name]
def wsX5_look_r5 : List Cond := [Cond.static Lib.Math.max.name, Cond.initialized "java/lang/Math", Cond.code Lib.Math.max.name Lib.Math.max.code 2 (some .int), Cond.methodLink RX5 282 yX4_aloneBit, Cond.instanceMethod yX4_aloneBit, Cond.selects RX4 yX4_aloneBit yX4_aloneBit, Cond.code yX4_aloneBit cX4_aloneBit 4 (some .int), Cond.methodLink RX5 285 yX1_end, Cond.instanceMethod yX1_end, Cond.selects RX1 yX1_end yX1_end, Cond.code yX1_end cX1_end 3 none]
def wsX5_look : List Cond := .code yX5_look cX5_look 10 none :: ((wsX5_look_r1 ++ (wsX5_look_r2 ++ (wsX5_look_r3 ++ (wsX5_look_r4 ++ wsX5_look_r5)))) ++ wsX40 ++ wsX10 ++ wsX00)
def wsX5_lookAhead_r1 : List Cond := [Cond.fieldLink RX5 92 "PegField" "isLooked" "Z", Cond.fieldLink RX5 45 "PegField" "thought" "LPegField$State;", Cond.fieldLink RX5 28 "PegField" "now" "LPegField$State;", Cond.fieldLink RX5 55 "PegField" "outcomes" "[LPegField$Outcome;", Cond.methodLink RX5 208 yX4_copyFrom, Cond.instanceMethod yX4_copyFrom, Cond.selects RX4 yX4_copyFrom yX4_copyFrom, Cond.initialized RX4, Cond.code yX4_copyFrom cX4_copyFrom 3 none, Cond.fieldLink RX4 25 "PegField$State" "holes" "I", Cond.fieldLink RX4 29 "PegField$State" "pegs" "I", Cond.fieldLink RX4 32 "PegField$State" "onBoard" "I", Cond.fieldLink RX4 35 "PegField$State" "jumps" "I", Cond.fieldLink RX4 9 "PegField$State" "kinds" "[I", Cond.fieldLink RX4 15 "PegField$State" "homes" "[I", Cond.fieldLink RX4 18 "PegField$State" "tenants" "[I", Cond.methodLink RX5 261 yX5_look, Cond.static yX5_look, Cond.initialized RX5, Cond.code yX5_look cX5_look 10 none, Cond.methodLink RX5 268 yX1_begin, Cond.instanceMethod yX1_begin, Cond.selects RX1 yX1_begin yX1_begin, Cond.initialized RX1]
def wsX5_lookAhead_r2 : List Cond := [Cond.code yX1_begin cX1_begin 1 none, Cond.fieldLink RX1 9 "PegField$Outcome" "choices" "I", Cond.fieldLink RX1 15 "PegField$Outcome" "fewest" "I", Cond.fieldLink RX1 18 "PegField$Outcome" "first" "I", Cond.fieldLink RX1 21 "PegField$Outcome" "ways" "I", Cond.fieldLink RX1 24 "PegField$Outcome" "longest" "I", Cond.fieldLink RX1 27 "PegField$Outcome" "shortest" "I", Cond.fieldLink RX1 30 "PegField$Outcome" "alone" "I", Cond.fieldLink RX1 33 "PegField$Outcome" "winning" "I", Cond.fieldLink RX1 36 "PegField$Outcome" "mean" "I", Cond.methodLink RX5 271 yX4_targetOf, Cond.instanceMethod yX4_targetOf, Cond.selects RX4 yX4_targetOf yX4_targetOf, Cond.code yX4_targetOf cX4_targetOf 6 (some .int), Cond.fieldLink RX4 21 "PegField$State" "grid" "LPegField$Grid;", Cond.methodLink RX4 70 yX4_homeOf, Cond.instanceMethod yX4_homeOf, Cond.selects RX4 yX4_homeOf yX4_homeOf, Cond.code yX4_homeOf cX4_homeOf 2 (some .int), Cond.methodLink RX4 59 yX4_isPeg, Cond.instanceMethod yX4_isPeg, Cond.selects RX4 yX4_isPeg yX4_isPeg, Cond.code yX4_isPeg cX4_isPeg 2 (some .boolean), Cond.methodLink RX4 73 yX0_next]
def wsX5_lookAhead_r3 : List Cond := [Cond.instanceMethod yX0_next, Cond.selects RX0 yX0_next yX0_next, Cond.initialized RX0, Cond.code yX0_next cX0_next 4 (some .int), Cond.fieldLink RX0 9 "PegField$Grid" "beside" "[I", Cond.methodLink RX0 35 yX0_has, Cond.instanceMethod yX0_has, Cond.selects RX0 yX0_has yX0_has, Cond.code yX0_has cX0_has 2 (some .boolean), Cond.fieldLink RX0 22 "PegField$Grid" "places" "I", Cond.methodLink RX4 77 yX4_pegIn, Cond.instanceMethod yX4_pegIn, Cond.selects RX4 yX4_pegIn yX4_pegIn, Cond.code yX4_pegIn cX4_pegIn 2 (some .int), Cond.methodLink RX4 63 yX0_has, Cond.methodLink RX4 80 yX4_kindOf, Cond.instanceMethod yX4_kindOf, Cond.selects RX4 yX4_kindOf yX4_kindOf, Cond.code yX4_kindOf cX4_kindOf 2 (some .int), Cond.static yX5_kindGoes, Cond.code yX5_kindGoes cX5_kindGoes 2 (some .boolean), Cond.fieldLink RX5 294 "PegField" "WHO_GOES" "[I", Cond.methodLink RX5 123 yX5_hasBit, Cond.static yX5_hasBit]
def wsX5_lookAhead_r4 : List Cond := [Cond.code yX5_hasBit cX5_hasBit 2 (some .boolean), Cond.static yX5_kindCould, Cond.code yX5_kindCould cX5_kindCould 2 (some .boolean), Cond.fieldLink RX5 203 "PegField" "WHO_COULD" "[I", Cond.methodLink RX4 89 yX4_isEmptyHole, Cond.instanceMethod yX4_isEmptyHole, Cond.selects RX4 yX4_isEmptyHole yX4_isEmptyHole, Cond.code yX4_isEmptyHole cX4_isEmptyHole 2 (some .boolean), Cond.methodLink RX5 107 yX4_homeOf, Cond.methodLink RX5 143 yX4_neighbourOf, Cond.instanceMethod yX4_neighbourOf, Cond.selects RX4 yX4_neighbourOf yX4_neighbourOf, Cond.code yX4_neighbourOf cX4_neighbourOf 3 (some .int), Cond.methodLink RX5 146 yX4_leap, Cond.instanceMethod yX4_leap, Cond.selects RX4 yX4_leap yX4_leap, Cond.code yX4_leap cX4_leap 4 none, Cond.methodLink RX4 110 yX4_lift, Cond.instanceMethod yX4_lift, Cond.selects RX4 yX4_lift yX4_lift, Cond.code yX4_lift cX4_lift 2 none, Cond.methodLink RX4 56 yX4_set, Cond.instanceMethod yX4_set, Cond.selects RX4 yX4_set yX4_set]
def wsX5_lookAhead_r5 : List Cond := [Cond.code yX4_set cX4_set 3 none, Cond.methodLink RX5 274 yX4_takeBack, Cond.instanceMethod yX4_takeBack, Cond.selects RX4 yX4_takeBack yX4_takeBack, Cond.code yX4_takeBack cX4_takeBack 5 none, Cond.methodLink RX5 278 yX1_take, Cond.instanceMethod yX1_take, Cond.selects RX1 yX1_take yX1_take, Cond.code yX1_take cX1_take 3 none, Cond.methodLink RX1 39 Lib.Math.max.name, Cond.static Lib.Math.max.name, Cond.initialized "java/lang/Math", Cond.code Lib.Math.max.name Lib.Math.max.code 2 (some .int), Cond.methodLink RX5 282 yX4_aloneBit, Cond.instanceMethod yX4_aloneBit, Cond.selects RX4 yX4_aloneBit yX4_aloneBit, Cond.code yX4_aloneBit cX4_aloneBit 4 (some .int), Cond.methodLink RX5 285 yX1_end, Cond.instanceMethod yX1_end, Cond.selects RX1 yX1_end yX1_end, Cond.code yX1_end cX1_end 3 none]
def wsX5_lookAhead : List Cond := .code yX5_lookAhead cX5_lookAhead 1 none :: ((wsX5_lookAhead_r1 ++ (wsX5_lookAhead_r2 ++ (wsX5_lookAhead_r3 ++ (wsX5_lookAhead_r4 ++ wsX5_lookAhead_r5)))) ++ wsX50 ++ wsX40 ++ wsX10 ++ wsX00)
def wsX5_courses_r1 : List Cond := [Cond.fieldLink RX5 95 "PegField" "reads" "I", Cond.fieldLink RX5 51 "PegField" "outlook" "LPegField$Outcome;", Cond.methodLink RX5 170 yX5_lookAhead, Cond.instanceMethod yX5_lookAhead, Cond.selects RX5 yX5_lookAhead yX5_lookAhead, Cond.initialized RX5, Cond.code yX5_lookAhead cX5_lookAhead 1 none, Cond.fieldLink RX5 92 "PegField" "isLooked" "Z", Cond.fieldLink RX5 45 "PegField" "thought" "LPegField$State;", Cond.fieldLink RX5 28 "PegField" "now" "LPegField$State;", Cond.fieldLink RX5 55 "PegField" "outcomes" "[LPegField$Outcome;", Cond.methodLink RX5 208 yX4_copyFrom, Cond.instanceMethod yX4_copyFrom, Cond.selects RX4 yX4_copyFrom yX4_copyFrom, Cond.initialized RX4, Cond.code yX4_copyFrom cX4_copyFrom 3 none, Cond.fieldLink RX4 25 "PegField$State" "holes" "I", Cond.fieldLink RX4 29 "PegField$State" "pegs" "I", Cond.fieldLink RX4 32 "PegField$State" "onBoard" "I", Cond.fieldLink RX4 35 "PegField$State" "jumps" "I", Cond.fieldLink RX4 9 "PegField$State" "kinds" "[I", Cond.fieldLink RX4 15 "PegField$State" "homes" "[I", Cond.fieldLink RX4 18 "PegField$State" "tenants" "[I", Cond.methodLink RX5 261 yX5_look]
def wsX5_courses_r2 : List Cond := [Cond.static yX5_look, Cond.code yX5_look cX5_look 10 none, Cond.methodLink RX5 268 yX1_begin, Cond.instanceMethod yX1_begin, Cond.selects RX1 yX1_begin yX1_begin, Cond.initialized RX1, Cond.code yX1_begin cX1_begin 1 none, Cond.fieldLink RX1 9 "PegField$Outcome" "choices" "I", Cond.fieldLink RX1 15 "PegField$Outcome" "fewest" "I", Cond.fieldLink RX1 18 "PegField$Outcome" "first" "I", Cond.fieldLink RX1 21 "PegField$Outcome" "ways" "I", Cond.fieldLink RX1 24 "PegField$Outcome" "longest" "I", Cond.fieldLink RX1 27 "PegField$Outcome" "shortest" "I", Cond.fieldLink RX1 30 "PegField$Outcome" "alone" "I", Cond.fieldLink RX1 33 "PegField$Outcome" "winning" "I", Cond.fieldLink RX1 36 "PegField$Outcome" "mean" "I", Cond.methodLink RX5 271 yX4_targetOf, Cond.instanceMethod yX4_targetOf, Cond.selects RX4 yX4_targetOf yX4_targetOf, Cond.code yX4_targetOf cX4_targetOf 6 (some .int), Cond.fieldLink RX4 21 "PegField$State" "grid" "LPegField$Grid;", Cond.methodLink RX4 70 yX4_homeOf, Cond.instanceMethod yX4_homeOf, Cond.selects RX4 yX4_homeOf yX4_homeOf]
def wsX5_courses_r3 : List Cond := [Cond.code yX4_homeOf cX4_homeOf 2 (some .int), Cond.methodLink RX4 59 yX4_isPeg, Cond.instanceMethod yX4_isPeg, Cond.selects RX4 yX4_isPeg yX4_isPeg, Cond.code yX4_isPeg cX4_isPeg 2 (some .boolean), Cond.methodLink RX4 73 yX0_next, Cond.instanceMethod yX0_next, Cond.selects RX0 yX0_next yX0_next, Cond.initialized RX0, Cond.code yX0_next cX0_next 4 (some .int), Cond.fieldLink RX0 9 "PegField$Grid" "beside" "[I", Cond.methodLink RX0 35 yX0_has, Cond.instanceMethod yX0_has, Cond.selects RX0 yX0_has yX0_has, Cond.code yX0_has cX0_has 2 (some .boolean), Cond.fieldLink RX0 22 "PegField$Grid" "places" "I", Cond.methodLink RX4 77 yX4_pegIn, Cond.instanceMethod yX4_pegIn, Cond.selects RX4 yX4_pegIn yX4_pegIn, Cond.code yX4_pegIn cX4_pegIn 2 (some .int), Cond.methodLink RX4 63 yX0_has, Cond.methodLink RX4 80 yX4_kindOf, Cond.instanceMethod yX4_kindOf, Cond.selects RX4 yX4_kindOf yX4_kindOf]
def wsX5_courses_r4 : List Cond := [Cond.code yX4_kindOf cX4_kindOf 2 (some .int), Cond.static yX5_kindGoes, Cond.code yX5_kindGoes cX5_kindGoes 2 (some .boolean), Cond.fieldLink RX5 294 "PegField" "WHO_GOES" "[I", Cond.methodLink RX5 123 yX5_hasBit, Cond.static yX5_hasBit, Cond.code yX5_hasBit cX5_hasBit 2 (some .boolean), Cond.static yX5_kindCould, Cond.code yX5_kindCould cX5_kindCould 2 (some .boolean), Cond.fieldLink RX5 203 "PegField" "WHO_COULD" "[I", Cond.methodLink RX4 89 yX4_isEmptyHole, Cond.instanceMethod yX4_isEmptyHole, Cond.selects RX4 yX4_isEmptyHole yX4_isEmptyHole, Cond.code yX4_isEmptyHole cX4_isEmptyHole 2 (some .boolean), Cond.methodLink RX5 107 yX4_homeOf, Cond.methodLink RX5 143 yX4_neighbourOf, Cond.instanceMethod yX4_neighbourOf, Cond.selects RX4 yX4_neighbourOf yX4_neighbourOf, Cond.code yX4_neighbourOf cX4_neighbourOf 3 (some .int), Cond.methodLink RX5 146 yX4_leap, Cond.instanceMethod yX4_leap, Cond.selects RX4 yX4_leap yX4_leap, Cond.code yX4_leap cX4_leap 4 none, Cond.methodLink RX4 110 yX4_lift]
def wsX5_courses_r5 : List Cond := [Cond.instanceMethod yX4_lift, Cond.selects RX4 yX4_lift yX4_lift, Cond.code yX4_lift cX4_lift 2 none, Cond.methodLink RX4 56 yX4_set, Cond.instanceMethod yX4_set, Cond.selects RX4 yX4_set yX4_set, Cond.code yX4_set cX4_set 3 none, Cond.methodLink RX5 274 yX4_takeBack, Cond.instanceMethod yX4_takeBack, Cond.selects RX4 yX4_takeBack yX4_takeBack, Cond.code yX4_takeBack cX4_takeBack 5 none, Cond.methodLink RX5 278 yX1_take, Cond.instanceMethod yX1_take, Cond.selects RX1 yX1_take yX1_take, Cond.code yX1_take cX1_take 3 none, Cond.methodLink RX1 39 Lib.Math.max.name, Cond.static Lib.Math.max.name, Cond.initialized "java/lang/Math", Cond.code Lib.Math.max.name Lib.Math.max.code 2 (some .int), Cond.methodLink RX5 282 yX4_aloneBit, Cond.instanceMethod yX4_aloneBit, Cond.selects RX4 yX4_aloneBit yX4_aloneBit, Cond.code yX4_aloneBit cX4_aloneBit 4 (some .int), Cond.methodLink RX5 285 yX1_end]
def wsX5_courses_r6 : List Cond := [Cond.instanceMethod yX1_end, Cond.selects RX1 yX1_end yX1_end, Cond.code yX1_end cX1_end 3 none]
def wsX5_courses : List Cond := .code yX5_courses cX5_courses 2 (some .int) :: ((wsX5_courses_r1 ++ (wsX5_courses_r2 ++ (wsX5_courses_r3 ++ (wsX5_courses_r4 ++ (wsX5_courses_r5 ++ wsX5_courses_r6))))) ++ wsX50 ++ wsX10 ++ wsX40 ++ wsX00)
def wsX5_wins_r1 : List Cond := [Cond.fieldLink RX5 95 "PegField" "reads" "I", Cond.fieldLink RX5 51 "PegField" "outlook" "LPegField$Outcome;", Cond.methodLink RX5 170 yX5_lookAhead, Cond.instanceMethod yX5_lookAhead, Cond.selects RX5 yX5_lookAhead yX5_lookAhead, Cond.initialized RX5, Cond.code yX5_lookAhead cX5_lookAhead 1 none, Cond.fieldLink RX5 92 "PegField" "isLooked" "Z", Cond.fieldLink RX5 45 "PegField" "thought" "LPegField$State;", Cond.fieldLink RX5 28 "PegField" "now" "LPegField$State;", Cond.fieldLink RX5 55 "PegField" "outcomes" "[LPegField$Outcome;", Cond.methodLink RX5 208 yX4_copyFrom, Cond.instanceMethod yX4_copyFrom, Cond.selects RX4 yX4_copyFrom yX4_copyFrom, Cond.initialized RX4, Cond.code yX4_copyFrom cX4_copyFrom 3 none, Cond.fieldLink RX4 25 "PegField$State" "holes" "I", Cond.fieldLink RX4 29 "PegField$State" "pegs" "I", Cond.fieldLink RX4 32 "PegField$State" "onBoard" "I", Cond.fieldLink RX4 35 "PegField$State" "jumps" "I", Cond.fieldLink RX4 9 "PegField$State" "kinds" "[I", Cond.fieldLink RX4 15 "PegField$State" "homes" "[I", Cond.fieldLink RX4 18 "PegField$State" "tenants" "[I", Cond.methodLink RX5 261 yX5_look]
def wsX5_wins_r2 : List Cond := [Cond.static yX5_look, Cond.code yX5_look cX5_look 10 none, Cond.methodLink RX5 268 yX1_begin, Cond.instanceMethod yX1_begin, Cond.selects RX1 yX1_begin yX1_begin, Cond.initialized RX1, Cond.code yX1_begin cX1_begin 1 none, Cond.fieldLink RX1 9 "PegField$Outcome" "choices" "I", Cond.fieldLink RX1 15 "PegField$Outcome" "fewest" "I", Cond.fieldLink RX1 18 "PegField$Outcome" "first" "I", Cond.fieldLink RX1 21 "PegField$Outcome" "ways" "I", Cond.fieldLink RX1 24 "PegField$Outcome" "longest" "I", Cond.fieldLink RX1 27 "PegField$Outcome" "shortest" "I", Cond.fieldLink RX1 30 "PegField$Outcome" "alone" "I", Cond.fieldLink RX1 33 "PegField$Outcome" "winning" "I", Cond.fieldLink RX1 36 "PegField$Outcome" "mean" "I", Cond.methodLink RX5 271 yX4_targetOf, Cond.instanceMethod yX4_targetOf, Cond.selects RX4 yX4_targetOf yX4_targetOf, Cond.code yX4_targetOf cX4_targetOf 6 (some .int), Cond.fieldLink RX4 21 "PegField$State" "grid" "LPegField$Grid;", Cond.methodLink RX4 70 yX4_homeOf, Cond.instanceMethod yX4_homeOf, Cond.selects RX4 yX4_homeOf yX4_homeOf]
def wsX5_wins_r3 : List Cond := [Cond.code yX4_homeOf cX4_homeOf 2 (some .int), Cond.methodLink RX4 59 yX4_isPeg, Cond.instanceMethod yX4_isPeg, Cond.selects RX4 yX4_isPeg yX4_isPeg, Cond.code yX4_isPeg cX4_isPeg 2 (some .boolean), Cond.methodLink RX4 73 yX0_next, Cond.instanceMethod yX0_next, Cond.selects RX0 yX0_next yX0_next, Cond.initialized RX0, Cond.code yX0_next cX0_next 4 (some .int), Cond.fieldLink RX0 9 "PegField$Grid" "beside" "[I", Cond.methodLink RX0 35 yX0_has, Cond.instanceMethod yX0_has, Cond.selects RX0 yX0_has yX0_has, Cond.code yX0_has cX0_has 2 (some .boolean), Cond.fieldLink RX0 22 "PegField$Grid" "places" "I", Cond.methodLink RX4 77 yX4_pegIn, Cond.instanceMethod yX4_pegIn, Cond.selects RX4 yX4_pegIn yX4_pegIn, Cond.code yX4_pegIn cX4_pegIn 2 (some .int), Cond.methodLink RX4 63 yX0_has, Cond.methodLink RX4 80 yX4_kindOf, Cond.instanceMethod yX4_kindOf, Cond.selects RX4 yX4_kindOf yX4_kindOf]
def wsX5_wins_r4 : List Cond := [Cond.code yX4_kindOf cX4_kindOf 2 (some .int), Cond.static yX5_kindGoes, Cond.code yX5_kindGoes cX5_kindGoes 2 (some .boolean), Cond.fieldLink RX5 294 "PegField" "WHO_GOES" "[I", Cond.methodLink RX5 123 yX5_hasBit, Cond.static yX5_hasBit, Cond.code yX5_hasBit cX5_hasBit 2 (some .boolean), Cond.static yX5_kindCould, Cond.code yX5_kindCould cX5_kindCould 2 (some .boolean), Cond.fieldLink RX5 203 "PegField" "WHO_COULD" "[I", Cond.methodLink RX4 89 yX4_isEmptyHole, Cond.instanceMethod yX4_isEmptyHole, Cond.selects RX4 yX4_isEmptyHole yX4_isEmptyHole, Cond.code yX4_isEmptyHole cX4_isEmptyHole 2 (some .boolean), Cond.methodLink RX5 107 yX4_homeOf, Cond.methodLink RX5 143 yX4_neighbourOf, Cond.instanceMethod yX4_neighbourOf, Cond.selects RX4 yX4_neighbourOf yX4_neighbourOf, Cond.code yX4_neighbourOf cX4_neighbourOf 3 (some .int), Cond.methodLink RX5 146 yX4_leap, Cond.instanceMethod yX4_leap, Cond.selects RX4 yX4_leap yX4_leap, Cond.code yX4_leap cX4_leap 4 none, Cond.methodLink RX4 110 yX4_lift]
def wsX5_wins_r5 : List Cond := [Cond.instanceMethod yX4_lift, Cond.selects RX4 yX4_lift yX4_lift, Cond.code yX4_lift cX4_lift 2 none, Cond.methodLink RX4 56 yX4_set, Cond.instanceMethod yX4_set, Cond.selects RX4 yX4_set yX4_set, Cond.code yX4_set cX4_set 3 none, Cond.methodLink RX5 274 yX4_takeBack, Cond.instanceMethod yX4_takeBack, Cond.selects RX4 yX4_takeBack yX4_takeBack, Cond.code yX4_takeBack cX4_takeBack 5 none, Cond.methodLink RX5 278 yX1_take, Cond.instanceMethod yX1_take, Cond.selects RX1 yX1_take yX1_take, Cond.code yX1_take cX1_take 3 none, Cond.methodLink RX1 39 Lib.Math.max.name, Cond.static Lib.Math.max.name, Cond.initialized "java/lang/Math", Cond.code Lib.Math.max.name Lib.Math.max.code 2 (some .int), Cond.methodLink RX5 282 yX4_aloneBit, Cond.instanceMethod yX4_aloneBit, Cond.selects RX4 yX4_aloneBit yX4_aloneBit, Cond.code yX4_aloneBit cX4_aloneBit 4 (some .int), Cond.methodLink RX5 285 yX1_end]
def wsX5_wins_r6 : List Cond := [Cond.instanceMethod yX1_end, Cond.selects RX1 yX1_end yX1_end, Cond.code yX1_end cX1_end 3 none]
def wsX5_wins : List Cond := .code yX5_wins cX5_wins 2 (some .int) :: ((wsX5_wins_r1 ++ (wsX5_wins_r2 ++ (wsX5_wins_r3 ++ (wsX5_wins_r4 ++ (wsX5_wins_r5 ++ wsX5_wins_r6))))) ++ wsX50 ++ wsX10 ++ wsX40 ++ wsX00)
def wsX5_fewestWithOneMore_r1 : List Cond := [Cond.fieldLink RX5 45 "PegField" "thought" "LPegField$State;", Cond.fieldLink RX5 28 "PegField" "now" "LPegField$State;", Cond.fieldLink RX5 55 "PegField" "outcomes" "[LPegField$Outcome;", Cond.fieldLink RX5 51 "PegField" "outlook" "LPegField$Outcome;", Cond.methodLink RX5 208 yX4_copyFrom, Cond.instanceMethod yX4_copyFrom, Cond.selects RX4 yX4_copyFrom yX4_copyFrom, Cond.initialized RX4, Cond.code yX4_copyFrom cX4_copyFrom 3 none, Cond.fieldLink RX4 25 "PegField$State" "holes" "I", Cond.fieldLink RX4 29 "PegField$State" "pegs" "I", Cond.fieldLink RX4 32 "PegField$State" "onBoard" "I", Cond.fieldLink RX4 35 "PegField$State" "jumps" "I", Cond.fieldLink RX4 9 "PegField$State" "kinds" "[I", Cond.fieldLink RX4 15 "PegField$State" "homes" "[I", Cond.fieldLink RX4 18 "PegField$State" "tenants" "[I", Cond.methodLink RX5 265 yX4_addPlain, Cond.instanceMethod yX4_addPlain, Cond.selects RX4 yX4_addPlain yX4_addPlain, Cond.code yX4_addPlain cX4_addPlain 2 none, Cond.methodLink RX4 52 yX4_addPeg, Cond.instanceMethod yX4_addPeg, Cond.selects RX4 yX4_addPeg yX4_addPeg, Cond.code yX4_addPeg cX4_addPeg 4 none]
def wsX5_fewestWithOneMore_r2 : List Cond := [Cond.methodLink RX4 56 yX4_set, Cond.instanceMethod yX4_set, Cond.selects RX4 yX4_set yX4_set, Cond.code yX4_set cX4_set 3 none, Cond.fieldLink RX4 21 "PegField$State" "grid" "LPegField$Grid;", Cond.methodLink RX4 59 yX4_isPeg, Cond.instanceMethod yX4_isPeg, Cond.selects RX4 yX4_isPeg yX4_isPeg, Cond.code yX4_isPeg cX4_isPeg 2 (some .boolean), Cond.methodLink RX4 63 yX0_has, Cond.instanceMethod yX0_has, Cond.selects RX0 yX0_has yX0_has, Cond.initialized RX0, Cond.code yX0_has cX0_has 2 (some .boolean), Cond.fieldLink RX0 22 "PegField$Grid" "places" "I", Cond.methodLink RX5 261 yX5_look, Cond.static yX5_look, Cond.initialized RX5, Cond.code yX5_look cX5_look 10 none, Cond.methodLink RX5 268 yX1_begin, Cond.instanceMethod yX1_begin, Cond.selects RX1 yX1_begin yX1_begin, Cond.initialized RX1, Cond.code yX1_begin cX1_begin 1 none]
def wsX5_fewestWithOneMore_r3 : List Cond := [Cond.fieldLink RX1 9 "PegField$Outcome" "choices" "I", Cond.fieldLink RX1 15 "PegField$Outcome" "fewest" "I", Cond.fieldLink RX1 18 "PegField$Outcome" "first" "I", Cond.fieldLink RX1 21 "PegField$Outcome" "ways" "I", Cond.fieldLink RX1 24 "PegField$Outcome" "longest" "I", Cond.fieldLink RX1 27 "PegField$Outcome" "shortest" "I", Cond.fieldLink RX1 30 "PegField$Outcome" "alone" "I", Cond.fieldLink RX1 33 "PegField$Outcome" "winning" "I", Cond.fieldLink RX1 36 "PegField$Outcome" "mean" "I", Cond.methodLink RX5 271 yX4_targetOf, Cond.instanceMethod yX4_targetOf, Cond.selects RX4 yX4_targetOf yX4_targetOf, Cond.code yX4_targetOf cX4_targetOf 6 (some .int), Cond.methodLink RX4 70 yX4_homeOf, Cond.instanceMethod yX4_homeOf, Cond.selects RX4 yX4_homeOf yX4_homeOf, Cond.code yX4_homeOf cX4_homeOf 2 (some .int), Cond.methodLink RX4 73 yX0_next, Cond.instanceMethod yX0_next, Cond.selects RX0 yX0_next yX0_next, Cond.code yX0_next cX0_next 4 (some .int), Cond.fieldLink RX0 9 "PegField$Grid" "beside" "[I", Cond.methodLink RX0 35 yX0_has, Cond.methodLink RX4 77 yX4_pegIn]
def wsX5_fewestWithOneMore_r4 : List Cond := [Cond.instanceMethod yX4_pegIn, Cond.selects RX4 yX4_pegIn yX4_pegIn, Cond.code yX4_pegIn cX4_pegIn 2 (some .int), Cond.methodLink RX4 80 yX4_kindOf, Cond.instanceMethod yX4_kindOf, Cond.selects RX4 yX4_kindOf yX4_kindOf, Cond.code yX4_kindOf cX4_kindOf 2 (some .int), Cond.static yX5_kindGoes, Cond.code yX5_kindGoes cX5_kindGoes 2 (some .boolean), Cond.fieldLink RX5 294 "PegField" "WHO_GOES" "[I", Cond.methodLink RX5 123 yX5_hasBit, Cond.static yX5_hasBit, Cond.code yX5_hasBit cX5_hasBit 2 (some .boolean), Cond.static yX5_kindCould, Cond.code yX5_kindCould cX5_kindCould 2 (some .boolean), Cond.fieldLink RX5 203 "PegField" "WHO_COULD" "[I", Cond.methodLink RX4 89 yX4_isEmptyHole, Cond.instanceMethod yX4_isEmptyHole, Cond.selects RX4 yX4_isEmptyHole yX4_isEmptyHole, Cond.code yX4_isEmptyHole cX4_isEmptyHole 2 (some .boolean), Cond.methodLink RX5 107 yX4_homeOf, Cond.methodLink RX5 143 yX4_neighbourOf, Cond.instanceMethod yX4_neighbourOf, Cond.selects RX4 yX4_neighbourOf yX4_neighbourOf]
def wsX5_fewestWithOneMore_r5 : List Cond := [Cond.code yX4_neighbourOf cX4_neighbourOf 3 (some .int), Cond.methodLink RX5 146 yX4_leap, Cond.instanceMethod yX4_leap, Cond.selects RX4 yX4_leap yX4_leap, Cond.code yX4_leap cX4_leap 4 none, Cond.methodLink RX4 110 yX4_lift, Cond.instanceMethod yX4_lift, Cond.selects RX4 yX4_lift yX4_lift, Cond.code yX4_lift cX4_lift 2 none, Cond.methodLink RX5 274 yX4_takeBack, Cond.instanceMethod yX4_takeBack, Cond.selects RX4 yX4_takeBack yX4_takeBack, Cond.code yX4_takeBack cX4_takeBack 5 none, Cond.methodLink RX5 278 yX1_take, Cond.instanceMethod yX1_take, Cond.selects RX1 yX1_take yX1_take, Cond.code yX1_take cX1_take 3 none, Cond.methodLink RX1 39 Lib.Math.max.name, Cond.static Lib.Math.max.name, Cond.initialized "java/lang/Math", Cond.code Lib.Math.max.name Lib.Math.max.code 2 (some .int), Cond.methodLink RX5 282 yX4_aloneBit, Cond.instanceMethod yX4_aloneBit, Cond.selects RX4 yX4_aloneBit yX4_aloneBit]
def wsX5_fewestWithOneMore_r6 : List Cond := [Cond.code yX4_aloneBit cX4_aloneBit 4 (some .int), Cond.methodLink RX5 285 yX1_end, Cond.instanceMethod yX1_end, Cond.selects RX1 yX1_end yX1_end, Cond.code yX1_end cX1_end 3 none]
def wsX5_fewestWithOneMore : List Cond := .code yX5_fewestWithOneMore cX5_fewestWithOneMore 2 (some .int) :: ((wsX5_fewestWithOneMore_r1 ++ (wsX5_fewestWithOneMore_r2 ++ (wsX5_fewestWithOneMore_r3 ++ (wsX5_fewestWithOneMore_r4 ++ (wsX5_fewestWithOneMore_r5 ++ wsX5_fewestWithOneMore_r6))))) ++ wsX50 ++ wsX10 ++ wsX40 ++ wsX00)
def wsX5_add_r1 : List Cond := [Cond.fieldLink RX5 95 "PegField" "reads" "I", Cond.fieldLink RX5 194 "PegField" "adds" "I", Cond.fieldLink RX5 92 "PegField" "isLooked" "Z", Cond.fieldLink RX5 28 "PegField" "now" "LPegField$State;", Cond.methodLink RX5 153 yX4_isEmptyHole, Cond.instanceMethod yX4_isEmptyHole, Cond.selects RX4 yX4_isEmptyHole yX4_isEmptyHole, Cond.initialized RX4, Cond.code yX4_isEmptyHole cX4_isEmptyHole 2 (some .boolean), Cond.fieldLink RX4 21 "PegField$State" "grid" "LPegField$Grid;", Cond.fieldLink RX4 25 "PegField$State" "holes" "I", Cond.fieldLink RX4 18 "PegField$State" "tenants" "[I", Cond.methodLink RX4 63 yX0_has, Cond.instanceMethod yX0_has, Cond.selects RX0 yX0_has yX0_has, Cond.initialized RX0, Cond.code yX0_has cX0_has 2 (some .boolean), Cond.fieldLink RX0 22 "PegField$Grid" "places" "I", Cond.static yX5_hasBit, Cond.initialized RX5, Cond.code yX5_hasBit cX5_hasBit 2 (some .boolean), Cond.methodLink RX5 197 yX5_fewestWithOneMore, Cond.instanceMethod yX5_fewestWithOneMore, Cond.selects RX5 yX5_fewestWithOneMore yX5_fewestWithOneMore]
def wsX5_add_r2 : List Cond := [Cond.code yX5_fewestWithOneMore cX5_fewestWithOneMore 2 (some .int), Cond.fieldLink RX5 45 "PegField" "thought" "LPegField$State;", Cond.fieldLink RX5 55 "PegField" "outcomes" "[LPegField$Outcome;", Cond.fieldLink RX5 51 "PegField" "outlook" "LPegField$Outcome;", Cond.methodLink RX5 208 yX4_copyFrom, Cond.instanceMethod yX4_copyFrom, Cond.selects RX4 yX4_copyFrom yX4_copyFrom, Cond.code yX4_copyFrom cX4_copyFrom 3 none, Cond.fieldLink RX4 29 "PegField$State" "pegs" "I", Cond.fieldLink RX4 32 "PegField$State" "onBoard" "I", Cond.fieldLink RX4 35 "PegField$State" "jumps" "I", Cond.fieldLink RX4 9 "PegField$State" "kinds" "[I", Cond.fieldLink RX4 15 "PegField$State" "homes" "[I", Cond.methodLink RX5 265 yX4_addPlain, Cond.instanceMethod yX4_addPlain, Cond.selects RX4 yX4_addPlain yX4_addPlain, Cond.code yX4_addPlain cX4_addPlain 2 none, Cond.methodLink RX4 52 yX4_addPeg, Cond.instanceMethod yX4_addPeg, Cond.selects RX4 yX4_addPeg yX4_addPeg, Cond.code yX4_addPeg cX4_addPeg 4 none, Cond.methodLink RX4 56 yX4_set, Cond.instanceMethod yX4_set, Cond.selects RX4 yX4_set yX4_set]
def wsX5_add_r3 : List Cond := [Cond.code yX4_set cX4_set 3 none, Cond.methodLink RX4 59 yX4_isPeg, Cond.instanceMethod yX4_isPeg, Cond.selects RX4 yX4_isPeg yX4_isPeg, Cond.code yX4_isPeg cX4_isPeg 2 (some .boolean), Cond.methodLink RX5 261 yX5_look, Cond.static yX5_look, Cond.code yX5_look cX5_look 10 none, Cond.methodLink RX5 268 yX1_begin, Cond.instanceMethod yX1_begin, Cond.selects RX1 yX1_begin yX1_begin, Cond.initialized RX1, Cond.code yX1_begin cX1_begin 1 none, Cond.fieldLink RX1 9 "PegField$Outcome" "choices" "I", Cond.fieldLink RX1 15 "PegField$Outcome" "fewest" "I", Cond.fieldLink RX1 18 "PegField$Outcome" "first" "I", Cond.fieldLink RX1 21 "PegField$Outcome" "ways" "I", Cond.fieldLink RX1 24 "PegField$Outcome" "longest" "I", Cond.fieldLink RX1 27 "PegField$Outcome" "shortest" "I", Cond.fieldLink RX1 30 "PegField$Outcome" "alone" "I", Cond.fieldLink RX1 33 "PegField$Outcome" "winning" "I", Cond.fieldLink RX1 36 "PegField$Outcome" "mean" "I", Cond.methodLink RX5 271 yX4_targetOf, Cond.instanceMethod yX4_targetOf]
def wsX5_add_r4 : List Cond := [Cond.selects RX4 yX4_targetOf yX4_targetOf, Cond.code yX4_targetOf cX4_targetOf 6 (some .int), Cond.methodLink RX4 70 yX4_homeOf, Cond.instanceMethod yX4_homeOf, Cond.selects RX4 yX4_homeOf yX4_homeOf, Cond.code yX4_homeOf cX4_homeOf 2 (some .int), Cond.methodLink RX4 73 yX0_next, Cond.instanceMethod yX0_next, Cond.selects RX0 yX0_next yX0_next, Cond.code yX0_next cX0_next 4 (some .int), Cond.fieldLink RX0 9 "PegField$Grid" "beside" "[I", Cond.methodLink RX0 35 yX0_has, Cond.methodLink RX4 77 yX4_pegIn, Cond.instanceMethod yX4_pegIn, Cond.selects RX4 yX4_pegIn yX4_pegIn, Cond.code yX4_pegIn cX4_pegIn 2 (some .int), Cond.methodLink RX4 80 yX4_kindOf, Cond.instanceMethod yX4_kindOf, Cond.selects RX4 yX4_kindOf yX4_kindOf, Cond.code yX4_kindOf cX4_kindOf 2 (some .int), Cond.static yX5_kindGoes, Cond.code yX5_kindGoes cX5_kindGoes 2 (some .boolean), Cond.fieldLink RX5 294 "PegField" "WHO_GOES" "[I", Cond.methodLink RX5 123 yX5_hasBit]
def wsX5_add_r5 : List Cond := [Cond.static yX5_kindCould, Cond.code yX5_kindCould cX5_kindCould 2 (some .boolean), Cond.fieldLink RX5 203 "PegField" "WHO_COULD" "[I", Cond.methodLink RX4 89 yX4_isEmptyHole, Cond.methodLink RX5 107 yX4_homeOf, Cond.methodLink RX5 143 yX4_neighbourOf, Cond.instanceMethod yX4_neighbourOf, Cond.selects RX4 yX4_neighbourOf yX4_neighbourOf, Cond.code yX4_neighbourOf cX4_neighbourOf 3 (some .int), Cond.methodLink RX5 146 yX4_leap, Cond.instanceMethod yX4_leap, Cond.selects RX4 yX4_leap yX4_leap, Cond.code yX4_leap cX4_leap 4 none, Cond.methodLink RX4 110 yX4_lift, Cond.instanceMethod yX4_lift, Cond.selects RX4 yX4_lift yX4_lift, Cond.code yX4_lift cX4_lift 2 none, Cond.methodLink RX5 274 yX4_takeBack, Cond.instanceMethod yX4_takeBack, Cond.selects RX4 yX4_takeBack yX4_takeBack, Cond.code yX4_takeBack cX4_takeBack 5 none, Cond.methodLink RX5 278 yX1_take, Cond.instanceMethod yX1_take, Cond.selects RX1 yX1_take yX1_take]
def wsX5_add_r6 : List Cond := [Cond.code yX1_take cX1_take 3 none, Cond.methodLink RX1 39 Lib.Math.max.name, Cond.static Lib.Math.max.name, Cond.initialized "java/lang/Math", Cond.code Lib.Math.max.name Lib.Math.max.code 2 (some .int), Cond.methodLink RX5 282 yX4_aloneBit, Cond.instanceMethod yX4_aloneBit, Cond.selects RX4 yX4_aloneBit yX4_aloneBit, Cond.code yX4_aloneBit cX4_aloneBit 4 (some .int), Cond.methodLink RX5 285 yX1_end, Cond.instanceMethod yX1_end, Cond.selects RX1 yX1_end yX1_end, Cond.code yX1_end cX1_end 3 none]
def wsX5_add : List Cond := .code yX5_add cX5_add 2 (some .int) :: ((wsX5_add_r1 ++ (wsX5_add_r2 ++ (wsX5_add_r3 ++ (wsX5_add_r4 ++ (wsX5_add_r5 ++ wsX5_add_r6))))) ++ wsX50 ++ wsX40 ++ wsX00 ++ wsX10)
def wsX5_mean_r1 : List Cond := [Cond.fieldLink RX5 95 "PegField" "reads" "I", Cond.fieldLink RX5 51 "PegField" "outlook" "LPegField$Outcome;", Cond.methodLink RX5 170 yX5_lookAhead, Cond.instanceMethod yX5_lookAhead, Cond.selects RX5 yX5_lookAhead yX5_lookAhead, Cond.initialized RX5, Cond.code yX5_lookAhead cX5_lookAhead 1 none, Cond.fieldLink RX5 92 "PegField" "isLooked" "Z", Cond.fieldLink RX5 45 "PegField" "thought" "LPegField$State;", Cond.fieldLink RX5 28 "PegField" "now" "LPegField$State;", Cond.fieldLink RX5 55 "PegField" "outcomes" "[LPegField$Outcome;", Cond.methodLink RX5 208 yX4_copyFrom, Cond.instanceMethod yX4_copyFrom, Cond.selects RX4 yX4_copyFrom yX4_copyFrom, Cond.initialized RX4, Cond.code yX4_copyFrom cX4_copyFrom 3 none, Cond.fieldLink RX4 25 "PegField$State" "holes" "I", Cond.fieldLink RX4 29 "PegField$State" "pegs" "I", Cond.fieldLink RX4 32 "PegField$State" "onBoard" "I", Cond.fieldLink RX4 35 "PegField$State" "jumps" "I", Cond.fieldLink RX4 9 "PegField$State" "kinds" "[I", Cond.fieldLink RX4 15 "PegField$State" "homes" "[I", Cond.fieldLink RX4 18 "PegField$State" "tenants" "[I", Cond.methodLink RX5 261 yX5_look]
def wsX5_mean_r2 : List Cond := [Cond.static yX5_look, Cond.code yX5_look cX5_look 10 none, Cond.methodLink RX5 268 yX1_begin, Cond.instanceMethod yX1_begin, Cond.selects RX1 yX1_begin yX1_begin, Cond.initialized RX1, Cond.code yX1_begin cX1_begin 1 none, Cond.fieldLink RX1 9 "PegField$Outcome" "choices" "I", Cond.fieldLink RX1 15 "PegField$Outcome" "fewest" "I", Cond.fieldLink RX1 18 "PegField$Outcome" "first" "I", Cond.fieldLink RX1 21 "PegField$Outcome" "ways" "I", Cond.fieldLink RX1 24 "PegField$Outcome" "longest" "I", Cond.fieldLink RX1 27 "PegField$Outcome" "shortest" "I", Cond.fieldLink RX1 30 "PegField$Outcome" "alone" "I", Cond.fieldLink RX1 33 "PegField$Outcome" "winning" "I", Cond.fieldLink RX1 36 "PegField$Outcome" "mean" "I", Cond.methodLink RX5 271 yX4_targetOf, Cond.instanceMethod yX4_targetOf, Cond.selects RX4 yX4_targetOf yX4_targetOf, Cond.code yX4_targetOf cX4_targetOf 6 (some .int), Cond.fieldLink RX4 21 "PegField$State" "grid" "LPegField$Grid;", Cond.methodLink RX4 70 yX4_homeOf, Cond.instanceMethod yX4_homeOf, Cond.selects RX4 yX4_homeOf yX4_homeOf]
def wsX5_mean_r3 : List Cond := [Cond.code yX4_homeOf cX4_homeOf 2 (some .int), Cond.methodLink RX4 59 yX4_isPeg, Cond.instanceMethod yX4_isPeg, Cond.selects RX4 yX4_isPeg yX4_isPeg, Cond.code yX4_isPeg cX4_isPeg 2 (some .boolean), Cond.methodLink RX4 73 yX0_next, Cond.instanceMethod yX0_next, Cond.selects RX0 yX0_next yX0_next, Cond.initialized RX0, Cond.code yX0_next cX0_next 4 (some .int), Cond.fieldLink RX0 9 "PegField$Grid" "beside" "[I", Cond.methodLink RX0 35 yX0_has, Cond.instanceMethod yX0_has, Cond.selects RX0 yX0_has yX0_has, Cond.code yX0_has cX0_has 2 (some .boolean), Cond.fieldLink RX0 22 "PegField$Grid" "places" "I", Cond.methodLink RX4 77 yX4_pegIn, Cond.instanceMethod yX4_pegIn, Cond.selects RX4 yX4_pegIn yX4_pegIn, Cond.code yX4_pegIn cX4_pegIn 2 (some .int), Cond.methodLink RX4 63 yX0_has, Cond.methodLink RX4 80 yX4_kindOf, Cond.instanceMethod yX4_kindOf, Cond.selects RX4 yX4_kindOf yX4_kindOf]
def wsX5_mean_r4 : List Cond := [Cond.code yX4_kindOf cX4_kindOf 2 (some .int), Cond.static yX5_kindGoes, Cond.code yX5_kindGoes cX5_kindGoes 2 (some .boolean), Cond.fieldLink RX5 294 "PegField" "WHO_GOES" "[I", Cond.methodLink RX5 123 yX5_hasBit, Cond.static yX5_hasBit, Cond.code yX5_hasBit cX5_hasBit 2 (some .boolean), Cond.static yX5_kindCould, Cond.code yX5_kindCould cX5_kindCould 2 (some .boolean), Cond.fieldLink RX5 203 "PegField" "WHO_COULD" "[I", Cond.methodLink RX4 89 yX4_isEmptyHole, Cond.instanceMethod yX4_isEmptyHole, Cond.selects RX4 yX4_isEmptyHole yX4_isEmptyHole, Cond.code yX4_isEmptyHole cX4_isEmptyHole 2 (some .boolean), Cond.methodLink RX5 107 yX4_homeOf, Cond.methodLink RX5 143 yX4_neighbourOf, Cond.instanceMethod yX4_neighbourOf, Cond.selects RX4 yX4_neighbourOf yX4_neighbourOf, Cond.code yX4_neighbourOf cX4_neighbourOf 3 (some .int), Cond.methodLink RX5 146 yX4_leap, Cond.instanceMethod yX4_leap, Cond.selects RX4 yX4_leap yX4_leap, Cond.code yX4_leap cX4_leap 4 none, Cond.methodLink RX4 110 yX4_lift]
def wsX5_mean_r5 : List Cond := [Cond.instanceMethod yX4_lift, Cond.selects RX4 yX4_lift yX4_lift, Cond.code yX4_lift cX4_lift 2 none, Cond.methodLink RX4 56 yX4_set, Cond.instanceMethod yX4_set, Cond.selects RX4 yX4_set yX4_set, Cond.code yX4_set cX4_set 3 none, Cond.methodLink RX5 274 yX4_takeBack, Cond.instanceMethod yX4_takeBack, Cond.selects RX4 yX4_takeBack yX4_takeBack, Cond.code yX4_takeBack cX4_takeBack 5 none, Cond.methodLink RX5 278 yX1_take, Cond.instanceMethod yX1_take, Cond.selects RX1 yX1_take yX1_take, Cond.code yX1_take cX1_take 3 none, Cond.methodLink RX1 39 Lib.Math.max.name, Cond.static Lib.Math.max.name, Cond.initialized "java/lang/Math", Cond.code Lib.Math.max.name Lib.Math.max.code 2 (some .int), Cond.methodLink RX5 282 yX4_aloneBit, Cond.instanceMethod yX4_aloneBit, Cond.selects RX4 yX4_aloneBit yX4_aloneBit, Cond.code yX4_aloneBit cX4_aloneBit 4 (some .int), Cond.methodLink RX5 285 yX1_end]
def wsX5_mean_r6 : List Cond := [Cond.instanceMethod yX1_end, Cond.selects RX1 yX1_end yX1_end, Cond.code yX1_end cX1_end 3 none]
def wsX5_mean : List Cond := .code yX5_mean cX5_mean 1 (some .int) :: ((wsX5_mean_r1 ++ (wsX5_mean_r2 ++ (wsX5_mean_r3 ++ (wsX5_mean_r4 ++ (wsX5_mean_r5 ++ wsX5_mean_r6))))) ++ wsX50 ++ wsX10 ++ wsX40 ++ wsX00)
def wsX5_see : List Cond := .code yX5_see cX5_see 5 (some .int) :: ([.fieldLink RX5 28 "PegField" "now" "LPegField$State;", .fieldLink RX5 203 "PegField" "WHO_COULD" "[I", .fieldLink RX5 35 "PegField" "seen" "LPegField$Seen;", .methodLink RX5 101 yX4_isPeg, .instanceMethod yX4_isPeg, .selects RX4 yX4_isPeg yX4_isPeg, .initialized RX4, .code yX4_isPeg cX4_isPeg 2 (some .boolean), .fieldLink RX4 29 "PegField$State" "pegs" "I", .methodLink RX5 206 yX3_append, .instanceMethod yX3_append, .selects RX3 yX3_append yX3_append, .initialized RX3, .code yX3_append cX3_append 3 (some .boolean), .fieldLink RX3 18 "PegField$Seen" "size" "I", .fieldLink RX3 9 "PegField$Seen" "pegs" "[I", .fieldLink RX3 15 "PegField$Seen" "sorts" "[I"] ++ wsX50 ++ wsX30 ++ wsX40)
def wsX5_forget : List Cond := .code yX5_forget cX5_forget 2 (some .int) :: ([.fieldLink RX5 35 "PegField" "seen" "LPegField$Seen;"] ++ wsX50 ++ wsX30)
def wsX5_nextSeed : List Cond := .code yX5_nextSeed cX5_nextSeed 2 (some .long) :: ([.constantLong RX5 288 (1103515245), .constantLong RX5 290 (12345), .constantLong RX5 292 (2147483648)])
def wsX5_runs_r1 : List Cond := [Cond.fieldLink RX5 95 "PegField" "reads" "I", Cond.fieldLink RX5 45 "PegField" "thought" "LPegField$State;", Cond.fieldLink RX5 28 "PegField" "now" "LPegField$State;", Cond.constantLong RX5 219 (65536), Cond.methodLink RX5 208 yX4_copyFrom, Cond.instanceMethod yX4_copyFrom, Cond.selects RX4 yX4_copyFrom yX4_copyFrom, Cond.initialized RX4, Cond.code yX4_copyFrom cX4_copyFrom 3 none, Cond.fieldLink RX4 25 "PegField$State" "holes" "I", Cond.fieldLink RX4 29 "PegField$State" "pegs" "I", Cond.fieldLink RX4 32 "PegField$State" "onBoard" "I", Cond.fieldLink RX4 35 "PegField$State" "jumps" "I", Cond.fieldLink RX4 9 "PegField$State" "kinds" "[I", Cond.fieldLink RX4 15 "PegField$State" "homes" "[I", Cond.fieldLink RX4 18 "PegField$State" "tenants" "[I", Cond.methodLink RX5 212 yX4_choices, Cond.instanceMethod yX4_choices, Cond.selects RX4 yX4_choices yX4_choices, Cond.code yX4_choices cX4_choices 3 (some .int), Cond.methodLink RX4 95 yX4_targetsOf, Cond.instanceMethod yX4_targetsOf, Cond.selects RX4 yX4_targetsOf yX4_targetsOf, Cond.code yX4_targetsOf cX4_targetsOf 5 (some .int)]
def wsX5_runs_r2 : List Cond := [Cond.methodLink RX4 92 yX4_targetOf, Cond.instanceMethod yX4_targetOf, Cond.selects RX4 yX4_targetOf yX4_targetOf, Cond.code yX4_targetOf cX4_targetOf 6 (some .int), Cond.fieldLink RX4 21 "PegField$State" "grid" "LPegField$Grid;", Cond.methodLink RX4 70 yX4_homeOf, Cond.instanceMethod yX4_homeOf, Cond.selects RX4 yX4_homeOf yX4_homeOf, Cond.code yX4_homeOf cX4_homeOf 2 (some .int), Cond.methodLink RX4 59 yX4_isPeg, Cond.instanceMethod yX4_isPeg, Cond.selects RX4 yX4_isPeg yX4_isPeg, Cond.code yX4_isPeg cX4_isPeg 2 (some .boolean), Cond.methodLink RX4 73 yX0_next, Cond.instanceMethod yX0_next, Cond.selects RX0 yX0_next yX0_next, Cond.initialized RX0, Cond.code yX0_next cX0_next 4 (some .int), Cond.fieldLink RX0 9 "PegField$Grid" "beside" "[I", Cond.methodLink RX0 35 yX0_has, Cond.instanceMethod yX0_has, Cond.selects RX0 yX0_has yX0_has, Cond.code yX0_has cX0_has 2 (some .boolean), Cond.fieldLink RX0 22 "PegField$Grid" "places" "I"]
def wsX5_runs_r3 : List Cond := [Cond.methodLink RX4 77 yX4_pegIn, Cond.instanceMethod yX4_pegIn, Cond.selects RX4 yX4_pegIn yX4_pegIn, Cond.code yX4_pegIn cX4_pegIn 2 (some .int), Cond.methodLink RX4 63 yX0_has, Cond.methodLink RX4 80 yX4_kindOf, Cond.instanceMethod yX4_kindOf, Cond.selects RX4 yX4_kindOf yX4_kindOf, Cond.code yX4_kindOf cX4_kindOf 2 (some .int), Cond.static yX5_kindGoes, Cond.initialized RX5, Cond.code yX5_kindGoes cX5_kindGoes 2 (some .boolean), Cond.fieldLink RX5 294 "PegField" "WHO_GOES" "[I", Cond.methodLink RX5 123 yX5_hasBit, Cond.static yX5_hasBit, Cond.code yX5_hasBit cX5_hasBit 2 (some .boolean), Cond.static yX5_kindCould, Cond.code yX5_kindCould cX5_kindCould 2 (some .boolean), Cond.fieldLink RX5 203 "PegField" "WHO_COULD" "[I", Cond.methodLink RX4 89 yX4_isEmptyHole, Cond.instanceMethod yX4_isEmptyHole, Cond.selects RX4 yX4_isEmptyHole yX4_isEmptyHole, Cond.code yX4_isEmptyHole cX4_isEmptyHole 2 (some .boolean), Cond.methodLink RX4 98 yJ6_bitCount_0f7a4]
def wsX5_runs_r4 : List Cond := [Cond.static yJ6_bitCount_0f7a4, Cond.initialized RJ6, Cond.code yJ6_bitCount_0f7a4 cJ6_bitCount_0f7a4 1 (some .int), Cond.constant RJ6 265 (1431655765), Cond.constant RJ6 266 (858993459), Cond.constant RJ6 267 (252645135), Cond.methodLink RX5 215 yX5_nextSeed, Cond.static yX5_nextSeed, Cond.code yX5_nextSeed cX5_nextSeed 2 (some .long), Cond.constantLong RX5 288 (1103515245), Cond.constantLong RX5 290 (12345), Cond.constantLong RX5 292 (2147483648), Cond.methodLink RX5 221 yX4_leapByChoice, Cond.instanceMethod yX4_leapByChoice, Cond.selects RX4 yX4_leapByChoice yX4_leapByChoice, Cond.code yX4_leapByChoice cX4_leapByChoice 6 none, Cond.methodLink RX4 103 yX4_neighbourOf, Cond.instanceMethod yX4_neighbourOf, Cond.selects RX4 yX4_neighbourOf yX4_neighbourOf, Cond.code yX4_neighbourOf cX4_neighbourOf 3 (some .int), Cond.methodLink RX4 106 yX4_leap, Cond.instanceMethod yX4_leap, Cond.selects RX4 yX4_leap yX4_leap, Cond.code yX4_leap cX4_leap 4 none]
def wsX5_runs_r5 : List Cond := [Cond.methodLink RX4 110 yX4_lift, Cond.instanceMethod yX4_lift, Cond.selects RX4 yX4_lift yX4_lift, Cond.code yX4_lift cX4_lift 2 none, Cond.methodLink RX4 56 yX4_set, Cond.instanceMethod yX4_set, Cond.selects RX4 yX4_set yX4_set, Cond.code yX4_set cX4_set 3 none]
def wsX5_runs : List Cond := .code yX5_runs cX5_runs 11 (some .int) :: ((wsX5_runs_r1 ++ (wsX5_runs_r2 ++ (wsX5_runs_r3 ++ (wsX5_runs_r4 ++ wsX5_runs_r5)))) ++ wsX50 ++ wsX40 ++ wsX00)
def wsX5_image_r1 : List Cond := [Cond.fieldLink RX5 95 "PegField" "reads" "I", Cond.fieldLink RX5 39 "PegField" "keptState" "LPegField$State;", Cond.fieldLink RX5 28 "PegField" "now" "LPegField$State;", Cond.fieldLink RX5 42 "PegField" "keptSeen" "LPegField$Seen;", Cond.fieldLink RX5 35 "PegField" "seen" "LPegField$Seen;", Cond.fieldLink RX5 88 "PegField" "isKept" "Z", Cond.methodLink RX5 208 yX4_copyFrom, Cond.instanceMethod yX4_copyFrom, Cond.selects RX4 yX4_copyFrom yX4_copyFrom, Cond.initialized RX4, Cond.code yX4_copyFrom cX4_copyFrom 3 none, Cond.fieldLink RX4 25 "PegField$State" "holes" "I", Cond.fieldLink RX4 29 "PegField$State" "pegs" "I", Cond.fieldLink RX4 32 "PegField$State" "onBoard" "I", Cond.fieldLink RX4 35 "PegField$State" "jumps" "I", Cond.fieldLink RX4 9 "PegField$State" "kinds" "[I", Cond.fieldLink RX4 15 "PegField$State" "homes" "[I", Cond.fieldLink RX4 18 "PegField$State" "tenants" "[I", Cond.methodLink RX5 225 yX3_copyFrom, Cond.instanceMethod yX3_copyFrom, Cond.selects RX3 yX3_copyFrom yX3_copyFrom, Cond.initialized RX3, Cond.code yX3_copyFrom cX3_copyFrom 3 none, Cond.fieldLink RX3 18 "PegField$Seen" "size" "I"]
def wsX5_image_r2 : List Cond := [Cond.fieldLink RX3 9 "PegField$Seen" "pegs" "[I", Cond.fieldLink RX3 15 "PegField$Seen" "sorts" "[I"]
def wsX5_image : List Cond := .code yX5_image cX5_image 1 (some .int) :: ((wsX5_image_r1 ++ wsX5_image_r2) ++ wsX50 ++ wsX40 ++ wsX30)
def wsX5_restore_r1 : List Cond := [Cond.fieldLink RX5 88 "PegField" "isKept" "Z", Cond.fieldLink RX5 28 "PegField" "now" "LPegField$State;", Cond.fieldLink RX5 39 "PegField" "keptState" "LPegField$State;", Cond.fieldLink RX5 35 "PegField" "seen" "LPegField$Seen;", Cond.fieldLink RX5 42 "PegField" "keptSeen" "LPegField$Seen;", Cond.fieldLink RX5 92 "PegField" "isLooked" "Z", Cond.methodLink RX5 208 yX4_copyFrom, Cond.instanceMethod yX4_copyFrom, Cond.selects RX4 yX4_copyFrom yX4_copyFrom, Cond.initialized RX4, Cond.code yX4_copyFrom cX4_copyFrom 3 none, Cond.fieldLink RX4 25 "PegField$State" "holes" "I", Cond.fieldLink RX4 29 "PegField$State" "pegs" "I", Cond.fieldLink RX4 32 "PegField$State" "onBoard" "I", Cond.fieldLink RX4 35 "PegField$State" "jumps" "I", Cond.fieldLink RX4 9 "PegField$State" "kinds" "[I", Cond.fieldLink RX4 15 "PegField$State" "homes" "[I", Cond.fieldLink RX4 18 "PegField$State" "tenants" "[I", Cond.methodLink RX5 225 yX3_copyFrom, Cond.instanceMethod yX3_copyFrom, Cond.selects RX3 yX3_copyFrom yX3_copyFrom, Cond.initialized RX3, Cond.code yX3_copyFrom cX3_copyFrom 3 none, Cond.fieldLink RX3 18 "PegField$Seen" "size" "I"]
def wsX5_restore_r2 : List Cond := [Cond.fieldLink RX3 9 "PegField$Seen" "pegs" "[I", Cond.fieldLink RX3 15 "PegField$Seen" "sorts" "[I"]
def wsX5_restore : List Cond := .code yX5_restore cX5_restore 1 (some .int) :: ((wsX5_restore_r1 ++ wsX5_restore_r2) ++ wsX50 ++ wsX40 ++ wsX30)
def wsX5_count_r1 : List Cond := [Cond.fieldLink RX5 19 "PegField" "grid" "LPegField$Grid;", Cond.fieldLink RX5 28 "PegField" "now" "LPegField$State;", Cond.fieldLink RX5 35 "PegField" "seen" "LPegField$Seen;", Cond.fieldLink RX5 12 "PegField" "page" "LPegField$Page;", Cond.fieldLink RX5 95 "PegField" "reads" "I", Cond.fieldLink RX5 194 "PegField" "adds" "I", Cond.methodLink RX5 162 yJ6_bitCount_0f7a4, Cond.static yJ6_bitCount_0f7a4, Cond.initialized RJ6, Cond.code yJ6_bitCount_0f7a4 cJ6_bitCount_0f7a4 1 (some .int), Cond.constant RJ6 265 (1431655765), Cond.constant RJ6 266 (858993459), Cond.constant RJ6 267 (252645135), Cond.methodLink RX5 212 yX4_choices, Cond.instanceMethod yX4_choices, Cond.selects RX4 yX4_choices yX4_choices, Cond.initialized RX4, Cond.code yX4_choices cX4_choices 3 (some .int), Cond.fieldLink RX4 29 "PegField$State" "pegs" "I", Cond.methodLink RX4 95 yX4_targetsOf, Cond.instanceMethod yX4_targetsOf, Cond.selects RX4 yX4_targetsOf yX4_targetsOf, Cond.code yX4_targetsOf cX4_targetsOf 5 (some .int), Cond.methodLink RX4 92 yX4_targetOf]
def wsX5_count_r2 : List Cond := [Cond.instanceMethod yX4_targetOf, Cond.selects RX4 yX4_targetOf yX4_targetOf, Cond.code yX4_targetOf cX4_targetOf 6 (some .int), Cond.fieldLink RX4 21 "PegField$State" "grid" "LPegField$Grid;", Cond.methodLink RX4 70 yX4_homeOf, Cond.instanceMethod yX4_homeOf, Cond.selects RX4 yX4_homeOf yX4_homeOf, Cond.code yX4_homeOf cX4_homeOf 2 (some .int), Cond.fieldLink RX4 15 "PegField$State" "homes" "[I", Cond.methodLink RX4 59 yX4_isPeg, Cond.instanceMethod yX4_isPeg, Cond.selects RX4 yX4_isPeg yX4_isPeg, Cond.code yX4_isPeg cX4_isPeg 2 (some .boolean), Cond.methodLink RX4 73 yX0_next, Cond.instanceMethod yX0_next, Cond.selects RX0 yX0_next yX0_next, Cond.initialized RX0, Cond.code yX0_next cX0_next 4 (some .int), Cond.fieldLink RX0 9 "PegField$Grid" "beside" "[I", Cond.methodLink RX0 35 yX0_has, Cond.instanceMethod yX0_has, Cond.selects RX0 yX0_has yX0_has, Cond.code yX0_has cX0_has 2 (some .boolean), Cond.fieldLink RX0 22 "PegField$Grid" "places" "I"]
def wsX5_count_r3 : List Cond := [Cond.methodLink RX4 77 yX4_pegIn, Cond.instanceMethod yX4_pegIn, Cond.selects RX4 yX4_pegIn yX4_pegIn, Cond.code yX4_pegIn cX4_pegIn 2 (some .int), Cond.fieldLink RX4 18 "PegField$State" "tenants" "[I", Cond.methodLink RX4 63 yX0_has, Cond.methodLink RX4 80 yX4_kindOf, Cond.instanceMethod yX4_kindOf, Cond.selects RX4 yX4_kindOf yX4_kindOf, Cond.code yX4_kindOf cX4_kindOf 2 (some .int), Cond.fieldLink RX4 9 "PegField$State" "kinds" "[I", Cond.static yX5_kindGoes, Cond.initialized RX5, Cond.code yX5_kindGoes cX5_kindGoes 2 (some .boolean), Cond.fieldLink RX5 294 "PegField" "WHO_GOES" "[I", Cond.methodLink RX5 123 yX5_hasBit, Cond.static yX5_hasBit, Cond.code yX5_hasBit cX5_hasBit 2 (some .boolean), Cond.static yX5_kindCould, Cond.code yX5_kindCould cX5_kindCould 2 (some .boolean), Cond.fieldLink RX5 203 "PegField" "WHO_COULD" "[I", Cond.methodLink RX4 89 yX4_isEmptyHole, Cond.instanceMethod yX4_isEmptyHole, Cond.selects RX4 yX4_isEmptyHole yX4_isEmptyHole]
def wsX5_count_r4 : List Cond := [Cond.code yX4_isEmptyHole cX4_isEmptyHole 2 (some .boolean), Cond.fieldLink RX4 25 "PegField$State" "holes" "I", Cond.methodLink RX4 98 yJ6_bitCount_0f7a4]
def wsX5_count : List Cond := .code yX5_count cX5_count 2 (some .int) :: ((wsX5_count_r1 ++ (wsX5_count_r2 ++ (wsX5_count_r3 ++ wsX5_count_r4))) ++ wsX50 ++ wsX00 ++ wsX40 ++ wsX30 ++ wsX20)
def wsX5_digest_r1 : List Cond := [Cond.constantLong RX5 234 (1307), Cond.fieldLink RX5 28 "PegField" "now" "LPegField$State;", Cond.constantLong RX5 236 (31), Cond.fieldLink RX5 19 "PegField" "grid" "LPegField$Grid;", Cond.fieldLink RX5 95 "PegField" "reads" "I", Cond.fieldLink RX5 12 "PegField" "page" "LPegField$Page;", Cond.methodLink RX5 238 yX5_peg, Cond.instanceMethod yX5_peg, Cond.selects RX5 yX5_peg yX5_peg, Cond.initialized RX5, Cond.code yX5_peg cX5_peg 3 (some .int), Cond.fieldLink RX5 35 "PegField" "seen" "LPegField$Seen;", Cond.methodLink RX5 101 yX4_isPeg, Cond.instanceMethod yX4_isPeg, Cond.selects RX4 yX4_isPeg yX4_isPeg, Cond.initialized RX4, Cond.code yX4_isPeg cX4_isPeg 2 (some .boolean), Cond.fieldLink RX4 29 "PegField$State" "pegs" "I", Cond.methodLink RX5 104 yX4_kindOf, Cond.instanceMethod yX4_kindOf, Cond.selects RX4 yX4_kindOf yX4_kindOf, Cond.code yX4_kindOf cX4_kindOf 2 (some .int), Cond.fieldLink RX4 9 "PegField$State" "kinds" "[I", Cond.methodLink RX4 59 yX4_isPeg]
def wsX5_digest_r2 : List Cond := [Cond.methodLink RX5 107 yX4_homeOf, Cond.instanceMethod yX4_homeOf, Cond.selects RX4 yX4_homeOf yX4_homeOf, Cond.code yX4_homeOf cX4_homeOf 2 (some .int), Cond.fieldLink RX4 15 "PegField$State" "homes" "[I", Cond.methodLink RX5 110 yX4_targetsOf, Cond.instanceMethod yX4_targetsOf, Cond.selects RX4 yX4_targetsOf yX4_targetsOf, Cond.code yX4_targetsOf cX4_targetsOf 5 (some .int), Cond.methodLink RX4 92 yX4_targetOf, Cond.instanceMethod yX4_targetOf, Cond.selects RX4 yX4_targetOf yX4_targetOf, Cond.code yX4_targetOf cX4_targetOf 6 (some .int), Cond.fieldLink RX4 21 "PegField$State" "grid" "LPegField$Grid;", Cond.methodLink RX4 70 yX4_homeOf, Cond.methodLink RX4 73 yX0_next, Cond.instanceMethod yX0_next, Cond.selects RX0 yX0_next yX0_next, Cond.initialized RX0, Cond.code yX0_next cX0_next 4 (some .int), Cond.fieldLink RX0 9 "PegField$Grid" "beside" "[I", Cond.methodLink RX0 35 yX0_has, Cond.instanceMethod yX0_has, Cond.selects RX0 yX0_has yX0_has]
def wsX5_digest_r3 : List Cond := [Cond.code yX0_has cX0_has 2 (some .boolean), Cond.fieldLink RX0 22 "PegField$Grid" "places" "I", Cond.methodLink RX4 77 yX4_pegIn, Cond.instanceMethod yX4_pegIn, Cond.selects RX4 yX4_pegIn yX4_pegIn, Cond.code yX4_pegIn cX4_pegIn 2 (some .int), Cond.fieldLink RX4 18 "PegField$State" "tenants" "[I", Cond.methodLink RX4 63 yX0_has, Cond.methodLink RX4 80 yX4_kindOf, Cond.static yX5_kindGoes, Cond.code yX5_kindGoes cX5_kindGoes 2 (some .boolean), Cond.fieldLink RX5 294 "PegField" "WHO_GOES" "[I", Cond.methodLink RX5 123 yX5_hasBit, Cond.static yX5_hasBit, Cond.code yX5_hasBit cX5_hasBit 2 (some .boolean), Cond.static yX5_kindCould, Cond.code yX5_kindCould cX5_kindCould 2 (some .boolean), Cond.fieldLink RX5 203 "PegField" "WHO_COULD" "[I", Cond.methodLink RX4 89 yX4_isEmptyHole, Cond.instanceMethod yX4_isEmptyHole, Cond.selects RX4 yX4_isEmptyHole yX4_isEmptyHole, Cond.code yX4_isEmptyHole cX4_isEmptyHole 2 (some .boolean), Cond.fieldLink RX4 25 "PegField$State" "holes" "I", Cond.methodLink RX5 113 yX3_sortsOf]
def wsX5_digest_r4 : List Cond := [Cond.instanceMethod yX3_sortsOf, Cond.selects RX3 yX3_sortsOf yX3_sortsOf, Cond.initialized RX3, Cond.code yX3_sortsOf cX3_sortsOf 4 (some .int), Cond.fieldLink RX3 18 "PegField$Seen" "size" "I", Cond.fieldLink RX3 9 "PegField$Seen" "pegs" "[I", Cond.fieldLink RX3 15 "PegField$Seen" "sorts" "[I", Cond.methodLink RX5 116 yX5_bestQuestion, Cond.static yX5_bestQuestion, Cond.code yX5_bestQuestion cX5_bestQuestion 5 (some .int), Cond.methodLink RX5 297 Lib.Math.max.name, Cond.static Lib.Math.max.name, Cond.initialized "java/lang/Math", Cond.code Lib.Math.max.name Lib.Math.max.code 2 (some .int), Cond.methodLink RX5 162 yJ6_bitCount_0f7a4, Cond.static yJ6_bitCount_0f7a4, Cond.initialized RJ6, Cond.code yJ6_bitCount_0f7a4 cJ6_bitCount_0f7a4 1 (some .int), Cond.constant RJ6 265 (1431655765), Cond.constant RJ6 266 (858993459), Cond.constant RJ6 267 (252645135), Cond.methodLink RX5 244 yX5_place, Cond.instanceMethod yX5_place, Cond.selects RX5 yX5_place yX5_place]
def wsX5_digest_r5 : List Cond := [Cond.code yX5_place cX5_place 3 (some .int), Cond.methodLink RX5 127 yX0_has, Cond.methodLink RX5 130 yX4_isHole, Cond.instanceMethod yX4_isHole, Cond.selects RX4 yX4_isHole yX4_isHole, Cond.code yX4_isHole cX4_isHole 2 (some .boolean), Cond.methodLink RX5 133 yX4_pegIn, Cond.methodLink RX5 247 yX5_courses, Cond.instanceMethod yX5_courses, Cond.selects RX5 yX5_courses yX5_courses, Cond.code yX5_courses cX5_courses 2 (some .int), Cond.fieldLink RX5 51 "PegField" "outlook" "LPegField$Outcome;", Cond.methodLink RX5 170 yX5_lookAhead, Cond.instanceMethod yX5_lookAhead, Cond.selects RX5 yX5_lookAhead yX5_lookAhead, Cond.code yX5_lookAhead cX5_lookAhead 1 none, Cond.fieldLink RX5 92 "PegField" "isLooked" "Z", Cond.fieldLink RX5 45 "PegField" "thought" "LPegField$State;", Cond.fieldLink RX5 55 "PegField" "outcomes" "[LPegField$Outcome;", Cond.methodLink RX5 208 yX4_copyFrom, Cond.instanceMethod yX4_copyFrom, Cond.selects RX4 yX4_copyFrom yX4_copyFrom, Cond.code yX4_copyFrom cX4_copyFrom 3 none, Cond.fieldLink RX4 32 "PegField$State" "onBoard" "I"]
def wsX5_digest_r6 : List Cond := [Cond.fieldLink RX4 35 "PegField$State" "jumps" "I", Cond.methodLink RX5 261 yX5_look, Cond.static yX5_look, Cond.code yX5_look cX5_look 10 none, Cond.methodLink RX5 268 yX1_begin, Cond.instanceMethod yX1_begin, Cond.selects RX1 yX1_begin yX1_begin, Cond.initialized RX1, Cond.code yX1_begin cX1_begin 1 none, Cond.fieldLink RX1 9 "PegField$Outcome" "choices" "I", Cond.fieldLink RX1 15 "PegField$Outcome" "fewest" "I", Cond.fieldLink RX1 18 "PegField$Outcome" "first" "I", Cond.fieldLink RX1 21 "PegField$Outcome" "ways" "I", Cond.fieldLink RX1 24 "PegField$Outcome" "longest" "I", Cond.fieldLink RX1 27 "PegField$Outcome" "shortest" "I", Cond.fieldLink RX1 30 "PegField$Outcome" "alone" "I", Cond.fieldLink RX1 33 "PegField$Outcome" "winning" "I", Cond.fieldLink RX1 36 "PegField$Outcome" "mean" "I", Cond.methodLink RX5 271 yX4_targetOf, Cond.methodLink RX5 143 yX4_neighbourOf, Cond.instanceMethod yX4_neighbourOf, Cond.selects RX4 yX4_neighbourOf yX4_neighbourOf, Cond.code yX4_neighbourOf cX4_neighbourOf 3 (some .int), Cond.methodLink RX5 146 yX4_leap]
def wsX5_digest_r7 : List Cond := [Cond.instanceMethod yX4_leap, Cond.selects RX4 yX4_leap yX4_leap, Cond.code yX4_leap cX4_leap 4 none, Cond.methodLink RX4 110 yX4_lift, Cond.instanceMethod yX4_lift, Cond.selects RX4 yX4_lift yX4_lift, Cond.code yX4_lift cX4_lift 2 none, Cond.methodLink RX4 56 yX4_set, Cond.instanceMethod yX4_set, Cond.selects RX4 yX4_set yX4_set, Cond.code yX4_set cX4_set 3 none, Cond.methodLink RX5 274 yX4_takeBack, Cond.instanceMethod yX4_takeBack, Cond.selects RX4 yX4_takeBack yX4_takeBack, Cond.code yX4_takeBack cX4_takeBack 5 none, Cond.methodLink RX5 278 yX1_take, Cond.instanceMethod yX1_take, Cond.selects RX1 yX1_take yX1_take, Cond.code yX1_take cX1_take 3 none, Cond.methodLink RX1 39 Lib.Math.max.name, Cond.methodLink RX5 282 yX4_aloneBit, Cond.instanceMethod yX4_aloneBit, Cond.selects RX4 yX4_aloneBit yX4_aloneBit, Cond.code yX4_aloneBit cX4_aloneBit 4 (some .int)]
def wsX5_digest_r8 : List Cond := [Cond.methodLink RX5 285 yX1_end, Cond.instanceMethod yX1_end, Cond.selects RX1 yX1_end yX1_end, Cond.code yX1_end cX1_end 3 none, Cond.methodLink RX5 250 yX5_wins, Cond.instanceMethod yX5_wins, Cond.selects RX5 yX5_wins yX5_wins, Cond.code yX5_wins cX5_wins 2 (some .int), Cond.methodLink RX5 253 yX5_mean, Cond.instanceMethod yX5_mean, Cond.selects RX5 yX5_mean yX5_mean, Cond.code yX5_mean cX5_mean 1 (some .int), Cond.methodLink RX5 255 yX2_codeAt, Cond.instanceMethod yX2_codeAt, Cond.selects RX2 yX2_codeAt yX2_codeAt, Cond.initialized RX2, Cond.code yX2_codeAt cX2_codeAt 2 (some .int), Cond.fieldLink RX2 15 "PegField$Page" "size" "I", Cond.fieldLink RX2 9 "PegField$Page" "codes" "[I", Cond.methodLink RX5 258 yX5_count, Cond.instanceMethod yX5_count, Cond.selects RX5 yX5_count yX5_count, Cond.code yX5_count cX5_count 2 (some .int), Cond.fieldLink RX5 194 "PegField" "adds" "I"]
def wsX5_digest_r9 : List Cond := [Cond.methodLink RX5 212 yX4_choices, Cond.instanceMethod yX4_choices, Cond.selects RX4 yX4_choices yX4_choices, Cond.code yX4_choices cX4_choices 3 (some .int), Cond.methodLink RX4 95 yX4_targetsOf, Cond.methodLink RX4 98 yJ6_bitCount_0f7a4]
def wsX5_digest : List Cond := .code yX5_digest cX5_digest 5 (some .long) :: ((wsX5_digest_r1 ++ (wsX5_digest_r2 ++ (wsX5_digest_r3 ++ (wsX5_digest_r4 ++ (wsX5_digest_r5 ++ (wsX5_digest_r6 ++ (wsX5_digest_r7 ++ (wsX5_digest_r8 ++ wsX5_digest_r9)))))))) ++ wsX50 ++ wsX40 ++ wsX00 ++ wsX20 ++ wsX30 ++ wsX10)
def wsX6_init_r1 : List Cond := [Cond.methodLink RX6 1 objectInit, Cond.instanceMethod objectInit, Cond.code objectInit ⟨#[0xb1]⟩ 1 none, Cond.arrayClass .int, Cond.fieldLink RX6 7 "PegFieldModel" "kindOf" "[I", Cond.fieldLink RX6 13 "PegFieldModel" "placeOf" "[I", Cond.fieldLink RX6 16 "PegFieldModel" "seenPeg" "[I", Cond.fieldLink RX6 19 "PegFieldModel" "seenWhat" "[I", Cond.fieldLink RX6 22 "PegFieldModel" "seenCould" "[I", Cond.arrayClass .byte, Cond.fieldLink RX6 25 "PegFieldModel" "page" "[B", Cond.fieldLink RX6 29 "PegFieldModel" "deepPlace" "[I", Cond.fieldLink RX6 32 "PegFieldModel" "codeOf" "[I", Cond.fieldLink RX6 35 "PegFieldModel" "jumpsOf" "[I", Cond.fieldLink RX6 38 "PegFieldModel" "waysOf" "[I", Cond.fieldLink RX6 41 "PegFieldModel" "fewestOf" "[I", Cond.fieldLink RX6 44 "PegFieldModel" "firstOf" "[I", Cond.fieldLink RX6 47 "PegFieldModel" "longestOf" "[I", Cond.fieldLink RX6 50 "PegFieldModel" "shortestOf" "[I", Cond.fieldLink RX6 53 "PegFieldModel" "aloneOf" "[I", Cond.fieldLink RX6 56 "PegFieldModel" "winOf" "[I", Cond.fieldLink RX6 59 "PegFieldModel" "sumOf" "[I", Cond.fieldLink RX6 62 "PegFieldModel" "keptKind" "[I", Cond.fieldLink RX6 65 "PegFieldModel" "keptPlace" "[I"]
def wsX6_init_r2 : List Cond := [Cond.fieldLink RX6 68 "PegFieldModel" "keptPeg" "[I", Cond.fieldLink RX6 71 "PegFieldModel" "keptWhat" "[I", Cond.fieldLink RX6 74 "PegFieldModel" "keptCould" "[I"]
def wsX6_init : List Cond := .code yX6_init cX6_init 1 none :: ((wsX6_init_r1 ++ wsX6_init_r2) ++ wsX60)
def wsX6_within : List Cond := .code yX6_within cX6_within 3 (some .boolean) :: ([])
def wsX6_isIn : List Cond := .code yX6_isIn cX6_isIn 2 (some .boolean) :: ([])
def wsX6_size : List Cond := .code yX6_size cX6_size 3 (some .int) :: ([])
def wsX6_letter : List Cond := .code yX6_letter cX6_letter 2 (some .int) :: ([.fieldLink RX6 81 "PegFieldModel" "pageLength" "I", .fieldLink RX6 25 "PegFieldModel" "page" "[B", .methodLink RX6 77 yX6_within, .static yX6_within, .initialized RX6, .code yX6_within cX6_within 3 (some .boolean)] ++ wsX60)
def wsX6_blank : List Cond := .code yX6_blank cX6_blank 2 (some .int) :: ([.fieldLink RX6 81 "PegFieldModel" "pageLength" "I"] ++ wsX60)
def wsX6_kindBy : List Cond := .code yX6_kindBy cX6_kindBy 1 (some .int) :: ([])
def wsX6_at : List Cond := .code yX6_at cX6_at 2 (some .int) :: ([.fieldLink RX6 81 "PegFieldModel" "pageLength" "I", .fieldLink RX6 25 "PegFieldModel" "page" "[B"] ++ wsX60)
def wsX6_readPlaces : List Cond := .code yX6_readPlaces cX6_readPlaces 4 (some .int) :: ([.fieldLink RX6 92 "PegFieldModel" "newPegs" "I", .fieldLink RX6 81 "PegFieldModel" "pageLength" "I", .fieldLink RX6 95 "PegFieldModel" "isWhole" "Z", .methodLink RX6 85 yX6_at, .instanceMethod yX6_at, .selects RX6 yX6_at yX6_at, .initialized RX6, .code yX6_at cX6_at 2 (some .int), .fieldLink RX6 25 "PegFieldModel" "page" "[B", .methodLink RX6 89 yX6_kindBy, .static yX6_kindBy, .code yX6_kindBy cX6_kindBy 1 (some .int)] ++ wsX60)
def wsX6_read : List Cond := .code yX6_read cX6_read 3 (some .int) :: ([.fieldLink RX6 95 "PegFieldModel" "isWhole" "Z", .fieldLink RX6 92 "PegFieldModel" "newPegs" "I", .methodLink RX6 85 yX6_at, .instanceMethod yX6_at, .selects RX6 yX6_at yX6_at, .initialized RX6, .code yX6_at cX6_at 2 (some .int), .fieldLink RX6 81 "PegFieldModel" "pageLength" "I", .fieldLink RX6 25 "PegFieldModel" "page" "[B", .methodLink RX6 77 yX6_within, .static yX6_within, .code yX6_within cX6_within 3 (some .boolean), .methodLink RX6 99 yX6_readPlaces, .instanceMethod yX6_readPlaces, .selects RX6 yX6_readPlaces yX6_readPlaces, .code yX6_readPlaces cX6_readPlaces 4 (some .int), .methodLink RX6 89 yX6_kindBy, .static yX6_kindBy, .code yX6_kindBy cX6_kindBy 1 (some .int)] ++ wsX60)
def wsX6_fault : List Cond := .code yX6_fault cX6_fault 1 (some .int) :: ([.methodLink RX6 102 yX6_read, .instanceMethod yX6_read, .selects RX6 yX6_read yX6_read, .initialized RX6, .code yX6_read cX6_read 3 (some .int), .fieldLink RX6 95 "PegFieldModel" "isWhole" "Z", .fieldLink RX6 92 "PegFieldModel" "newPegs" "I", .methodLink RX6 85 yX6_at, .instanceMethod yX6_at, .selects RX6 yX6_at yX6_at, .code yX6_at cX6_at 2 (some .int), .fieldLink RX6 81 "PegFieldModel" "pageLength" "I", .fieldLink RX6 25 "PegFieldModel" "page" "[B", .methodLink RX6 77 yX6_within, .static yX6_within, .code yX6_within cX6_within 3 (some .boolean), .methodLink RX6 99 yX6_readPlaces, .instanceMethod yX6_readPlaces, .selects RX6 yX6_readPlaces yX6_readPlaces, .code yX6_readPlaces cX6_readPlaces 4 (some .int), .methodLink RX6 89 yX6_kindBy, .static yX6_kindBy, .code yX6_kindBy cX6_kindBy 1 (some .int)] ++ wsX60)
def wsX6_places : List Cond := .code yX6_places cX6_places 1 (some .int) :: ([.fieldLink RX6 106 "PegFieldModel" "high" "I", .fieldLink RX6 109 "PegFieldModel" "wide" "I"] ++ wsX60)
def wsX6_board_r1 : List Cond := [Cond.fieldLink RX6 95 "PegFieldModel" "isWhole" "Z", Cond.fieldLink RX6 25 "PegFieldModel" "page" "[B", Cond.fieldLink RX6 106 "PegFieldModel" "high" "I", Cond.fieldLink RX6 109 "PegFieldModel" "wide" "I", Cond.fieldLink RX6 112 "PegFieldModel" "holes" "I", Cond.fieldLink RX6 115 "PegFieldModel" "pegs" "I", Cond.fieldLink RX6 7 "PegFieldModel" "kindOf" "[I", Cond.fieldLink RX6 13 "PegFieldModel" "placeOf" "[I", Cond.fieldLink RX6 121 "PegFieldModel" "jumps" "I", Cond.fieldLink RX6 124 "PegFieldModel" "boards" "I", Cond.fieldLink RX6 127 "PegFieldModel" "seen" "I", Cond.fieldLink RX6 81 "PegFieldModel" "pageLength" "I", Cond.methodLink RX6 102 yX6_read, Cond.instanceMethod yX6_read, Cond.selects RX6 yX6_read yX6_read, Cond.initialized RX6, Cond.code yX6_read cX6_read 3 (some .int), Cond.fieldLink RX6 92 "PegFieldModel" "newPegs" "I", Cond.methodLink RX6 85 yX6_at, Cond.instanceMethod yX6_at, Cond.selects RX6 yX6_at yX6_at, Cond.code yX6_at cX6_at 2 (some .int), Cond.methodLink RX6 77 yX6_within, Cond.static yX6_within]
def wsX6_board_r2 : List Cond := [Cond.code yX6_within cX6_within 3 (some .boolean), Cond.methodLink RX6 99 yX6_readPlaces, Cond.instanceMethod yX6_readPlaces, Cond.selects RX6 yX6_readPlaces yX6_readPlaces, Cond.code yX6_readPlaces cX6_readPlaces 4 (some .int), Cond.methodLink RX6 89 yX6_kindBy, Cond.static yX6_kindBy, Cond.code yX6_kindBy cX6_kindBy 1 (some .int), Cond.methodLink RX6 118 yX6_places, Cond.instanceMethod yX6_places, Cond.selects RX6 yX6_places yX6_places, Cond.code yX6_places cX6_places 1 (some .int)]
def wsX6_board : List Cond := .code yX6_board cX6_board 3 (some .int) :: ((wsX6_board_r1 ++ wsX6_board_r2) ++ wsX60)
def wsX6_isPeg : List Cond := .code yX6_isPeg cX6_isPeg 2 (some .boolean) :: ([.fieldLink RX6 115 "PegFieldModel" "pegs" "I", .methodLink RX6 77 yX6_within, .static yX6_within, .initialized RX6, .code yX6_within cX6_within 3 (some .boolean)] ++ wsX60)
def wsX6_isPlace : List Cond := .code yX6_isPlace cX6_isPlace 2 (some .boolean) :: ([.methodLink RX6 118 yX6_places, .instanceMethod yX6_places, .selects RX6 yX6_places yX6_places, .initialized RX6, .code yX6_places cX6_places 1 (some .int), .fieldLink RX6 106 "PegFieldModel" "high" "I", .fieldLink RX6 109 "PegFieldModel" "wide" "I", .methodLink RX6 77 yX6_within, .static yX6_within, .code yX6_within cX6_within 3 (some .boolean)] ++ wsX60)
def wsX6_putDeep : List Cond := .code yX6_putDeep cX6_putDeep 2 none :: ([.fieldLink RX6 29 "PegFieldModel" "deepPlace" "[I", .fieldLink RX6 115 "PegFieldModel" "pegs" "I", .fieldLink RX6 13 "PegFieldModel" "placeOf" "[I"] ++ wsX60)
def wsX6_whoAt : List Cond := .code yX6_whoAt cX6_whoAt 5 (some .int) :: ([.fieldLink RX6 115 "PegFieldModel" "pegs" "I", .fieldLink RX6 29 "PegFieldModel" "deepPlace" "[I"] ++ wsX60)
def wsX6_apart : List Cond := .code yX6_apart cX6_apart 2 (some .int) :: ([])
def wsX6_goesBy : List Cond := .code yX6_goesBy cX6_goesBy 6 (some .boolean) :: ([])
def wsX6_overBy : List Cond := .code yX6_overBy cX6_overBy 6 (some .int) :: ([.fieldLink RX6 29 "PegFieldModel" "deepPlace" "[I", .fieldLink RX6 112 "PegFieldModel" "holes" "I", .fieldLink RX6 7 "PegFieldModel" "kindOf" "[I", .fieldLink RX6 109 "PegFieldModel" "wide" "I", .methodLink RX6 130 yX6_isIn, .static yX6_isIn, .initialized RX6, .code yX6_isIn cX6_isIn 2 (some .boolean), .methodLink RX6 134 yX6_whoAt, .instanceMethod yX6_whoAt, .selects RX6 yX6_whoAt yX6_whoAt, .code yX6_whoAt cX6_whoAt 5 (some .int), .fieldLink RX6 115 "PegFieldModel" "pegs" "I", .methodLink RX6 138 yX6_apart, .static yX6_apart, .code yX6_apart cX6_apart 2 (some .int), .methodLink RX6 141 yX6_goesBy, .instanceMethod yX6_goesBy, .selects RX6 yX6_goesBy yX6_goesBy, .code yX6_goesBy cX6_goesBy 6 (some .boolean)] ++ wsX60)
def wsX6_isJump : List Cond := .code yX6_isJump cX6_isJump 4 (some .boolean) :: ([.methodLink RX6 144 yX6_overBy, .instanceMethod yX6_overBy, .selects RX6 yX6_overBy yX6_overBy, .initialized RX6, .code yX6_overBy cX6_overBy 6 (some .int), .fieldLink RX6 29 "PegFieldModel" "deepPlace" "[I", .fieldLink RX6 112 "PegFieldModel" "holes" "I", .fieldLink RX6 7 "PegFieldModel" "kindOf" "[I", .fieldLink RX6 109 "PegFieldModel" "wide" "I", .methodLink RX6 130 yX6_isIn, .static yX6_isIn, .code yX6_isIn cX6_isIn 2 (some .boolean), .methodLink RX6 134 yX6_whoAt, .instanceMethod yX6_whoAt, .selects RX6 yX6_whoAt yX6_whoAt, .code yX6_whoAt cX6_whoAt 5 (some .int), .fieldLink RX6 115 "PegFieldModel" "pegs" "I", .methodLink RX6 138 yX6_apart, .static yX6_apart, .code yX6_apart cX6_apart 2 (some .int), .methodLink RX6 141 yX6_goesBy, .instanceMethod yX6_goesBy, .selects RX6 yX6_goesBy yX6_goesBy, .code yX6_goesBy cX6_goesBy 6 (some .boolean)] ++ wsX60)
def wsX6_goDeep : List Cond := .code yX6_goDeep cX6_goDeep 6 none :: ([.fieldLink RX6 29 "PegFieldModel" "deepPlace" "[I", .fieldLink RX6 7 "PegFieldModel" "kindOf" "[I", .methodLink RX6 144 yX6_overBy, .instanceMethod yX6_overBy, .selects RX6 yX6_overBy yX6_overBy, .initialized RX6, .code yX6_overBy cX6_overBy 6 (some .int), .fieldLink RX6 112 "PegFieldModel" "holes" "I", .fieldLink RX6 109 "PegFieldModel" "wide" "I", .methodLink RX6 130 yX6_isIn, .static yX6_isIn, .code yX6_isIn cX6_isIn 2 (some .boolean), .methodLink RX6 134 yX6_whoAt, .instanceMethod yX6_whoAt, .selects RX6 yX6_whoAt yX6_whoAt, .code yX6_whoAt cX6_whoAt 5 (some .int), .fieldLink RX6 115 "PegFieldModel" "pegs" "I", .methodLink RX6 138 yX6_apart, .static yX6_apart, .code yX6_apart cX6_apart 2 (some .int), .methodLink RX6 141 yX6_goesBy, .instanceMethod yX6_goesBy, .selects RX6 yX6_goesBy yX6_goesBy, .code yX6_goesBy cX6_goesBy 6 (some .boolean)] ++ wsX60)
def wsX6_onBoard : List Cond := .code yX6_onBoard cX6_onBoard 4 (some .int) :: ([.fieldLink RX6 115 "PegFieldModel" "pegs" "I", .fieldLink RX6 29 "PegFieldModel" "deepPlace" "[I"] ++ wsX60)
def wsX6_goes_r1 : List Cond := [Cond.methodLink RX6 118 yX6_places, Cond.instanceMethod yX6_places, Cond.selects RX6 yX6_places yX6_places, Cond.initialized RX6, Cond.code yX6_places cX6_places 1 (some .int), Cond.fieldLink RX6 106 "PegFieldModel" "high" "I", Cond.fieldLink RX6 109 "PegFieldModel" "wide" "I", Cond.methodLink RX6 148 yX6_isJump, Cond.instanceMethod yX6_isJump, Cond.selects RX6 yX6_isJump yX6_isJump, Cond.code yX6_isJump cX6_isJump 4 (some .boolean), Cond.methodLink RX6 144 yX6_overBy, Cond.instanceMethod yX6_overBy, Cond.selects RX6 yX6_overBy yX6_overBy, Cond.code yX6_overBy cX6_overBy 6 (some .int), Cond.fieldLink RX6 29 "PegFieldModel" "deepPlace" "[I", Cond.fieldLink RX6 112 "PegFieldModel" "holes" "I", Cond.fieldLink RX6 7 "PegFieldModel" "kindOf" "[I", Cond.methodLink RX6 130 yX6_isIn, Cond.static yX6_isIn, Cond.code yX6_isIn cX6_isIn 2 (some .boolean), Cond.methodLink RX6 134 yX6_whoAt, Cond.instanceMethod yX6_whoAt, Cond.selects RX6 yX6_whoAt yX6_whoAt]
def wsX6_goes_r2 : List Cond := [Cond.code yX6_whoAt cX6_whoAt 5 (some .int), Cond.fieldLink RX6 115 "PegFieldModel" "pegs" "I", Cond.methodLink RX6 138 yX6_apart, Cond.static yX6_apart, Cond.code yX6_apart cX6_apart 2 (some .int), Cond.methodLink RX6 141 yX6_goesBy, Cond.instanceMethod yX6_goesBy, Cond.selects RX6 yX6_goesBy yX6_goesBy, Cond.code yX6_goesBy cX6_goesBy 6 (some .boolean)]
def wsX6_goes : List Cond := .code yX6_goes cX6_goes 5 (some .int) :: ((wsX6_goes_r1 ++ wsX6_goes_r2) ++ wsX60)
def wsX6_jumpsNow_r1 : List Cond := [Cond.fieldLink RX6 115 "PegFieldModel" "pegs" "I", Cond.methodLink RX6 151 yX6_goes, Cond.instanceMethod yX6_goes, Cond.selects RX6 yX6_goes yX6_goes, Cond.initialized RX6, Cond.code yX6_goes cX6_goes 5 (some .int), Cond.methodLink RX6 118 yX6_places, Cond.instanceMethod yX6_places, Cond.selects RX6 yX6_places yX6_places, Cond.code yX6_places cX6_places 1 (some .int), Cond.fieldLink RX6 106 "PegFieldModel" "high" "I", Cond.fieldLink RX6 109 "PegFieldModel" "wide" "I", Cond.methodLink RX6 148 yX6_isJump, Cond.instanceMethod yX6_isJump, Cond.selects RX6 yX6_isJump yX6_isJump, Cond.code yX6_isJump cX6_isJump 4 (some .boolean), Cond.methodLink RX6 144 yX6_overBy, Cond.instanceMethod yX6_overBy, Cond.selects RX6 yX6_overBy yX6_overBy, Cond.code yX6_overBy cX6_overBy 6 (some .int), Cond.fieldLink RX6 29 "PegFieldModel" "deepPlace" "[I", Cond.fieldLink RX6 112 "PegFieldModel" "holes" "I", Cond.fieldLink RX6 7 "PegFieldModel" "kindOf" "[I", Cond.methodLink RX6 130 yX6_isIn]
def wsX6_jumpsNow_r2 : List Cond := [Cond.static yX6_isIn, Cond.code yX6_isIn cX6_isIn 2 (some .boolean), Cond.methodLink RX6 134 yX6_whoAt, Cond.instanceMethod yX6_whoAt, Cond.selects RX6 yX6_whoAt yX6_whoAt, Cond.code yX6_whoAt cX6_whoAt 5 (some .int), Cond.methodLink RX6 138 yX6_apart, Cond.static yX6_apart, Cond.code yX6_apart cX6_apart 2 (some .int), Cond.methodLink RX6 141 yX6_goesBy, Cond.instanceMethod yX6_goesBy, Cond.selects RX6 yX6_goesBy yX6_goesBy, Cond.code yX6_goesBy cX6_goesBy 6 (some .boolean), Cond.methodLink RX6 154 yX6_size, Cond.static yX6_size, Cond.code yX6_size cX6_size 3 (some .int)]
def wsX6_jumpsNow : List Cond := .code yX6_jumpsNow cX6_jumpsNow 4 (some .int) :: ((wsX6_jumpsNow_r1 ++ wsX6_jumpsNow_r2) ++ wsX60)
def wsX6_could : List Cond := .code yX6_could cX6_could 2 (some .boolean) :: ([])
def wsX6_sortsOf : List Cond := .code yX6_sortsOf cX6_sortsOf 6 (some .int) :: ([.fieldLink RX6 127 "PegFieldModel" "seen" "I", .fieldLink RX6 16 "PegFieldModel" "seenPeg" "[I", .fieldLink RX6 19 "PegFieldModel" "seenWhat" "[I", .fieldLink RX6 22 "PegFieldModel" "seenCould" "[I", .methodLink RX6 225 yX6_could, .static yX6_could, .initialized RX6, .code yX6_could cX6_could 2 (some .boolean)] ++ wsX60)
def wsX6_askOf : List Cond := .code yX6_askOf cX6_askOf 9 (some .int) :: ([.constant RX6 189 (268435456), .methodLink RX6 160 yX6_sortsOf, .instanceMethod yX6_sortsOf, .selects RX6 yX6_sortsOf yX6_sortsOf, .initialized RX6, .code yX6_sortsOf cX6_sortsOf 6 (some .int), .fieldLink RX6 127 "PegFieldModel" "seen" "I", .fieldLink RX6 16 "PegFieldModel" "seenPeg" "[I", .fieldLink RX6 19 "PegFieldModel" "seenWhat" "[I", .fieldLink RX6 22 "PegFieldModel" "seenCould" "[I", .methodLink RX6 225 yX6_could, .static yX6_could, .code yX6_could cX6_could 2 (some .boolean), .methodLink RX6 130 yX6_isIn, .static yX6_isIn, .code yX6_isIn cX6_isIn 2 (some .boolean), .methodLink RX6 154 yX6_size, .static yX6_size, .code yX6_size cX6_size 3 (some .int)] ++ wsX60)
def wsX6_pegNow_r1 : List Cond := [Cond.fieldLink RX6 7 "PegFieldModel" "kindOf" "[I", Cond.fieldLink RX6 13 "PegFieldModel" "placeOf" "[I", Cond.methodLink RX6 157 yX6_putDeep, Cond.instanceMethod yX6_putDeep, Cond.selects RX6 yX6_putDeep yX6_putDeep, Cond.initialized RX6, Cond.code yX6_putDeep cX6_putDeep 2 none, Cond.fieldLink RX6 29 "PegFieldModel" "deepPlace" "[I", Cond.fieldLink RX6 115 "PegFieldModel" "pegs" "I", Cond.methodLink RX6 151 yX6_goes, Cond.instanceMethod yX6_goes, Cond.selects RX6 yX6_goes yX6_goes, Cond.code yX6_goes cX6_goes 5 (some .int), Cond.methodLink RX6 118 yX6_places, Cond.instanceMethod yX6_places, Cond.selects RX6 yX6_places yX6_places, Cond.code yX6_places cX6_places 1 (some .int), Cond.fieldLink RX6 106 "PegFieldModel" "high" "I", Cond.fieldLink RX6 109 "PegFieldModel" "wide" "I", Cond.methodLink RX6 148 yX6_isJump, Cond.instanceMethod yX6_isJump, Cond.selects RX6 yX6_isJump yX6_isJump, Cond.code yX6_isJump cX6_isJump 4 (some .boolean), Cond.methodLink RX6 144 yX6_overBy]
def wsX6_pegNow_r2 : List Cond := [Cond.instanceMethod yX6_overBy, Cond.selects RX6 yX6_overBy yX6_overBy, Cond.code yX6_overBy cX6_overBy 6 (some .int), Cond.fieldLink RX6 112 "PegFieldModel" "holes" "I", Cond.methodLink RX6 130 yX6_isIn, Cond.static yX6_isIn, Cond.code yX6_isIn cX6_isIn 2 (some .boolean), Cond.methodLink RX6 134 yX6_whoAt, Cond.instanceMethod yX6_whoAt, Cond.selects RX6 yX6_whoAt yX6_whoAt, Cond.code yX6_whoAt cX6_whoAt 5 (some .int), Cond.methodLink RX6 138 yX6_apart, Cond.static yX6_apart, Cond.code yX6_apart cX6_apart 2 (some .int), Cond.methodLink RX6 141 yX6_goesBy, Cond.instanceMethod yX6_goesBy, Cond.selects RX6 yX6_goesBy yX6_goesBy, Cond.code yX6_goesBy cX6_goesBy 6 (some .boolean), Cond.methodLink RX6 160 yX6_sortsOf, Cond.instanceMethod yX6_sortsOf, Cond.selects RX6 yX6_sortsOf yX6_sortsOf, Cond.code yX6_sortsOf cX6_sortsOf 6 (some .int), Cond.fieldLink RX6 127 "PegFieldModel" "seen" "I", Cond.fieldLink RX6 16 "PegFieldModel" "seenPeg" "[I"]
def wsX6_pegNow_r3 : List Cond := [Cond.fieldLink RX6 19 "PegFieldModel" "seenWhat" "[I", Cond.fieldLink RX6 22 "PegFieldModel" "seenCould" "[I", Cond.methodLink RX6 225 yX6_could, Cond.static yX6_could, Cond.code yX6_could cX6_could 2 (some .boolean), Cond.methodLink RX6 163 yX6_askOf, Cond.instanceMethod yX6_askOf, Cond.selects RX6 yX6_askOf yX6_askOf, Cond.code yX6_askOf cX6_askOf 9 (some .int), Cond.constant RX6 189 (268435456), Cond.methodLink RX6 154 yX6_size, Cond.static yX6_size, Cond.code yX6_size cX6_size 3 (some .int)]
def wsX6_pegNow : List Cond := .code yX6_pegNow cX6_pegNow 3 (some .int) :: ((wsX6_pegNow_r1 ++ (wsX6_pegNow_r2 ++ wsX6_pegNow_r3)) ++ wsX60)
def wsX6_peg_r1 : List Cond := [Cond.methodLink RX6 166 yX6_isPeg, Cond.instanceMethod yX6_isPeg, Cond.selects RX6 yX6_isPeg yX6_isPeg, Cond.initialized RX6, Cond.code yX6_isPeg cX6_isPeg 2 (some .boolean), Cond.fieldLink RX6 115 "PegFieldModel" "pegs" "I", Cond.methodLink RX6 77 yX6_within, Cond.static yX6_within, Cond.code yX6_within cX6_within 3 (some .boolean), Cond.methodLink RX6 170 yX6_pegNow, Cond.instanceMethod yX6_pegNow, Cond.selects RX6 yX6_pegNow yX6_pegNow, Cond.code yX6_pegNow cX6_pegNow 3 (some .int), Cond.fieldLink RX6 7 "PegFieldModel" "kindOf" "[I", Cond.fieldLink RX6 13 "PegFieldModel" "placeOf" "[I", Cond.methodLink RX6 157 yX6_putDeep, Cond.instanceMethod yX6_putDeep, Cond.selects RX6 yX6_putDeep yX6_putDeep, Cond.code yX6_putDeep cX6_putDeep 2 none, Cond.fieldLink RX6 29 "PegFieldModel" "deepPlace" "[I", Cond.methodLink RX6 151 yX6_goes, Cond.instanceMethod yX6_goes, Cond.selects RX6 yX6_goes yX6_goes, Cond.code yX6_goes cX6_goes 5 (some .int)]
def wsX6_peg_r2 : List Cond := [Cond.methodLink RX6 118 yX6_places, Cond.instanceMethod yX6_places, Cond.selects RX6 yX6_places yX6_places, Cond.code yX6_places cX6_places 1 (some .int), Cond.fieldLink RX6 106 "PegFieldModel" "high" "I", Cond.fieldLink RX6 109 "PegFieldModel" "wide" "I", Cond.methodLink RX6 148 yX6_isJump, Cond.instanceMethod yX6_isJump, Cond.selects RX6 yX6_isJump yX6_isJump, Cond.code yX6_isJump cX6_isJump 4 (some .boolean), Cond.methodLink RX6 144 yX6_overBy, Cond.instanceMethod yX6_overBy, Cond.selects RX6 yX6_overBy yX6_overBy, Cond.code yX6_overBy cX6_overBy 6 (some .int), Cond.fieldLink RX6 112 "PegFieldModel" "holes" "I", Cond.methodLink RX6 130 yX6_isIn, Cond.static yX6_isIn, Cond.code yX6_isIn cX6_isIn 2 (some .boolean), Cond.methodLink RX6 134 yX6_whoAt, Cond.instanceMethod yX6_whoAt, Cond.selects RX6 yX6_whoAt yX6_whoAt, Cond.code yX6_whoAt cX6_whoAt 5 (some .int), Cond.methodLink RX6 138 yX6_apart, Cond.static yX6_apart]
def wsX6_peg_r3 : List Cond := [Cond.code yX6_apart cX6_apart 2 (some .int), Cond.methodLink RX6 141 yX6_goesBy, Cond.instanceMethod yX6_goesBy, Cond.selects RX6 yX6_goesBy yX6_goesBy, Cond.code yX6_goesBy cX6_goesBy 6 (some .boolean), Cond.methodLink RX6 160 yX6_sortsOf, Cond.instanceMethod yX6_sortsOf, Cond.selects RX6 yX6_sortsOf yX6_sortsOf, Cond.code yX6_sortsOf cX6_sortsOf 6 (some .int), Cond.fieldLink RX6 127 "PegFieldModel" "seen" "I", Cond.fieldLink RX6 16 "PegFieldModel" "seenPeg" "[I", Cond.fieldLink RX6 19 "PegFieldModel" "seenWhat" "[I", Cond.fieldLink RX6 22 "PegFieldModel" "seenCould" "[I", Cond.methodLink RX6 225 yX6_could, Cond.static yX6_could, Cond.code yX6_could cX6_could 2 (some .boolean), Cond.methodLink RX6 163 yX6_askOf, Cond.instanceMethod yX6_askOf, Cond.selects RX6 yX6_askOf yX6_askOf, Cond.code yX6_askOf cX6_askOf 9 (some .int), Cond.constant RX6 189 (268435456), Cond.methodLink RX6 154 yX6_size, Cond.static yX6_size, Cond.code yX6_size cX6_size 3 (some .int)]
def wsX6_peg : List Cond := .code yX6_peg cX6_peg 3 (some .int) :: ((wsX6_peg_r1 ++ (wsX6_peg_r2 ++ wsX6_peg_r3)) ++ wsX60)
def wsX6_as : List Cond := .code yX6_as cX6_as 4 (some .int) :: ([.fieldLink RX6 7 "PegFieldModel" "kindOf" "[I", .methodLink RX6 166 yX6_isPeg, .instanceMethod yX6_isPeg, .selects RX6 yX6_isPeg yX6_isPeg, .initialized RX6, .code yX6_isPeg cX6_isPeg 2 (some .boolean), .fieldLink RX6 115 "PegFieldModel" "pegs" "I", .methodLink RX6 77 yX6_within, .static yX6_within, .code yX6_within cX6_within 3 (some .boolean)] ++ wsX60)
def wsX6_placeNow : List Cond := .code yX6_placeNow cX6_placeNow 3 (some .int) :: ([.fieldLink RX6 112 "PegFieldModel" "holes" "I", .methodLink RX6 157 yX6_putDeep, .instanceMethod yX6_putDeep, .selects RX6 yX6_putDeep yX6_putDeep, .initialized RX6, .code yX6_putDeep cX6_putDeep 2 none, .fieldLink RX6 29 "PegFieldModel" "deepPlace" "[I", .fieldLink RX6 115 "PegFieldModel" "pegs" "I", .fieldLink RX6 13 "PegFieldModel" "placeOf" "[I", .methodLink RX6 134 yX6_whoAt, .instanceMethod yX6_whoAt, .selects RX6 yX6_whoAt yX6_whoAt, .code yX6_whoAt cX6_whoAt 5 (some .int)] ++ wsX60)
def wsX6_place_r1 : List Cond := [Cond.methodLink RX6 173 yX6_isPlace, Cond.instanceMethod yX6_isPlace, Cond.selects RX6 yX6_isPlace yX6_isPlace, Cond.initialized RX6, Cond.code yX6_isPlace cX6_isPlace 2 (some .boolean), Cond.methodLink RX6 118 yX6_places, Cond.instanceMethod yX6_places, Cond.selects RX6 yX6_places yX6_places, Cond.code yX6_places cX6_places 1 (some .int), Cond.fieldLink RX6 106 "PegFieldModel" "high" "I", Cond.fieldLink RX6 109 "PegFieldModel" "wide" "I", Cond.methodLink RX6 77 yX6_within, Cond.static yX6_within, Cond.code yX6_within cX6_within 3 (some .boolean), Cond.methodLink RX6 176 yX6_placeNow, Cond.instanceMethod yX6_placeNow, Cond.selects RX6 yX6_placeNow yX6_placeNow, Cond.code yX6_placeNow cX6_placeNow 3 (some .int), Cond.fieldLink RX6 112 "PegFieldModel" "holes" "I", Cond.methodLink RX6 157 yX6_putDeep, Cond.instanceMethod yX6_putDeep, Cond.selects RX6 yX6_putDeep yX6_putDeep, Cond.code yX6_putDeep cX6_putDeep 2 none, Cond.fieldLink RX6 29 "PegFieldModel" "deepPlace" "[I"]
def wsX6_place_r2 : List Cond := [Cond.fieldLink RX6 115 "PegFieldModel" "pegs" "I", Cond.fieldLink RX6 13 "PegFieldModel" "placeOf" "[I", Cond.methodLink RX6 134 yX6_whoAt, Cond.instanceMethod yX6_whoAt, Cond.selects RX6 yX6_whoAt yX6_whoAt, Cond.code yX6_whoAt cX6_whoAt 5 (some .int)]
def wsX6_place : List Cond := .code yX6_place cX6_place 3 (some .int) :: ((wsX6_place_r1 ++ wsX6_place_r2) ++ wsX60)
def wsX6_jump_r1 : List Cond := [Cond.fieldLink RX6 121 "PegFieldModel" "jumps" "I", Cond.fieldLink RX6 115 "PegFieldModel" "pegs" "I", Cond.fieldLink RX6 13 "PegFieldModel" "placeOf" "[I", Cond.fieldLink RX6 29 "PegFieldModel" "deepPlace" "[I", Cond.methodLink RX6 166 yX6_isPeg, Cond.instanceMethod yX6_isPeg, Cond.selects RX6 yX6_isPeg yX6_isPeg, Cond.initialized RX6, Cond.code yX6_isPeg cX6_isPeg 2 (some .boolean), Cond.methodLink RX6 77 yX6_within, Cond.static yX6_within, Cond.code yX6_within cX6_within 3 (some .boolean), Cond.methodLink RX6 173 yX6_isPlace, Cond.instanceMethod yX6_isPlace, Cond.selects RX6 yX6_isPlace yX6_isPlace, Cond.code yX6_isPlace cX6_isPlace 2 (some .boolean), Cond.methodLink RX6 118 yX6_places, Cond.instanceMethod yX6_places, Cond.selects RX6 yX6_places yX6_places, Cond.code yX6_places cX6_places 1 (some .int), Cond.fieldLink RX6 106 "PegFieldModel" "high" "I", Cond.fieldLink RX6 109 "PegFieldModel" "wide" "I", Cond.methodLink RX6 157 yX6_putDeep, Cond.instanceMethod yX6_putDeep]
def wsX6_jump_r2 : List Cond := [Cond.selects RX6 yX6_putDeep yX6_putDeep, Cond.code yX6_putDeep cX6_putDeep 2 none, Cond.methodLink RX6 148 yX6_isJump, Cond.instanceMethod yX6_isJump, Cond.selects RX6 yX6_isJump yX6_isJump, Cond.code yX6_isJump cX6_isJump 4 (some .boolean), Cond.methodLink RX6 144 yX6_overBy, Cond.instanceMethod yX6_overBy, Cond.selects RX6 yX6_overBy yX6_overBy, Cond.code yX6_overBy cX6_overBy 6 (some .int), Cond.fieldLink RX6 112 "PegFieldModel" "holes" "I", Cond.fieldLink RX6 7 "PegFieldModel" "kindOf" "[I", Cond.methodLink RX6 130 yX6_isIn, Cond.static yX6_isIn, Cond.code yX6_isIn cX6_isIn 2 (some .boolean), Cond.methodLink RX6 134 yX6_whoAt, Cond.instanceMethod yX6_whoAt, Cond.selects RX6 yX6_whoAt yX6_whoAt, Cond.code yX6_whoAt cX6_whoAt 5 (some .int), Cond.methodLink RX6 138 yX6_apart, Cond.static yX6_apart, Cond.code yX6_apart cX6_apart 2 (some .int), Cond.methodLink RX6 141 yX6_goesBy, Cond.instanceMethod yX6_goesBy]
def wsX6_jump_r3 : List Cond := [Cond.selects RX6 yX6_goesBy yX6_goesBy, Cond.code yX6_goesBy cX6_goesBy 6 (some .boolean), Cond.methodLink RX6 179 yX6_goDeep, Cond.instanceMethod yX6_goDeep, Cond.selects RX6 yX6_goDeep yX6_goDeep, Cond.code yX6_goDeep cX6_goDeep 6 none, Cond.methodLink RX6 183 yX6_onBoard, Cond.instanceMethod yX6_onBoard, Cond.selects RX6 yX6_onBoard yX6_onBoard, Cond.code yX6_onBoard cX6_onBoard 4 (some .int)]
def wsX6_jump : List Cond := .code yX6_jump cX6_jump 4 (some .int) :: ((wsX6_jump_r1 ++ (wsX6_jump_r2 ++ wsX6_jump_r3)) ++ wsX60)
def wsX6_isEmpty : List Cond := .code yX6_isEmpty cX6_isEmpty 2 (some .boolean) :: ([.fieldLink RX6 112 "PegFieldModel" "holes" "I", .methodLink RX6 157 yX6_putDeep, .instanceMethod yX6_putDeep, .selects RX6 yX6_putDeep yX6_putDeep, .initialized RX6, .code yX6_putDeep cX6_putDeep 2 none, .fieldLink RX6 29 "PegFieldModel" "deepPlace" "[I", .fieldLink RX6 115 "PegFieldModel" "pegs" "I", .fieldLink RX6 13 "PegFieldModel" "placeOf" "[I", .methodLink RX6 130 yX6_isIn, .static yX6_isIn, .code yX6_isIn cX6_isIn 2 (some .boolean), .methodLink RX6 134 yX6_whoAt, .instanceMethod yX6_whoAt, .selects RX6 yX6_whoAt yX6_whoAt, .code yX6_whoAt cX6_whoAt 5 (some .int)] ++ wsX60)
def wsX6_put_r1 : List Cond := [Cond.fieldLink RX6 13 "PegFieldModel" "placeOf" "[I", Cond.methodLink RX6 166 yX6_isPeg, Cond.instanceMethod yX6_isPeg, Cond.selects RX6 yX6_isPeg yX6_isPeg, Cond.initialized RX6, Cond.code yX6_isPeg cX6_isPeg 2 (some .boolean), Cond.fieldLink RX6 115 "PegFieldModel" "pegs" "I", Cond.methodLink RX6 77 yX6_within, Cond.static yX6_within, Cond.code yX6_within cX6_within 3 (some .boolean), Cond.methodLink RX6 173 yX6_isPlace, Cond.instanceMethod yX6_isPlace, Cond.selects RX6 yX6_isPlace yX6_isPlace, Cond.code yX6_isPlace cX6_isPlace 2 (some .boolean), Cond.methodLink RX6 118 yX6_places, Cond.instanceMethod yX6_places, Cond.selects RX6 yX6_places yX6_places, Cond.code yX6_places cX6_places 1 (some .int), Cond.fieldLink RX6 106 "PegFieldModel" "high" "I", Cond.fieldLink RX6 109 "PegFieldModel" "wide" "I", Cond.methodLink RX6 186 yX6_isEmpty, Cond.instanceMethod yX6_isEmpty, Cond.selects RX6 yX6_isEmpty yX6_isEmpty, Cond.code yX6_isEmpty cX6_isEmpty 2 (some .boolean)]
def wsX6_put_r2 : List Cond := [Cond.fieldLink RX6 112 "PegFieldModel" "holes" "I", Cond.methodLink RX6 157 yX6_putDeep, Cond.instanceMethod yX6_putDeep, Cond.selects RX6 yX6_putDeep yX6_putDeep, Cond.code yX6_putDeep cX6_putDeep 2 none, Cond.fieldLink RX6 29 "PegFieldModel" "deepPlace" "[I", Cond.methodLink RX6 130 yX6_isIn, Cond.static yX6_isIn, Cond.code yX6_isIn cX6_isIn 2 (some .boolean), Cond.methodLink RX6 134 yX6_whoAt, Cond.instanceMethod yX6_whoAt, Cond.selects RX6 yX6_whoAt yX6_whoAt, Cond.code yX6_whoAt cX6_whoAt 5 (some .int), Cond.methodLink RX6 183 yX6_onBoard, Cond.instanceMethod yX6_onBoard, Cond.selects RX6 yX6_onBoard yX6_onBoard, Cond.code yX6_onBoard cX6_onBoard 4 (some .int)]
def wsX6_put : List Cond := .code yX6_put cX6_put 3 (some .int) :: ((wsX6_put_r1 ++ wsX6_put_r2) ++ wsX60)
def wsX6_plug_r1 : List Cond := [Cond.fieldLink RX6 112 "PegFieldModel" "holes" "I", Cond.methodLink RX6 173 yX6_isPlace, Cond.instanceMethod yX6_isPlace, Cond.selects RX6 yX6_isPlace yX6_isPlace, Cond.initialized RX6, Cond.code yX6_isPlace cX6_isPlace 2 (some .boolean), Cond.methodLink RX6 118 yX6_places, Cond.instanceMethod yX6_places, Cond.selects RX6 yX6_places yX6_places, Cond.code yX6_places cX6_places 1 (some .int), Cond.fieldLink RX6 106 "PegFieldModel" "high" "I", Cond.fieldLink RX6 109 "PegFieldModel" "wide" "I", Cond.methodLink RX6 77 yX6_within, Cond.static yX6_within, Cond.code yX6_within cX6_within 3 (some .boolean), Cond.methodLink RX6 186 yX6_isEmpty, Cond.instanceMethod yX6_isEmpty, Cond.selects RX6 yX6_isEmpty yX6_isEmpty, Cond.code yX6_isEmpty cX6_isEmpty 2 (some .boolean), Cond.methodLink RX6 157 yX6_putDeep, Cond.instanceMethod yX6_putDeep, Cond.selects RX6 yX6_putDeep yX6_putDeep, Cond.code yX6_putDeep cX6_putDeep 2 none, Cond.fieldLink RX6 29 "PegFieldModel" "deepPlace" "[I"]
def wsX6_plug_r2 : List Cond := [Cond.fieldLink RX6 115 "PegFieldModel" "pegs" "I", Cond.fieldLink RX6 13 "PegFieldModel" "placeOf" "[I", Cond.methodLink RX6 130 yX6_isIn, Cond.static yX6_isIn, Cond.code yX6_isIn cX6_isIn 2 (some .boolean), Cond.methodLink RX6 134 yX6_whoAt, Cond.instanceMethod yX6_whoAt, Cond.selects RX6 yX6_whoAt yX6_whoAt, Cond.code yX6_whoAt cX6_whoAt 5 (some .int), Cond.methodLink RX6 154 yX6_size, Cond.static yX6_size, Cond.code yX6_size cX6_size 3 (some .int)]
def wsX6_plug : List Cond := .code yX6_plug cX6_plug 2 (some .int) :: ((wsX6_plug_r1 ++ wsX6_plug_r2) ++ wsX60)
def wsX6_bore : List Cond := .code yX6_bore cX6_bore 2 (some .int) :: ([.fieldLink RX6 112 "PegFieldModel" "holes" "I", .methodLink RX6 173 yX6_isPlace, .instanceMethod yX6_isPlace, .selects RX6 yX6_isPlace yX6_isPlace, .initialized RX6, .code yX6_isPlace cX6_isPlace 2 (some .boolean), .methodLink RX6 118 yX6_places, .instanceMethod yX6_places, .selects RX6 yX6_places yX6_places, .code yX6_places cX6_places 1 (some .int), .fieldLink RX6 106 "PegFieldModel" "high" "I", .fieldLink RX6 109 "PegFieldModel" "wide" "I", .methodLink RX6 77 yX6_within, .static yX6_within, .code yX6_within cX6_within 3 (some .boolean), .methodLink RX6 130 yX6_isIn, .static yX6_isIn, .code yX6_isIn cX6_isIn 2 (some .boolean), .methodLink RX6 154 yX6_size, .static yX6_size, .code yX6_size cX6_size 3 (some .int)] ++ wsX60)
def wsX6_be : List Cond := .code yX6_be cX6_be 4 (some .int) :: ([.fieldLink RX6 7 "PegFieldModel" "kindOf" "[I", .methodLink RX6 166 yX6_isPeg, .instanceMethod yX6_isPeg, .selects RX6 yX6_isPeg yX6_isPeg, .initialized RX6, .code yX6_isPeg cX6_isPeg 2 (some .boolean), .fieldLink RX6 115 "PegFieldModel" "pegs" "I", .methodLink RX6 77 yX6_within, .static yX6_within, .code yX6_within cX6_within 3 (some .boolean)] ++ wsX60)
def wsX6_begin : List Cond := .code yX6_begin cX6_begin 2 none :: ([.fieldLink RX6 32 "PegFieldModel" "codeOf" "[I", .fieldLink RX6 35 "PegFieldModel" "jumpsOf" "[I", .fieldLink RX6 38 "PegFieldModel" "waysOf" "[I", .fieldLink RX6 41 "PegFieldModel" "fewestOf" "[I", .constant RX6 189 (268435456), .fieldLink RX6 44 "PegFieldModel" "firstOf" "[I", .fieldLink RX6 47 "PegFieldModel" "longestOf" "[I", .fieldLink RX6 50 "PegFieldModel" "shortestOf" "[I", .fieldLink RX6 53 "PegFieldModel" "aloneOf" "[I", .fieldLink RX6 56 "PegFieldModel" "winOf" "[I", .fieldLink RX6 59 "PegFieldModel" "sumOf" "[I"] ++ wsX60)
def wsX6_nextCode_r1 : List Cond := [Cond.fieldLink RX6 32 "PegFieldModel" "codeOf" "[I", Cond.fieldLink RX6 115 "PegFieldModel" "pegs" "I", Cond.methodLink RX6 118 yX6_places, Cond.instanceMethod yX6_places, Cond.selects RX6 yX6_places yX6_places, Cond.initialized RX6, Cond.code yX6_places cX6_places 1 (some .int), Cond.fieldLink RX6 106 "PegFieldModel" "high" "I", Cond.fieldLink RX6 109 "PegFieldModel" "wide" "I", Cond.methodLink RX6 148 yX6_isJump, Cond.instanceMethod yX6_isJump, Cond.selects RX6 yX6_isJump yX6_isJump, Cond.code yX6_isJump cX6_isJump 4 (some .boolean), Cond.methodLink RX6 144 yX6_overBy, Cond.instanceMethod yX6_overBy, Cond.selects RX6 yX6_overBy yX6_overBy, Cond.code yX6_overBy cX6_overBy 6 (some .int), Cond.fieldLink RX6 29 "PegFieldModel" "deepPlace" "[I", Cond.fieldLink RX6 112 "PegFieldModel" "holes" "I", Cond.fieldLink RX6 7 "PegFieldModel" "kindOf" "[I", Cond.methodLink RX6 130 yX6_isIn, Cond.static yX6_isIn, Cond.code yX6_isIn cX6_isIn 2 (some .boolean), Cond.methodLink RX6 134 yX6_whoAt]
def wsX6_nextCode_r2 : List Cond := [Cond.instanceMethod yX6_whoAt, Cond.selects RX6 yX6_whoAt yX6_whoAt, Cond.code yX6_whoAt cX6_whoAt 5 (some .int), Cond.methodLink RX6 138 yX6_apart, Cond.static yX6_apart, Cond.code yX6_apart cX6_apart 2 (some .int), Cond.methodLink RX6 141 yX6_goesBy, Cond.instanceMethod yX6_goesBy, Cond.selects RX6 yX6_goesBy yX6_goesBy, Cond.code yX6_goesBy cX6_goesBy 6 (some .boolean)]
def wsX6_nextCode : List Cond := .code yX6_nextCode cX6_nextCode 3 (some .int) :: ((wsX6_nextCode_r1 ++ wsX6_nextCode_r2) ++ wsX60)
def wsX6_lastPlace : List Cond := .code yX6_lastPlace cX6_lastPlace 4 (some .int) :: ([.fieldLink RX6 115 "PegFieldModel" "pegs" "I", .fieldLink RX6 29 "PegFieldModel" "deepPlace" "[I"] ++ wsX60)
def wsX6_end : List Cond := .code yX6_end cX6_end 3 none :: ([.fieldLink RX6 38 "PegFieldModel" "waysOf" "[I", .fieldLink RX6 41 "PegFieldModel" "fewestOf" "[I", .fieldLink RX6 47 "PegFieldModel" "longestOf" "[I", .fieldLink RX6 50 "PegFieldModel" "shortestOf" "[I", .fieldLink RX6 53 "PegFieldModel" "aloneOf" "[I", .fieldLink RX6 59 "PegFieldModel" "sumOf" "[I", .fieldLink RX6 35 "PegFieldModel" "jumpsOf" "[I", .methodLink RX6 183 yX6_onBoard, .instanceMethod yX6_onBoard, .selects RX6 yX6_onBoard yX6_onBoard, .initialized RX6, .code yX6_onBoard cX6_onBoard 4 (some .int), .fieldLink RX6 115 "PegFieldModel" "pegs" "I", .fieldLink RX6 29 "PegFieldModel" "deepPlace" "[I", .methodLink RX6 190 yX6_lastPlace, .instanceMethod yX6_lastPlace, .selects RX6 yX6_lastPlace yX6_lastPlace, .code yX6_lastPlace cX6_lastPlace 4 (some .int)] ++ wsX60)
def wsX6_takeUp : List Cond := .code yX6_takeUp cX6_takeUp 5 none :: ([.fieldLink RX6 35 "PegFieldModel" "jumpsOf" "[I", .fieldLink RX6 38 "PegFieldModel" "waysOf" "[I", .fieldLink RX6 44 "PegFieldModel" "firstOf" "[I", .fieldLink RX6 41 "PegFieldModel" "fewestOf" "[I", .fieldLink RX6 47 "PegFieldModel" "longestOf" "[I", .fieldLink RX6 50 "PegFieldModel" "shortestOf" "[I", .fieldLink RX6 53 "PegFieldModel" "aloneOf" "[I", .fieldLink RX6 56 "PegFieldModel" "winOf" "[I", .fieldLink RX6 59 "PegFieldModel" "sumOf" "[I"] ++ wsX60)
def wsX6_layCourses_r1 : List Cond := [Cond.fieldLink RX6 35 "PegFieldModel" "jumpsOf" "[I", Cond.fieldLink RX6 32 "PegFieldModel" "codeOf" "[I", Cond.methodLink RX6 193 yX6_begin, Cond.instanceMethod yX6_begin, Cond.selects RX6 yX6_begin yX6_begin, Cond.initialized RX6, Cond.code yX6_begin cX6_begin 2 none, Cond.fieldLink RX6 38 "PegFieldModel" "waysOf" "[I", Cond.fieldLink RX6 41 "PegFieldModel" "fewestOf" "[I", Cond.constant RX6 189 (268435456), Cond.fieldLink RX6 44 "PegFieldModel" "firstOf" "[I", Cond.fieldLink RX6 47 "PegFieldModel" "longestOf" "[I", Cond.fieldLink RX6 50 "PegFieldModel" "shortestOf" "[I", Cond.fieldLink RX6 53 "PegFieldModel" "aloneOf" "[I", Cond.fieldLink RX6 56 "PegFieldModel" "winOf" "[I", Cond.fieldLink RX6 59 "PegFieldModel" "sumOf" "[I", Cond.methodLink RX6 197 yX6_nextCode, Cond.instanceMethod yX6_nextCode, Cond.selects RX6 yX6_nextCode yX6_nextCode, Cond.code yX6_nextCode cX6_nextCode 3 (some .int), Cond.fieldLink RX6 115 "PegFieldModel" "pegs" "I", Cond.methodLink RX6 118 yX6_places, Cond.instanceMethod yX6_places, Cond.selects RX6 yX6_places yX6_places]
def wsX6_layCourses_r2 : List Cond := [Cond.code yX6_places cX6_places 1 (some .int), Cond.fieldLink RX6 106 "PegFieldModel" "high" "I", Cond.fieldLink RX6 109 "PegFieldModel" "wide" "I", Cond.methodLink RX6 148 yX6_isJump, Cond.instanceMethod yX6_isJump, Cond.selects RX6 yX6_isJump yX6_isJump, Cond.code yX6_isJump cX6_isJump 4 (some .boolean), Cond.methodLink RX6 144 yX6_overBy, Cond.instanceMethod yX6_overBy, Cond.selects RX6 yX6_overBy yX6_overBy, Cond.code yX6_overBy cX6_overBy 6 (some .int), Cond.fieldLink RX6 29 "PegFieldModel" "deepPlace" "[I", Cond.fieldLink RX6 112 "PegFieldModel" "holes" "I", Cond.fieldLink RX6 7 "PegFieldModel" "kindOf" "[I", Cond.methodLink RX6 130 yX6_isIn, Cond.static yX6_isIn, Cond.code yX6_isIn cX6_isIn 2 (some .boolean), Cond.methodLink RX6 134 yX6_whoAt, Cond.instanceMethod yX6_whoAt, Cond.selects RX6 yX6_whoAt yX6_whoAt, Cond.code yX6_whoAt cX6_whoAt 5 (some .int), Cond.methodLink RX6 138 yX6_apart, Cond.static yX6_apart, Cond.code yX6_apart cX6_apart 2 (some .int)]
def wsX6_layCourses_r3 : List Cond := [Cond.methodLink RX6 141 yX6_goesBy, Cond.instanceMethod yX6_goesBy, Cond.selects RX6 yX6_goesBy yX6_goesBy, Cond.code yX6_goesBy cX6_goesBy 6 (some .boolean), Cond.methodLink RX6 179 yX6_goDeep, Cond.instanceMethod yX6_goDeep, Cond.selects RX6 yX6_goDeep yX6_goDeep, Cond.code yX6_goDeep cX6_goDeep 6 none, Cond.methodLink RX6 200 yX6_end, Cond.instanceMethod yX6_end, Cond.selects RX6 yX6_end yX6_end, Cond.code yX6_end cX6_end 3 none, Cond.methodLink RX6 183 yX6_onBoard, Cond.instanceMethod yX6_onBoard, Cond.selects RX6 yX6_onBoard yX6_onBoard, Cond.code yX6_onBoard cX6_onBoard 4 (some .int), Cond.methodLink RX6 190 yX6_lastPlace, Cond.instanceMethod yX6_lastPlace, Cond.selects RX6 yX6_lastPlace yX6_lastPlace, Cond.code yX6_lastPlace cX6_lastPlace 4 (some .int), Cond.methodLink RX6 203 yX6_takeUp, Cond.instanceMethod yX6_takeUp, Cond.selects RX6 yX6_takeUp yX6_takeUp, Cond.code yX6_takeUp cX6_takeUp 5 none]
def wsX6_layCourses : List Cond := .code yX6_layCourses cX6_layCourses 3 none :: ((wsX6_layCourses_r1 ++ (wsX6_layCourses_r2 ++ wsX6_layCourses_r3)) ++ wsX60)
def wsX6_coursesNow_r1 : List Cond := [Cond.fieldLink RX6 41 "PegFieldModel" "fewestOf" "[I", Cond.fieldLink RX6 44 "PegFieldModel" "firstOf" "[I", Cond.fieldLink RX6 38 "PegFieldModel" "waysOf" "[I", Cond.fieldLink RX6 47 "PegFieldModel" "longestOf" "[I", Cond.fieldLink RX6 50 "PegFieldModel" "shortestOf" "[I", Cond.fieldLink RX6 53 "PegFieldModel" "aloneOf" "[I", Cond.methodLink RX6 157 yX6_putDeep, Cond.instanceMethod yX6_putDeep, Cond.selects RX6 yX6_putDeep yX6_putDeep, Cond.initialized RX6, Cond.code yX6_putDeep cX6_putDeep 2 none, Cond.fieldLink RX6 29 "PegFieldModel" "deepPlace" "[I", Cond.fieldLink RX6 115 "PegFieldModel" "pegs" "I", Cond.fieldLink RX6 13 "PegFieldModel" "placeOf" "[I", Cond.methodLink RX6 207 yX6_layCourses, Cond.instanceMethod yX6_layCourses, Cond.selects RX6 yX6_layCourses yX6_layCourses, Cond.code yX6_layCourses cX6_layCourses 3 none, Cond.fieldLink RX6 35 "PegFieldModel" "jumpsOf" "[I", Cond.fieldLink RX6 32 "PegFieldModel" "codeOf" "[I", Cond.methodLink RX6 193 yX6_begin, Cond.instanceMethod yX6_begin, Cond.selects RX6 yX6_begin yX6_begin, Cond.code yX6_begin cX6_begin 2 none]
def wsX6_coursesNow_r2 : List Cond := [Cond.constant RX6 189 (268435456), Cond.fieldLink RX6 56 "PegFieldModel" "winOf" "[I", Cond.fieldLink RX6 59 "PegFieldModel" "sumOf" "[I", Cond.methodLink RX6 197 yX6_nextCode, Cond.instanceMethod yX6_nextCode, Cond.selects RX6 yX6_nextCode yX6_nextCode, Cond.code yX6_nextCode cX6_nextCode 3 (some .int), Cond.methodLink RX6 118 yX6_places, Cond.instanceMethod yX6_places, Cond.selects RX6 yX6_places yX6_places, Cond.code yX6_places cX6_places 1 (some .int), Cond.fieldLink RX6 106 "PegFieldModel" "high" "I", Cond.fieldLink RX6 109 "PegFieldModel" "wide" "I", Cond.methodLink RX6 148 yX6_isJump, Cond.instanceMethod yX6_isJump, Cond.selects RX6 yX6_isJump yX6_isJump, Cond.code yX6_isJump cX6_isJump 4 (some .boolean), Cond.methodLink RX6 144 yX6_overBy, Cond.instanceMethod yX6_overBy, Cond.selects RX6 yX6_overBy yX6_overBy, Cond.code yX6_overBy cX6_overBy 6 (some .int), Cond.fieldLink RX6 112 "PegFieldModel" "holes" "I", Cond.fieldLink RX6 7 "PegFieldModel" "kindOf" "[I", Cond.methodLink RX6 130 yX6_isIn]
def wsX6_coursesNow_r3 : List Cond := [Cond.static yX6_isIn, Cond.code yX6_isIn cX6_isIn 2 (some .boolean), Cond.methodLink RX6 134 yX6_whoAt, Cond.instanceMethod yX6_whoAt, Cond.selects RX6 yX6_whoAt yX6_whoAt, Cond.code yX6_whoAt cX6_whoAt 5 (some .int), Cond.methodLink RX6 138 yX6_apart, Cond.static yX6_apart, Cond.code yX6_apart cX6_apart 2 (some .int), Cond.methodLink RX6 141 yX6_goesBy, Cond.instanceMethod yX6_goesBy, Cond.selects RX6 yX6_goesBy yX6_goesBy, Cond.code yX6_goesBy cX6_goesBy 6 (some .boolean), Cond.methodLink RX6 179 yX6_goDeep, Cond.instanceMethod yX6_goDeep, Cond.selects RX6 yX6_goDeep yX6_goDeep, Cond.code yX6_goDeep cX6_goDeep 6 none, Cond.methodLink RX6 200 yX6_end, Cond.instanceMethod yX6_end, Cond.selects RX6 yX6_end yX6_end, Cond.code yX6_end cX6_end 3 none, Cond.methodLink RX6 183 yX6_onBoard, Cond.instanceMethod yX6_onBoard, Cond.selects RX6 yX6_onBoard yX6_onBoard]
def wsX6_coursesNow_r4 : List Cond := [Cond.code yX6_onBoard cX6_onBoard 4 (some .int), Cond.methodLink RX6 190 yX6_lastPlace, Cond.instanceMethod yX6_lastPlace, Cond.selects RX6 yX6_lastPlace yX6_lastPlace, Cond.code yX6_lastPlace cX6_lastPlace 4 (some .int), Cond.methodLink RX6 203 yX6_takeUp, Cond.instanceMethod yX6_takeUp, Cond.selects RX6 yX6_takeUp yX6_takeUp, Cond.code yX6_takeUp cX6_takeUp 5 none]
def wsX6_coursesNow : List Cond := .code yX6_coursesNow cX6_coursesNow 2 (some .int) :: ((wsX6_coursesNow_r1 ++ (wsX6_coursesNow_r2 ++ (wsX6_coursesNow_r3 ++ wsX6_coursesNow_r4))) ++ wsX60)
def wsX6_courses_r1 : List Cond := [Cond.fieldLink RX6 115 "PegFieldModel" "pegs" "I", Cond.methodLink RX6 77 yX6_within, Cond.static yX6_within, Cond.initialized RX6, Cond.code yX6_within cX6_within 3 (some .boolean), Cond.methodLink RX6 210 yX6_coursesNow, Cond.instanceMethod yX6_coursesNow, Cond.selects RX6 yX6_coursesNow yX6_coursesNow, Cond.code yX6_coursesNow cX6_coursesNow 2 (some .int), Cond.fieldLink RX6 41 "PegFieldModel" "fewestOf" "[I", Cond.fieldLink RX6 44 "PegFieldModel" "firstOf" "[I", Cond.fieldLink RX6 38 "PegFieldModel" "waysOf" "[I", Cond.fieldLink RX6 47 "PegFieldModel" "longestOf" "[I", Cond.fieldLink RX6 50 "PegFieldModel" "shortestOf" "[I", Cond.fieldLink RX6 53 "PegFieldModel" "aloneOf" "[I", Cond.methodLink RX6 157 yX6_putDeep, Cond.instanceMethod yX6_putDeep, Cond.selects RX6 yX6_putDeep yX6_putDeep, Cond.code yX6_putDeep cX6_putDeep 2 none, Cond.fieldLink RX6 29 "PegFieldModel" "deepPlace" "[I", Cond.fieldLink RX6 13 "PegFieldModel" "placeOf" "[I", Cond.methodLink RX6 207 yX6_layCourses, Cond.instanceMethod yX6_layCourses, Cond.selects RX6 yX6_layCourses yX6_layCourses]
def wsX6_courses_r2 : List Cond := [Cond.code yX6_layCourses cX6_layCourses 3 none, Cond.fieldLink RX6 35 "PegFieldModel" "jumpsOf" "[I", Cond.fieldLink RX6 32 "PegFieldModel" "codeOf" "[I", Cond.methodLink RX6 193 yX6_begin, Cond.instanceMethod yX6_begin, Cond.selects RX6 yX6_begin yX6_begin, Cond.code yX6_begin cX6_begin 2 none, Cond.constant RX6 189 (268435456), Cond.fieldLink RX6 56 "PegFieldModel" "winOf" "[I", Cond.fieldLink RX6 59 "PegFieldModel" "sumOf" "[I", Cond.methodLink RX6 197 yX6_nextCode, Cond.instanceMethod yX6_nextCode, Cond.selects RX6 yX6_nextCode yX6_nextCode, Cond.code yX6_nextCode cX6_nextCode 3 (some .int), Cond.methodLink RX6 118 yX6_places, Cond.instanceMethod yX6_places, Cond.selects RX6 yX6_places yX6_places, Cond.code yX6_places cX6_places 1 (some .int), Cond.fieldLink RX6 106 "PegFieldModel" "high" "I", Cond.fieldLink RX6 109 "PegFieldModel" "wide" "I", Cond.methodLink RX6 148 yX6_isJump, Cond.instanceMethod yX6_isJump, Cond.selects RX6 yX6_isJump yX6_isJump, Cond.code yX6_isJump cX6_isJump 4 (some .boolean)]
def wsX6_courses_r3 : List Cond := [Cond.methodLink RX6 144 yX6_overBy, Cond.instanceMethod yX6_overBy, Cond.selects RX6 yX6_overBy yX6_overBy, Cond.code yX6_overBy cX6_overBy 6 (some .int), Cond.fieldLink RX6 112 "PegFieldModel" "holes" "I", Cond.fieldLink RX6 7 "PegFieldModel" "kindOf" "[I", Cond.methodLink RX6 130 yX6_isIn, Cond.static yX6_isIn, Cond.code yX6_isIn cX6_isIn 2 (some .boolean), Cond.methodLink RX6 134 yX6_whoAt, Cond.instanceMethod yX6_whoAt, Cond.selects RX6 yX6_whoAt yX6_whoAt, Cond.code yX6_whoAt cX6_whoAt 5 (some .int), Cond.methodLink RX6 138 yX6_apart, Cond.static yX6_apart, Cond.code yX6_apart cX6_apart 2 (some .int), Cond.methodLink RX6 141 yX6_goesBy, Cond.instanceMethod yX6_goesBy, Cond.selects RX6 yX6_goesBy yX6_goesBy, Cond.code yX6_goesBy cX6_goesBy 6 (some .boolean), Cond.methodLink RX6 179 yX6_goDeep, Cond.instanceMethod yX6_goDeep, Cond.selects RX6 yX6_goDeep yX6_goDeep, Cond.code yX6_goDeep cX6_goDeep 6 none]
def wsX6_courses_r4 : List Cond := [Cond.methodLink RX6 200 yX6_end, Cond.instanceMethod yX6_end, Cond.selects RX6 yX6_end yX6_end, Cond.code yX6_end cX6_end 3 none, Cond.methodLink RX6 183 yX6_onBoard, Cond.instanceMethod yX6_onBoard, Cond.selects RX6 yX6_onBoard yX6_onBoard, Cond.code yX6_onBoard cX6_onBoard 4 (some .int), Cond.methodLink RX6 190 yX6_lastPlace, Cond.instanceMethod yX6_lastPlace, Cond.selects RX6 yX6_lastPlace yX6_lastPlace, Cond.code yX6_lastPlace cX6_lastPlace 4 (some .int), Cond.methodLink RX6 203 yX6_takeUp, Cond.instanceMethod yX6_takeUp, Cond.selects RX6 yX6_takeUp yX6_takeUp, Cond.code yX6_takeUp cX6_takeUp 5 none]
def wsX6_courses : List Cond := .code yX6_courses cX6_courses 2 (some .int) :: ((wsX6_courses_r1 ++ (wsX6_courses_r2 ++ (wsX6_courses_r3 ++ wsX6_courses_r4))) ++ wsX60)
def wsX6_winsNow_r1 : List Cond := [Cond.fieldLink RX6 56 "PegFieldModel" "winOf" "[I", Cond.methodLink RX6 157 yX6_putDeep, Cond.instanceMethod yX6_putDeep, Cond.selects RX6 yX6_putDeep yX6_putDeep, Cond.initialized RX6, Cond.code yX6_putDeep cX6_putDeep 2 none, Cond.fieldLink RX6 29 "PegFieldModel" "deepPlace" "[I", Cond.fieldLink RX6 115 "PegFieldModel" "pegs" "I", Cond.fieldLink RX6 13 "PegFieldModel" "placeOf" "[I", Cond.methodLink RX6 207 yX6_layCourses, Cond.instanceMethod yX6_layCourses, Cond.selects RX6 yX6_layCourses yX6_layCourses, Cond.code yX6_layCourses cX6_layCourses 3 none, Cond.fieldLink RX6 35 "PegFieldModel" "jumpsOf" "[I", Cond.fieldLink RX6 32 "PegFieldModel" "codeOf" "[I", Cond.methodLink RX6 193 yX6_begin, Cond.instanceMethod yX6_begin, Cond.selects RX6 yX6_begin yX6_begin, Cond.code yX6_begin cX6_begin 2 none, Cond.fieldLink RX6 38 "PegFieldModel" "waysOf" "[I", Cond.fieldLink RX6 41 "PegFieldModel" "fewestOf" "[I", Cond.constant RX6 189 (268435456), Cond.fieldLink RX6 44 "PegFieldModel" "firstOf" "[I", Cond.fieldLink RX6 47 "PegFieldModel" "longestOf" "[I"]
def wsX6_winsNow_r2 : List Cond := [Cond.fieldLink RX6 50 "PegFieldModel" "shortestOf" "[I", Cond.fieldLink RX6 53 "PegFieldModel" "aloneOf" "[I", Cond.fieldLink RX6 59 "PegFieldModel" "sumOf" "[I", Cond.methodLink RX6 197 yX6_nextCode, Cond.instanceMethod yX6_nextCode, Cond.selects RX6 yX6_nextCode yX6_nextCode, Cond.code yX6_nextCode cX6_nextCode 3 (some .int), Cond.methodLink RX6 118 yX6_places, Cond.instanceMethod yX6_places, Cond.selects RX6 yX6_places yX6_places, Cond.code yX6_places cX6_places 1 (some .int), Cond.fieldLink RX6 106 "PegFieldModel" "high" "I", Cond.fieldLink RX6 109 "PegFieldModel" "wide" "I", Cond.methodLink RX6 148 yX6_isJump, Cond.instanceMethod yX6_isJump, Cond.selects RX6 yX6_isJump yX6_isJump, Cond.code yX6_isJump cX6_isJump 4 (some .boolean), Cond.methodLink RX6 144 yX6_overBy, Cond.instanceMethod yX6_overBy, Cond.selects RX6 yX6_overBy yX6_overBy, Cond.code yX6_overBy cX6_overBy 6 (some .int), Cond.fieldLink RX6 112 "PegFieldModel" "holes" "I", Cond.fieldLink RX6 7 "PegFieldModel" "kindOf" "[I", Cond.methodLink RX6 130 yX6_isIn]
def wsX6_winsNow_r3 : List Cond := [Cond.static yX6_isIn, Cond.code yX6_isIn cX6_isIn 2 (some .boolean), Cond.methodLink RX6 134 yX6_whoAt, Cond.instanceMethod yX6_whoAt, Cond.selects RX6 yX6_whoAt yX6_whoAt, Cond.code yX6_whoAt cX6_whoAt 5 (some .int), Cond.methodLink RX6 138 yX6_apart, Cond.static yX6_apart, Cond.code yX6_apart cX6_apart 2 (some .int), Cond.methodLink RX6 141 yX6_goesBy, Cond.instanceMethod yX6_goesBy, Cond.selects RX6 yX6_goesBy yX6_goesBy, Cond.code yX6_goesBy cX6_goesBy 6 (some .boolean), Cond.methodLink RX6 179 yX6_goDeep, Cond.instanceMethod yX6_goDeep, Cond.selects RX6 yX6_goDeep yX6_goDeep, Cond.code yX6_goDeep cX6_goDeep 6 none, Cond.methodLink RX6 200 yX6_end, Cond.instanceMethod yX6_end, Cond.selects RX6 yX6_end yX6_end, Cond.code yX6_end cX6_end 3 none, Cond.methodLink RX6 183 yX6_onBoard, Cond.instanceMethod yX6_onBoard, Cond.selects RX6 yX6_onBoard yX6_onBoard]
def wsX6_winsNow_r4 : List Cond := [Cond.code yX6_onBoard cX6_onBoard 4 (some .int), Cond.methodLink RX6 190 yX6_lastPlace, Cond.instanceMethod yX6_lastPlace, Cond.selects RX6 yX6_lastPlace yX6_lastPlace, Cond.code yX6_lastPlace cX6_lastPlace 4 (some .int), Cond.methodLink RX6 203 yX6_takeUp, Cond.instanceMethod yX6_takeUp, Cond.selects RX6 yX6_takeUp yX6_takeUp, Cond.code yX6_takeUp cX6_takeUp 5 none]
def wsX6_winsNow : List Cond := .code yX6_winsNow cX6_winsNow 2 (some .int) :: ((wsX6_winsNow_r1 ++ (wsX6_winsNow_r2 ++ (wsX6_winsNow_r3 ++ wsX6_winsNow_r4))) ++ wsX60)
def wsX6_wins_r1 : List Cond := [Cond.fieldLink RX6 115 "PegFieldModel" "pegs" "I", Cond.methodLink RX6 77 yX6_within, Cond.static yX6_within, Cond.initialized RX6, Cond.code yX6_within cX6_within 3 (some .boolean), Cond.methodLink RX6 213 yX6_winsNow, Cond.instanceMethod yX6_winsNow, Cond.selects RX6 yX6_winsNow yX6_winsNow, Cond.code yX6_winsNow cX6_winsNow 2 (some .int), Cond.fieldLink RX6 56 "PegFieldModel" "winOf" "[I", Cond.methodLink RX6 157 yX6_putDeep, Cond.instanceMethod yX6_putDeep, Cond.selects RX6 yX6_putDeep yX6_putDeep, Cond.code yX6_putDeep cX6_putDeep 2 none, Cond.fieldLink RX6 29 "PegFieldModel" "deepPlace" "[I", Cond.fieldLink RX6 13 "PegFieldModel" "placeOf" "[I", Cond.methodLink RX6 207 yX6_layCourses, Cond.instanceMethod yX6_layCourses, Cond.selects RX6 yX6_layCourses yX6_layCourses, Cond.code yX6_layCourses cX6_layCourses 3 none, Cond.fieldLink RX6 35 "PegFieldModel" "jumpsOf" "[I", Cond.fieldLink RX6 32 "PegFieldModel" "codeOf" "[I", Cond.methodLink RX6 193 yX6_begin, Cond.instanceMethod yX6_begin]
def wsX6_wins_r2 : List Cond := [Cond.selects RX6 yX6_begin yX6_begin, Cond.code yX6_begin cX6_begin 2 none, Cond.fieldLink RX6 38 "PegFieldModel" "waysOf" "[I", Cond.fieldLink RX6 41 "PegFieldModel" "fewestOf" "[I", Cond.constant RX6 189 (268435456), Cond.fieldLink RX6 44 "PegFieldModel" "firstOf" "[I", Cond.fieldLink RX6 47 "PegFieldModel" "longestOf" "[I", Cond.fieldLink RX6 50 "PegFieldModel" "shortestOf" "[I", Cond.fieldLink RX6 53 "PegFieldModel" "aloneOf" "[I", Cond.fieldLink RX6 59 "PegFieldModel" "sumOf" "[I", Cond.methodLink RX6 197 yX6_nextCode, Cond.instanceMethod yX6_nextCode, Cond.selects RX6 yX6_nextCode yX6_nextCode, Cond.code yX6_nextCode cX6_nextCode 3 (some .int), Cond.methodLink RX6 118 yX6_places, Cond.instanceMethod yX6_places, Cond.selects RX6 yX6_places yX6_places, Cond.code yX6_places cX6_places 1 (some .int), Cond.fieldLink RX6 106 "PegFieldModel" "high" "I", Cond.fieldLink RX6 109 "PegFieldModel" "wide" "I", Cond.methodLink RX6 148 yX6_isJump, Cond.instanceMethod yX6_isJump, Cond.selects RX6 yX6_isJump yX6_isJump, Cond.code yX6_isJump cX6_isJump 4 (some .boolean)]
def wsX6_wins_r3 : List Cond := [Cond.methodLink RX6 144 yX6_overBy, Cond.instanceMethod yX6_overBy, Cond.selects RX6 yX6_overBy yX6_overBy, Cond.code yX6_overBy cX6_overBy 6 (some .int), Cond.fieldLink RX6 112 "PegFieldModel" "holes" "I", Cond.fieldLink RX6 7 "PegFieldModel" "kindOf" "[I", Cond.methodLink RX6 130 yX6_isIn, Cond.static yX6_isIn, Cond.code yX6_isIn cX6_isIn 2 (some .boolean), Cond.methodLink RX6 134 yX6_whoAt, Cond.instanceMethod yX6_whoAt, Cond.selects RX6 yX6_whoAt yX6_whoAt, Cond.code yX6_whoAt cX6_whoAt 5 (some .int), Cond.methodLink RX6 138 yX6_apart, Cond.static yX6_apart, Cond.code yX6_apart cX6_apart 2 (some .int), Cond.methodLink RX6 141 yX6_goesBy, Cond.instanceMethod yX6_goesBy, Cond.selects RX6 yX6_goesBy yX6_goesBy, Cond.code yX6_goesBy cX6_goesBy 6 (some .boolean), Cond.methodLink RX6 179 yX6_goDeep, Cond.instanceMethod yX6_goDeep, Cond.selects RX6 yX6_goDeep yX6_goDeep, Cond.code yX6_goDeep cX6_goDeep 6 none]
def wsX6_wins_r4 : List Cond := [Cond.methodLink RX6 200 yX6_end, Cond.instanceMethod yX6_end, Cond.selects RX6 yX6_end yX6_end, Cond.code yX6_end cX6_end 3 none, Cond.methodLink RX6 183 yX6_onBoard, Cond.instanceMethod yX6_onBoard, Cond.selects RX6 yX6_onBoard yX6_onBoard, Cond.code yX6_onBoard cX6_onBoard 4 (some .int), Cond.methodLink RX6 190 yX6_lastPlace, Cond.instanceMethod yX6_lastPlace, Cond.selects RX6 yX6_lastPlace yX6_lastPlace, Cond.code yX6_lastPlace cX6_lastPlace 4 (some .int), Cond.methodLink RX6 203 yX6_takeUp, Cond.instanceMethod yX6_takeUp, Cond.selects RX6 yX6_takeUp yX6_takeUp, Cond.code yX6_takeUp cX6_takeUp 5 none]
def wsX6_wins : List Cond := .code yX6_wins cX6_wins 2 (some .int) :: ((wsX6_wins_r1 ++ (wsX6_wins_r2 ++ (wsX6_wins_r3 ++ wsX6_wins_r4))) ++ wsX60)
def wsX6_addNow_r1 : List Cond := [Cond.fieldLink RX6 7 "PegFieldModel" "kindOf" "[I", Cond.fieldLink RX6 115 "PegFieldModel" "pegs" "I", Cond.fieldLink RX6 13 "PegFieldModel" "placeOf" "[I", Cond.methodLink RX6 118 yX6_places, Cond.instanceMethod yX6_places, Cond.selects RX6 yX6_places yX6_places, Cond.initialized RX6, Cond.code yX6_places cX6_places 1 (some .int), Cond.fieldLink RX6 106 "PegFieldModel" "high" "I", Cond.fieldLink RX6 109 "PegFieldModel" "wide" "I", Cond.methodLink RX6 186 yX6_isEmpty, Cond.instanceMethod yX6_isEmpty, Cond.selects RX6 yX6_isEmpty yX6_isEmpty, Cond.code yX6_isEmpty cX6_isEmpty 2 (some .boolean), Cond.fieldLink RX6 112 "PegFieldModel" "holes" "I", Cond.methodLink RX6 157 yX6_putDeep, Cond.instanceMethod yX6_putDeep, Cond.selects RX6 yX6_putDeep yX6_putDeep, Cond.code yX6_putDeep cX6_putDeep 2 none, Cond.fieldLink RX6 29 "PegFieldModel" "deepPlace" "[I", Cond.methodLink RX6 130 yX6_isIn, Cond.static yX6_isIn, Cond.code yX6_isIn cX6_isIn 2 (some .boolean), Cond.methodLink RX6 134 yX6_whoAt]
def wsX6_addNow_r2 : List Cond := [Cond.instanceMethod yX6_whoAt, Cond.selects RX6 yX6_whoAt yX6_whoAt, Cond.code yX6_whoAt cX6_whoAt 5 (some .int), Cond.methodLink RX6 210 yX6_coursesNow, Cond.instanceMethod yX6_coursesNow, Cond.selects RX6 yX6_coursesNow yX6_coursesNow, Cond.code yX6_coursesNow cX6_coursesNow 2 (some .int), Cond.fieldLink RX6 41 "PegFieldModel" "fewestOf" "[I", Cond.fieldLink RX6 44 "PegFieldModel" "firstOf" "[I", Cond.fieldLink RX6 38 "PegFieldModel" "waysOf" "[I", Cond.fieldLink RX6 47 "PegFieldModel" "longestOf" "[I", Cond.fieldLink RX6 50 "PegFieldModel" "shortestOf" "[I", Cond.fieldLink RX6 53 "PegFieldModel" "aloneOf" "[I", Cond.methodLink RX6 207 yX6_layCourses, Cond.instanceMethod yX6_layCourses, Cond.selects RX6 yX6_layCourses yX6_layCourses, Cond.code yX6_layCourses cX6_layCourses 3 none, Cond.fieldLink RX6 35 "PegFieldModel" "jumpsOf" "[I", Cond.fieldLink RX6 32 "PegFieldModel" "codeOf" "[I", Cond.methodLink RX6 193 yX6_begin, Cond.instanceMethod yX6_begin, Cond.selects RX6 yX6_begin yX6_begin, Cond.code yX6_begin cX6_begin 2 none, Cond.constant RX6 189 (268435456)]
def wsX6_addNow_r3 : List Cond := [Cond.fieldLink RX6 56 "PegFieldModel" "winOf" "[I", Cond.fieldLink RX6 59 "PegFieldModel" "sumOf" "[I", Cond.methodLink RX6 197 yX6_nextCode, Cond.instanceMethod yX6_nextCode, Cond.selects RX6 yX6_nextCode yX6_nextCode, Cond.code yX6_nextCode cX6_nextCode 3 (some .int), Cond.methodLink RX6 148 yX6_isJump, Cond.instanceMethod yX6_isJump, Cond.selects RX6 yX6_isJump yX6_isJump, Cond.code yX6_isJump cX6_isJump 4 (some .boolean), Cond.methodLink RX6 144 yX6_overBy, Cond.instanceMethod yX6_overBy, Cond.selects RX6 yX6_overBy yX6_overBy, Cond.code yX6_overBy cX6_overBy 6 (some .int), Cond.methodLink RX6 138 yX6_apart, Cond.static yX6_apart, Cond.code yX6_apart cX6_apart 2 (some .int), Cond.methodLink RX6 141 yX6_goesBy, Cond.instanceMethod yX6_goesBy, Cond.selects RX6 yX6_goesBy yX6_goesBy, Cond.code yX6_goesBy cX6_goesBy 6 (some .boolean), Cond.methodLink RX6 179 yX6_goDeep, Cond.instanceMethod yX6_goDeep, Cond.selects RX6 yX6_goDeep yX6_goDeep]
def wsX6_addNow_r4 : List Cond := [Cond.code yX6_goDeep cX6_goDeep 6 none, Cond.methodLink RX6 200 yX6_end, Cond.instanceMethod yX6_end, Cond.selects RX6 yX6_end yX6_end, Cond.code yX6_end cX6_end 3 none, Cond.methodLink RX6 183 yX6_onBoard, Cond.instanceMethod yX6_onBoard, Cond.selects RX6 yX6_onBoard yX6_onBoard, Cond.code yX6_onBoard cX6_onBoard 4 (some .int), Cond.methodLink RX6 190 yX6_lastPlace, Cond.instanceMethod yX6_lastPlace, Cond.selects RX6 yX6_lastPlace yX6_lastPlace, Cond.code yX6_lastPlace cX6_lastPlace 4 (some .int), Cond.methodLink RX6 203 yX6_takeUp, Cond.instanceMethod yX6_takeUp, Cond.selects RX6 yX6_takeUp yX6_takeUp, Cond.code yX6_takeUp cX6_takeUp 5 none]
def wsX6_addNow : List Cond := .code yX6_addNow cX6_addNow 3 (some .int) :: ((wsX6_addNow_r1 ++ (wsX6_addNow_r2 ++ (wsX6_addNow_r3 ++ wsX6_addNow_r4))) ++ wsX60)
def wsX6_add_r1 : List Cond := [Cond.fieldLink RX6 115 "PegFieldModel" "pegs" "I", Cond.fieldLink RX6 216 "PegFieldModel" "asks" "I", Cond.methodLink RX6 219 yX6_addNow, Cond.instanceMethod yX6_addNow, Cond.selects RX6 yX6_addNow yX6_addNow, Cond.initialized RX6, Cond.code yX6_addNow cX6_addNow 3 (some .int), Cond.fieldLink RX6 7 "PegFieldModel" "kindOf" "[I", Cond.fieldLink RX6 13 "PegFieldModel" "placeOf" "[I", Cond.methodLink RX6 118 yX6_places, Cond.instanceMethod yX6_places, Cond.selects RX6 yX6_places yX6_places, Cond.code yX6_places cX6_places 1 (some .int), Cond.fieldLink RX6 106 "PegFieldModel" "high" "I", Cond.fieldLink RX6 109 "PegFieldModel" "wide" "I", Cond.methodLink RX6 186 yX6_isEmpty, Cond.instanceMethod yX6_isEmpty, Cond.selects RX6 yX6_isEmpty yX6_isEmpty, Cond.code yX6_isEmpty cX6_isEmpty 2 (some .boolean), Cond.fieldLink RX6 112 "PegFieldModel" "holes" "I", Cond.methodLink RX6 157 yX6_putDeep, Cond.instanceMethod yX6_putDeep, Cond.selects RX6 yX6_putDeep yX6_putDeep, Cond.code yX6_putDeep cX6_putDeep 2 none]
def wsX6_add_r2 : List Cond := [Cond.fieldLink RX6 29 "PegFieldModel" "deepPlace" "[I", Cond.methodLink RX6 130 yX6_isIn, Cond.static yX6_isIn, Cond.code yX6_isIn cX6_isIn 2 (some .boolean), Cond.methodLink RX6 134 yX6_whoAt, Cond.instanceMethod yX6_whoAt, Cond.selects RX6 yX6_whoAt yX6_whoAt, Cond.code yX6_whoAt cX6_whoAt 5 (some .int), Cond.methodLink RX6 210 yX6_coursesNow, Cond.instanceMethod yX6_coursesNow, Cond.selects RX6 yX6_coursesNow yX6_coursesNow, Cond.code yX6_coursesNow cX6_coursesNow 2 (some .int), Cond.fieldLink RX6 41 "PegFieldModel" "fewestOf" "[I", Cond.fieldLink RX6 44 "PegFieldModel" "firstOf" "[I", Cond.fieldLink RX6 38 "PegFieldModel" "waysOf" "[I", Cond.fieldLink RX6 47 "PegFieldModel" "longestOf" "[I", Cond.fieldLink RX6 50 "PegFieldModel" "shortestOf" "[I", Cond.fieldLink RX6 53 "PegFieldModel" "aloneOf" "[I", Cond.methodLink RX6 207 yX6_layCourses, Cond.instanceMethod yX6_layCourses, Cond.selects RX6 yX6_layCourses yX6_layCourses, Cond.code yX6_layCourses cX6_layCourses 3 none, Cond.fieldLink RX6 35 "PegFieldModel" "jumpsOf" "[I", Cond.fieldLink RX6 32 "PegFieldModel" "codeOf" "[I"]
def wsX6_add_r3 : List Cond := [Cond.methodLink RX6 193 yX6_begin, Cond.instanceMethod yX6_begin, Cond.selects RX6 yX6_begin yX6_begin, Cond.code yX6_begin cX6_begin 2 none, Cond.constant RX6 189 (268435456), Cond.fieldLink RX6 56 "PegFieldModel" "winOf" "[I", Cond.fieldLink RX6 59 "PegFieldModel" "sumOf" "[I", Cond.methodLink RX6 197 yX6_nextCode, Cond.instanceMethod yX6_nextCode, Cond.selects RX6 yX6_nextCode yX6_nextCode, Cond.code yX6_nextCode cX6_nextCode 3 (some .int), Cond.methodLink RX6 148 yX6_isJump, Cond.instanceMethod yX6_isJump, Cond.selects RX6 yX6_isJump yX6_isJump, Cond.code yX6_isJump cX6_isJump 4 (some .boolean), Cond.methodLink RX6 144 yX6_overBy, Cond.instanceMethod yX6_overBy, Cond.selects RX6 yX6_overBy yX6_overBy, Cond.code yX6_overBy cX6_overBy 6 (some .int), Cond.methodLink RX6 138 yX6_apart, Cond.static yX6_apart, Cond.code yX6_apart cX6_apart 2 (some .int), Cond.methodLink RX6 141 yX6_goesBy, Cond.instanceMethod yX6_goesBy]
def wsX6_add_r4 : List Cond := [Cond.selects RX6 yX6_goesBy yX6_goesBy, Cond.code yX6_goesBy cX6_goesBy 6 (some .boolean), Cond.methodLink RX6 179 yX6_goDeep, Cond.instanceMethod yX6_goDeep, Cond.selects RX6 yX6_goDeep yX6_goDeep, Cond.code yX6_goDeep cX6_goDeep 6 none, Cond.methodLink RX6 200 yX6_end, Cond.instanceMethod yX6_end, Cond.selects RX6 yX6_end yX6_end, Cond.code yX6_end cX6_end 3 none, Cond.methodLink RX6 183 yX6_onBoard, Cond.instanceMethod yX6_onBoard, Cond.selects RX6 yX6_onBoard yX6_onBoard, Cond.code yX6_onBoard cX6_onBoard 4 (some .int), Cond.methodLink RX6 190 yX6_lastPlace, Cond.instanceMethod yX6_lastPlace, Cond.selects RX6 yX6_lastPlace yX6_lastPlace, Cond.code yX6_lastPlace cX6_lastPlace 4 (some .int), Cond.methodLink RX6 203 yX6_takeUp, Cond.instanceMethod yX6_takeUp, Cond.selects RX6 yX6_takeUp yX6_takeUp, Cond.code yX6_takeUp cX6_takeUp 5 none]
def wsX6_add : List Cond := .code yX6_add cX6_add 1 (some .int) :: ((wsX6_add_r1 ++ (wsX6_add_r2 ++ (wsX6_add_r3 ++ wsX6_add_r4))) ++ wsX60)
def wsX6_meanNow_r1 : List Cond := [Cond.fieldLink RX6 59 "PegFieldModel" "sumOf" "[I", Cond.fieldLink RX6 35 "PegFieldModel" "jumpsOf" "[I", Cond.methodLink RX6 157 yX6_putDeep, Cond.instanceMethod yX6_putDeep, Cond.selects RX6 yX6_putDeep yX6_putDeep, Cond.initialized RX6, Cond.code yX6_putDeep cX6_putDeep 2 none, Cond.fieldLink RX6 29 "PegFieldModel" "deepPlace" "[I", Cond.fieldLink RX6 115 "PegFieldModel" "pegs" "I", Cond.fieldLink RX6 13 "PegFieldModel" "placeOf" "[I", Cond.methodLink RX6 207 yX6_layCourses, Cond.instanceMethod yX6_layCourses, Cond.selects RX6 yX6_layCourses yX6_layCourses, Cond.code yX6_layCourses cX6_layCourses 3 none, Cond.fieldLink RX6 32 "PegFieldModel" "codeOf" "[I", Cond.methodLink RX6 193 yX6_begin, Cond.instanceMethod yX6_begin, Cond.selects RX6 yX6_begin yX6_begin, Cond.code yX6_begin cX6_begin 2 none, Cond.fieldLink RX6 38 "PegFieldModel" "waysOf" "[I", Cond.fieldLink RX6 41 "PegFieldModel" "fewestOf" "[I", Cond.constant RX6 189 (268435456), Cond.fieldLink RX6 44 "PegFieldModel" "firstOf" "[I", Cond.fieldLink RX6 47 "PegFieldModel" "longestOf" "[I"]
def wsX6_meanNow_r2 : List Cond := [Cond.fieldLink RX6 50 "PegFieldModel" "shortestOf" "[I", Cond.fieldLink RX6 53 "PegFieldModel" "aloneOf" "[I", Cond.fieldLink RX6 56 "PegFieldModel" "winOf" "[I", Cond.methodLink RX6 197 yX6_nextCode, Cond.instanceMethod yX6_nextCode, Cond.selects RX6 yX6_nextCode yX6_nextCode, Cond.code yX6_nextCode cX6_nextCode 3 (some .int), Cond.methodLink RX6 118 yX6_places, Cond.instanceMethod yX6_places, Cond.selects RX6 yX6_places yX6_places, Cond.code yX6_places cX6_places 1 (some .int), Cond.fieldLink RX6 106 "PegFieldModel" "high" "I", Cond.fieldLink RX6 109 "PegFieldModel" "wide" "I", Cond.methodLink RX6 148 yX6_isJump, Cond.instanceMethod yX6_isJump, Cond.selects RX6 yX6_isJump yX6_isJump, Cond.code yX6_isJump cX6_isJump 4 (some .boolean), Cond.methodLink RX6 144 yX6_overBy, Cond.instanceMethod yX6_overBy, Cond.selects RX6 yX6_overBy yX6_overBy, Cond.code yX6_overBy cX6_overBy 6 (some .int), Cond.fieldLink RX6 112 "PegFieldModel" "holes" "I", Cond.fieldLink RX6 7 "PegFieldModel" "kindOf" "[I", Cond.methodLink RX6 130 yX6_isIn]
def wsX6_meanNow_r3 : List Cond := [Cond.static yX6_isIn, Cond.code yX6_isIn cX6_isIn 2 (some .boolean), Cond.methodLink RX6 134 yX6_whoAt, Cond.instanceMethod yX6_whoAt, Cond.selects RX6 yX6_whoAt yX6_whoAt, Cond.code yX6_whoAt cX6_whoAt 5 (some .int), Cond.methodLink RX6 138 yX6_apart, Cond.static yX6_apart, Cond.code yX6_apart cX6_apart 2 (some .int), Cond.methodLink RX6 141 yX6_goesBy, Cond.instanceMethod yX6_goesBy, Cond.selects RX6 yX6_goesBy yX6_goesBy, Cond.code yX6_goesBy cX6_goesBy 6 (some .boolean), Cond.methodLink RX6 179 yX6_goDeep, Cond.instanceMethod yX6_goDeep, Cond.selects RX6 yX6_goDeep yX6_goDeep, Cond.code yX6_goDeep cX6_goDeep 6 none, Cond.methodLink RX6 200 yX6_end, Cond.instanceMethod yX6_end, Cond.selects RX6 yX6_end yX6_end, Cond.code yX6_end cX6_end 3 none, Cond.methodLink RX6 183 yX6_onBoard, Cond.instanceMethod yX6_onBoard, Cond.selects RX6 yX6_onBoard yX6_onBoard]
def wsX6_meanNow_r4 : List Cond := [Cond.code yX6_onBoard cX6_onBoard 4 (some .int), Cond.methodLink RX6 190 yX6_lastPlace, Cond.instanceMethod yX6_lastPlace, Cond.selects RX6 yX6_lastPlace yX6_lastPlace, Cond.code yX6_lastPlace cX6_lastPlace 4 (some .int), Cond.methodLink RX6 203 yX6_takeUp, Cond.instanceMethod yX6_takeUp, Cond.selects RX6 yX6_takeUp yX6_takeUp, Cond.code yX6_takeUp cX6_takeUp 5 none]
def wsX6_meanNow : List Cond := .code yX6_meanNow cX6_meanNow 1 (some .int) :: ((wsX6_meanNow_r1 ++ (wsX6_meanNow_r2 ++ (wsX6_meanNow_r3 ++ wsX6_meanNow_r4))) ++ wsX60)
def wsX6_mean_r1 : List Cond := [Cond.fieldLink RX6 115 "PegFieldModel" "pegs" "I", Cond.methodLink RX6 222 yX6_meanNow, Cond.instanceMethod yX6_meanNow, Cond.selects RX6 yX6_meanNow yX6_meanNow, Cond.initialized RX6, Cond.code yX6_meanNow cX6_meanNow 1 (some .int), Cond.fieldLink RX6 59 "PegFieldModel" "sumOf" "[I", Cond.fieldLink RX6 35 "PegFieldModel" "jumpsOf" "[I", Cond.methodLink RX6 157 yX6_putDeep, Cond.instanceMethod yX6_putDeep, Cond.selects RX6 yX6_putDeep yX6_putDeep, Cond.code yX6_putDeep cX6_putDeep 2 none, Cond.fieldLink RX6 29 "PegFieldModel" "deepPlace" "[I", Cond.fieldLink RX6 13 "PegFieldModel" "placeOf" "[I", Cond.methodLink RX6 207 yX6_layCourses, Cond.instanceMethod yX6_layCourses, Cond.selects RX6 yX6_layCourses yX6_layCourses, Cond.code yX6_layCourses cX6_layCourses 3 none, Cond.fieldLink RX6 32 "PegFieldModel" "codeOf" "[I", Cond.methodLink RX6 193 yX6_begin, Cond.instanceMethod yX6_begin, Cond.selects RX6 yX6_begin yX6_begin, Cond.code yX6_begin cX6_begin 2 none, Cond.fieldLink RX6 38 "PegFieldModel" "waysOf" "[I"]
def wsX6_mean_r2 : List Cond := [Cond.fieldLink RX6 41 "PegFieldModel" "fewestOf" "[I", Cond.constant RX6 189 (268435456), Cond.fieldLink RX6 44 "PegFieldModel" "firstOf" "[I", Cond.fieldLink RX6 47 "PegFieldModel" "longestOf" "[I", Cond.fieldLink RX6 50 "PegFieldModel" "shortestOf" "[I", Cond.fieldLink RX6 53 "PegFieldModel" "aloneOf" "[I", Cond.fieldLink RX6 56 "PegFieldModel" "winOf" "[I", Cond.methodLink RX6 197 yX6_nextCode, Cond.instanceMethod yX6_nextCode, Cond.selects RX6 yX6_nextCode yX6_nextCode, Cond.code yX6_nextCode cX6_nextCode 3 (some .int), Cond.methodLink RX6 118 yX6_places, Cond.instanceMethod yX6_places, Cond.selects RX6 yX6_places yX6_places, Cond.code yX6_places cX6_places 1 (some .int), Cond.fieldLink RX6 106 "PegFieldModel" "high" "I", Cond.fieldLink RX6 109 "PegFieldModel" "wide" "I", Cond.methodLink RX6 148 yX6_isJump, Cond.instanceMethod yX6_isJump, Cond.selects RX6 yX6_isJump yX6_isJump, Cond.code yX6_isJump cX6_isJump 4 (some .boolean), Cond.methodLink RX6 144 yX6_overBy, Cond.instanceMethod yX6_overBy, Cond.selects RX6 yX6_overBy yX6_overBy]
def wsX6_mean_r3 : List Cond := [Cond.code yX6_overBy cX6_overBy 6 (some .int), Cond.fieldLink RX6 112 "PegFieldModel" "holes" "I", Cond.fieldLink RX6 7 "PegFieldModel" "kindOf" "[I", Cond.methodLink RX6 130 yX6_isIn, Cond.static yX6_isIn, Cond.code yX6_isIn cX6_isIn 2 (some .boolean), Cond.methodLink RX6 134 yX6_whoAt, Cond.instanceMethod yX6_whoAt, Cond.selects RX6 yX6_whoAt yX6_whoAt, Cond.code yX6_whoAt cX6_whoAt 5 (some .int), Cond.methodLink RX6 138 yX6_apart, Cond.static yX6_apart, Cond.code yX6_apart cX6_apart 2 (some .int), Cond.methodLink RX6 141 yX6_goesBy, Cond.instanceMethod yX6_goesBy, Cond.selects RX6 yX6_goesBy yX6_goesBy, Cond.code yX6_goesBy cX6_goesBy 6 (some .boolean), Cond.methodLink RX6 179 yX6_goDeep, Cond.instanceMethod yX6_goDeep, Cond.selects RX6 yX6_goDeep yX6_goDeep, Cond.code yX6_goDeep cX6_goDeep 6 none, Cond.methodLink RX6 200 yX6_end, Cond.instanceMethod yX6_end, Cond.selects RX6 yX6_end yX6_end]
def wsX6_mean_r4 : List Cond := [Cond.code yX6_end cX6_end 3 none, Cond.methodLink RX6 183 yX6_onBoard, Cond.instanceMethod yX6_onBoard, Cond.selects RX6 yX6_onBoard yX6_onBoard, Cond.code yX6_onBoard cX6_onBoard 4 (some .int), Cond.methodLink RX6 190 yX6_lastPlace, Cond.instanceMethod yX6_lastPlace, Cond.selects RX6 yX6_lastPlace yX6_lastPlace, Cond.code yX6_lastPlace cX6_lastPlace 4 (some .int), Cond.methodLink RX6 203 yX6_takeUp, Cond.instanceMethod yX6_takeUp, Cond.selects RX6 yX6_takeUp yX6_takeUp, Cond.code yX6_takeUp cX6_takeUp 5 none]
def wsX6_mean : List Cond := .code yX6_mean cX6_mean 1 (some .int) :: ((wsX6_mean_r1 ++ (wsX6_mean_r2 ++ (wsX6_mean_r3 ++ wsX6_mean_r4))) ++ wsX60)
def wsX6_see : List Cond := .code yX6_see cX6_see 4 (some .int) :: ([.fieldLink RX6 127 "PegFieldModel" "seen" "I", .fieldLink RX6 16 "PegFieldModel" "seenPeg" "[I", .fieldLink RX6 19 "PegFieldModel" "seenWhat" "[I", .fieldLink RX6 22 "PegFieldModel" "seenCould" "[I", .methodLink RX6 166 yX6_isPeg, .instanceMethod yX6_isPeg, .selects RX6 yX6_isPeg yX6_isPeg, .initialized RX6, .code yX6_isPeg cX6_isPeg 2 (some .boolean), .fieldLink RX6 115 "PegFieldModel" "pegs" "I", .methodLink RX6 77 yX6_within, .static yX6_within, .code yX6_within cX6_within 3 (some .boolean)] ++ wsX60)
def wsX6_forget : List Cond := .code yX6_forget cX6_forget 2 (some .int) :: ([.fieldLink RX6 127 "PegFieldModel" "seen" "I"] ++ wsX60)
def wsX6_draw : List Cond := .code yX6_draw cX6_draw 2 (some .int) :: ([.constantLong RX6 228 (1103515245), .fieldLink RX6 230 "PegFieldModel" "seedNow" "J", .constantLong RX6 234 (12345), .constantLong RX6 236 (2147483647), .constantLong RX6 238 (65536)] ++ wsX60)
def wsX6_codeBy_r1 : List Cond := [Cond.fieldLink RX6 32 "PegFieldModel" "codeOf" "[I", Cond.methodLink RX6 197 yX6_nextCode, Cond.instanceMethod yX6_nextCode, Cond.selects RX6 yX6_nextCode yX6_nextCode, Cond.initialized RX6, Cond.code yX6_nextCode cX6_nextCode 3 (some .int), Cond.fieldLink RX6 115 "PegFieldModel" "pegs" "I", Cond.methodLink RX6 118 yX6_places, Cond.instanceMethod yX6_places, Cond.selects RX6 yX6_places yX6_places, Cond.code yX6_places cX6_places 1 (some .int), Cond.fieldLink RX6 106 "PegFieldModel" "high" "I", Cond.fieldLink RX6 109 "PegFieldModel" "wide" "I", Cond.methodLink RX6 148 yX6_isJump, Cond.instanceMethod yX6_isJump, Cond.selects RX6 yX6_isJump yX6_isJump, Cond.code yX6_isJump cX6_isJump 4 (some .boolean), Cond.methodLink RX6 144 yX6_overBy, Cond.instanceMethod yX6_overBy, Cond.selects RX6 yX6_overBy yX6_overBy, Cond.code yX6_overBy cX6_overBy 6 (some .int), Cond.fieldLink RX6 29 "PegFieldModel" "deepPlace" "[I", Cond.fieldLink RX6 112 "PegFieldModel" "holes" "I", Cond.fieldLink RX6 7 "PegFieldModel" "kindOf" "[I"]
def wsX6_codeBy_r2 : List Cond := [Cond.methodLink RX6 130 yX6_isIn, Cond.static yX6_isIn, Cond.code yX6_isIn cX6_isIn 2 (some .boolean), Cond.methodLink RX6 134 yX6_whoAt, Cond.instanceMethod yX6_whoAt, Cond.selects RX6 yX6_whoAt yX6_whoAt, Cond.code yX6_whoAt cX6_whoAt 5 (some .int), Cond.methodLink RX6 138 yX6_apart, Cond.static yX6_apart, Cond.code yX6_apart cX6_apart 2 (some .int), Cond.methodLink RX6 141 yX6_goesBy, Cond.instanceMethod yX6_goesBy, Cond.selects RX6 yX6_goesBy yX6_goesBy, Cond.code yX6_goesBy cX6_goesBy 6 (some .boolean)]
def wsX6_codeBy : List Cond := .code yX6_codeBy cX6_codeBy 5 (some .int) :: ((wsX6_codeBy_r1 ++ wsX6_codeBy_r2) ++ wsX60)
def wsX6_runsNow_r1 : List Cond := [Cond.fieldLink RX6 230 "PegFieldModel" "seedNow" "J", Cond.methodLink RX6 157 yX6_putDeep, Cond.instanceMethod yX6_putDeep, Cond.selects RX6 yX6_putDeep yX6_putDeep, Cond.initialized RX6, Cond.code yX6_putDeep cX6_putDeep 2 none, Cond.fieldLink RX6 29 "PegFieldModel" "deepPlace" "[I", Cond.fieldLink RX6 115 "PegFieldModel" "pegs" "I", Cond.fieldLink RX6 13 "PegFieldModel" "placeOf" "[I", Cond.methodLink RX6 240 yX6_jumpsNow, Cond.instanceMethod yX6_jumpsNow, Cond.selects RX6 yX6_jumpsNow yX6_jumpsNow, Cond.code yX6_jumpsNow cX6_jumpsNow 4 (some .int), Cond.methodLink RX6 151 yX6_goes, Cond.instanceMethod yX6_goes, Cond.selects RX6 yX6_goes yX6_goes, Cond.code yX6_goes cX6_goes 5 (some .int), Cond.methodLink RX6 118 yX6_places, Cond.instanceMethod yX6_places, Cond.selects RX6 yX6_places yX6_places, Cond.code yX6_places cX6_places 1 (some .int), Cond.fieldLink RX6 106 "PegFieldModel" "high" "I", Cond.fieldLink RX6 109 "PegFieldModel" "wide" "I", Cond.methodLink RX6 148 yX6_isJump]
def wsX6_runsNow_r2 : List Cond := [Cond.instanceMethod yX6_isJump, Cond.selects RX6 yX6_isJump yX6_isJump, Cond.code yX6_isJump cX6_isJump 4 (some .boolean), Cond.methodLink RX6 144 yX6_overBy, Cond.instanceMethod yX6_overBy, Cond.selects RX6 yX6_overBy yX6_overBy, Cond.code yX6_overBy cX6_overBy 6 (some .int), Cond.fieldLink RX6 112 "PegFieldModel" "holes" "I", Cond.fieldLink RX6 7 "PegFieldModel" "kindOf" "[I", Cond.methodLink RX6 130 yX6_isIn, Cond.static yX6_isIn, Cond.code yX6_isIn cX6_isIn 2 (some .boolean), Cond.methodLink RX6 134 yX6_whoAt, Cond.instanceMethod yX6_whoAt, Cond.selects RX6 yX6_whoAt yX6_whoAt, Cond.code yX6_whoAt cX6_whoAt 5 (some .int), Cond.methodLink RX6 138 yX6_apart, Cond.static yX6_apart, Cond.code yX6_apart cX6_apart 2 (some .int), Cond.methodLink RX6 141 yX6_goesBy, Cond.instanceMethod yX6_goesBy, Cond.selects RX6 yX6_goesBy yX6_goesBy, Cond.code yX6_goesBy cX6_goesBy 6 (some .boolean), Cond.methodLink RX6 154 yX6_size]
def wsX6_runsNow_r3 : List Cond := [Cond.static yX6_size, Cond.code yX6_size cX6_size 3 (some .int), Cond.methodLink RX6 243 yX6_draw, Cond.instanceMethod yX6_draw, Cond.selects RX6 yX6_draw yX6_draw, Cond.code yX6_draw cX6_draw 2 (some .int), Cond.constantLong RX6 228 (1103515245), Cond.constantLong RX6 234 (12345), Cond.constantLong RX6 236 (2147483647), Cond.constantLong RX6 238 (65536), Cond.methodLink RX6 246 yX6_codeBy, Cond.instanceMethod yX6_codeBy, Cond.selects RX6 yX6_codeBy yX6_codeBy, Cond.code yX6_codeBy cX6_codeBy 5 (some .int), Cond.fieldLink RX6 32 "PegFieldModel" "codeOf" "[I", Cond.methodLink RX6 197 yX6_nextCode, Cond.instanceMethod yX6_nextCode, Cond.selects RX6 yX6_nextCode yX6_nextCode, Cond.code yX6_nextCode cX6_nextCode 3 (some .int), Cond.methodLink RX6 179 yX6_goDeep, Cond.instanceMethod yX6_goDeep, Cond.selects RX6 yX6_goDeep yX6_goDeep, Cond.code yX6_goDeep cX6_goDeep 6 none, Cond.methodLink RX6 183 yX6_onBoard]
def wsX6_runsNow_r4 : List Cond := [Cond.instanceMethod yX6_onBoard, Cond.selects RX6 yX6_onBoard yX6_onBoard, Cond.code yX6_onBoard cX6_onBoard 4 (some .int)]
def wsX6_runsNow : List Cond := .code yX6_runsNow cX6_runsNow 10 (some .int) :: ((wsX6_runsNow_r1 ++ (wsX6_runsNow_r2 ++ (wsX6_runsNow_r3 ++ wsX6_runsNow_r4))) ++ wsX60)
def wsX6_runs_r1 : List Cond := [Cond.fieldLink RX6 115 "PegFieldModel" "pegs" "I", Cond.methodLink RX6 77 yX6_within, Cond.static yX6_within, Cond.initialized RX6, Cond.code yX6_within cX6_within 3 (some .boolean), Cond.methodLink RX6 249 yX6_runsNow, Cond.instanceMethod yX6_runsNow, Cond.selects RX6 yX6_runsNow yX6_runsNow, Cond.code yX6_runsNow cX6_runsNow 10 (some .int), Cond.fieldLink RX6 230 "PegFieldModel" "seedNow" "J", Cond.methodLink RX6 157 yX6_putDeep, Cond.instanceMethod yX6_putDeep, Cond.selects RX6 yX6_putDeep yX6_putDeep, Cond.code yX6_putDeep cX6_putDeep 2 none, Cond.fieldLink RX6 29 "PegFieldModel" "deepPlace" "[I", Cond.fieldLink RX6 13 "PegFieldModel" "placeOf" "[I", Cond.methodLink RX6 240 yX6_jumpsNow, Cond.instanceMethod yX6_jumpsNow, Cond.selects RX6 yX6_jumpsNow yX6_jumpsNow, Cond.code yX6_jumpsNow cX6_jumpsNow 4 (some .int), Cond.methodLink RX6 151 yX6_goes, Cond.instanceMethod yX6_goes, Cond.selects RX6 yX6_goes yX6_goes, Cond.code yX6_goes cX6_goes 5 (some .int)]
def wsX6_runs_r2 : List Cond := [Cond.methodLink RX6 118 yX6_places, Cond.instanceMethod yX6_places, Cond.selects RX6 yX6_places yX6_places, Cond.code yX6_places cX6_places 1 (some .int), Cond.fieldLink RX6 106 "PegFieldModel" "high" "I", Cond.fieldLink RX6 109 "PegFieldModel" "wide" "I", Cond.methodLink RX6 148 yX6_isJump, Cond.instanceMethod yX6_isJump, Cond.selects RX6 yX6_isJump yX6_isJump, Cond.code yX6_isJump cX6_isJump 4 (some .boolean), Cond.methodLink RX6 144 yX6_overBy, Cond.instanceMethod yX6_overBy, Cond.selects RX6 yX6_overBy yX6_overBy, Cond.code yX6_overBy cX6_overBy 6 (some .int), Cond.fieldLink RX6 112 "PegFieldModel" "holes" "I", Cond.fieldLink RX6 7 "PegFieldModel" "kindOf" "[I", Cond.methodLink RX6 130 yX6_isIn, Cond.static yX6_isIn, Cond.code yX6_isIn cX6_isIn 2 (some .boolean), Cond.methodLink RX6 134 yX6_whoAt, Cond.instanceMethod yX6_whoAt, Cond.selects RX6 yX6_whoAt yX6_whoAt, Cond.code yX6_whoAt cX6_whoAt 5 (some .int), Cond.methodLink RX6 138 yX6_apart]
def wsX6_runs_r3 : List Cond := [Cond.static yX6_apart, Cond.code yX6_apart cX6_apart 2 (some .int), Cond.methodLink RX6 141 yX6_goesBy, Cond.instanceMethod yX6_goesBy, Cond.selects RX6 yX6_goesBy yX6_goesBy, Cond.code yX6_goesBy cX6_goesBy 6 (some .boolean), Cond.methodLink RX6 154 yX6_size, Cond.static yX6_size, Cond.code yX6_size cX6_size 3 (some .int), Cond.methodLink RX6 243 yX6_draw, Cond.instanceMethod yX6_draw, Cond.selects RX6 yX6_draw yX6_draw, Cond.code yX6_draw cX6_draw 2 (some .int), Cond.constantLong RX6 228 (1103515245), Cond.constantLong RX6 234 (12345), Cond.constantLong RX6 236 (2147483647), Cond.constantLong RX6 238 (65536), Cond.methodLink RX6 246 yX6_codeBy, Cond.instanceMethod yX6_codeBy, Cond.selects RX6 yX6_codeBy yX6_codeBy, Cond.code yX6_codeBy cX6_codeBy 5 (some .int), Cond.fieldLink RX6 32 "PegFieldModel" "codeOf" "[I", Cond.methodLink RX6 197 yX6_nextCode, Cond.instanceMethod yX6_nextCode]
def wsX6_runs_r4 : List Cond := [Cond.selects RX6 yX6_nextCode yX6_nextCode, Cond.code yX6_nextCode cX6_nextCode 3 (some .int), Cond.methodLink RX6 179 yX6_goDeep, Cond.instanceMethod yX6_goDeep, Cond.selects RX6 yX6_goDeep yX6_goDeep, Cond.code yX6_goDeep cX6_goDeep 6 none, Cond.methodLink RX6 183 yX6_onBoard, Cond.instanceMethod yX6_onBoard, Cond.selects RX6 yX6_onBoard yX6_onBoard, Cond.code yX6_onBoard cX6_onBoard 4 (some .int)]
def wsX6_runs : List Cond := .code yX6_runs cX6_runs 4 (some .int) :: ((wsX6_runs_r1 ++ (wsX6_runs_r2 ++ (wsX6_runs_r3 ++ wsX6_runs_r4))) ++ wsX60)
def wsX6_image : List Cond := .code yX6_image cX6_image 2 (some .int) :: ([.fieldLink RX6 115 "PegFieldModel" "pegs" "I", .fieldLink RX6 252 "PegFieldModel" "isKept" "Z", .fieldLink RX6 124 "PegFieldModel" "boards" "I", .fieldLink RX6 255 "PegFieldModel" "keptBoard" "I", .fieldLink RX6 112 "PegFieldModel" "holes" "I", .fieldLink RX6 258 "PegFieldModel" "keptHoles" "I", .fieldLink RX6 121 "PegFieldModel" "jumps" "I", .fieldLink RX6 261 "PegFieldModel" "keptJumps" "I", .fieldLink RX6 127 "PegFieldModel" "seen" "I", .fieldLink RX6 264 "PegFieldModel" "keptSeen" "I", .fieldLink RX6 62 "PegFieldModel" "keptKind" "[I", .fieldLink RX6 7 "PegFieldModel" "kindOf" "[I", .fieldLink RX6 65 "PegFieldModel" "keptPlace" "[I", .fieldLink RX6 13 "PegFieldModel" "placeOf" "[I", .fieldLink RX6 68 "PegFieldModel" "keptPeg" "[I", .fieldLink RX6 16 "PegFieldModel" "seenPeg" "[I", .fieldLink RX6 71 "PegFieldModel" "keptWhat" "[I", .fieldLink RX6 19 "PegFieldModel" "seenWhat" "[I", .fieldLink RX6 74 "PegFieldModel" "keptCould" "[I", .fieldLink RX6 22 "PegFieldModel" "seenCould" "[I"] ++ wsX60)
def wsX6_restore : List Cond := .code yX6_restore cX6_restore 2 (some .int) :: ([.fieldLink RX6 252 "PegFieldModel" "isKept" "Z", .fieldLink RX6 255 "PegFieldModel" "keptBoard" "I", .fieldLink RX6 124 "PegFieldModel" "boards" "I", .fieldLink RX6 258 "PegFieldModel" "keptHoles" "I", .fieldLink RX6 112 "PegFieldModel" "holes" "I", .fieldLink RX6 261 "PegFieldModel" "keptJumps" "I", .fieldLink RX6 121 "PegFieldModel" "jumps" "I", .fieldLink RX6 264 "PegFieldModel" "keptSeen" "I", .fieldLink RX6 127 "PegFieldModel" "seen" "I", .fieldLink RX6 7 "PegFieldModel" "kindOf" "[I", .fieldLink RX6 62 "PegFieldModel" "keptKind" "[I", .fieldLink RX6 13 "PegFieldModel" "placeOf" "[I", .fieldLink RX6 65 "PegFieldModel" "keptPlace" "[I", .fieldLink RX6 16 "PegFieldModel" "seenPeg" "[I", .fieldLink RX6 68 "PegFieldModel" "keptPeg" "[I", .fieldLink RX6 19 "PegFieldModel" "seenWhat" "[I", .fieldLink RX6 71 "PegFieldModel" "keptWhat" "[I", .fieldLink RX6 22 "PegFieldModel" "seenCould" "[I", .fieldLink RX6 74 "PegFieldModel" "keptCould" "[I"] ++ wsX60)
def wsX6_ofBoard_r1 : List Cond := [Cond.fieldLink RX6 106 "PegFieldModel" "high" "I", Cond.fieldLink RX6 109 "PegFieldModel" "wide" "I", Cond.fieldLink RX6 112 "PegFieldModel" "holes" "I", Cond.fieldLink RX6 115 "PegFieldModel" "pegs" "I", Cond.methodLink RX6 157 yX6_putDeep, Cond.instanceMethod yX6_putDeep, Cond.selects RX6 yX6_putDeep yX6_putDeep, Cond.initialized RX6, Cond.code yX6_putDeep cX6_putDeep 2 none, Cond.fieldLink RX6 29 "PegFieldModel" "deepPlace" "[I", Cond.fieldLink RX6 13 "PegFieldModel" "placeOf" "[I", Cond.methodLink RX6 154 yX6_size, Cond.static yX6_size, Cond.code yX6_size cX6_size 3 (some .int), Cond.methodLink RX6 183 yX6_onBoard, Cond.instanceMethod yX6_onBoard, Cond.selects RX6 yX6_onBoard yX6_onBoard, Cond.code yX6_onBoard cX6_onBoard 4 (some .int), Cond.methodLink RX6 240 yX6_jumpsNow, Cond.instanceMethod yX6_jumpsNow, Cond.selects RX6 yX6_jumpsNow yX6_jumpsNow, Cond.code yX6_jumpsNow cX6_jumpsNow 4 (some .int), Cond.methodLink RX6 151 yX6_goes, Cond.instanceMethod yX6_goes]
def wsX6_ofBoard_r2 : List Cond := [Cond.selects RX6 yX6_goes yX6_goes, Cond.code yX6_goes cX6_goes 5 (some .int), Cond.methodLink RX6 118 yX6_places, Cond.instanceMethod yX6_places, Cond.selects RX6 yX6_places yX6_places, Cond.code yX6_places cX6_places 1 (some .int), Cond.methodLink RX6 148 yX6_isJump, Cond.instanceMethod yX6_isJump, Cond.selects RX6 yX6_isJump yX6_isJump, Cond.code yX6_isJump cX6_isJump 4 (some .boolean), Cond.methodLink RX6 144 yX6_overBy, Cond.instanceMethod yX6_overBy, Cond.selects RX6 yX6_overBy yX6_overBy, Cond.code yX6_overBy cX6_overBy 6 (some .int), Cond.fieldLink RX6 7 "PegFieldModel" "kindOf" "[I", Cond.methodLink RX6 130 yX6_isIn, Cond.static yX6_isIn, Cond.code yX6_isIn cX6_isIn 2 (some .boolean), Cond.methodLink RX6 134 yX6_whoAt, Cond.instanceMethod yX6_whoAt, Cond.selects RX6 yX6_whoAt yX6_whoAt, Cond.code yX6_whoAt cX6_whoAt 5 (some .int), Cond.methodLink RX6 138 yX6_apart, Cond.static yX6_apart]
def wsX6_ofBoard_r3 : List Cond := [Cond.code yX6_apart cX6_apart 2 (some .int), Cond.methodLink RX6 141 yX6_goesBy, Cond.instanceMethod yX6_goesBy, Cond.selects RX6 yX6_goesBy yX6_goesBy, Cond.code yX6_goesBy cX6_goesBy 6 (some .boolean)]
def wsX6_ofBoard : List Cond := .code yX6_ofBoard cX6_ofBoard 2 (some .int) :: ((wsX6_ofBoard_r1 ++ (wsX6_ofBoard_r2 ++ wsX6_ofBoard_r3)) ++ wsX60)
def wsX6_howMany_r1 : List Cond := [Cond.fieldLink RX6 121 "PegFieldModel" "jumps" "I", Cond.fieldLink RX6 127 "PegFieldModel" "seen" "I", Cond.fieldLink RX6 81 "PegFieldModel" "pageLength" "I", Cond.fieldLink RX6 124 "PegFieldModel" "boards" "I", Cond.fieldLink RX6 216 "PegFieldModel" "asks" "I", Cond.methodLink RX6 77 yX6_within, Cond.static yX6_within, Cond.initialized RX6, Cond.code yX6_within cX6_within 3 (some .boolean), Cond.methodLink RX6 267 yX6_ofBoard, Cond.instanceMethod yX6_ofBoard, Cond.selects RX6 yX6_ofBoard yX6_ofBoard, Cond.code yX6_ofBoard cX6_ofBoard 2 (some .int), Cond.fieldLink RX6 106 "PegFieldModel" "high" "I", Cond.fieldLink RX6 109 "PegFieldModel" "wide" "I", Cond.fieldLink RX6 112 "PegFieldModel" "holes" "I", Cond.fieldLink RX6 115 "PegFieldModel" "pegs" "I", Cond.methodLink RX6 157 yX6_putDeep, Cond.instanceMethod yX6_putDeep, Cond.selects RX6 yX6_putDeep yX6_putDeep, Cond.code yX6_putDeep cX6_putDeep 2 none, Cond.fieldLink RX6 29 "PegFieldModel" "deepPlace" "[I", Cond.fieldLink RX6 13 "PegFieldModel" "placeOf" "[I", Cond.methodLink RX6 154 yX6_size]
def wsX6_howMany_r2 : List Cond := [Cond.static yX6_size, Cond.code yX6_size cX6_size 3 (some .int), Cond.methodLink RX6 183 yX6_onBoard, Cond.instanceMethod yX6_onBoard, Cond.selects RX6 yX6_onBoard yX6_onBoard, Cond.code yX6_onBoard cX6_onBoard 4 (some .int), Cond.methodLink RX6 240 yX6_jumpsNow, Cond.instanceMethod yX6_jumpsNow, Cond.selects RX6 yX6_jumpsNow yX6_jumpsNow, Cond.code yX6_jumpsNow cX6_jumpsNow 4 (some .int), Cond.methodLink RX6 151 yX6_goes, Cond.instanceMethod yX6_goes, Cond.selects RX6 yX6_goes yX6_goes, Cond.code yX6_goes cX6_goes 5 (some .int), Cond.methodLink RX6 118 yX6_places, Cond.instanceMethod yX6_places, Cond.selects RX6 yX6_places yX6_places, Cond.code yX6_places cX6_places 1 (some .int), Cond.methodLink RX6 148 yX6_isJump, Cond.instanceMethod yX6_isJump, Cond.selects RX6 yX6_isJump yX6_isJump, Cond.code yX6_isJump cX6_isJump 4 (some .boolean), Cond.methodLink RX6 144 yX6_overBy, Cond.instanceMethod yX6_overBy]
def wsX6_howMany_r3 : List Cond := [Cond.selects RX6 yX6_overBy yX6_overBy, Cond.code yX6_overBy cX6_overBy 6 (some .int), Cond.fieldLink RX6 7 "PegFieldModel" "kindOf" "[I", Cond.methodLink RX6 130 yX6_isIn, Cond.static yX6_isIn, Cond.code yX6_isIn cX6_isIn 2 (some .boolean), Cond.methodLink RX6 134 yX6_whoAt, Cond.instanceMethod yX6_whoAt, Cond.selects RX6 yX6_whoAt yX6_whoAt, Cond.code yX6_whoAt cX6_whoAt 5 (some .int), Cond.methodLink RX6 138 yX6_apart, Cond.static yX6_apart, Cond.code yX6_apart cX6_apart 2 (some .int), Cond.methodLink RX6 141 yX6_goesBy, Cond.instanceMethod yX6_goesBy, Cond.selects RX6 yX6_goesBy yX6_goesBy, Cond.code yX6_goesBy cX6_goesBy 6 (some .boolean)]
def wsX6_howMany : List Cond := .code yX6_howMany cX6_howMany 2 (some .int) :: ((wsX6_howMany_r1 ++ (wsX6_howMany_r2 ++ wsX6_howMany_r3)) ++ wsX60)
def wsX6_count_r1 : List Cond := [Cond.methodLink RX6 270 yX6_howMany, Cond.instanceMethod yX6_howMany, Cond.selects RX6 yX6_howMany yX6_howMany, Cond.initialized RX6, Cond.code yX6_howMany cX6_howMany 2 (some .int), Cond.fieldLink RX6 121 "PegFieldModel" "jumps" "I", Cond.fieldLink RX6 127 "PegFieldModel" "seen" "I", Cond.fieldLink RX6 81 "PegFieldModel" "pageLength" "I", Cond.fieldLink RX6 124 "PegFieldModel" "boards" "I", Cond.fieldLink RX6 216 "PegFieldModel" "asks" "I", Cond.methodLink RX6 77 yX6_within, Cond.static yX6_within, Cond.code yX6_within cX6_within 3 (some .boolean), Cond.methodLink RX6 267 yX6_ofBoard, Cond.instanceMethod yX6_ofBoard, Cond.selects RX6 yX6_ofBoard yX6_ofBoard, Cond.code yX6_ofBoard cX6_ofBoard 2 (some .int), Cond.fieldLink RX6 106 "PegFieldModel" "high" "I", Cond.fieldLink RX6 109 "PegFieldModel" "wide" "I", Cond.fieldLink RX6 112 "PegFieldModel" "holes" "I", Cond.fieldLink RX6 115 "PegFieldModel" "pegs" "I", Cond.methodLink RX6 157 yX6_putDeep, Cond.instanceMethod yX6_putDeep, Cond.selects RX6 yX6_putDeep yX6_putDeep]
def wsX6_count_r2 : List Cond := [Cond.code yX6_putDeep cX6_putDeep 2 none, Cond.fieldLink RX6 29 "PegFieldModel" "deepPlace" "[I", Cond.fieldLink RX6 13 "PegFieldModel" "placeOf" "[I", Cond.methodLink RX6 154 yX6_size, Cond.static yX6_size, Cond.code yX6_size cX6_size 3 (some .int), Cond.methodLink RX6 183 yX6_onBoard, Cond.instanceMethod yX6_onBoard, Cond.selects RX6 yX6_onBoard yX6_onBoard, Cond.code yX6_onBoard cX6_onBoard 4 (some .int), Cond.methodLink RX6 240 yX6_jumpsNow, Cond.instanceMethod yX6_jumpsNow, Cond.selects RX6 yX6_jumpsNow yX6_jumpsNow, Cond.code yX6_jumpsNow cX6_jumpsNow 4 (some .int), Cond.methodLink RX6 151 yX6_goes, Cond.instanceMethod yX6_goes, Cond.selects RX6 yX6_goes yX6_goes, Cond.code yX6_goes cX6_goes 5 (some .int), Cond.methodLink RX6 118 yX6_places, Cond.instanceMethod yX6_places, Cond.selects RX6 yX6_places yX6_places, Cond.code yX6_places cX6_places 1 (some .int), Cond.methodLink RX6 148 yX6_isJump, Cond.instanceMethod yX6_isJump]
def wsX6_count_r3 : List Cond := [Cond.selects RX6 yX6_isJump yX6_isJump, Cond.code yX6_isJump cX6_isJump 4 (some .boolean), Cond.methodLink RX6 144 yX6_overBy, Cond.instanceMethod yX6_overBy, Cond.selects RX6 yX6_overBy yX6_overBy, Cond.code yX6_overBy cX6_overBy 6 (some .int), Cond.fieldLink RX6 7 "PegFieldModel" "kindOf" "[I", Cond.methodLink RX6 130 yX6_isIn, Cond.static yX6_isIn, Cond.code yX6_isIn cX6_isIn 2 (some .boolean), Cond.methodLink RX6 134 yX6_whoAt, Cond.instanceMethod yX6_whoAt, Cond.selects RX6 yX6_whoAt yX6_whoAt, Cond.code yX6_whoAt cX6_whoAt 5 (some .int), Cond.methodLink RX6 138 yX6_apart, Cond.static yX6_apart, Cond.code yX6_apart cX6_apart 2 (some .int), Cond.methodLink RX6 141 yX6_goesBy, Cond.instanceMethod yX6_goesBy, Cond.selects RX6 yX6_goesBy yX6_goesBy, Cond.code yX6_goesBy cX6_goesBy 6 (some .boolean)]
def wsX6_count : List Cond := .code yX6_count cX6_count 2 (some .int) :: ((wsX6_count_r1 ++ (wsX6_count_r2 ++ wsX6_count_r3)) ++ wsX60)
def wsX6_mix : List Cond := .code yX6_mix cX6_mix 3 none :: ([.constantLong RX6 273 (31), .fieldLink RX6 275 "PegFieldModel" "h" "J"] ++ wsX60)
def wsX6_mixBoard_r1 : List Cond := [Cond.methodLink RX6 210 yX6_coursesNow, Cond.instanceMethod yX6_coursesNow, Cond.selects RX6 yX6_coursesNow yX6_coursesNow, Cond.initialized RX6, Cond.code yX6_coursesNow cX6_coursesNow 2 (some .int), Cond.fieldLink RX6 41 "PegFieldModel" "fewestOf" "[I", Cond.fieldLink RX6 44 "PegFieldModel" "firstOf" "[I", Cond.fieldLink RX6 38 "PegFieldModel" "waysOf" "[I", Cond.fieldLink RX6 47 "PegFieldModel" "longestOf" "[I", Cond.fieldLink RX6 50 "PegFieldModel" "shortestOf" "[I", Cond.fieldLink RX6 53 "PegFieldModel" "aloneOf" "[I", Cond.methodLink RX6 157 yX6_putDeep, Cond.instanceMethod yX6_putDeep, Cond.selects RX6 yX6_putDeep yX6_putDeep, Cond.code yX6_putDeep cX6_putDeep 2 none, Cond.fieldLink RX6 29 "PegFieldModel" "deepPlace" "[I", Cond.fieldLink RX6 115 "PegFieldModel" "pegs" "I", Cond.fieldLink RX6 13 "PegFieldModel" "placeOf" "[I", Cond.methodLink RX6 207 yX6_layCourses, Cond.instanceMethod yX6_layCourses, Cond.selects RX6 yX6_layCourses yX6_layCourses, Cond.code yX6_layCourses cX6_layCourses 3 none, Cond.fieldLink RX6 35 "PegFieldModel" "jumpsOf" "[I", Cond.fieldLink RX6 32 "PegFieldModel" "codeOf" "[I"]
def wsX6_mixBoard_r2 : List Cond := [Cond.methodLink RX6 193 yX6_begin, Cond.instanceMethod yX6_begin, Cond.selects RX6 yX6_begin yX6_begin, Cond.code yX6_begin cX6_begin 2 none, Cond.constant RX6 189 (268435456), Cond.fieldLink RX6 56 "PegFieldModel" "winOf" "[I", Cond.fieldLink RX6 59 "PegFieldModel" "sumOf" "[I", Cond.methodLink RX6 197 yX6_nextCode, Cond.instanceMethod yX6_nextCode, Cond.selects RX6 yX6_nextCode yX6_nextCode, Cond.code yX6_nextCode cX6_nextCode 3 (some .int), Cond.methodLink RX6 118 yX6_places, Cond.instanceMethod yX6_places, Cond.selects RX6 yX6_places yX6_places, Cond.code yX6_places cX6_places 1 (some .int), Cond.fieldLink RX6 106 "PegFieldModel" "high" "I", Cond.fieldLink RX6 109 "PegFieldModel" "wide" "I", Cond.methodLink RX6 148 yX6_isJump, Cond.instanceMethod yX6_isJump, Cond.selects RX6 yX6_isJump yX6_isJump, Cond.code yX6_isJump cX6_isJump 4 (some .boolean), Cond.methodLink RX6 144 yX6_overBy, Cond.instanceMethod yX6_overBy, Cond.selects RX6 yX6_overBy yX6_overBy]
def wsX6_mixBoard_r3 : List Cond := [Cond.code yX6_overBy cX6_overBy 6 (some .int), Cond.fieldLink RX6 112 "PegFieldModel" "holes" "I", Cond.fieldLink RX6 7 "PegFieldModel" "kindOf" "[I", Cond.methodLink RX6 130 yX6_isIn, Cond.static yX6_isIn, Cond.code yX6_isIn cX6_isIn 2 (some .boolean), Cond.methodLink RX6 134 yX6_whoAt, Cond.instanceMethod yX6_whoAt, Cond.selects RX6 yX6_whoAt yX6_whoAt, Cond.code yX6_whoAt cX6_whoAt 5 (some .int), Cond.methodLink RX6 138 yX6_apart, Cond.static yX6_apart, Cond.code yX6_apart cX6_apart 2 (some .int), Cond.methodLink RX6 141 yX6_goesBy, Cond.instanceMethod yX6_goesBy, Cond.selects RX6 yX6_goesBy yX6_goesBy, Cond.code yX6_goesBy cX6_goesBy 6 (some .boolean), Cond.methodLink RX6 179 yX6_goDeep, Cond.instanceMethod yX6_goDeep, Cond.selects RX6 yX6_goDeep yX6_goDeep, Cond.code yX6_goDeep cX6_goDeep 6 none, Cond.methodLink RX6 200 yX6_end, Cond.instanceMethod yX6_end, Cond.selects RX6 yX6_end yX6_end]
def wsX6_mixBoard_r4 : List Cond := [Cond.code yX6_end cX6_end 3 none, Cond.methodLink RX6 183 yX6_onBoard, Cond.instanceMethod yX6_onBoard, Cond.selects RX6 yX6_onBoard yX6_onBoard, Cond.code yX6_onBoard cX6_onBoard 4 (some .int), Cond.methodLink RX6 190 yX6_lastPlace, Cond.instanceMethod yX6_lastPlace, Cond.selects RX6 yX6_lastPlace yX6_lastPlace, Cond.code yX6_lastPlace cX6_lastPlace 4 (some .int), Cond.methodLink RX6 203 yX6_takeUp, Cond.instanceMethod yX6_takeUp, Cond.selects RX6 yX6_takeUp yX6_takeUp, Cond.code yX6_takeUp cX6_takeUp 5 none, Cond.methodLink RX6 278 yX6_mix, Cond.instanceMethod yX6_mix, Cond.selects RX6 yX6_mix yX6_mix, Cond.code yX6_mix cX6_mix 3 none, Cond.constantLong RX6 273 (31), Cond.fieldLink RX6 275 "PegFieldModel" "h" "J", Cond.methodLink RX6 213 yX6_winsNow, Cond.instanceMethod yX6_winsNow, Cond.selects RX6 yX6_winsNow yX6_winsNow, Cond.code yX6_winsNow cX6_winsNow 2 (some .int), Cond.methodLink RX6 222 yX6_meanNow]
def wsX6_mixBoard_r5 : List Cond := [Cond.instanceMethod yX6_meanNow, Cond.selects RX6 yX6_meanNow yX6_meanNow, Cond.code yX6_meanNow cX6_meanNow 1 (some .int)]
def wsX6_mixBoard : List Cond := .code yX6_mixBoard cX6_mixBoard 2 none :: ((wsX6_mixBoard_r1 ++ (wsX6_mixBoard_r2 ++ (wsX6_mixBoard_r3 ++ (wsX6_mixBoard_r4 ++ wsX6_mixBoard_r5)))) ++ wsX60)
def wsX6_digest_r1 : List Cond := [Cond.constantLong RX6 282 (1307), Cond.fieldLink RX6 275 "PegFieldModel" "h" "J", Cond.fieldLink RX6 115 "PegFieldModel" "pegs" "I", Cond.fieldLink RX6 81 "PegFieldModel" "pageLength" "I", Cond.fieldLink RX6 25 "PegFieldModel" "page" "[B", Cond.methodLink RX6 170 yX6_pegNow, Cond.instanceMethod yX6_pegNow, Cond.selects RX6 yX6_pegNow yX6_pegNow, Cond.initialized RX6, Cond.code yX6_pegNow cX6_pegNow 3 (some .int), Cond.fieldLink RX6 7 "PegFieldModel" "kindOf" "[I", Cond.fieldLink RX6 13 "PegFieldModel" "placeOf" "[I", Cond.methodLink RX6 157 yX6_putDeep, Cond.instanceMethod yX6_putDeep, Cond.selects RX6 yX6_putDeep yX6_putDeep, Cond.code yX6_putDeep cX6_putDeep 2 none, Cond.fieldLink RX6 29 "PegFieldModel" "deepPlace" "[I", Cond.methodLink RX6 151 yX6_goes, Cond.instanceMethod yX6_goes, Cond.selects RX6 yX6_goes yX6_goes, Cond.code yX6_goes cX6_goes 5 (some .int), Cond.methodLink RX6 118 yX6_places, Cond.instanceMethod yX6_places, Cond.selects RX6 yX6_places yX6_places]
def wsX6_digest_r2 : List Cond := [Cond.code yX6_places cX6_places 1 (some .int), Cond.fieldLink RX6 106 "PegFieldModel" "high" "I", Cond.fieldLink RX6 109 "PegFieldModel" "wide" "I", Cond.methodLink RX6 148 yX6_isJump, Cond.instanceMethod yX6_isJump, Cond.selects RX6 yX6_isJump yX6_isJump, Cond.code yX6_isJump cX6_isJump 4 (some .boolean), Cond.methodLink RX6 144 yX6_overBy, Cond.instanceMethod yX6_overBy, Cond.selects RX6 yX6_overBy yX6_overBy, Cond.code yX6_overBy cX6_overBy 6 (some .int), Cond.fieldLink RX6 112 "PegFieldModel" "holes" "I", Cond.methodLink RX6 130 yX6_isIn, Cond.static yX6_isIn, Cond.code yX6_isIn cX6_isIn 2 (some .boolean), Cond.methodLink RX6 134 yX6_whoAt, Cond.instanceMethod yX6_whoAt, Cond.selects RX6 yX6_whoAt yX6_whoAt, Cond.code yX6_whoAt cX6_whoAt 5 (some .int), Cond.methodLink RX6 138 yX6_apart, Cond.static yX6_apart, Cond.code yX6_apart cX6_apart 2 (some .int), Cond.methodLink RX6 141 yX6_goesBy, Cond.instanceMethod yX6_goesBy]
def wsX6_digest_r3 : List Cond := [Cond.selects RX6 yX6_goesBy yX6_goesBy, Cond.code yX6_goesBy cX6_goesBy 6 (some .boolean), Cond.methodLink RX6 160 yX6_sortsOf, Cond.instanceMethod yX6_sortsOf, Cond.selects RX6 yX6_sortsOf yX6_sortsOf, Cond.code yX6_sortsOf cX6_sortsOf 6 (some .int), Cond.fieldLink RX6 127 "PegFieldModel" "seen" "I", Cond.fieldLink RX6 16 "PegFieldModel" "seenPeg" "[I", Cond.fieldLink RX6 19 "PegFieldModel" "seenWhat" "[I", Cond.fieldLink RX6 22 "PegFieldModel" "seenCould" "[I", Cond.methodLink RX6 225 yX6_could, Cond.static yX6_could, Cond.code yX6_could cX6_could 2 (some .boolean), Cond.methodLink RX6 163 yX6_askOf, Cond.instanceMethod yX6_askOf, Cond.selects RX6 yX6_askOf yX6_askOf, Cond.code yX6_askOf cX6_askOf 9 (some .int), Cond.constant RX6 189 (268435456), Cond.methodLink RX6 154 yX6_size, Cond.static yX6_size, Cond.code yX6_size cX6_size 3 (some .int), Cond.methodLink RX6 278 yX6_mix, Cond.instanceMethod yX6_mix, Cond.selects RX6 yX6_mix yX6_mix]
def wsX6_digest_r4 : List Cond := [Cond.code yX6_mix cX6_mix 3 none, Cond.constantLong RX6 273 (31), Cond.methodLink RX6 176 yX6_placeNow, Cond.instanceMethod yX6_placeNow, Cond.selects RX6 yX6_placeNow yX6_placeNow, Cond.code yX6_placeNow cX6_placeNow 3 (some .int), Cond.methodLink RX6 284 yX6_mixBoard, Cond.instanceMethod yX6_mixBoard, Cond.selects RX6 yX6_mixBoard yX6_mixBoard, Cond.code yX6_mixBoard cX6_mixBoard 2 none, Cond.methodLink RX6 210 yX6_coursesNow, Cond.instanceMethod yX6_coursesNow, Cond.selects RX6 yX6_coursesNow yX6_coursesNow, Cond.code yX6_coursesNow cX6_coursesNow 2 (some .int), Cond.fieldLink RX6 41 "PegFieldModel" "fewestOf" "[I", Cond.fieldLink RX6 44 "PegFieldModel" "firstOf" "[I", Cond.fieldLink RX6 38 "PegFieldModel" "waysOf" "[I", Cond.fieldLink RX6 47 "PegFieldModel" "longestOf" "[I", Cond.fieldLink RX6 50 "PegFieldModel" "shortestOf" "[I", Cond.fieldLink RX6 53 "PegFieldModel" "aloneOf" "[I", Cond.methodLink RX6 207 yX6_layCourses, Cond.instanceMethod yX6_layCourses, Cond.selects RX6 yX6_layCourses yX6_layCourses, Cond.code yX6_layCourses cX6_layCourses 3 none]
def wsX6_digest_r5 : List Cond := [Cond.fieldLink RX6 35 "PegFieldModel" "jumpsOf" "[I", Cond.fieldLink RX6 32 "PegFieldModel" "codeOf" "[I", Cond.methodLink RX6 193 yX6_begin, Cond.instanceMethod yX6_begin, Cond.selects RX6 yX6_begin yX6_begin, Cond.code yX6_begin cX6_begin 2 none, Cond.fieldLink RX6 56 "PegFieldModel" "winOf" "[I", Cond.fieldLink RX6 59 "PegFieldModel" "sumOf" "[I", Cond.methodLink RX6 197 yX6_nextCode, Cond.instanceMethod yX6_nextCode, Cond.selects RX6 yX6_nextCode yX6_nextCode, Cond.code yX6_nextCode cX6_nextCode 3 (some .int), Cond.methodLink RX6 179 yX6_goDeep, Cond.instanceMethod yX6_goDeep, Cond.selects RX6 yX6_goDeep yX6_goDeep, Cond.code yX6_goDeep cX6_goDeep 6 none, Cond.methodLink RX6 200 yX6_end, Cond.instanceMethod yX6_end, Cond.selects RX6 yX6_end yX6_end, Cond.code yX6_end cX6_end 3 none, Cond.methodLink RX6 183 yX6_onBoard, Cond.instanceMethod yX6_onBoard, Cond.selects RX6 yX6_onBoard yX6_onBoard, Cond.code yX6_onBoard cX6_onBoard 4 (some .int)]
def wsX6_digest_r6 : List Cond := [Cond.methodLink RX6 190 yX6_lastPlace, Cond.instanceMethod yX6_lastPlace, Cond.selects RX6 yX6_lastPlace yX6_lastPlace, Cond.code yX6_lastPlace cX6_lastPlace 4 (some .int), Cond.methodLink RX6 203 yX6_takeUp, Cond.instanceMethod yX6_takeUp, Cond.selects RX6 yX6_takeUp yX6_takeUp, Cond.code yX6_takeUp cX6_takeUp 5 none, Cond.methodLink RX6 213 yX6_winsNow, Cond.instanceMethod yX6_winsNow, Cond.selects RX6 yX6_winsNow yX6_winsNow, Cond.code yX6_winsNow cX6_winsNow 2 (some .int), Cond.methodLink RX6 222 yX6_meanNow, Cond.instanceMethod yX6_meanNow, Cond.selects RX6 yX6_meanNow yX6_meanNow, Cond.code yX6_meanNow cX6_meanNow 1 (some .int), Cond.methodLink RX6 270 yX6_howMany, Cond.instanceMethod yX6_howMany, Cond.selects RX6 yX6_howMany yX6_howMany, Cond.code yX6_howMany cX6_howMany 2 (some .int), Cond.fieldLink RX6 121 "PegFieldModel" "jumps" "I", Cond.fieldLink RX6 124 "PegFieldModel" "boards" "I", Cond.fieldLink RX6 216 "PegFieldModel" "asks" "I", Cond.methodLink RX6 77 yX6_within]
def wsX6_digest_r7 : List Cond := [Cond.static yX6_within, Cond.code yX6_within cX6_within 3 (some .boolean), Cond.methodLink RX6 267 yX6_ofBoard, Cond.instanceMethod yX6_ofBoard, Cond.selects RX6 yX6_ofBoard yX6_ofBoard, Cond.code yX6_ofBoard cX6_ofBoard 2 (some .int), Cond.methodLink RX6 240 yX6_jumpsNow, Cond.instanceMethod yX6_jumpsNow, Cond.selects RX6 yX6_jumpsNow yX6_jumpsNow, Cond.code yX6_jumpsNow cX6_jumpsNow 4 (some .int)]
def wsX6_digest : List Cond := .code yX6_digest cX6_digest 3 (some .long) :: ((wsX6_digest_r1 ++ (wsX6_digest_r2 ++ (wsX6_digest_r3 ++ (wsX6_digest_r4 ++ (wsX6_digest_r5 ++ (wsX6_digest_r6 ++ wsX6_digest_r7)))))) ++ wsX60)
def wsJ9_max_7cf53 : List Cond := .code yJ9_max_7cf53 cJ9_max_7cf53 2 (some .int) :: ([])
def wsL_law_r1 : List Cond := [Cond.classLink RL 7 RX5, Cond.instantiable RX5 13, Cond.initialized RX5, Cond.classLink RL 10 RX6, Cond.instantiable RX6 40, Cond.initialized RX6, Cond.methodLink RL 9 yX5_init, Cond.instanceMethod yX5_init, Cond.code yX5_init cX5_init 2 none, Cond.methodLink RX5 3 objectInit, Cond.instanceMethod objectInit, Cond.code objectInit ⟨#[0xb1]⟩ 1 none, Cond.classLink RX5 9 RX2, Cond.instantiable RX2 2, Cond.initialized RX2, Cond.fieldLink RX5 12 "PegField" "page" "LPegField$Page;", Cond.classLink RX5 16 RX0, Cond.instantiable RX0 4, Cond.initialized RX0, Cond.fieldLink RX5 19 "PegField" "grid" "LPegField$Grid;", Cond.classLink RX5 23 RX4, Cond.instantiable RX4 8, Cond.initialized RX4, Cond.fieldLink RX5 28 "PegField" "now" "LPegField$State;"]
def wsL_law_r2 : List Cond := [Cond.classLink RX5 32 RX3, Cond.instantiable RX3 3, Cond.initialized RX3, Cond.fieldLink RX5 35 "PegField" "seen" "LPegField$Seen;", Cond.fieldLink RX5 39 "PegField" "keptState" "LPegField$State;", Cond.fieldLink RX5 42 "PegField" "keptSeen" "LPegField$Seen;", Cond.fieldLink RX5 45 "PegField" "thought" "LPegField$State;", Cond.classLink RX5 48 RX1, Cond.instantiable RX1 9, Cond.initialized RX1, Cond.fieldLink RX5 51 "PegField" "outlook" "LPegField$Outcome;", Cond.fieldLink RX5 55 "PegField" "outcomes" "[LPegField$Outcome;", Cond.instanceMethod yX2_init, Cond.code yX2_init cX2_init 1 none, Cond.methodLink RX2 3 objectInit, Cond.arrayClass .int, Cond.fieldLink RX2 9 "PegField$Page" "codes" "[I", Cond.instanceMethod yX0_init, Cond.code yX0_init cX0_init 1 none, Cond.methodLink RX0 3 objectInit, Cond.fieldLink RX0 9 "PegField$Grid" "beside" "[I", Cond.methodLink RX5 25 yX4_init, Cond.instanceMethod yX4_init, Cond.code yX4_init cX4_init 2 none]
def wsL_law_r3 : List Cond := [Cond.methodLink RX4 3 objectInit, Cond.fieldLink RX4 9 "PegField$State" "kinds" "[I", Cond.fieldLink RX4 15 "PegField$State" "homes" "[I", Cond.fieldLink RX4 18 "PegField$State" "tenants" "[I", Cond.fieldLink RX4 21 "PegField$State" "grid" "LPegField$Grid;", Cond.instanceMethod yX3_init, Cond.code yX3_init cX3_init 1 none, Cond.methodLink RX3 3 objectInit, Cond.fieldLink RX3 9 "PegField$Seen" "pegs" "[I", Cond.fieldLink RX3 15 "PegField$Seen" "sorts" "[I", Cond.instanceMethod yX1_init, Cond.code yX1_init cX1_init 1 none, Cond.methodLink RX1 3 objectInit, Cond.methodLink RL 12 yX6_init, Cond.instanceMethod yX6_init, Cond.code yX6_init cX6_init 1 none, Cond.methodLink RX6 1 objectInit, Cond.fieldLink RX6 7 "PegFieldModel" "kindOf" "[I", Cond.fieldLink RX6 13 "PegFieldModel" "placeOf" "[I", Cond.fieldLink RX6 16 "PegFieldModel" "seenPeg" "[I", Cond.fieldLink RX6 19 "PegFieldModel" "seenWhat" "[I", Cond.fieldLink RX6 22 "PegFieldModel" "seenCould" "[I", Cond.arrayClass .byte, Cond.fieldLink RX6 25 "PegFieldModel" "page" "[B"]
def wsL_law_r4 : List Cond := [Cond.fieldLink RX6 29 "PegFieldModel" "deepPlace" "[I", Cond.fieldLink RX6 32 "PegFieldModel" "codeOf" "[I", Cond.fieldLink RX6 35 "PegFieldModel" "jumpsOf" "[I", Cond.fieldLink RX6 38 "PegFieldModel" "waysOf" "[I", Cond.fieldLink RX6 41 "PegFieldModel" "fewestOf" "[I", Cond.fieldLink RX6 44 "PegFieldModel" "firstOf" "[I", Cond.fieldLink RX6 47 "PegFieldModel" "longestOf" "[I", Cond.fieldLink RX6 50 "PegFieldModel" "shortestOf" "[I", Cond.fieldLink RX6 53 "PegFieldModel" "aloneOf" "[I", Cond.fieldLink RX6 56 "PegFieldModel" "winOf" "[I", Cond.fieldLink RX6 59 "PegFieldModel" "sumOf" "[I", Cond.fieldLink RX6 62 "PegFieldModel" "keptKind" "[I", Cond.fieldLink RX6 65 "PegFieldModel" "keptPlace" "[I", Cond.fieldLink RX6 68 "PegFieldModel" "keptPeg" "[I", Cond.fieldLink RX6 71 "PegFieldModel" "keptWhat" "[I", Cond.fieldLink RX6 74 "PegFieldModel" "keptCould" "[I", Cond.methodLink RL 13 yX5_letter, Cond.instanceMethod yX5_letter, Cond.selects RX5 yX5_letter yX5_letter, Cond.code yX5_letter cX5_letter 2 (some .int), Cond.methodLink RX5 59 yX2_append, Cond.instanceMethod yX2_append, Cond.selects RX2 yX2_append yX2_append, Cond.code yX2_append cX2_append 2 (some .boolean)]
def wsL_law_r5 : List Cond := [Cond.fieldLink RX2 15 "PegField$Page" "size" "I", Cond.methodLink RL 17 yX6_letter, Cond.instanceMethod yX6_letter, Cond.selects RX6 yX6_letter yX6_letter, Cond.code yX6_letter cX6_letter 2 (some .int), Cond.fieldLink RX6 81 "PegFieldModel" "pageLength" "I", Cond.methodLink RX6 77 yX6_within, Cond.static yX6_within, Cond.code yX6_within cX6_within 3 (some .boolean), Cond.methodLink RL 18 yX5_blank, Cond.instanceMethod yX5_blank, Cond.selects RX5 yX5_blank yX5_blank, Cond.code yX5_blank cX5_blank 2 (some .int), Cond.methodLink RL 22 yX6_blank, Cond.instanceMethod yX6_blank, Cond.selects RX6 yX6_blank yX6_blank, Cond.code yX6_blank cX6_blank 2 (some .int), Cond.methodLink RL 23 yX5_fault, Cond.instanceMethod yX5_fault, Cond.selects RX5 yX5_fault yX5_fault, Cond.code yX5_fault cX5_fault 1 (some .int), Cond.methodLink RX5 67 yX2_firstFault, Cond.instanceMethod yX2_firstFault, Cond.selects RX2 yX2_firstFault yX2_firstFault]
def wsL_law_r6 : List Cond := [Cond.code yX2_firstFault cX2_firstFault 2 (some .int), Cond.methodLink RX2 40 yX2_fits, Cond.instanceMethod yX2_fits, Cond.selects RX2 yX2_fits yX2_fits, Cond.code yX2_fits cX2_fits 3 (some .boolean), Cond.methodLink RX2 27 yX2_digitAt, Cond.instanceMethod yX2_digitAt, Cond.selects RX2 yX2_digitAt yX2_digitAt, Cond.code yX2_digitAt cX2_digitAt 3 (some .int), Cond.methodLink RX2 19 yX2_codeAt, Cond.instanceMethod yX2_codeAt, Cond.selects RX2 yX2_codeAt yX2_codeAt, Cond.code yX2_codeAt cX2_codeAt 2 (some .int), Cond.methodLink RX2 33 yX2_placesTold, Cond.instanceMethod yX2_placesTold, Cond.selects RX2 yX2_placesTold yX2_placesTold, Cond.code yX2_placesTold cX2_placesTold 1 (some .int), Cond.methodLink RX2 30 yX2_kindAt, Cond.instanceMethod yX2_kindAt, Cond.selects RX2 yX2_kindAt yX2_kindAt, Cond.code yX2_kindAt cX2_kindAt 4 (some .int), Cond.methodLink RX2 37 yX2_pegsBefore, Cond.instanceMethod yX2_pegsBefore, Cond.selects RX2 yX2_pegsBefore yX2_pegsBefore]
def wsL_law_r7 : List Cond := [Cond.code yX2_pegsBefore cX2_pegsBefore 4 (some .int), Cond.methodLink RL 26 yX6_fault, Cond.instanceMethod yX6_fault, Cond.selects RX6 yX6_fault yX6_fault, Cond.code yX6_fault cX6_fault 1 (some .int), Cond.methodLink RX6 102 yX6_read, Cond.instanceMethod yX6_read, Cond.selects RX6 yX6_read yX6_read, Cond.code yX6_read cX6_read 3 (some .int), Cond.fieldLink RX6 95 "PegFieldModel" "isWhole" "Z", Cond.fieldLink RX6 92 "PegFieldModel" "newPegs" "I", Cond.methodLink RX6 85 yX6_at, Cond.instanceMethod yX6_at, Cond.selects RX6 yX6_at yX6_at, Cond.code yX6_at cX6_at 2 (some .int), Cond.methodLink RX6 99 yX6_readPlaces, Cond.instanceMethod yX6_readPlaces, Cond.selects RX6 yX6_readPlaces yX6_readPlaces, Cond.code yX6_readPlaces cX6_readPlaces 4 (some .int), Cond.methodLink RX6 89 yX6_kindBy, Cond.static yX6_kindBy, Cond.code yX6_kindBy cX6_kindBy 1 (some .int), Cond.methodLink RL 27 yX5_board, Cond.instanceMethod yX5_board]
def wsL_law_r8 : List Cond := [Cond.selects RX5 yX5_board yX5_board, Cond.code yX5_board cX5_board 1 (some .int), Cond.fieldLink RX5 88 "PegField" "isKept" "Z", Cond.fieldLink RX5 92 "PegField" "isLooked" "Z", Cond.fieldLink RX5 95 "PegField" "reads" "I", Cond.methodLink RX5 71 yX2_isBoard, Cond.instanceMethod yX2_isBoard, Cond.selects RX2 yX2_isBoard yX2_isBoard, Cond.code yX2_isBoard cX2_isBoard 1 (some .boolean), Cond.methodLink RX2 44 yX2_firstFault, Cond.methodLink RX5 75 yX2_digitAt, Cond.methodLink RX5 79 yX0_lay, Cond.instanceMethod yX0_lay, Cond.selects RX0 yX0_lay yX0_lay, Cond.code yX0_lay cX0_lay 7 none, Cond.fieldLink RX0 15 "PegField$Grid" "rows" "I", Cond.fieldLink RX0 19 "PegField$Grid" "columns" "I", Cond.fieldLink RX0 22 "PegField$Grid" "places" "I", Cond.methodLink RX0 31 yX0_placeAt, Cond.instanceMethod yX0_placeAt, Cond.selects RX0 yX0_placeAt yX0_placeAt, Cond.code yX0_placeAt cX0_placeAt 4 (some .int), Cond.methodLink RX5 83 yX4_read, Cond.instanceMethod yX4_read]
def wsL_law_r9 : List Cond := [Cond.selects RX4 yX4_read yX4_read, Cond.code yX4_read cX4_read 3 none, Cond.fieldLink RX4 25 "PegField$State" "holes" "I", Cond.fieldLink RX4 29 "PegField$State" "pegs" "I", Cond.fieldLink RX4 32 "PegField$State" "onBoard" "I", Cond.fieldLink RX4 35 "PegField$State" "jumps" "I", Cond.methodLink RX4 43 yX2_codeAt, Cond.methodLink RX4 49 yX2_kindAt, Cond.methodLink RX4 52 yX4_addPeg, Cond.instanceMethod yX4_addPeg, Cond.selects RX4 yX4_addPeg yX4_addPeg, Cond.code yX4_addPeg cX4_addPeg 4 none, Cond.methodLink RX4 56 yX4_set, Cond.instanceMethod yX4_set, Cond.selects RX4 yX4_set yX4_set, Cond.code yX4_set cX4_set 3 none, Cond.methodLink RX4 59 yX4_isPeg, Cond.instanceMethod yX4_isPeg, Cond.selects RX4 yX4_isPeg yX4_isPeg, Cond.code yX4_isPeg cX4_isPeg 2 (some .boolean), Cond.methodLink RX4 63 yX0_has, Cond.instanceMethod yX0_has, Cond.selects RX0 yX0_has yX0_has, Cond.code yX0_has cX0_has 2 (some .boolean)]
def wsL_law_r10 : List Cond := [Cond.methodLink RL 30 yX6_board, Cond.instanceMethod yX6_board, Cond.selects RX6 yX6_board yX6_board, Cond.code yX6_board cX6_board 3 (some .int), Cond.fieldLink RX6 106 "PegFieldModel" "high" "I", Cond.fieldLink RX6 109 "PegFieldModel" "wide" "I", Cond.fieldLink RX6 112 "PegFieldModel" "holes" "I", Cond.fieldLink RX6 115 "PegFieldModel" "pegs" "I", Cond.fieldLink RX6 121 "PegFieldModel" "jumps" "I", Cond.fieldLink RX6 124 "PegFieldModel" "boards" "I", Cond.fieldLink RX6 127 "PegFieldModel" "seen" "I", Cond.methodLink RX6 118 yX6_places, Cond.instanceMethod yX6_places, Cond.selects RX6 yX6_places yX6_places, Cond.code yX6_places cX6_places 1 (some .int), Cond.methodLink RL 31 yX5_peg, Cond.instanceMethod yX5_peg, Cond.selects RX5 yX5_peg yX5_peg, Cond.code yX5_peg cX5_peg 3 (some .int), Cond.methodLink RX5 101 yX4_isPeg, Cond.methodLink RX5 104 yX4_kindOf, Cond.instanceMethod yX4_kindOf, Cond.selects RX4 yX4_kindOf yX4_kindOf, Cond.code yX4_kindOf cX4_kindOf 2 (some .int)]
def wsL_law_r11 : List Cond := [Cond.methodLink RX5 107 yX4_homeOf, Cond.instanceMethod yX4_homeOf, Cond.selects RX4 yX4_homeOf yX4_homeOf, Cond.code yX4_homeOf cX4_homeOf 2 (some .int), Cond.methodLink RX5 110 yX4_targetsOf, Cond.instanceMethod yX4_targetsOf, Cond.selects RX4 yX4_targetsOf yX4_targetsOf, Cond.code yX4_targetsOf cX4_targetsOf 5 (some .int), Cond.methodLink RX4 92 yX4_targetOf, Cond.instanceMethod yX4_targetOf, Cond.selects RX4 yX4_targetOf yX4_targetOf, Cond.code yX4_targetOf cX4_targetOf 6 (some .int), Cond.methodLink RX4 70 yX4_homeOf, Cond.methodLink RX4 73 yX0_next, Cond.instanceMethod yX0_next, Cond.selects RX0 yX0_next yX0_next, Cond.code yX0_next cX0_next 4 (some .int), Cond.methodLink RX0 35 yX0_has, Cond.methodLink RX4 77 yX4_pegIn, Cond.instanceMethod yX4_pegIn, Cond.selects RX4 yX4_pegIn yX4_pegIn, Cond.code yX4_pegIn cX4_pegIn 2 (some .int), Cond.methodLink RX4 80 yX4_kindOf, Cond.static yX5_kindGoes]
def wsL_law_r12 : List Cond := [Cond.code yX5_kindGoes cX5_kindGoes 2 (some .boolean), Cond.fieldLink RX5 294 "PegField" "WHO_GOES" "[I", Cond.methodLink RX5 123 yX5_hasBit, Cond.static yX5_hasBit, Cond.code yX5_hasBit cX5_hasBit 2 (some .boolean), Cond.static yX5_kindCould, Cond.code yX5_kindCould cX5_kindCould 2 (some .boolean), Cond.fieldLink RX5 203 "PegField" "WHO_COULD" "[I", Cond.methodLink RX4 89 yX4_isEmptyHole, Cond.instanceMethod yX4_isEmptyHole, Cond.selects RX4 yX4_isEmptyHole yX4_isEmptyHole, Cond.code yX4_isEmptyHole cX4_isEmptyHole 2 (some .boolean), Cond.methodLink RX5 113 yX3_sortsOf, Cond.instanceMethod yX3_sortsOf, Cond.selects RX3 yX3_sortsOf yX3_sortsOf, Cond.code yX3_sortsOf cX3_sortsOf 4 (some .int), Cond.fieldLink RX3 18 "PegField$Seen" "size" "I", Cond.methodLink RX5 116 yX5_bestQuestion, Cond.static yX5_bestQuestion, Cond.code yX5_bestQuestion cX5_bestQuestion 5 (some .int), Cond.methodLink RX5 297 Lib.Math.max.name, Cond.static Lib.Math.max.name, Cond.initialized "java/lang/Math", Cond.code Lib.Math.max.name Lib.Math.max.code 2 (some .int)]
def wsL_law_r13 : List Cond := [Cond.methodLink RX5 162 yJ6_bitCount_0f7a4, Cond.static yJ6_bitCount_0f7a4, Cond.initialized RJ6, Cond.code yJ6_bitCount_0f7a4 cJ6_bitCount_0f7a4 1 (some .int), Cond.constant RJ6 265 (1431655765), Cond.constant RJ6 266 (858993459), Cond.constant RJ6 267 (252645135), Cond.methodLink RL 35 yX6_peg, Cond.instanceMethod yX6_peg, Cond.selects RX6 yX6_peg yX6_peg, Cond.code yX6_peg cX6_peg 3 (some .int), Cond.methodLink RX6 166 yX6_isPeg, Cond.instanceMethod yX6_isPeg, Cond.selects RX6 yX6_isPeg yX6_isPeg, Cond.code yX6_isPeg cX6_isPeg 2 (some .boolean), Cond.methodLink RX6 170 yX6_pegNow, Cond.instanceMethod yX6_pegNow, Cond.selects RX6 yX6_pegNow yX6_pegNow, Cond.code yX6_pegNow cX6_pegNow 3 (some .int), Cond.methodLink RX6 157 yX6_putDeep, Cond.instanceMethod yX6_putDeep, Cond.selects RX6 yX6_putDeep yX6_putDeep, Cond.code yX6_putDeep cX6_putDeep 2 none, Cond.methodLink RX6 151 yX6_goes]
def wsL_law_r14 : List Cond := [Cond.instanceMethod yX6_goes, Cond.selects RX6 yX6_goes yX6_goes, Cond.code yX6_goes cX6_goes 5 (some .int), Cond.methodLink RX6 148 yX6_isJump, Cond.instanceMethod yX6_isJump, Cond.selects RX6 yX6_isJump yX6_isJump, Cond.code yX6_isJump cX6_isJump 4 (some .boolean), Cond.methodLink RX6 144 yX6_overBy, Cond.instanceMethod yX6_overBy, Cond.selects RX6 yX6_overBy yX6_overBy, Cond.code yX6_overBy cX6_overBy 6 (some .int), Cond.methodLink RX6 130 yX6_isIn, Cond.static yX6_isIn, Cond.code yX6_isIn cX6_isIn 2 (some .boolean), Cond.methodLink RX6 134 yX6_whoAt, Cond.instanceMethod yX6_whoAt, Cond.selects RX6 yX6_whoAt yX6_whoAt, Cond.code yX6_whoAt cX6_whoAt 5 (some .int), Cond.methodLink RX6 138 yX6_apart, Cond.static yX6_apart, Cond.code yX6_apart cX6_apart 2 (some .int), Cond.methodLink RX6 141 yX6_goesBy, Cond.instanceMethod yX6_goesBy, Cond.selects RX6 yX6_goesBy yX6_goesBy]
def wsL_law_r15 : List Cond := [Cond.code yX6_goesBy cX6_goesBy 6 (some .boolean), Cond.methodLink RX6 160 yX6_sortsOf, Cond.instanceMethod yX6_sortsOf, Cond.selects RX6 yX6_sortsOf yX6_sortsOf, Cond.code yX6_sortsOf cX6_sortsOf 6 (some .int), Cond.methodLink RX6 225 yX6_could, Cond.static yX6_could, Cond.code yX6_could cX6_could 2 (some .boolean), Cond.methodLink RX6 163 yX6_askOf, Cond.instanceMethod yX6_askOf, Cond.selects RX6 yX6_askOf yX6_askOf, Cond.code yX6_askOf cX6_askOf 9 (some .int), Cond.constant RX6 189 (268435456), Cond.methodLink RX6 154 yX6_size, Cond.static yX6_size, Cond.code yX6_size cX6_size 3 (some .int), Cond.methodLink RL 36 yX5_as, Cond.instanceMethod yX5_as, Cond.selects RX5 yX5_as yX5_as, Cond.code yX5_as cX5_as 3 (some .int), Cond.fieldLink RX5 119 "PegField" "TAKEN_AS" "[I", Cond.methodLink RL 39 yX6_as, Cond.instanceMethod yX6_as, Cond.selects RX6 yX6_as yX6_as]
def wsL_law_r16 : List Cond := [Cond.code yX6_as cX6_as 4 (some .int), Cond.methodLink RL 40 yX5_place, Cond.instanceMethod yX5_place, Cond.selects RX5 yX5_place yX5_place, Cond.code yX5_place cX5_place 3 (some .int), Cond.methodLink RX5 127 yX0_has, Cond.methodLink RX5 130 yX4_isHole, Cond.instanceMethod yX4_isHole, Cond.selects RX4 yX4_isHole yX4_isHole, Cond.code yX4_isHole cX4_isHole 2 (some .boolean), Cond.methodLink RX5 133 yX4_pegIn, Cond.methodLink RL 43 yX6_place, Cond.instanceMethod yX6_place, Cond.selects RX6 yX6_place yX6_place, Cond.code yX6_place cX6_place 3 (some .int), Cond.methodLink RX6 173 yX6_isPlace, Cond.instanceMethod yX6_isPlace, Cond.selects RX6 yX6_isPlace yX6_isPlace, Cond.code yX6_isPlace cX6_isPlace 2 (some .boolean), Cond.methodLink RX6 176 yX6_placeNow, Cond.instanceMethod yX6_placeNow, Cond.selects RX6 yX6_placeNow yX6_placeNow, Cond.code yX6_placeNow cX6_placeNow 3 (some .int), Cond.methodLink RL 44 yX5_jump]
def wsL_law_r17 : List Cond := [Cond.instanceMethod yX5_jump, Cond.selects RX5 yX5_jump yX5_jump, Cond.code yX5_jump cX5_jump 4 (some .int), Cond.methodLink RX5 136 yX4_directionTo, Cond.instanceMethod yX4_directionTo, Cond.selects RX4 yX4_directionTo yX4_directionTo, Cond.code yX4_directionTo cX4_directionTo 4 (some .int), Cond.methodLink RX5 143 yX4_neighbourOf, Cond.instanceMethod yX4_neighbourOf, Cond.selects RX4 yX4_neighbourOf yX4_neighbourOf, Cond.code yX4_neighbourOf cX4_neighbourOf 3 (some .int), Cond.methodLink RX5 146 yX4_leap, Cond.instanceMethod yX4_leap, Cond.selects RX4 yX4_leap yX4_leap, Cond.code yX4_leap cX4_leap 4 none, Cond.methodLink RX4 110 yX4_lift, Cond.instanceMethod yX4_lift, Cond.selects RX4 yX4_lift yX4_lift, Cond.code yX4_lift cX4_lift 2 none, Cond.methodLink RL 47 yX6_jump, Cond.instanceMethod yX6_jump, Cond.selects RX6 yX6_jump yX6_jump, Cond.code yX6_jump cX6_jump 4 (some .int), Cond.methodLink RX6 179 yX6_goDeep]
def wsL_law_r18 : List Cond := [Cond.instanceMethod yX6_goDeep, Cond.selects RX6 yX6_goDeep yX6_goDeep, Cond.code yX6_goDeep cX6_goDeep 6 none, Cond.methodLink RX6 183 yX6_onBoard, Cond.instanceMethod yX6_onBoard, Cond.selects RX6 yX6_onBoard yX6_onBoard, Cond.code yX6_onBoard cX6_onBoard 4 (some .int), Cond.methodLink RL 48 yX5_put, Cond.instanceMethod yX5_put, Cond.selects RX5 yX5_put yX5_put, Cond.code yX5_put cX5_put 3 (some .int), Cond.methodLink RX5 153 yX4_isEmptyHole, Cond.methodLink RX5 156 yX4_set, Cond.methodLink RL 51 yX6_put, Cond.instanceMethod yX6_put, Cond.selects RX6 yX6_put yX6_put, Cond.code yX6_put cX6_put 3 (some .int), Cond.methodLink RX6 186 yX6_isEmpty, Cond.instanceMethod yX6_isEmpty, Cond.selects RX6 yX6_isEmpty yX6_isEmpty, Cond.code yX6_isEmpty cX6_isEmpty 2 (some .boolean), Cond.methodLink RL 52 yX5_plug, Cond.instanceMethod yX5_plug, Cond.selects RX5 yX5_plug yX5_plug]
def wsL_law_r19 : List Cond := [Cond.code yX5_plug cX5_plug 2 (some .int), Cond.methodLink RL 55 yX6_plug, Cond.instanceMethod yX6_plug, Cond.selects RX6 yX6_plug yX6_plug, Cond.code yX6_plug cX6_plug 2 (some .int), Cond.methodLink RL 56 yX5_bore, Cond.instanceMethod yX5_bore, Cond.selects RX5 yX5_bore yX5_bore, Cond.code yX5_bore cX5_bore 2 (some .int), Cond.methodLink RL 59 yX6_bore, Cond.instanceMethod yX6_bore, Cond.selects RX6 yX6_bore yX6_bore, Cond.code yX6_bore cX6_bore 2 (some .int), Cond.methodLink RL 60 yX5_be, Cond.instanceMethod yX5_be, Cond.selects RX5 yX5_be yX5_be, Cond.code yX5_be cX5_be 4 (some .int), Cond.methodLink RX5 167 yX4_turn, Cond.instanceMethod yX4_turn, Cond.selects RX4 yX4_turn yX4_turn, Cond.code yX4_turn cX4_turn 3 none, Cond.methodLink RL 63 yX6_be, Cond.instanceMethod yX6_be, Cond.selects RX6 yX6_be yX6_be]
def wsL_law_r20 : List Cond := [Cond.code yX6_be cX6_be 4 (some .int), Cond.methodLink RL 64 yX5_courses, Cond.instanceMethod yX5_courses, Cond.selects RX5 yX5_courses yX5_courses, Cond.code yX5_courses cX5_courses 2 (some .int), Cond.methodLink RX5 170 yX5_lookAhead, Cond.instanceMethod yX5_lookAhead, Cond.selects RX5 yX5_lookAhead yX5_lookAhead, Cond.code yX5_lookAhead cX5_lookAhead 1 none, Cond.methodLink RX5 208 yX4_copyFrom, Cond.instanceMethod yX4_copyFrom, Cond.selects RX4 yX4_copyFrom yX4_copyFrom, Cond.code yX4_copyFrom cX4_copyFrom 3 none, Cond.methodLink RX5 261 yX5_look, Cond.static yX5_look, Cond.code yX5_look cX5_look 10 none, Cond.methodLink RX5 268 yX1_begin, Cond.instanceMethod yX1_begin, Cond.selects RX1 yX1_begin yX1_begin, Cond.code yX1_begin cX1_begin 1 none, Cond.fieldLink RX1 9 "PegField$Outcome" "choices" "I", Cond.fieldLink RX1 15 "PegField$Outcome" "fewest" "I", Cond.fieldLink RX1 18 "PegField$Outcome" "first" "I", Cond.fieldLink RX1 21 "PegField$Outcome" "ways" "I"]
def wsL_law_r21 : List Cond := [Cond.fieldLink RX1 24 "PegField$Outcome" "longest" "I", Cond.fieldLink RX1 27 "PegField$Outcome" "shortest" "I", Cond.fieldLink RX1 30 "PegField$Outcome" "alone" "I", Cond.fieldLink RX1 33 "PegField$Outcome" "winning" "I", Cond.fieldLink RX1 36 "PegField$Outcome" "mean" "I", Cond.methodLink RX5 271 yX4_targetOf, Cond.methodLink RX5 274 yX4_takeBack, Cond.instanceMethod yX4_takeBack, Cond.selects RX4 yX4_takeBack yX4_takeBack, Cond.code yX4_takeBack cX4_takeBack 5 none, Cond.methodLink RX5 278 yX1_take, Cond.instanceMethod yX1_take, Cond.selects RX1 yX1_take yX1_take, Cond.code yX1_take cX1_take 3 none, Cond.methodLink RX1 39 Lib.Math.max.name, Cond.methodLink RX5 282 yX4_aloneBit, Cond.instanceMethod yX4_aloneBit, Cond.selects RX4 yX4_aloneBit yX4_aloneBit, Cond.code yX4_aloneBit cX4_aloneBit 4 (some .int), Cond.methodLink RX5 285 yX1_end, Cond.instanceMethod yX1_end, Cond.selects RX1 yX1_end yX1_end, Cond.code yX1_end cX1_end 3 none, Cond.methodLink RL 67 yX6_courses]
def wsL_law_r22 : List Cond := [Cond.instanceMethod yX6_courses, Cond.selects RX6 yX6_courses yX6_courses, Cond.code yX6_courses cX6_courses 2 (some .int), Cond.methodLink RX6 210 yX6_coursesNow, Cond.instanceMethod yX6_coursesNow, Cond.selects RX6 yX6_coursesNow yX6_coursesNow, Cond.code yX6_coursesNow cX6_coursesNow 2 (some .int), Cond.methodLink RX6 207 yX6_layCourses, Cond.instanceMethod yX6_layCourses, Cond.selects RX6 yX6_layCourses yX6_layCourses, Cond.code yX6_layCourses cX6_layCourses 3 none, Cond.methodLink RX6 193 yX6_begin, Cond.instanceMethod yX6_begin, Cond.selects RX6 yX6_begin yX6_begin, Cond.code yX6_begin cX6_begin 2 none, Cond.methodLink RX6 197 yX6_nextCode, Cond.instanceMethod yX6_nextCode, Cond.selects RX6 yX6_nextCode yX6_nextCode, Cond.code yX6_nextCode cX6_nextCode 3 (some .int), Cond.methodLink RX6 200 yX6_end, Cond.instanceMethod yX6_end, Cond.selects RX6 yX6_end yX6_end, Cond.code yX6_end cX6_end 3 none, Cond.methodLink RX6 190 yX6_lastPlace]
def wsL_law_r23 : List Cond := [Cond.instanceMethod yX6_lastPlace, Cond.selects RX6 yX6_lastPlace yX6_lastPlace, Cond.code yX6_lastPlace cX6_lastPlace 4 (some .int), Cond.methodLink RX6 203 yX6_takeUp, Cond.instanceMethod yX6_takeUp, Cond.selects RX6 yX6_takeUp yX6_takeUp, Cond.code yX6_takeUp cX6_takeUp 5 none, Cond.methodLink RL 68 yX5_wins, Cond.instanceMethod yX5_wins, Cond.selects RX5 yX5_wins yX5_wins, Cond.code yX5_wins cX5_wins 2 (some .int), Cond.methodLink RL 71 yX6_wins, Cond.instanceMethod yX6_wins, Cond.selects RX6 yX6_wins yX6_wins, Cond.code yX6_wins cX6_wins 2 (some .int), Cond.methodLink RX6 213 yX6_winsNow, Cond.instanceMethod yX6_winsNow, Cond.selects RX6 yX6_winsNow yX6_winsNow, Cond.code yX6_winsNow cX6_winsNow 2 (some .int), Cond.methodLink RL 72 yX5_add, Cond.instanceMethod yX5_add, Cond.selects RX5 yX5_add yX5_add, Cond.code yX5_add cX5_add 2 (some .int), Cond.fieldLink RX5 194 "PegField" "adds" "I"]
def wsL_law_r24 : List Cond := [Cond.methodLink RX5 197 yX5_fewestWithOneMore, Cond.instanceMethod yX5_fewestWithOneMore, Cond.selects RX5 yX5_fewestWithOneMore yX5_fewestWithOneMore, Cond.code yX5_fewestWithOneMore cX5_fewestWithOneMore 2 (some .int), Cond.methodLink RX5 265 yX4_addPlain, Cond.instanceMethod yX4_addPlain, Cond.selects RX4 yX4_addPlain yX4_addPlain, Cond.code yX4_addPlain cX4_addPlain 2 none, Cond.methodLink RL 75 yX6_add, Cond.instanceMethod yX6_add, Cond.selects RX6 yX6_add yX6_add, Cond.code yX6_add cX6_add 1 (some .int), Cond.fieldLink RX6 216 "PegFieldModel" "asks" "I", Cond.methodLink RX6 219 yX6_addNow, Cond.instanceMethod yX6_addNow, Cond.selects RX6 yX6_addNow yX6_addNow, Cond.code yX6_addNow cX6_addNow 3 (some .int), Cond.methodLink RL 76 yX5_mean, Cond.instanceMethod yX5_mean, Cond.selects RX5 yX5_mean yX5_mean, Cond.code yX5_mean cX5_mean 1 (some .int), Cond.methodLink RL 79 yX6_mean, Cond.instanceMethod yX6_mean, Cond.selects RX6 yX6_mean yX6_mean]
def wsL_law_r25 : List Cond := [Cond.code yX6_mean cX6_mean 1 (some .int), Cond.methodLink RX6 222 yX6_meanNow, Cond.instanceMethod yX6_meanNow, Cond.selects RX6 yX6_meanNow yX6_meanNow, Cond.code yX6_meanNow cX6_meanNow 1 (some .int), Cond.methodLink RL 80 yX5_see, Cond.instanceMethod yX5_see, Cond.selects RX5 yX5_see yX5_see, Cond.code yX5_see cX5_see 5 (some .int), Cond.methodLink RX5 206 yX3_append, Cond.instanceMethod yX3_append, Cond.selects RX3 yX3_append yX3_append, Cond.code yX3_append cX3_append 3 (some .boolean), Cond.methodLink RL 84 yX6_see, Cond.instanceMethod yX6_see, Cond.selects RX6 yX6_see yX6_see, Cond.code yX6_see cX6_see 4 (some .int), Cond.methodLink RL 85 yX5_forget, Cond.instanceMethod yX5_forget, Cond.selects RX5 yX5_forget yX5_forget, Cond.code yX5_forget cX5_forget 2 (some .int), Cond.methodLink RL 88 yX6_forget, Cond.instanceMethod yX6_forget, Cond.selects RX6 yX6_forget yX6_forget]
def wsL_law_r26 : List Cond := [Cond.code yX6_forget cX6_forget 2 (some .int), Cond.methodLink RL 89 yX5_runs, Cond.instanceMethod yX5_runs, Cond.selects RX5 yX5_runs yX5_runs, Cond.code yX5_runs cX5_runs 11 (some .int), Cond.constantLong RX5 219 (65536), Cond.methodLink RX5 212 yX4_choices, Cond.instanceMethod yX4_choices, Cond.selects RX4 yX4_choices yX4_choices, Cond.code yX4_choices cX4_choices 3 (some .int), Cond.methodLink RX4 95 yX4_targetsOf, Cond.methodLink RX4 98 yJ6_bitCount_0f7a4, Cond.methodLink RX5 215 yX5_nextSeed, Cond.static yX5_nextSeed, Cond.code yX5_nextSeed cX5_nextSeed 2 (some .long), Cond.constantLong RX5 288 (1103515245), Cond.constantLong RX5 290 (12345), Cond.constantLong RX5 292 (2147483648), Cond.methodLink RX5 221 yX4_leapByChoice, Cond.instanceMethod yX4_leapByChoice, Cond.selects RX4 yX4_leapByChoice yX4_leapByChoice, Cond.code yX4_leapByChoice cX4_leapByChoice 6 none, Cond.methodLink RX4 103 yX4_neighbourOf, Cond.methodLink RX4 106 yX4_leap]
def wsL_law_r27 : List Cond := [Cond.methodLink RL 93 yX6_runs, Cond.instanceMethod yX6_runs, Cond.selects RX6 yX6_runs yX6_runs, Cond.code yX6_runs cX6_runs 4 (some .int), Cond.methodLink RX6 249 yX6_runsNow, Cond.instanceMethod yX6_runsNow, Cond.selects RX6 yX6_runsNow yX6_runsNow, Cond.code yX6_runsNow cX6_runsNow 10 (some .int), Cond.fieldLink RX6 230 "PegFieldModel" "seedNow" "J", Cond.methodLink RX6 240 yX6_jumpsNow, Cond.instanceMethod yX6_jumpsNow, Cond.selects RX6 yX6_jumpsNow yX6_jumpsNow, Cond.code yX6_jumpsNow cX6_jumpsNow 4 (some .int), Cond.methodLink RX6 243 yX6_draw, Cond.instanceMethod yX6_draw, Cond.selects RX6 yX6_draw yX6_draw, Cond.code yX6_draw cX6_draw 2 (some .int), Cond.constantLong RX6 228 (1103515245), Cond.constantLong RX6 234 (12345), Cond.constantLong RX6 236 (2147483647), Cond.constantLong RX6 238 (65536), Cond.methodLink RX6 246 yX6_codeBy, Cond.instanceMethod yX6_codeBy, Cond.selects RX6 yX6_codeBy yX6_codeBy]
def wsL_law_r28 : List Cond := [Cond.code yX6_codeBy cX6_codeBy 5 (some .int), Cond.methodLink RL 94 yX5_image, Cond.instanceMethod yX5_image, Cond.selects RX5 yX5_image yX5_image, Cond.code yX5_image cX5_image 1 (some .int), Cond.methodLink RX5 225 yX3_copyFrom, Cond.instanceMethod yX3_copyFrom, Cond.selects RX3 yX3_copyFrom yX3_copyFrom, Cond.code yX3_copyFrom cX3_copyFrom 3 none, Cond.methodLink RL 97 yX6_image, Cond.instanceMethod yX6_image, Cond.selects RX6 yX6_image yX6_image, Cond.code yX6_image cX6_image 2 (some .int), Cond.fieldLink RX6 252 "PegFieldModel" "isKept" "Z", Cond.fieldLink RX6 255 "PegFieldModel" "keptBoard" "I", Cond.fieldLink RX6 258 "PegFieldModel" "keptHoles" "I", Cond.fieldLink RX6 261 "PegFieldModel" "keptJumps" "I", Cond.fieldLink RX6 264 "PegFieldModel" "keptSeen" "I", Cond.methodLink RL 98 yX5_restore, Cond.instanceMethod yX5_restore, Cond.selects RX5 yX5_restore yX5_restore, Cond.code yX5_restore cX5_restore 1 (some .int), Cond.methodLink RL 101 yX6_restore, Cond.instanceMethod yX6_restore]
def wsL_law_r29 : List Cond := [Cond.selects RX6 yX6_restore yX6_restore, Cond.code yX6_restore cX6_restore 2 (some .int), Cond.methodLink RL 102 yX5_count, Cond.instanceMethod yX5_count, Cond.selects RX5 yX5_count yX5_count, Cond.code yX5_count cX5_count 2 (some .int), Cond.methodLink RL 105 yX6_count, Cond.instanceMethod yX6_count, Cond.selects RX6 yX6_count yX6_count, Cond.code yX6_count cX6_count 2 (some .int), Cond.methodLink RX6 270 yX6_howMany, Cond.instanceMethod yX6_howMany, Cond.selects RX6 yX6_howMany yX6_howMany, Cond.code yX6_howMany cX6_howMany 2 (some .int), Cond.methodLink RX6 267 yX6_ofBoard, Cond.instanceMethod yX6_ofBoard, Cond.selects RX6 yX6_ofBoard yX6_ofBoard, Cond.code yX6_ofBoard cX6_ofBoard 2 (some .int), Cond.methodLink RL 106 yX5_digest, Cond.instanceMethod yX5_digest, Cond.selects RX5 yX5_digest yX5_digest, Cond.code yX5_digest cX5_digest 5 (some .long), Cond.constantLong RX5 234 (1307), Cond.constantLong RX5 236 (31)]
def wsL_law_r30 : List Cond := [Cond.methodLink RX5 238 yX5_peg, Cond.methodLink RX5 244 yX5_place, Cond.methodLink RX5 247 yX5_courses, Cond.methodLink RX5 250 yX5_wins, Cond.methodLink RX5 253 yX5_mean, Cond.methodLink RX5 255 yX2_codeAt, Cond.methodLink RX5 258 yX5_count, Cond.methodLink RL 110 yX6_digest, Cond.instanceMethod yX6_digest, Cond.selects RX6 yX6_digest yX6_digest, Cond.code yX6_digest cX6_digest 3 (some .long), Cond.constantLong RX6 282 (1307), Cond.fieldLink RX6 275 "PegFieldModel" "h" "J", Cond.methodLink RX6 278 yX6_mix, Cond.instanceMethod yX6_mix, Cond.selects RX6 yX6_mix yX6_mix, Cond.code yX6_mix cX6_mix 3 none, Cond.constantLong RX6 273 (31), Cond.methodLink RX6 284 yX6_mixBoard, Cond.instanceMethod yX6_mixBoard, Cond.selects RX6 yX6_mixBoard yX6_mixBoard, Cond.code yX6_mixBoard cX6_mixBoard 2 none]
def wsL_law : List Cond := (wsL_law_r1 ++ (wsL_law_r2 ++ (wsL_law_r3 ++ (wsL_law_r4 ++ (wsL_law_r5 ++ (wsL_law_r6 ++ (wsL_law_r7 ++ (wsL_law_r8 ++ (wsL_law_r9 ++ (wsL_law_r10 ++ (wsL_law_r11 ++ (wsL_law_r12 ++ (wsL_law_r13 ++ (wsL_law_r14 ++ (wsL_law_r15 ++ (wsL_law_r16 ++ (wsL_law_r17 ++ (wsL_law_r18 ++ (wsL_law_r19 ++ (wsL_law_r20 ++ (wsL_law_r21 ++ (wsL_law_r22 ++ (wsL_law_r23 ++ (wsL_law_r24 ++ (wsL_law_r25 ++ (wsL_law_r26 ++ (wsL_law_r27 ++ (wsL_law_r28 ++ (wsL_law_r29 ++ wsL_law_r30))))))))))))))))))))))))))))) ++ wsX50 ++ wsX60 ++ wsX20 ++ wsX00 ++ wsX40 ++ wsX30 ++ wsX10 ++ ([] : List Cond)
set_option maxRecDepth 20000 in
theorem wsL_law_in : ∀ w ∈ wsL_law, w ∈ lw_tbl := fun w h => (goodIn_p wsL_law [58, 61, 66, 81, 104, 139, 156, 574, 238, 242, 701, 704, 246, 708, 250, 254, 258, 262, 266, 270, 274, 280, 712, 716, 720, 724, 727, 284, 288, 294, 302, 306, 312, 316, 320, 324, 731, 735, 328, 333, 337, 341, 345, 350, 355, 359, 364, 367, 373, 378, 381, 390, 384, 739, 743, 747, 751, 755, 759, 763, 766, 770, 773, 777, 781, 784, 788, 792, 394, 796, 400, 405, 800, 804, 808, 410, 414, 418, 422, 426, 812, 816, 820, 430, 824, 828, 436, 832, 440, 836, 444, 448, 840, 452, 456, 460, 463, 467, 472, 476, 481, 485, 844, 848, 852, 856, 860, 864, 868, 872, 489, 876, 880, 493, 497, 501, 884, 888, 505, 892, 896, 509, 513, 900, 517, 904, 521, 525, 530, 538, 908, 912, 916, 920, 928, 544, 548, 932, 552, 936, 556, 940, 944, 948, 560, 952, 957, 962] (by decide +kernel) (by decide +kernel) w h).1
theorem inlX0 : ∀ w ∈ wsX00, w ∈ wsL_law := fun _ h => List.mem_append_left _ (List.mem_append_left _ (List.mem_append_left _ (List.mem_append_left _ (List.mem_append_right _ h))))
theorem inX0 : ∀ w ∈ wsX00, w ∈ lw_tbl := fun w h => wsL_law_in w (inlX0 w h)
theorem inlX1 : ∀ w ∈ wsX10, w ∈ wsL_law := fun _ h => List.mem_append_left _ (List.mem_append_right _ h)
theorem inX1 : ∀ w ∈ wsX10, w ∈ lw_tbl := fun w h => wsL_law_in w (inlX1 w h)
theorem inlX2 : ∀ w ∈ wsX20, w ∈ wsL_law := fun _ h => List.mem_append_left _ (List.mem_append_left _ (List.mem_append_left _ (List.mem_append_left _ (List.mem_append_left _ (List.mem_append_right _ h)))))
theorem inX2 : ∀ w ∈ wsX20, w ∈ lw_tbl := fun w h => wsL_law_in w (inlX2 w h)
theorem inlX3 : ∀ w ∈ wsX30, w ∈ wsL_law := fun _ h => List.mem_append_left _ (List.mem_append_left _ (List.mem_append_right _ h))
theorem inX3 : ∀ w ∈ wsX30, w ∈ lw_tbl := fun w h => wsL_law_in w (inlX3 w h)
theorem inlX4 : ∀ w ∈ wsX40, w ∈ wsL_law := fun _ h => List.mem_append_left _ (List.mem_append_left _ (List.mem_append_left _ (List.mem_append_right _ h)))
theorem inX4 : ∀ w ∈ wsX40, w ∈ lw_tbl := fun w h => wsL_law_in w (inlX4 w h)
theorem inlX5 : ∀ w ∈ wsX50, w ∈ wsL_law := fun _ h => List.mem_append_left _ (List.mem_append_left _ (List.mem_append_left _ (List.mem_append_left _ (List.mem_append_left _ (List.mem_append_left _ (List.mem_append_left _ (List.mem_append_right _ h)))))))
theorem inX5 : ∀ w ∈ wsX50, w ∈ lw_tbl := fun w h => wsL_law_in w (inlX5 w h)
theorem inlX6 : ∀ w ∈ wsX60, w ∈ wsL_law := fun _ h => List.mem_append_left _ (List.mem_append_left _ (List.mem_append_left _ (List.mem_append_left _ (List.mem_append_left _ (List.mem_append_left _ (List.mem_append_right _ h))))))
theorem inX6 : ∀ w ∈ wsX60, w ∈ lw_tbl := fun w h => wsL_law_in w (inlX6 w h)
theorem inJ6 : ∀ w ∈ wsJ60, w ∈ lw_tbl := by decide +kernel
theorem inJ9 : ∀ w ∈ wsJ90, w ∈ lw_tbl := by decide +kernel
theorem dX0_init_0 : decode cX0_init 0 = .ok (.aload_n 0, 1) := by decide +kernel
theorem dX0_init_1 : decode cX0_init 1 = .ok (.invokespecial 3, 3) := by decide +kernel
theorem dX0_init_4 : decode cX0_init 4 = .ok (.aload_n 0, 1) := by decide +kernel
theorem dX0_init_5 : decode cX0_init 5 = .ok (.bipush 96, 2) := by decide +kernel
theorem dX0_init_7 : decode cX0_init 7 = .ok (.newarray .int, 2) := by decide +kernel
theorem dX0_init_9 : decode cX0_init 9 = .ok (.putfield 9, 3) := by decide +kernel
theorem dX0_init_12 : decode cX0_init 12 = .ok (.return_, 1) := by decide +kernel
set_option maxRecDepth 20000 in
theorem ggX0_lay_X0_placeAt : GoodIn wsX0_lay wsX0_placeAt := goodIn_r _ [9, 1, 2, 10, 11, 12, 13] (by decide +kernel) (by decide +kernel)
set_option maxRecDepth 20000 in
theorem gX0_lay_X0_placeAt : GoodIn wsX0_lay (wsV RX0 31 RX0 yX0_placeAt wsX0_placeAt) := goodIn_app (goodIn_of _ (by decide +kernel)) ggX0_lay_X0_placeAt
theorem dX0_lay_0 : decode cX0_lay 0 = .ok (.iload_n 1, 1) := by decide +kernel
theorem dX0_lay_1 : decode cX0_lay 1 = .ok (.ifCond .le 21, 3) := by decide +kernel
theorem dX0_lay_4 : decode cX0_lay 4 = .ok (.iload_n 1, 1) := by decide +kernel
theorem dX0_lay_5 : decode cX0_lay 5 = .ok (.iconst 4, 1) := by decide +kernel
theorem dX0_lay_6 : decode cX0_lay 6 = .ok (.if_icmp .gt 16, 3) := by decide +kernel
theorem dX0_lay_9 : decode cX0_lay 9 = .ok (.iload_n 2, 1) := by decide +kernel
theorem dX0_lay_10 : decode cX0_lay 10 = .ok (.ifCond .le 12, 3) := by decide +kernel
theorem dX0_lay_13 : decode cX0_lay 13 = .ok (.iload_n 2, 1) := by decide +kernel
theorem dX0_lay_14 : decode cX0_lay 14 = .ok (.iconst 4, 1) := by decide +kernel
theorem dX0_lay_15 : decode cX0_lay 15 = .ok (.if_icmp .gt 7, 3) := by decide +kernel
theorem dX0_lay_18 : decode cX0_lay 18 = .ok (.iconst 1, 1) := by decide +kernel
theorem dX0_lay_19 : decode cX0_lay 19 = .ok (.goto 4, 3) := by decide +kernel
theorem dX0_lay_22 : decode cX0_lay 22 = .ok (.iconst 0, 1) := by decide +kernel
theorem dX0_lay_23 : decode cX0_lay 23 = .ok (.istore_n 3, 1) := by decide +kernel
theorem dX0_lay_24 : decode cX0_lay 24 = .ok (.iload_n 3, 1) := by decide +kernel
theorem dX0_lay_25 : decode cX0_lay 25 = .ok (.ifCond .eq 11, 3) := by decide +kernel
theorem dX0_lay_28 : decode cX0_lay 28 = .ok (.iload_n 1, 1) := by decide +kernel
theorem dX0_lay_29 : decode cX0_lay 29 = .ok (.iload_n 2, 1) := by decide +kernel
theorem dX0_lay_30 : decode cX0_lay 30 = .ok (.imul, 1) := by decide +kernel
theorem dX0_lay_31 : decode cX0_lay 31 = .ok (.bipush 12, 2) := by decide +kernel
theorem dX0_lay_33 : decode cX0_lay 33 = .ok (.if_icmp .le 4, 3) := by decide +kernel
theorem dX0_lay_36 : decode cX0_lay 36 = .ok (.return_, 1) := by decide +kernel
theorem dX0_lay_37 : decode cX0_lay 37 = .ok (.aload_n 0, 1) := by decide +kernel
theorem dX0_lay_38 : decode cX0_lay 38 = .ok (.iload_n 1, 1) := by decide +kernel
theorem dX0_lay_39 : decode cX0_lay 39 = .ok (.putfield 15, 3) := by decide +kernel
theorem dX0_lay_42 : decode cX0_lay 42 = .ok (.aload_n 0, 1) := by decide +kernel
theorem dX0_lay_43 : decode cX0_lay 43 = .ok (.iload_n 2, 1) := by decide +kernel
theorem dX0_lay_44 : decode cX0_lay 44 = .ok (.putfield 19, 3) := by decide +kernel
theorem dX0_lay_47 : decode cX0_lay 47 = .ok (.aload_n 0, 1) := by decide +kernel
theorem dX0_lay_48 : decode cX0_lay 48 = .ok (.iload_n 1, 1) := by decide +kernel
theorem dX0_lay_49 : decode cX0_lay 49 = .ok (.iload_n 2, 1) := by decide +kernel
theorem dX0_lay_50 : decode cX0_lay 50 = .ok (.imul, 1) := by decide +kernel
theorem dX0_lay_51 : decode cX0_lay 51 = .ok (.putfield 22, 3) := by decide +kernel
theorem dX0_lay_54 : decode cX0_lay 54 = .ok (.iconst 0, 1) := by decide +kernel
theorem dX0_lay_55 : decode cX0_lay 55 = .ok (.istore 4, 2) := by decide +kernel
theorem dX0_lay_57 : decode cX0_lay 57 = .ok (.iload 4, 2) := by decide +kernel
theorem dX0_lay_59 : decode cX0_lay 59 = .ok (.aload_n 0, 1) := by decide +kernel
theorem dX0_lay_60 : decode cX0_lay 60 = .ok (.getfield 15, 3) := by decide +kernel
theorem dX0_lay_63 : decode cX0_lay 63 = .ok (.if_icmp .ge 86, 3) := by decide +kernel
theorem dX0_lay_66 : decode cX0_lay 66 = .ok (.iconst 0, 1) := by decide +kernel
theorem dX0_lay_67 : decode cX0_lay 67 = .ok (.istore 5, 2) := by decide +kernel
theorem dX0_lay_69 : decode cX0_lay 69 = .ok (.iload 5, 2) := by decide +kernel
theorem dX0_lay_71 : decode cX0_lay 71 = .ok (.aload_n 0, 1) := by decide +kernel
theorem dX0_lay_72 : decode cX0_lay 72 = .ok (.getfield 19, 3) := by decide +kernel
theorem dX0_lay_75 : decode cX0_lay 75 = .ok (.if_icmp .ge 68, 3) := by decide +kernel
theorem dX0_lay_78 : decode cX0_lay 78 = .ok (.iconst 0, 1) := by decide +kernel
theorem dX0_lay_79 : decode cX0_lay 79 = .ok (.istore 6, 2) := by decide +kernel
theorem dX0_lay_81 : decode cX0_lay 81 = .ok (.iload 6, 2) := by decide +kernel
theorem dX0_lay_83 : decode cX0_lay 83 = .ok (.bipush 8, 2) := by decide +kernel
theorem dX0_lay_85 : decode cX0_lay 85 = .ok (.if_icmp .ge 52, 3) := by decide +kernel
theorem dX0_lay_88 : decode cX0_lay 88 = .ok (.aload_n 0, 1) := by decide +kernel
theorem dX0_lay_89 : decode cX0_lay 89 = .ok (.getfield 9, 3) := by decide +kernel
theorem dX0_lay_92 : decode cX0_lay 92 = .ok (.iload 4, 2) := by decide +kernel
theorem dX0_lay_94 : decode cX0_lay 94 = .ok (.aload_n 0, 1) := by decide +kernel
theorem dX0_lay_95 : decode cX0_lay 95 = .ok (.getfield 19, 3) := by decide +kernel
theorem dX0_lay_98 : decode cX0_lay 98 = .ok (.imul, 1) := by decide +kernel
theorem dX0_lay_99 : decode cX0_lay 99 = .ok (.iload 5, 2) := by decide +kernel
theorem dX0_lay_101 : decode cX0_lay 101 = .ok (.iadd, 1) := by decide +kernel
theorem dX0_lay_102 : decode cX0_lay 102 = .ok (.bipush 8, 2) := by decide +kernel
theorem dX0_lay_104 : decode cX0_lay 104 = .ok (.imul, 1) := by decide +kernel
theorem dX0_lay_105 : decode cX0_lay 105 = .ok (.iload 6, 2) := by decide +kernel
theorem dX0_lay_107 : decode cX0_lay 107 = .ok (.iadd, 1) := by decide +kernel
theorem dX0_lay_108 : decode cX0_lay 108 = .ok (.aload_n 0, 1) := by decide +kernel
theorem dX0_lay_109 : decode cX0_lay 109 = .ok (.iload 4, 2) := by decide +kernel
theorem dX0_lay_111 : decode cX0_lay 111 = .ok (.getstatic 25, 3) := by decide +kernel
theorem dX0_lay_114 : decode cX0_lay 114 = .ok (.iload 6, 2) := by decide +kernel
theorem dX0_lay_116 : decode cX0_lay 116 = .ok (.iaload, 1) := by decide +kernel
theorem dX0_lay_117 : decode cX0_lay 117 = .ok (.iadd, 1) := by decide +kernel
theorem dX0_lay_118 : decode cX0_lay 118 = .ok (.iload 5, 2) := by decide +kernel
theorem dX0_lay_120 : decode cX0_lay 120 = .ok (.getstatic 28, 3) := by decide +kernel
theorem dX0_lay_123 : decode cX0_lay 123 = .ok (.iload 6, 2) := by decide +kernel
theorem dX0_lay_125 : decode cX0_lay 125 = .ok (.iaload, 1) := by decide +kernel
theorem dX0_lay_126 : decode cX0_lay 126 = .ok (.iadd, 1) := by decide +kernel
theorem dX0_lay_127 : decode cX0_lay 127 = .ok (.invokevirtual 31, 3) := by decide +kernel
theorem dX0_lay_130 : decode cX0_lay 130 = .ok (.iastore, 1) := by decide +kernel
theorem dX0_lay_131 : decode cX0_lay 131 = .ok (.iinc 6 1, 3) := by decide +kernel
theorem dX0_lay_134 : decode cX0_lay 134 = .ok (.goto (-53), 3) := by decide +kernel
theorem dX0_lay_137 : decode cX0_lay 137 = .ok (.iinc 5 1, 3) := by decide +kernel
theorem dX0_lay_140 : decode cX0_lay 140 = .ok (.goto (-71), 3) := by decide +kernel
theorem dX0_lay_143 : decode cX0_lay 143 = .ok (.iinc 4 1, 3) := by decide +kernel
theorem dX0_lay_146 : decode cX0_lay 146 = .ok (.goto (-89), 3) := by decide +kernel
theorem dX0_lay_149 : decode cX0_lay 149 = .ok (.return_, 1) := by decide +kernel
theorem dX0_placeAt_0 : decode cX0_placeAt 0 = .ok (.iload_n 1, 1) := by decide +kernel
theorem dX0_placeAt_1 : decode cX0_placeAt 1 = .ok (.ifCond .lt 27, 3) := by decide +kernel
theorem dX0_placeAt_4 : decode cX0_placeAt 4 = .ok (.iload_n 1, 1) := by decide +kernel
theorem dX0_placeAt_5 : decode cX0_placeAt 5 = .ok (.aload_n 0, 1) := by decide +kernel
theorem dX0_placeAt_6 : decode cX0_placeAt 6 = .ok (.getfield 15, 3) := by decide +kernel
theorem dX0_placeAt_9 : decode cX0_placeAt 9 = .ok (.if_icmp .ge 19, 3) := by decide +kernel
theorem dX0_placeAt_12 : decode cX0_placeAt 12 = .ok (.iload_n 2, 1) := by decide +kernel
theorem dX0_placeAt_13 : decode cX0_placeAt 13 = .ok (.ifCond .lt 15, 3) := by decide +kernel
theorem dX0_placeAt_16 : decode cX0_placeAt 16 = .ok (.iload_n 2, 1) := by decide +kernel
theorem dX0_placeAt_17 : decode cX0_placeAt 17 = .ok (.aload_n 0, 1) := by decide +kernel
theorem dX0_placeAt_18 : decode cX0_placeAt 18 = .ok (.getfield 19, 3) := by decide +kernel
theorem dX0_placeAt_21 : decode cX0_placeAt 21 = .ok (.if_icmp .ge 7, 3) := by decide +kernel
theorem dX0_placeAt_24 : decode cX0_placeAt 24 = .ok (.iconst 1, 1) := by decide +kernel
theorem dX0_placeAt_25 : decode cX0_placeAt 25 = .ok (.goto 4, 3) := by decide +kernel
theorem dX0_placeAt_28 : decode cX0_placeAt 28 = .ok (.iconst 0, 1) := by decide +kernel
theorem dX0_placeAt_29 : decode cX0_placeAt 29 = .ok (.istore_n 3, 1) := by decide +kernel
theorem dX0_placeAt_30 : decode cX0_placeAt 30 = .ok (.iload_n 3, 1) := by decide +kernel
theorem dX0_placeAt_31 : decode cX0_placeAt 31 = .ok (.ifCond .eq 14, 3) := by decide +kernel
theorem dX0_placeAt_34 : decode cX0_placeAt 34 = .ok (.iload_n 1, 1) := by decide +kernel
theorem dX0_placeAt_35 : decode cX0_placeAt 35 = .ok (.aload_n 0, 1) := by decide +kernel
theorem dX0_placeAt_36 : decode cX0_placeAt 36 = .ok (.getfield 19, 3) := by decide +kernel
theorem dX0_placeAt_39 : decode cX0_placeAt 39 = .ok (.imul, 1) := by decide +kernel
theorem dX0_placeAt_40 : decode cX0_placeAt 40 = .ok (.iload_n 2, 1) := by decide +kernel
theorem dX0_placeAt_41 : decode cX0_placeAt 41 = .ok (.iadd, 1) := by decide +kernel
theorem dX0_placeAt_42 : decode cX0_placeAt 42 = .ok (.goto 4, 3) := by decide +kernel
theorem dX0_placeAt_45 : decode cX0_placeAt 45 = .ok (.iconst (-1), 1) := by decide +kernel
theorem dX0_placeAt_46 : decode cX0_placeAt 46 = .ok (.ireturn, 1) := by decide +kernel
theorem dX0_has_0 : decode cX0_has 0 = .ok (.iload_n 1, 1) := by decide +kernel
theorem dX0_has_1 : decode cX0_has 1 = .ok (.ifCond .lt 21, 3) := by decide +kernel
theorem dX0_has_4 : decode cX0_has 4 = .ok (.iload_n 1, 1) := by decide +kernel
theorem dX0_has_5 : decode cX0_has 5 = .ok (.bipush 12, 2) := by decide +kernel
theorem dX0_has_7 : decode cX0_has 7 = .ok (.if_icmp .ge 15, 3) := by decide +kernel
theorem dX0_has_10 : decode cX0_has 10 = .ok (.iload_n 1, 1) := by decide +kernel
theorem dX0_has_11 : decode cX0_has 11 = .ok (.aload_n 0, 1) := by decide +kernel
theorem dX0_has_12 : decode cX0_has 12 = .ok (.getfield 22, 3) := by decide +kernel
theorem dX0_has_15 : decode cX0_has 15 = .ok (.if_icmp .ge 7, 3) := by decide +kernel
theorem dX0_has_18 : decode cX0_has 18 = .ok (.iconst 1, 1) := by decide +kernel
theorem dX0_has_19 : decode cX0_has 19 = .ok (.goto 4, 3) := by decide +kernel
theorem dX0_has_22 : decode cX0_has 22 = .ok (.iconst 0, 1) := by decide +kernel
theorem dX0_has_23 : decode cX0_has 23 = .ok (.ireturn, 1) := by decide +kernel
set_option maxRecDepth 20000 in
theorem ggX0_next_X0_has : GoodIn wsX0_next wsX0_has := goodIn_r _ [6, 7, 8, 9, 10, 11] (by decide +kernel) (by decide +kernel)
set_option maxRecDepth 20000 in
theorem gX0_next_X0_has : GoodIn wsX0_next (wsV RX0 35 RX0 yX0_has wsX0_has) := goodIn_app (goodIn_of _ (by decide +kernel)) ggX0_next_X0_has
theorem dX0_next_0 : decode cX0_next 0 = .ok (.aload_n 0, 1) := by decide +kernel
theorem dX0_next_1 : decode cX0_next 1 = .ok (.iload_n 1, 1) := by decide +kernel
theorem dX0_next_2 : decode cX0_next 2 = .ok (.invokevirtual 35, 3) := by decide +kernel
theorem dX0_next_5 : decode cX0_next 5 = .ok (.ifCond .eq 17, 3) := by decide +kernel
theorem dX0_next_8 : decode cX0_next 8 = .ok (.iload_n 2, 1) := by decide +kernel
theorem dX0_next_9 : decode cX0_next 9 = .ok (.ifCond .lt 13, 3) := by decide +kernel
theorem dX0_next_12 : decode cX0_next 12 = .ok (.iload_n 2, 1) := by decide +kernel
theorem dX0_next_13 : decode cX0_next 13 = .ok (.bipush 8, 2) := by decide +kernel
theorem dX0_next_15 : decode cX0_next 15 = .ok (.if_icmp .ge 7, 3) := by decide +kernel
theorem dX0_next_18 : decode cX0_next 18 = .ok (.iconst 1, 1) := by decide +kernel
theorem dX0_next_19 : decode cX0_next 19 = .ok (.goto 4, 3) := by decide +kernel
theorem dX0_next_22 : decode cX0_next 22 = .ok (.iconst 0, 1) := by decide +kernel
theorem dX0_next_23 : decode cX0_next 23 = .ok (.istore_n 3, 1) := by decide +kernel
theorem dX0_next_24 : decode cX0_next 24 = .ok (.iload_n 3, 1) := by decide +kernel
theorem dX0_next_25 : decode cX0_next 25 = .ok (.ifCond .eq 17, 3) := by decide +kernel
theorem dX0_next_28 : decode cX0_next 28 = .ok (.aload_n 0, 1) := by decide +kernel
theorem dX0_next_29 : decode cX0_next 29 = .ok (.getfield 9, 3) := by decide +kernel
theorem dX0_next_32 : decode cX0_next 32 = .ok (.iload_n 1, 1) := by decide +kernel
theorem dX0_next_33 : decode cX0_next 33 = .ok (.bipush 8, 2) := by decide +kernel
theorem dX0_next_35 : decode cX0_next 35 = .ok (.imul, 1) := by decide +kernel
theorem dX0_next_36 : decode cX0_next 36 = .ok (.iload_n 2, 1) := by decide +kernel
theorem dX0_next_37 : decode cX0_next 37 = .ok (.iadd, 1) := by decide +kernel
theorem dX0_next_38 : decode cX0_next 38 = .ok (.iaload, 1) := by decide +kernel
theorem dX0_next_39 : decode cX0_next 39 = .ok (.goto 4, 3) := by decide +kernel
theorem dX0_next_42 : decode cX0_next 42 = .ok (.iconst (-1), 1) := by decide +kernel
theorem dX0_next_43 : decode cX0_next 43 = .ok (.ireturn, 1) := by decide +kernel
theorem dX1_init_0 : decode cX1_init 0 = .ok (.aload_n 0, 1) := by decide +kernel
theorem dX1_init_1 : decode cX1_init 1 = .ok (.invokespecial 3, 3) := by decide +kernel
theorem dX1_init_4 : decode cX1_init 4 = .ok (.return_, 1) := by decide +kernel
theorem dX1_begin_0 : decode cX1_begin 0 = .ok (.aload_n 0, 1) := by decide +kernel
theorem dX1_begin_1 : decode cX1_begin 1 = .ok (.iconst 0, 1) := by decide +kernel
theorem dX1_begin_2 : decode cX1_begin 2 = .ok (.putfield 9, 3) := by decide +kernel
theorem dX1_begin_5 : decode cX1_begin 5 = .ok (.aload_n 0, 1) := by decide +kernel
theorem dX1_begin_6 : decode cX1_begin 6 = .ok (.iconst 0, 1) := by decide +kernel
theorem dX1_begin_7 : decode cX1_begin 7 = .ok (.putfield 15, 3) := by decide +kernel
theorem dX1_begin_10 : decode cX1_begin 10 = .ok (.aload_n 0, 1) := by decide +kernel
theorem dX1_begin_11 : decode cX1_begin 11 = .ok (.iconst (-1), 1) := by decide +kernel
theorem dX1_begin_12 : decode cX1_begin 12 = .ok (.putfield 18, 3) := by decide +kernel
theorem dX1_begin_15 : decode cX1_begin 15 = .ok (.aload_n 0, 1) := by decide +kernel
theorem dX1_begin_16 : decode cX1_begin 16 = .ok (.iconst 0, 1) := by decide +kernel
theorem dX1_begin_17 : decode cX1_begin 17 = .ok (.putfield 21, 3) := by decide +kernel
theorem dX1_begin_20 : decode cX1_begin 20 = .ok (.aload_n 0, 1) := by decide +kernel
theorem dX1_begin_21 : decode cX1_begin 21 = .ok (.iconst 0, 1) := by decide +kernel
theorem dX1_begin_22 : decode cX1_begin 22 = .ok (.putfield 24, 3) := by decide +kernel
theorem dX1_begin_25 : decode cX1_begin 25 = .ok (.aload_n 0, 1) := by decide +kernel
theorem dX1_begin_26 : decode cX1_begin 26 = .ok (.iconst 0, 1) := by decide +kernel
theorem dX1_begin_27 : decode cX1_begin 27 = .ok (.putfield 27, 3) := by decide +kernel
theorem dX1_begin_30 : decode cX1_begin 30 = .ok (.aload_n 0, 1) := by decide +kernel
theorem dX1_begin_31 : decode cX1_begin 31 = .ok (.iconst 0, 1) := by decide +kernel
theorem dX1_begin_32 : decode cX1_begin 32 = .ok (.putfield 30, 3) := by decide +kernel
theorem dX1_begin_35 : decode cX1_begin 35 = .ok (.aload_n 0, 1) := by decide +kernel
theorem dX1_begin_36 : decode cX1_begin 36 = .ok (.iconst (-1), 1) := by decide +kernel
theorem dX1_begin_37 : decode cX1_begin 37 = .ok (.putfield 33, 3) := by decide +kernel
theorem dX1_begin_40 : decode cX1_begin 40 = .ok (.aload_n 0, 1) := by decide +kernel
theorem dX1_begin_41 : decode cX1_begin 41 = .ok (.iconst 0, 1) := by decide +kernel
theorem dX1_begin_42 : decode cX1_begin 42 = .ok (.putfield 36, 3) := by decide +kernel
theorem dX1_begin_45 : decode cX1_begin 45 = .ok (.return_, 1) := by decide +kernel
theorem dX1_take_0 : decode cX1_take 0 = .ok (.aload_n 0, 1) := by decide +kernel
theorem dX1_take_1 : decode cX1_take 1 = .ok (.getfield 9, 3) := by decide +kernel
theorem dX1_take_4 : decode cX1_take 4 = .ok (.ifCond .eq 14, 3) := by decide +kernel
theorem dX1_take_7 : decode cX1_take 7 = .ok (.aload_n 2, 1) := by decide +kernel
theorem dX1_take_8 : decode cX1_take 8 = .ok (.getfield 15, 3) := by decide +kernel
theorem dX1_take_11 : decode cX1_take 11 = .ok (.aload_n 0, 1) := by decide +kernel
theorem dX1_take_12 : decode cX1_take 12 = .ok (.getfield 15, 3) := by decide +kernel
theorem dX1_take_15 : decode cX1_take 15 = .ok (.if_icmp .ge 16, 3) := by decide +kernel
theorem dX1_take_18 : decode cX1_take 18 = .ok (.aload_n 0, 1) := by decide +kernel
theorem dX1_take_19 : decode cX1_take 19 = .ok (.aload_n 2, 1) := by decide +kernel
theorem dX1_take_20 : decode cX1_take 20 = .ok (.getfield 15, 3) := by decide +kernel
theorem dX1_take_23 : decode cX1_take 23 = .ok (.putfield 15, 3) := by decide +kernel
theorem dX1_take_26 : decode cX1_take 26 = .ok (.aload_n 0, 1) := by decide +kernel
theorem dX1_take_27 : decode cX1_take 27 = .ok (.iload_n 1, 1) := by decide +kernel
theorem dX1_take_28 : decode cX1_take 28 = .ok (.putfield 18, 3) := by decide +kernel
theorem dX1_take_31 : decode cX1_take 31 = .ok (.aload_n 0, 1) := by decide +kernel
theorem dX1_take_32 : decode cX1_take 32 = .ok (.getfield 9, 3) := by decide +kernel
theorem dX1_take_35 : decode cX1_take 35 = .ok (.ifCond .eq 16, 3) := by decide +kernel
theorem dX1_take_38 : decode cX1_take 38 = .ok (.aload_n 2, 1) := by decide +kernel
theorem dX1_take_39 : decode cX1_take 39 = .ok (.getfield 27, 3) := by decide +kernel
theorem dX1_take_42 : decode cX1_take 42 = .ok (.iconst 1, 1) := by decide +kernel
theorem dX1_take_43 : decode cX1_take 43 = .ok (.iadd, 1) := by decide +kernel
theorem dX1_take_44 : decode cX1_take 44 = .ok (.aload_n 0, 1) := by decide +kernel
theorem dX1_take_45 : decode cX1_take 45 = .ok (.getfield 27, 3) := by decide +kernel
theorem dX1_take_48 : decode cX1_take 48 = .ok (.if_icmp .ge 13, 3) := by decide +kernel
theorem dX1_take_51 : decode cX1_take 51 = .ok (.aload_n 0, 1) := by decide +kernel
theorem dX1_take_52 : decode cX1_take 52 = .ok (.aload_n 2, 1) := by decide +kernel
theorem dX1_take_53 : decode cX1_take 53 = .ok (.getfield 27, 3) := by decide +kernel
theorem dX1_take_56 : decode cX1_take 56 = .ok (.iconst 1, 1) := by decide +kernel
theorem dX1_take_57 : decode cX1_take 57 = .ok (.iadd, 1) := by decide +kernel
theorem dX1_take_58 : decode cX1_take 58 = .ok (.putfield 27, 3) := by decide +kernel
theorem dX1_take_61 : decode cX1_take 61 = .ok (.aload_n 0, 1) := by decide +kernel
theorem dX1_take_62 : decode cX1_take 62 = .ok (.aload_n 0, 1) := by decide +kernel
theorem dX1_take_63 : decode cX1_take 63 = .ok (.getfield 24, 3) := by decide +kernel
theorem dX1_take_66 : decode cX1_take 66 = .ok (.aload_n 2, 1) := by decide +kernel
theorem dX1_take_67 : decode cX1_take 67 = .ok (.getfield 24, 3) := by decide +kernel
theorem dX1_take_70 : decode cX1_take 70 = .ok (.iconst 1, 1) := by decide +kernel
theorem dX1_take_71 : decode cX1_take 71 = .ok (.iadd, 1) := by decide +kernel
theorem dX1_take_72 : decode cX1_take 72 = .ok (.invokestatic 39, 3) := by decide +kernel
theorem dX1_take_75 : decode cX1_take 75 = .ok (.putfield 24, 3) := by decide +kernel
theorem dX1_take_78 : decode cX1_take 78 = .ok (.aload_n 0, 1) := by decide +kernel
theorem dX1_take_79 : decode cX1_take 79 = .ok (.dup, 1) := by decide +kernel
theorem dX1_take_80 : decode cX1_take 80 = .ok (.getfield 21, 3) := by decide +kernel
theorem dX1_take_83 : decode cX1_take 83 = .ok (.aload_n 2, 1) := by decide +kernel
theorem dX1_take_84 : decode cX1_take 84 = .ok (.getfield 21, 3) := by decide +kernel
theorem dX1_take_87 : decode cX1_take 87 = .ok (.iadd, 1) := by decide +kernel
theorem dX1_take_88 : decode cX1_take 88 = .ok (.putfield 21, 3) := by decide +kernel
theorem dX1_take_91 : decode cX1_take 91 = .ok (.aload_n 0, 1) := by decide +kernel
theorem dX1_take_92 : decode cX1_take 92 = .ok (.dup, 1) := by decide +kernel
theorem dX1_take_93 : decode cX1_take 93 = .ok (.getfield 30, 3) := by decide +kernel
theorem dX1_take_96 : decode cX1_take 96 = .ok (.aload_n 2, 1) := by decide +kernel
theorem dX1_take_97 : decode cX1_take 97 = .ok (.getfield 30, 3) := by decide +kernel
theorem dX1_take_100 : decode cX1_take 100 = .ok (.ior, 1) := by decide +kernel
theorem dX1_take_101 : decode cX1_take 101 = .ok (.putfield 30, 3) := by decide +kernel
theorem dX1_take_104 : decode cX1_take 104 = .ok (.aload_n 0, 1) := by decide +kernel
theorem dX1_take_105 : decode cX1_take 105 = .ok (.getfield 33, 3) := by decide +kernel
theorem dX1_take_108 : decode cX1_take 108 = .ok (.iconst (-1), 1) := by decide +kernel
theorem dX1_take_109 : decode cX1_take 109 = .ok (.if_icmp .ne 16, 3) := by decide +kernel
theorem dX1_take_112 : decode cX1_take 112 = .ok (.aload_n 2, 1) := by decide +kernel
theorem dX1_take_113 : decode cX1_take 113 = .ok (.getfield 33, 3) := by decide +kernel
theorem dX1_take_116 : decode cX1_take 116 = .ok (.iconst (-1), 1) := by decide +kernel
theorem dX1_take_117 : decode cX1_take 117 = .ok (.if_icmp .ne 8, 3) := by decide +kernel
theorem dX1_take_120 : decode cX1_take 120 = .ok (.aload_n 0, 1) := by decide +kernel
theorem dX1_take_121 : decode cX1_take 121 = .ok (.iload_n 1, 1) := by decide +kernel
theorem dX1_take_122 : decode cX1_take 122 = .ok (.putfield 33, 3) := by decide +kernel
theorem dX1_take_125 : decode cX1_take 125 = .ok (.aload_n 0, 1) := by decide +kernel
theorem dX1_take_126 : decode cX1_take 126 = .ok (.dup, 1) := by decide +kernel
theorem dX1_take_127 : decode cX1_take 127 = .ok (.getfield 36, 3) := by decide +kernel
theorem dX1_take_130 : decode cX1_take 130 = .ok (.aload_n 2, 1) := by decide +kernel
theorem dX1_take_131 : decode cX1_take 131 = .ok (.getfield 36, 3) := by decide +kernel
theorem dX1_take_134 : decode cX1_take 134 = .ok (.iadd, 1) := by decide +kernel
theorem dX1_take_135 : decode cX1_take 135 = .ok (.putfield 36, 3) := by decide +kernel
theorem dX1_take_138 : decode cX1_take 138 = .ok (.aload_n 0, 1) := by decide +kernel
theorem dX1_take_139 : decode cX1_take 139 = .ok (.dup, 1) := by decide +kernel
theorem dX1_take_140 : decode cX1_take 140 = .ok (.getfield 9, 3) := by decide +kernel
theorem dX1_take_143 : decode cX1_take 143 = .ok (.iconst 1, 1) := by decide +kernel
theorem dX1_take_144 : decode cX1_take 144 = .ok (.iadd, 1) := by decide +kernel
theorem dX1_take_145 : decode cX1_take 145 = .ok (.putfield 9, 3) := by decide +kernel
theorem dX1_take_148 : decode cX1_take 148 = .ok (.return_, 1) := by decide +kernel
theorem dX1_end_0 : decode cX1_end 0 = .ok (.aload_n 0, 1) := by decide +kernel
theorem dX1_end_1 : decode cX1_end 1 = .ok (.getfield 9, 3) := by decide +kernel
theorem dX1_end_4 : decode cX1_end 4 = .ok (.ifCond .le 19, 3) := by decide +kernel
theorem dX1_end_7 : decode cX1_end 7 = .ok (.aload_n 0, 1) := by decide +kernel
theorem dX1_end_8 : decode cX1_end 8 = .ok (.dup, 1) := by decide +kernel
theorem dX1_end_9 : decode cX1_end 9 = .ok (.getfield 36, 3) := by decide +kernel
theorem dX1_end_12 : decode cX1_end 12 = .ok (.aload_n 0, 1) := by decide +kernel
theorem dX1_end_13 : decode cX1_end 13 = .ok (.getfield 9, 3) := by decide +kernel
theorem dX1_end_16 : decode cX1_end 16 = .ok (.idiv, 1) := by decide +kernel
theorem dX1_end_17 : decode cX1_end 17 = .ok (.putfield 36, 3) := by decide +kernel
theorem dX1_end_20 : decode cX1_end 20 = .ok (.goto 27, 3) := by decide +kernel
theorem dX1_end_23 : decode cX1_end 23 = .ok (.aload_n 0, 1) := by decide +kernel
theorem dX1_end_24 : decode cX1_end 24 = .ok (.iload_n 1, 1) := by decide +kernel
theorem dX1_end_25 : decode cX1_end 25 = .ok (.putfield 15, 3) := by decide +kernel
theorem dX1_end_28 : decode cX1_end 28 = .ok (.aload_n 0, 1) := by decide +kernel
theorem dX1_end_29 : decode cX1_end 29 = .ok (.iconst 1, 1) := by decide +kernel
theorem dX1_end_30 : decode cX1_end 30 = .ok (.putfield 21, 3) := by decide +kernel
theorem dX1_end_33 : decode cX1_end 33 = .ok (.aload_n 0, 1) := by decide +kernel
theorem dX1_end_34 : decode cX1_end 34 = .ok (.iload_n 2, 1) := by decide +kernel
theorem dX1_end_35 : decode cX1_end 35 = .ok (.putfield 30, 3) := by decide +kernel
theorem dX1_end_38 : decode cX1_end 38 = .ok (.aload_n 0, 1) := by decide +kernel
theorem dX1_end_39 : decode cX1_end 39 = .ok (.sipush 1000, 3) := by decide +kernel
theorem dX1_end_42 : decode cX1_end 42 = .ok (.iload_n 1, 1) := by decide +kernel
theorem dX1_end_43 : decode cX1_end 43 = .ok (.imul, 1) := by decide +kernel
theorem dX1_end_44 : decode cX1_end 44 = .ok (.putfield 36, 3) := by decide +kernel
theorem dX1_end_47 : decode cX1_end 47 = .ok (.return_, 1) := by decide +kernel
theorem dX2_init_0 : decode cX2_init 0 = .ok (.aload_n 0, 1) := by decide +kernel
theorem dX2_init_1 : decode cX2_init 1 = .ok (.invokespecial 3, 3) := by decide +kernel
theorem dX2_init_4 : decode cX2_init 4 = .ok (.aload_n 0, 1) := by decide +kernel
theorem dX2_init_5 : decode cX2_init 5 = .ok (.bipush 18, 2) := by decide +kernel
theorem dX2_init_7 : decode cX2_init 7 = .ok (.newarray .int, 2) := by decide +kernel
theorem dX2_init_9 : decode cX2_init 9 = .ok (.putfield 9, 3) := by decide +kernel
theorem dX2_init_12 : decode cX2_init 12 = .ok (.return_, 1) := by decide +kernel
theorem dX2_append_0 : decode cX2_append 0 = .ok (.aload_n 0, 1) := by decide +kernel
theorem dX2_append_1 : decode cX2_append 1 = .ok (.getfield 15, 3) := by decide +kernel
theorem dX2_append_4 : decode cX2_append 4 = .ok (.ifCond .lt 15, 3) := by decide +kernel
theorem dX2_append_7 : decode cX2_append 7 = .ok (.aload_n 0, 1) := by decide +kernel
theorem dX2_append_8 : decode cX2_append 8 = .ok (.getfield 15, 3) := by decide +kernel
theorem dX2_append_11 : decode cX2_append 11 = .ok (.aload_n 0, 1) := by decide +kernel
theorem dX2_append_12 : decode cX2_append 12 = .ok (.getfield 9, 3) := by decide +kernel
theorem dX2_append_15 : decode cX2_append 15 = .ok (.arraylength, 1) := by decide +kernel
theorem dX2_append_16 : decode cX2_append 16 = .ok (.if_icmp .lt 5, 3) := by decide +kernel
theorem dX2_append_19 : decode cX2_append 19 = .ok (.iconst 0, 1) := by decide +kernel
theorem dX2_append_20 : decode cX2_append 20 = .ok (.ireturn, 1) := by decide +kernel
theorem dX2_append_21 : decode cX2_append 21 = .ok (.aload_n 0, 1) := by decide +kernel
theorem dX2_append_22 : decode cX2_append 22 = .ok (.getfield 9, 3) := by decide +kernel
theorem dX2_append_25 : decode cX2_append 25 = .ok (.aload_n 0, 1) := by decide +kernel
theorem dX2_append_26 : decode cX2_append 26 = .ok (.getfield 15, 3) := by decide +kernel
theorem dX2_append_29 : decode cX2_append 29 = .ok (.iload_n 1, 1) := by decide +kernel
theorem dX2_append_30 : decode cX2_append 30 = .ok (.iastore, 1) := by decide +kernel
theorem dX2_append_31 : decode cX2_append 31 = .ok (.aload_n 0, 1) := by decide +kernel
theorem dX2_append_32 : decode cX2_append 32 = .ok (.dup, 1) := by decide +kernel
theorem dX2_append_33 : decode cX2_append 33 = .ok (.getfield 15, 3) := by decide +kernel
theorem dX2_append_36 : decode cX2_append 36 = .ok (.iconst 1, 1) := by decide +kernel
theorem dX2_append_37 : decode cX2_append 37 = .ok (.iadd, 1) := by decide +kernel
theorem dX2_append_38 : decode cX2_append 38 = .ok (.putfield 15, 3) := by decide +kernel
theorem dX2_append_41 : decode cX2_append 41 = .ok (.iconst 1, 1) := by decide +kernel
theorem dX2_append_42 : decode cX2_append 42 = .ok (.ireturn, 1) := by decide +kernel
theorem dX2_codeAt_0 : decode cX2_codeAt 0 = .ok (.iload_n 1, 1) := by decide +kernel
theorem dX2_codeAt_1 : decode cX2_codeAt 1 = .ok (.ifCond .lt 29, 3) := by decide +kernel
theorem dX2_codeAt_4 : decode cX2_codeAt 4 = .ok (.iload_n 1, 1) := by decide +kernel
theorem dX2_codeAt_5 : decode cX2_codeAt 5 = .ok (.aload_n 0, 1) := by decide +kernel
theorem dX2_codeAt_6 : decode cX2_codeAt 6 = .ok (.getfield 15, 3) := by decide +kernel
theorem dX2_codeAt_9 : decode cX2_codeAt 9 = .ok (.if_icmp .ge 21, 3) := by decide +kernel
theorem dX2_codeAt_12 : decode cX2_codeAt 12 = .ok (.iload_n 1, 1) := by decide +kernel
theorem dX2_codeAt_13 : decode cX2_codeAt 13 = .ok (.aload_n 0, 1) := by decide +kernel
theorem dX2_codeAt_14 : decode cX2_codeAt 14 = .ok (.getfield 9, 3) := by decide +kernel
theorem dX2_codeAt_17 : decode cX2_codeAt 17 = .ok (.arraylength, 1) := by decide +kernel
theorem dX2_codeAt_18 : decode cX2_codeAt 18 = .ok (.if_icmp .ge 12, 3) := by decide +kernel
theorem dX2_codeAt_21 : decode cX2_codeAt 21 = .ok (.aload_n 0, 1) := by decide +kernel
theorem dX2_codeAt_22 : decode cX2_codeAt 22 = .ok (.getfield 9, 3) := by decide +kernel
theorem dX2_codeAt_25 : decode cX2_codeAt 25 = .ok (.iload_n 1, 1) := by decide +kernel
theorem dX2_codeAt_26 : decode cX2_codeAt 26 = .ok (.iaload, 1) := by decide +kernel
theorem dX2_codeAt_27 : decode cX2_codeAt 27 = .ok (.goto 4, 3) := by decide +kernel
theorem dX2_codeAt_30 : decode cX2_codeAt 30 = .ok (.iconst (-1), 1) := by decide +kernel
theorem dX2_codeAt_31 : decode cX2_codeAt 31 = .ok (.ireturn, 1) := by decide +kernel
set_option maxRecDepth 20000 in
theorem ggX2_digitAt_X2_codeAt : GoodIn wsX2_digitAt wsX2_codeAt := goodIn_r _ [5, 6, 7, 8, 9] (by decide +kernel) (by decide +kernel)
set_option maxRecDepth 20000 in
theorem gX2_digitAt_X2_codeAt : GoodIn wsX2_digitAt (wsV RX2 19 RX2 yX2_codeAt wsX2_codeAt) := goodIn_app (goodIn_of _ (by decide +kernel)) ggX2_digitAt_X2_codeAt
theorem dX2_digitAt_0 : decode cX2_digitAt 0 = .ok (.aload_n 0, 1) := by decide +kernel
theorem dX2_digitAt_1 : decode cX2_digitAt 1 = .ok (.iload_n 1, 1) := by decide +kernel
theorem dX2_digitAt_2 : decode cX2_digitAt 2 = .ok (.invokevirtual 19, 3) := by decide +kernel
theorem dX2_digitAt_5 : decode cX2_digitAt 5 = .ok (.bipush 48, 2) := by decide +kernel
theorem dX2_digitAt_7 : decode cX2_digitAt 7 = .ok (.isub, 1) := by decide +kernel
theorem dX2_digitAt_8 : decode cX2_digitAt 8 = .ok (.istore_n 2, 1) := by decide +kernel
theorem dX2_digitAt_9 : decode cX2_digitAt 9 = .ok (.iload_n 2, 1) := by decide +kernel
theorem dX2_digitAt_10 : decode cX2_digitAt 10 = .ok (.iconst 2, 1) := by decide +kernel
theorem dX2_digitAt_11 : decode cX2_digitAt 11 = .ok (.if_icmp .lt 12, 3) := by decide +kernel
theorem dX2_digitAt_14 : decode cX2_digitAt 14 = .ok (.iload_n 2, 1) := by decide +kernel
theorem dX2_digitAt_15 : decode cX2_digitAt 15 = .ok (.iconst 4, 1) := by decide +kernel
theorem dX2_digitAt_16 : decode cX2_digitAt 16 = .ok (.if_icmp .gt 7, 3) := by decide +kernel
theorem dX2_digitAt_19 : decode cX2_digitAt 19 = .ok (.iload_n 2, 1) := by decide +kernel
theorem dX2_digitAt_20 : decode cX2_digitAt 20 = .ok (.goto 4, 3) := by decide +kernel
theorem dX2_digitAt_23 : decode cX2_digitAt 23 = .ok (.iconst 0, 1) := by decide +kernel
theorem dX2_digitAt_24 : decode cX2_digitAt 24 = .ok (.ireturn, 1) := by decide +kernel
set_option maxRecDepth 20000 in
theorem ggX2_kindAt_X2_codeAt : GoodIn wsX2_kindAt wsX2_codeAt := goodIn_r _ [5, 6, 7, 8, 9] (by decide +kernel) (by decide +kernel)
set_option maxRecDepth 20000 in
theorem gX2_kindAt_X2_codeAt : GoodIn wsX2_kindAt (wsV RX2 19 RX2 yX2_codeAt wsX2_codeAt) := goodIn_app (goodIn_of _ (by decide +kernel)) ggX2_kindAt_X2_codeAt
theorem dX2_kindAt_0 : decode cX2_kindAt 0 = .ok (.aload_n 0, 1) := by decide +kernel
theorem dX2_kindAt_1 : decode cX2_kindAt 1 = .ok (.iload_n 1, 1) := by decide +kernel
theorem dX2_kindAt_2 : decode cX2_kindAt 2 = .ok (.invokevirtual 19, 3) := by decide +kernel
theorem dX2_kindAt_5 : decode cX2_kindAt 5 = .ok (.istore_n 2, 1) := by decide +kernel
theorem dX2_kindAt_6 : decode cX2_kindAt 6 = .ok (.iconst 0, 1) := by decide +kernel
theorem dX2_kindAt_7 : decode cX2_kindAt 7 = .ok (.istore_n 3, 1) := by decide +kernel
theorem dX2_kindAt_8 : decode cX2_kindAt 8 = .ok (.iload_n 3, 1) := by decide +kernel
theorem dX2_kindAt_9 : decode cX2_kindAt 9 = .ok (.getstatic 23, 3) := by decide +kernel
theorem dX2_kindAt_12 : decode cX2_kindAt 12 = .ok (.arraylength, 1) := by decide +kernel
theorem dX2_kindAt_13 : decode cX2_kindAt 13 = .ok (.if_icmp .ge 20, 3) := by decide +kernel
theorem dX2_kindAt_16 : decode cX2_kindAt 16 = .ok (.getstatic 23, 3) := by decide +kernel
theorem dX2_kindAt_19 : decode cX2_kindAt 19 = .ok (.iload_n 3, 1) := by decide +kernel
theorem dX2_kindAt_20 : decode cX2_kindAt 20 = .ok (.caload, 1) := by decide +kernel
theorem dX2_kindAt_21 : decode cX2_kindAt 21 = .ok (.iload_n 2, 1) := by decide +kernel
theorem dX2_kindAt_22 : decode cX2_kindAt 22 = .ok (.if_icmp .ne 5, 3) := by decide +kernel
theorem dX2_kindAt_25 : decode cX2_kindAt 25 = .ok (.iload_n 3, 1) := by decide +kernel
theorem dX2_kindAt_26 : decode cX2_kindAt 26 = .ok (.ireturn, 1) := by decide +kernel
theorem dX2_kindAt_27 : decode cX2_kindAt 27 = .ok (.iinc 3 1, 3) := by decide +kernel
theorem dX2_kindAt_30 : decode cX2_kindAt 30 = .ok (.goto (-22), 3) := by decide +kernel
theorem dX2_kindAt_33 : decode cX2_kindAt 33 = .ok (.iconst (-1), 1) := by decide +kernel
theorem dX2_kindAt_34 : decode cX2_kindAt 34 = .ok (.ireturn, 1) := by decide +kernel
set_option maxRecDepth 20000 in
theorem ggX2_placesTold_X2_digitAt : GoodIn wsX2_placesTold wsX2_digitAt := goodIn_r _ [5, 6, 7, 8, 4, 9, 10, 11, 12, 13] (by decide +kernel) (by decide +kernel)
set_option maxRecDepth 20000 in
theorem gX2_placesTold_X2_digitAt : GoodIn wsX2_placesTold (wsV RX2 27 RX2 yX2_digitAt wsX2_digitAt) := goodIn_app (goodIn_of _ (by decide +kernel)) ggX2_placesTold_X2_digitAt
theorem dX2_placesTold_0 : decode cX2_placesTold 0 = .ok (.aload_n 0, 1) := by decide +kernel
theorem dX2_placesTold_1 : decode cX2_placesTold 1 = .ok (.iconst 0, 1) := by decide +kernel
theorem dX2_placesTold_2 : decode cX2_placesTold 2 = .ok (.invokevirtual 27, 3) := by decide +kernel
theorem dX2_placesTold_5 : decode cX2_placesTold 5 = .ok (.aload_n 0, 1) := by decide +kernel
theorem dX2_placesTold_6 : decode cX2_placesTold 6 = .ok (.iconst 1, 1) := by decide +kernel
theorem dX2_placesTold_7 : decode cX2_placesTold 7 = .ok (.invokevirtual 27, 3) := by decide +kernel
theorem dX2_placesTold_10 : decode cX2_placesTold 10 = .ok (.imul, 1) := by decide +kernel
theorem dX2_placesTold_11 : decode cX2_placesTold 11 = .ok (.ireturn, 1) := by decide +kernel
set_option maxRecDepth 20000 in
theorem ggX2_pegsBefore_X2_kindAt : GoodIn wsX2_pegsBefore wsX2_kindAt := goodIn_r _ [5, 6, 7, 8, 4, 9, 10, 11, 12, 13] (by decide +kernel) (by decide +kernel)
set_option maxRecDepth 20000 in
theorem gX2_pegsBefore_X2_kindAt : GoodIn wsX2_pegsBefore (wsV RX2 30 RX2 yX2_kindAt wsX2_kindAt) := goodIn_app (goodIn_of _ (by decide +kernel)) ggX2_pegsBefore_X2_kindAt
theorem dX2_pegsBefore_0 : decode cX2_pegsBefore 0 = .ok (.iconst 0, 1) := by decide +kernel
theorem dX2_pegsBefore_1 : decode cX2_pegsBefore 1 = .ok (.istore_n 2, 1) := by decide +kernel
theorem dX2_pegsBefore_2 : decode cX2_pegsBefore 2 = .ok (.iconst 3, 1) := by decide +kernel
theorem dX2_pegsBefore_3 : decode cX2_pegsBefore 3 = .ok (.istore_n 3, 1) := by decide +kernel
theorem dX2_pegsBefore_4 : decode cX2_pegsBefore 4 = .ok (.iload_n 3, 1) := by decide +kernel
theorem dX2_pegsBefore_5 : decode cX2_pegsBefore 5 = .ok (.iload_n 1, 1) := by decide +kernel
theorem dX2_pegsBefore_6 : decode cX2_pegsBefore 6 = .ok (.if_icmp .ge 21, 3) := by decide +kernel
theorem dX2_pegsBefore_9 : decode cX2_pegsBefore 9 = .ok (.aload_n 0, 1) := by decide +kernel
theorem dX2_pegsBefore_10 : decode cX2_pegsBefore 10 = .ok (.iload_n 3, 1) := by decide +kernel
theorem dX2_pegsBefore_11 : decode cX2_pegsBefore 11 = .ok (.invokevirtual 30, 3) := by decide +kernel
theorem dX2_pegsBefore_14 : decode cX2_pegsBefore 14 = .ok (.iconst (-1), 1) := by decide +kernel
theorem dX2_pegsBefore_15 : decode cX2_pegsBefore 15 = .ok (.if_icmp .eq 6, 3) := by decide +kernel
theorem dX2_pegsBefore_18 : decode cX2_pegsBefore 18 = .ok (.iinc 2 1, 3) := by decide +kernel
theorem dX2_pegsBefore_21 : decode cX2_pegsBefore 21 = .ok (.iinc 3 1, 3) := by decide +kernel
theorem dX2_pegsBefore_24 : decode cX2_pegsBefore 24 = .ok (.goto (-20), 3) := by decide +kernel
theorem dX2_pegsBefore_27 : decode cX2_pegsBefore 27 = .ok (.iload_n 2, 1) := by decide +kernel
theorem dX2_pegsBefore_28 : decode cX2_pegsBefore 28 = .ok (.ireturn, 1) := by decide +kernel
set_option maxRecDepth 20000 in
theorem ggX2_fits_X2_digitAt : GoodIn wsX2_fits wsX2_digitAt := goodIn_r _ [5, 6, 7, 8, 4, 9, 10, 11, 24, 25] (by decide +kernel) (by decide +kernel)
set_option maxRecDepth 20000 in
theorem gX2_fits_X2_digitAt : GoodIn wsX2_fits (wsV RX2 27 RX2 yX2_digitAt wsX2_digitAt) := goodIn_app (goodIn_of _ (by decide +kernel)) ggX2_fits_X2_digitAt
set_option maxRecDepth 20000 in
theorem ggX2_fits_X2_placesTold : GoodIn wsX2_fits wsX2_placesTold := goodIn_r _ [15, 1, 2, 3, 4, 5, 6, 7, 8, 9, 10, 11, 24, 25] (by decide +kernel) (by decide +kernel)
set_option maxRecDepth 20000 in
theorem gX2_fits_X2_placesTold : GoodIn wsX2_fits (wsV RX2 33 RX2 yX2_placesTold wsX2_placesTold) := goodIn_app (goodIn_of _ (by decide +kernel)) ggX2_fits_X2_placesTold
set_option maxRecDepth 20000 in
theorem ggX2_fits_X2_codeAt : GoodIn wsX2_fits wsX2_codeAt := goodIn_r _ [9, 10, 11, 24, 25] (by decide +kernel) (by decide +kernel)
set_option maxRecDepth 20000 in
theorem gX2_fits_X2_codeAt : GoodIn wsX2_fits (wsV RX2 19 RX2 yX2_codeAt wsX2_codeAt) := goodIn_app (goodIn_of _ (by decide +kernel)) ggX2_fits_X2_codeAt
set_option maxRecDepth 20000 in
theorem ggX2_fits_X2_kindAt : GoodIn wsX2_fits wsX2_kindAt := goodIn_r _ [19, 6, 7, 8, 4, 9, 10, 11, 24, 25] (by decide +kernel) (by decide +kernel)
set_option maxRecDepth 20000 in
theorem gX2_fits_X2_kindAt : GoodIn wsX2_fits (wsV RX2 30 RX2 yX2_kindAt wsX2_kindAt) := goodIn_app (goodIn_of _ (by decide +kernel)) ggX2_fits_X2_kindAt
set_option maxRecDepth 20000 in
theorem ggX2_fits_X2_pegsBefore : GoodIn wsX2_fits wsX2_pegsBefore := goodIn_r _ [23, 16, 17, 18, 4, 19, 6, 7, 8, 9, 10, 11, 24, 25] (by decide +kernel) (by decide +kernel)
set_option maxRecDepth 20000 in
theorem gX2_fits_X2_pegsBefore : GoodIn wsX2_fits (wsV RX2 37 RX2 yX2_pegsBefore wsX2_pegsBefore) := goodIn_app (goodIn_of _ (by decide +kernel)) ggX2_fits_X2_pegsBefore
theorem dX2_fits_0 : decode cX2_fits 0 = .ok (.iload_n 1, 1) := by decide +kernel
theorem dX2_fits_1 : decode cX2_fits 1 = .ok (.ifCond .ne 17, 3) := by decide +kernel
theorem dX2_fits_4 : decode cX2_fits 4 = .ok (.aload_n 0, 1) := by decide +kernel
theorem dX2_fits_5 : decode cX2_fits 5 = .ok (.iconst 0, 1) := by decide +kernel
theorem dX2_fits_6 : decode cX2_fits 6 = .ok (.invokevirtual 27, 3) := by decide +kernel
theorem dX2_fits_9 : decode cX2_fits 9 = .ok (.ifCond .le 7, 3) := by decide +kernel
theorem dX2_fits_12 : decode cX2_fits 12 = .ok (.iconst 1, 1) := by decide +kernel
theorem dX2_fits_13 : decode cX2_fits 13 = .ok (.goto 4, 3) := by decide +kernel
theorem dX2_fits_16 : decode cX2_fits 16 = .ok (.iconst 0, 1) := by decide +kernel
theorem dX2_fits_17 : decode cX2_fits 17 = .ok (.ireturn, 1) := by decide +kernel
theorem dX2_fits_18 : decode cX2_fits 18 = .ok (.iload_n 1, 1) := by decide +kernel
theorem dX2_fits_19 : decode cX2_fits 19 = .ok (.iconst 1, 1) := by decide +kernel
theorem dX2_fits_20 : decode cX2_fits 20 = .ok (.if_icmp .ne 26, 3) := by decide +kernel
theorem dX2_fits_23 : decode cX2_fits 23 = .ok (.aload_n 0, 1) := by decide +kernel
theorem dX2_fits_24 : decode cX2_fits 24 = .ok (.iconst 1, 1) := by decide +kernel
theorem dX2_fits_25 : decode cX2_fits 25 = .ok (.invokevirtual 27, 3) := by decide +kernel
theorem dX2_fits_28 : decode cX2_fits 28 = .ok (.ifCond .le 16, 3) := by decide +kernel
theorem dX2_fits_31 : decode cX2_fits 31 = .ok (.aload_n 0, 1) := by decide +kernel
theorem dX2_fits_32 : decode cX2_fits 32 = .ok (.invokevirtual 33, 3) := by decide +kernel
theorem dX2_fits_35 : decode cX2_fits 35 = .ok (.bipush 12, 2) := by decide +kernel
theorem dX2_fits_37 : decode cX2_fits 37 = .ok (.if_icmp .gt 7, 3) := by decide +kernel
theorem dX2_fits_40 : decode cX2_fits 40 = .ok (.iconst 1, 1) := by decide +kernel
theorem dX2_fits_41 : decode cX2_fits 41 = .ok (.goto 4, 3) := by decide +kernel
theorem dX2_fits_44 : decode cX2_fits 44 = .ok (.iconst 0, 1) := by decide +kernel
theorem dX2_fits_45 : decode cX2_fits 45 = .ok (.ireturn, 1) := by decide +kernel
theorem dX2_fits_46 : decode cX2_fits 46 = .ok (.aload_n 0, 1) := by decide +kernel
theorem dX2_fits_47 : decode cX2_fits 47 = .ok (.iload_n 1, 1) := by decide +kernel
theorem dX2_fits_48 : decode cX2_fits 48 = .ok (.invokevirtual 19, 3) := by decide +kernel
theorem dX2_fits_51 : decode cX2_fits 51 = .ok (.istore_n 2, 1) := by decide +kernel
theorem dX2_fits_52 : decode cX2_fits 52 = .ok (.iload_n 1, 1) := by decide +kernel
theorem dX2_fits_53 : decode cX2_fits 53 = .ok (.iconst 2, 1) := by decide +kernel
theorem dX2_fits_54 : decode cX2_fits 54 = .ok (.if_icmp .ne 15, 3) := by decide +kernel
theorem dX2_fits_57 : decode cX2_fits 57 = .ok (.iload_n 2, 1) := by decide +kernel
theorem dX2_fits_58 : decode cX2_fits 58 = .ok (.bipush 59, 2) := by decide +kernel
theorem dX2_fits_60 : decode cX2_fits 60 = .ok (.if_icmp .ne 7, 3) := by decide +kernel
theorem dX2_fits_63 : decode cX2_fits 63 = .ok (.iconst 1, 1) := by decide +kernel
theorem dX2_fits_64 : decode cX2_fits 64 = .ok (.goto 4, 3) := by decide +kernel
theorem dX2_fits_67 : decode cX2_fits 67 = .ok (.iconst 0, 1) := by decide +kernel
theorem dX2_fits_68 : decode cX2_fits 68 = .ok (.ireturn, 1) := by decide +kernel
theorem dX2_fits_69 : decode cX2_fits 69 = .ok (.iload_n 1, 1) := by decide +kernel
theorem dX2_fits_70 : decode cX2_fits 70 = .ok (.iconst 3, 1) := by decide +kernel
theorem dX2_fits_71 : decode cX2_fits 71 = .ok (.aload_n 0, 1) := by decide +kernel
theorem dX2_fits_72 : decode cX2_fits 72 = .ok (.invokevirtual 33, 3) := by decide +kernel
theorem dX2_fits_75 : decode cX2_fits 75 = .ok (.iadd, 1) := by decide +kernel
theorem dX2_fits_76 : decode cX2_fits 76 = .ok (.if_icmp .lt 5, 3) := by decide +kernel
theorem dX2_fits_79 : decode cX2_fits 79 = .ok (.iconst 0, 1) := by decide +kernel
theorem dX2_fits_80 : decode cX2_fits 80 = .ok (.ireturn, 1) := by decide +kernel
theorem dX2_fits_81 : decode cX2_fits 81 = .ok (.iload_n 2, 1) := by decide +kernel
theorem dX2_fits_82 : decode cX2_fits 82 = .ok (.bipush 35, 2) := by decide +kernel
theorem dX2_fits_84 : decode cX2_fits 84 = .ok (.if_icmp .eq 28, 3) := by decide +kernel
theorem dX2_fits_87 : decode cX2_fits 87 = .ok (.iload_n 2, 1) := by decide +kernel
theorem dX2_fits_88 : decode cX2_fits 88 = .ok (.bipush 46, 2) := by decide +kernel
theorem dX2_fits_90 : decode cX2_fits 90 = .ok (.if_icmp .eq 22, 3) := by decide +kernel
theorem dX2_fits_93 : decode cX2_fits 93 = .ok (.aload_n 0, 1) := by decide +kernel
theorem dX2_fits_94 : decode cX2_fits 94 = .ok (.iload_n 1, 1) := by decide +kernel
theorem dX2_fits_95 : decode cX2_fits 95 = .ok (.invokevirtual 30, 3) := by decide +kernel
theorem dX2_fits_98 : decode cX2_fits 98 = .ok (.iconst (-1), 1) := by decide +kernel
theorem dX2_fits_99 : decode cX2_fits 99 = .ok (.if_icmp .eq 17, 3) := by decide +kernel
theorem dX2_fits_102 : decode cX2_fits 102 = .ok (.aload_n 0, 1) := by decide +kernel
theorem dX2_fits_103 : decode cX2_fits 103 = .ok (.iload_n 1, 1) := by decide +kernel
theorem dX2_fits_104 : decode cX2_fits 104 = .ok (.invokevirtual 37, 3) := by decide +kernel
theorem dX2_fits_107 : decode cX2_fits 107 = .ok (.bipush 7, 2) := by decide +kernel
theorem dX2_fits_109 : decode cX2_fits 109 = .ok (.if_icmp .ge 7, 3) := by decide +kernel
theorem dX2_fits_112 : decode cX2_fits 112 = .ok (.iconst 1, 1) := by decide +kernel
theorem dX2_fits_113 : decode cX2_fits 113 = .ok (.goto 4, 3) := by decide +kernel
theorem dX2_fits_116 : decode cX2_fits 116 = .ok (.iconst 0, 1) := by decide +kernel
theorem dX2_fits_117 : decode cX2_fits 117 = .ok (.ireturn, 1) := by decide +kernel
set_option maxRecDepth 20000 in
theorem ggX2_firstFault_X2_fits : GoodIn wsX2_firstFault wsX2_fits := goodIn_r _ [6, 7, 8, 9, 5, 10, 11, 12, 13, 14, 1, 15, 16, 17, 18, 19, 20, 21, 22, 23, 24, 25, 26, 27, 28, 29] (by decide +kernel) (by decide +kernel)
set_option maxRecDepth 20000 in
theorem gX2_firstFault_X2_fits : GoodIn wsX2_firstFault (wsV RX2 40 RX2 yX2_fits wsX2_fits) := goodIn_app (goodIn_of _ (by decide +kernel)) ggX2_firstFault_X2_fits
theorem dX2_firstFault_0 : decode cX2_firstFault 0 = .ok (.iconst 0, 1) := by decide +kernel
theorem dX2_firstFault_1 : decode cX2_firstFault 1 = .ok (.istore_n 1, 1) := by decide +kernel
theorem dX2_firstFault_2 : decode cX2_firstFault 2 = .ok (.iload_n 1, 1) := by decide +kernel
theorem dX2_firstFault_3 : decode cX2_firstFault 3 = .ok (.aload_n 0, 1) := by decide +kernel
theorem dX2_firstFault_4 : decode cX2_firstFault 4 = .ok (.getfield 15, 3) := by decide +kernel
theorem dX2_firstFault_7 : decode cX2_firstFault 7 = .ok (.if_icmp .ge 19, 3) := by decide +kernel
theorem dX2_firstFault_10 : decode cX2_firstFault 10 = .ok (.aload_n 0, 1) := by decide +kernel
theorem dX2_firstFault_11 : decode cX2_firstFault 11 = .ok (.iload_n 1, 1) := by decide +kernel
theorem dX2_firstFault_12 : decode cX2_firstFault 12 = .ok (.invokevirtual 40, 3) := by decide +kernel
theorem dX2_firstFault_15 : decode cX2_firstFault 15 = .ok (.ifCond .ne 5, 3) := by decide +kernel
theorem dX2_firstFault_18 : decode cX2_firstFault 18 = .ok (.iload_n 1, 1) := by decide +kernel
theorem dX2_firstFault_19 : decode cX2_firstFault 19 = .ok (.ireturn, 1) := by decide +kernel
theorem dX2_firstFault_20 : decode cX2_firstFault 20 = .ok (.iinc 1 1, 3) := by decide +kernel
theorem dX2_firstFault_23 : decode cX2_firstFault 23 = .ok (.goto (-21), 3) := by decide +kernel
theorem dX2_firstFault_26 : decode cX2_firstFault 26 = .ok (.aload_n 0, 1) := by decide +kernel
theorem dX2_firstFault_27 : decode cX2_firstFault 27 = .ok (.getfield 15, 3) := by decide +kernel
theorem dX2_firstFault_30 : decode cX2_firstFault 30 = .ok (.ireturn, 1) := by decide +kernel
set_option maxRecDepth 20000 in
theorem ggX2_isBoard_X2_placesTold : GoodIn wsX2_isBoard wsX2_placesTold := goodIn_r _ [6, 7, 8, 9, 5, 10, 11, 12, 13, 14, 1, 15, 32, 33] (by decide +kernel) (by decide +kernel)
set_option maxRecDepth 20000 in
theorem gX2_isBoard_X2_placesTold : GoodIn wsX2_isBoard (wsV RX2 33 RX2 yX2_placesTold wsX2_placesTold) := goodIn_app (goodIn_of _ (by decide +kernel)) ggX2_isBoard_X2_placesTold
set_option maxRecDepth 20000 in
theorem ggX2_isBoard_X2_firstFault : GoodIn wsX2_isBoard wsX2_firstFault := goodIn_r _ [19, 1, 20, 21, 22, 5, 23, 7, 8, 9, 10, 11, 12, 13, 14, 15, 2, 3, 4, 6, 24, 25, 26, 27, 28, 29, 30, 31, 32, 33] (by decide +kernel) (by decide +kernel)
set_option maxRecDepth 20000 in
theorem gX2_isBoard_X2_firstFault : GoodIn wsX2_isBoard (wsV RX2 44 RX2 yX2_firstFault wsX2_firstFault) := goodIn_app (goodIn_of _ (by decide +kernel)) ggX2_isBoard_X2_firstFault
set_option maxRecDepth 20000 in
theorem ggX2_isBoard_X2_pegsBefore : GoodIn wsX2_isBoard wsX2_pegsBefore := goodIn_r _ [31, 24, 25, 26, 5, 27, 11, 12, 13, 14, 1, 15, 32, 33] (by decide +kernel) (by decide +kernel)
set_option maxRecDepth 20000 in
theorem gX2_isBoard_X2_pegsBefore : GoodIn wsX2_isBoard (wsV RX2 37 RX2 yX2_pegsBefore wsX2_pegsBefore) := goodIn_app (goodIn_of _ (by decide +kernel)) ggX2_isBoard_X2_pegsBefore
theorem dX2_isBoard_0 : decode cX2_isBoard 0 = .ok (.aload_n 0, 1) := by decide +kernel
theorem dX2_isBoard_1 : decode cX2_isBoard 1 = .ok (.getfield 15, 3) := by decide +kernel
theorem dX2_isBoard_4 : decode cX2_isBoard 4 = .ok (.iconst 3, 1) := by decide +kernel
theorem dX2_isBoard_5 : decode cX2_isBoard 5 = .ok (.aload_n 0, 1) := by decide +kernel
theorem dX2_isBoard_6 : decode cX2_isBoard 6 = .ok (.invokevirtual 33, 3) := by decide +kernel
theorem dX2_isBoard_9 : decode cX2_isBoard 9 = .ok (.iadd, 1) := by decide +kernel
theorem dX2_isBoard_10 : decode cX2_isBoard 10 = .ok (.if_icmp .ne 29, 3) := by decide +kernel
theorem dX2_isBoard_13 : decode cX2_isBoard 13 = .ok (.aload_n 0, 1) := by decide +kernel
theorem dX2_isBoard_14 : decode cX2_isBoard 14 = .ok (.invokevirtual 44, 3) := by decide +kernel
theorem dX2_isBoard_17 : decode cX2_isBoard 17 = .ok (.aload_n 0, 1) := by decide +kernel
theorem dX2_isBoard_18 : decode cX2_isBoard 18 = .ok (.getfield 15, 3) := by decide +kernel
theorem dX2_isBoard_21 : decode cX2_isBoard 21 = .ok (.if_icmp .ne 18, 3) := by decide +kernel
theorem dX2_isBoard_24 : decode cX2_isBoard 24 = .ok (.aload_n 0, 1) := by decide +kernel
theorem dX2_isBoard_25 : decode cX2_isBoard 25 = .ok (.aload_n 0, 1) := by decide +kernel
theorem dX2_isBoard_26 : decode cX2_isBoard 26 = .ok (.getfield 15, 3) := by decide +kernel
theorem dX2_isBoard_29 : decode cX2_isBoard 29 = .ok (.invokevirtual 37, 3) := by decide +kernel
theorem dX2_isBoard_32 : decode cX2_isBoard 32 = .ok (.ifCond .le 7, 3) := by decide +kernel
theorem dX2_isBoard_35 : decode cX2_isBoard 35 = .ok (.iconst 1, 1) := by decide +kernel
theorem dX2_isBoard_36 : decode cX2_isBoard 36 = .ok (.goto 4, 3) := by decide +kernel
theorem dX2_isBoard_39 : decode cX2_isBoard 39 = .ok (.iconst 0, 1) := by decide +kernel
theorem dX2_isBoard_40 : decode cX2_isBoard 40 = .ok (.ireturn, 1) := by decide +kernel
theorem dX3_init_0 : decode cX3_init 0 = .ok (.aload_n 0, 1) := by decide +kernel
theorem dX3_init_1 : decode cX3_init 1 = .ok (.invokespecial 3, 3) := by decide +kernel
theorem dX3_init_4 : decode cX3_init 4 = .ok (.aload_n 0, 1) := by decide +kernel
theorem dX3_init_5 : decode cX3_init 5 = .ok (.bipush 6, 2) := by decide +kernel
theorem dX3_init_7 : decode cX3_init 7 = .ok (.newarray .int, 2) := by decide +kernel
theorem dX3_init_9 : decode cX3_init 9 = .ok (.putfield 9, 3) := by decide +kernel
theorem dX3_init_12 : decode cX3_init 12 = .ok (.aload_n 0, 1) := by decide +kernel
theorem dX3_init_13 : decode cX3_init 13 = .ok (.bipush 6, 2) := by decide +kernel
theorem dX3_init_15 : decode cX3_init 15 = .ok (.newarray .int, 2) := by decide +kernel
theorem dX3_init_17 : decode cX3_init 17 = .ok (.putfield 15, 3) := by decide +kernel
theorem dX3_init_20 : decode cX3_init 20 = .ok (.return_, 1) := by decide +kernel
theorem dX3_append_0 : decode cX3_append 0 = .ok (.aload_n 0, 1) := by decide +kernel
theorem dX3_append_1 : decode cX3_append 1 = .ok (.getfield 18, 3) := by decide +kernel
theorem dX3_append_4 : decode cX3_append 4 = .ok (.ifCond .lt 12, 3) := by decide +kernel
theorem dX3_append_7 : decode cX3_append 7 = .ok (.aload_n 0, 1) := by decide +kernel
theorem dX3_append_8 : decode cX3_append 8 = .ok (.getfield 18, 3) := by decide +kernel
theorem dX3_append_11 : decode cX3_append 11 = .ok (.bipush 6, 2) := by decide +kernel
theorem dX3_append_13 : decode cX3_append 13 = .ok (.if_icmp .lt 5, 3) := by decide +kernel
theorem dX3_append_16 : decode cX3_append 16 = .ok (.iconst 0, 1) := by decide +kernel
theorem dX3_append_17 : decode cX3_append 17 = .ok (.ireturn, 1) := by decide +kernel
theorem dX3_append_18 : decode cX3_append 18 = .ok (.aload_n 0, 1) := by decide +kernel
theorem dX3_append_19 : decode cX3_append 19 = .ok (.getfield 9, 3) := by decide +kernel
theorem dX3_append_22 : decode cX3_append 22 = .ok (.aload_n 0, 1) := by decide +kernel
theorem dX3_append_23 : decode cX3_append 23 = .ok (.getfield 18, 3) := by decide +kernel
theorem dX3_append_26 : decode cX3_append 26 = .ok (.iload_n 1, 1) := by decide +kernel
theorem dX3_append_27 : decode cX3_append 27 = .ok (.iastore, 1) := by decide +kernel
theorem dX3_append_28 : decode cX3_append 28 = .ok (.aload_n 0, 1) := by decide +kernel
theorem dX3_append_29 : decode cX3_append 29 = .ok (.getfield 15, 3) := by decide +kernel
theorem dX3_append_32 : decode cX3_append 32 = .ok (.aload_n 0, 1) := by decide +kernel
theorem dX3_append_33 : decode cX3_append 33 = .ok (.getfield 18, 3) := by decide +kernel
theorem dX3_append_36 : decode cX3_append 36 = .ok (.iload_n 2, 1) := by decide +kernel
theorem dX3_append_37 : decode cX3_append 37 = .ok (.iastore, 1) := by decide +kernel
theorem dX3_append_38 : decode cX3_append 38 = .ok (.aload_n 0, 1) := by decide +kernel
theorem dX3_append_39 : decode cX3_append 39 = .ok (.dup, 1) := by decide +kernel
theorem dX3_append_40 : decode cX3_append 40 = .ok (.getfield 18, 3) := by decide +kernel
theorem dX3_append_43 : decode cX3_append 43 = .ok (.iconst 1, 1) := by decide +kernel
theorem dX3_append_44 : decode cX3_append 44 = .ok (.iadd, 1) := by decide +kernel
theorem dX3_append_45 : decode cX3_append 45 = .ok (.putfield 18, 3) := by decide +kernel
theorem dX3_append_48 : decode cX3_append 48 = .ok (.iconst 1, 1) := by decide +kernel
theorem dX3_append_49 : decode cX3_append 49 = .ok (.ireturn, 1) := by decide +kernel
theorem dX3_sortsOf_0 : decode cX3_sortsOf 0 = .ok (.bipush 31, 2) := by decide +kernel
theorem dX3_sortsOf_2 : decode cX3_sortsOf 2 = .ok (.istore_n 2, 1) := by decide +kernel
theorem dX3_sortsOf_3 : decode cX3_sortsOf 3 = .ok (.iconst 0, 1) := by decide +kernel
theorem dX3_sortsOf_4 : decode cX3_sortsOf 4 = .ok (.istore_n 3, 1) := by decide +kernel
theorem dX3_sortsOf_5 : decode cX3_sortsOf 5 = .ok (.iload_n 3, 1) := by decide +kernel
theorem dX3_sortsOf_6 : decode cX3_sortsOf 6 = .ok (.aload_n 0, 1) := by decide +kernel
theorem dX3_sortsOf_7 : decode cX3_sortsOf 7 = .ok (.getfield 18, 3) := by decide +kernel
theorem dX3_sortsOf_10 : decode cX3_sortsOf 10 = .ok (.if_icmp .ge 34, 3) := by decide +kernel
theorem dX3_sortsOf_13 : decode cX3_sortsOf 13 = .ok (.iload_n 3, 1) := by decide +kernel
theorem dX3_sortsOf_14 : decode cX3_sortsOf 14 = .ok (.bipush 6, 2) := by decide +kernel
theorem dX3_sortsOf_16 : decode cX3_sortsOf 16 = .ok (.if_icmp .ge 28, 3) := by decide +kernel
theorem dX3_sortsOf_19 : decode cX3_sortsOf 19 = .ok (.aload_n 0, 1) := by decide +kernel
theorem dX3_sortsOf_20 : decode cX3_sortsOf 20 = .ok (.getfield 9, 3) := by decide +kernel
theorem dX3_sortsOf_23 : decode cX3_sortsOf 23 = .ok (.iload_n 3, 1) := by decide +kernel
theorem dX3_sortsOf_24 : decode cX3_sortsOf 24 = .ok (.iaload, 1) := by decide +kernel
theorem dX3_sortsOf_25 : decode cX3_sortsOf 25 = .ok (.iload_n 1, 1) := by decide +kernel
theorem dX3_sortsOf_26 : decode cX3_sortsOf 26 = .ok (.if_icmp .ne 12, 3) := by decide +kernel
theorem dX3_sortsOf_29 : decode cX3_sortsOf 29 = .ok (.iload_n 2, 1) := by decide +kernel
theorem dX3_sortsOf_30 : decode cX3_sortsOf 30 = .ok (.aload_n 0, 1) := by decide +kernel
theorem dX3_sortsOf_31 : decode cX3_sortsOf 31 = .ok (.getfield 15, 3) := by decide +kernel
theorem dX3_sortsOf_34 : decode cX3_sortsOf 34 = .ok (.iload_n 3, 1) := by decide +kernel
theorem dX3_sortsOf_35 : decode cX3_sortsOf 35 = .ok (.iaload, 1) := by decide +kernel
theorem dX3_sortsOf_36 : decode cX3_sortsOf 36 = .ok (.iand, 1) := by decide +kernel
theorem dX3_sortsOf_37 : decode cX3_sortsOf 37 = .ok (.istore_n 2, 1) := by decide +kernel
theorem dX3_sortsOf_38 : decode cX3_sortsOf 38 = .ok (.iinc 3 1, 3) := by decide +kernel
theorem dX3_sortsOf_41 : decode cX3_sortsOf 41 = .ok (.goto (-36), 3) := by decide +kernel
theorem dX3_sortsOf_44 : decode cX3_sortsOf 44 = .ok (.iload_n 2, 1) := by decide +kernel
theorem dX3_sortsOf_45 : decode cX3_sortsOf 45 = .ok (.ireturn, 1) := by decide +kernel
theorem dX3_copyFrom_0 : decode cX3_copyFrom 0 = .ok (.aload_n 0, 1) := by decide +kernel
theorem dX3_copyFrom_1 : decode cX3_copyFrom 1 = .ok (.aload_n 1, 1) := by decide +kernel
theorem dX3_copyFrom_2 : decode cX3_copyFrom 2 = .ok (.getfield 18, 3) := by decide +kernel
theorem dX3_copyFrom_5 : decode cX3_copyFrom 5 = .ok (.putfield 18, 3) := by decide +kernel
theorem dX3_copyFrom_8 : decode cX3_copyFrom 8 = .ok (.iconst 0, 1) := by decide +kernel
theorem dX3_copyFrom_9 : decode cX3_copyFrom 9 = .ok (.istore_n 2, 1) := by decide +kernel
theorem dX3_copyFrom_10 : decode cX3_copyFrom 10 = .ok (.iload_n 2, 1) := by decide +kernel
theorem dX3_copyFrom_11 : decode cX3_copyFrom 11 = .ok (.bipush 6, 2) := by decide +kernel
theorem dX3_copyFrom_13 : decode cX3_copyFrom 13 = .ok (.if_icmp .ge 33, 3) := by decide +kernel
theorem dX3_copyFrom_16 : decode cX3_copyFrom 16 = .ok (.aload_n 0, 1) := by decide +kernel
theorem dX3_copyFrom_17 : decode cX3_copyFrom 17 = .ok (.getfield 9, 3) := by decide +kernel
theorem dX3_copyFrom_20 : decode cX3_copyFrom 20 = .ok (.iload_n 2, 1) := by decide +kernel
theorem dX3_copyFrom_21 : decode cX3_copyFrom 21 = .ok (.aload_n 1, 1) := by decide +kernel
theorem dX3_copyFrom_22 : decode cX3_copyFrom 22 = .ok (.getfield 9, 3) := by decide +kernel
theorem dX3_copyFrom_25 : decode cX3_copyFrom 25 = .ok (.iload_n 2, 1) := by decide +kernel
theorem dX3_copyFrom_26 : decode cX3_copyFrom 26 = .ok (.iaload, 1) := by decide +kernel
theorem dX3_copyFrom_27 : decode cX3_copyFrom 27 = .ok (.iastore, 1) := by decide +kernel
theorem dX3_copyFrom_28 : decode cX3_copyFrom 28 = .ok (.aload_n 0, 1) := by decide +kernel
theorem dX3_copyFrom_29 : decode cX3_copyFrom 29 = .ok (.getfield 15, 3) := by decide +kernel
theorem dX3_copyFrom_32 : decode cX3_copyFrom 32 = .ok (.iload_n 2, 1) := by decide +kernel
theorem dX3_copyFrom_33 : decode cX3_copyFrom 33 = .ok (.aload_n 1, 1) := by decide +kernel
theorem dX3_copyFrom_34 : decode cX3_copyFrom 34 = .ok (.getfield 15, 3) := by decide +kernel
theorem dX3_copyFrom_37 : decode cX3_copyFrom 37 = .ok (.iload_n 2, 1) := by decide +kernel
theorem dX3_copyFrom_38 : decode cX3_copyFrom 38 = .ok (.iaload, 1) := by decide +kernel
theorem dX3_copyFrom_39 : decode cX3_copyFrom 39 = .ok (.iastore, 1) := by decide +kernel
theorem dX3_copyFrom_40 : decode cX3_copyFrom 40 = .ok (.iinc 2 1, 3) := by decide +kernel
theorem dX3_copyFrom_43 : decode cX3_copyFrom 43 = .ok (.goto (-33), 3) := by decide +kernel
theorem dX3_copyFrom_46 : decode cX3_copyFrom 46 = .ok (.return_, 1) := by decide +kernel
theorem dX4_init_0 : decode cX4_init 0 = .ok (.aload_n 0, 1) := by decide +kernel
theorem dX4_init_1 : decode cX4_init 1 = .ok (.invokespecial 3, 3) := by decide +kernel
theorem dX4_init_4 : decode cX4_init 4 = .ok (.aload_n 0, 1) := by decide +kernel
theorem dX4_init_5 : decode cX4_init 5 = .ok (.bipush 8, 2) := by decide +kernel
theorem dX4_init_7 : decode cX4_init 7 = .ok (.newarray .int, 2) := by decide +kernel
theorem dX4_init_9 : decode cX4_init 9 = .ok (.putfield 9, 3) := by decide +kernel
theorem dX4_init_12 : decode cX4_init 12 = .ok (.aload_n 0, 1) := by decide +kernel
theorem dX4_init_13 : decode cX4_init 13 = .ok (.bipush 8, 2) := by decide +kernel
theorem dX4_init_15 : decode cX4_init 15 = .ok (.newarray .int, 2) := by decide +kernel
theorem dX4_init_17 : decode cX4_init 17 = .ok (.putfield 15, 3) := by decide +kernel
theorem dX4_init_20 : decode cX4_init 20 = .ok (.aload_n 0, 1) := by decide +kernel
theorem dX4_init_21 : decode cX4_init 21 = .ok (.bipush 12, 2) := by decide +kernel
theorem dX4_init_23 : decode cX4_init 23 = .ok (.newarray .int, 2) := by decide +kernel
theorem dX4_init_25 : decode cX4_init 25 = .ok (.putfield 18, 3) := by decide +kernel
theorem dX4_init_28 : decode cX4_init 28 = .ok (.aload_n 0, 1) := by decide +kernel
theorem dX4_init_29 : decode cX4_init 29 = .ok (.aload_n 1, 1) := by decide +kernel
theorem dX4_init_30 : decode cX4_init 30 = .ok (.putfield 21, 3) := by decide +kernel
theorem dX4_init_33 : decode cX4_init 33 = .ok (.return_, 1) := by decide +kernel
set_option maxRecDepth 20000 in
theorem ggX4_read_X2_codeAt : GoodIn wsX4_read wsX2_codeAt := goodIn_r _ [11, 12, 13, 52, 53] (by decide +kernel) (by decide +kernel)
set_option maxRecDepth 20000 in
theorem gX4_read_X2_codeAt : GoodIn wsX4_read (wsV RX4 43 RX2 yX2_codeAt wsX2_codeAt) := goodIn_app (goodIn_of _ (by decide +kernel)) ggX4_read_X2_codeAt
set_option maxRecDepth 20000 in
theorem ggX4_read_X2_kindAt : GoodIn wsX4_read wsX2_kindAt := goodIn_r _ [17, 18, 8, 9, 10, 11, 12, 13, 52, 53] (by decide +kernel) (by decide +kernel)
set_option maxRecDepth 20000 in
theorem gX4_read_X2_kindAt : GoodIn wsX4_read (wsV RX4 49 RX2 yX2_kindAt wsX2_kindAt) := goodIn_app (goodIn_of _ (by decide +kernel)) ggX4_read_X2_kindAt
set_option maxRecDepth 20000 in
theorem ggX4_read_X4_addPeg : GoodIn wsX4_read wsX4_addPeg := goodIn_r _ [23, 2, 24, 25, 26, 27, 28, 22, 29, 6, 5, 3, 30, 31, 32, 33, 34, 35, 36, 37, 38, 39, 40, 41, 42, 43, 44, 45, 46, 47, 48, 49, 50, 51] (by decide +kernel) (by decide +kernel)
set_option maxRecDepth 20000 in
theorem gX4_read_X4_addPeg : GoodIn wsX4_read (wsV RX4 52 RX4 yX4_addPeg wsX4_addPeg) := goodIn_app (goodIn_of _ (by decide +kernel)) ggX4_read_X4_addPeg
theorem dX4_read_0 : decode cX4_read 0 = .ok (.aload_n 0, 1) := by decide +kernel
theorem dX4_read_1 : decode cX4_read 1 = .ok (.iconst 0, 1) := by decide +kernel
theorem dX4_read_2 : decode cX4_read 2 = .ok (.putfield 25, 3) := by decide +kernel
theorem dX4_read_5 : decode cX4_read 5 = .ok (.aload_n 0, 1) := by decide +kernel
theorem dX4_read_6 : decode cX4_read 6 = .ok (.iconst 0, 1) := by decide +kernel
theorem dX4_read_7 : decode cX4_read 7 = .ok (.putfield 29, 3) := by decide +kernel
theorem dX4_read_10 : decode cX4_read 10 = .ok (.aload_n 0, 1) := by decide +kernel
theorem dX4_read_11 : decode cX4_read 11 = .ok (.iconst 0, 1) := by decide +kernel
theorem dX4_read_12 : decode cX4_read 12 = .ok (.putfield 32, 3) := by decide +kernel
theorem dX4_read_15 : decode cX4_read 15 = .ok (.aload_n 0, 1) := by decide +kernel
theorem dX4_read_16 : decode cX4_read 16 = .ok (.iconst 0, 1) := by decide +kernel
theorem dX4_read_17 : decode cX4_read 17 = .ok (.putfield 35, 3) := by decide +kernel
theorem dX4_read_20 : decode cX4_read 20 = .ok (.iconst 0, 1) := by decide +kernel
theorem dX4_read_21 : decode cX4_read 21 = .ok (.istore_n 2, 1) := by decide +kernel
theorem dX4_read_22 : decode cX4_read 22 = .ok (.iload_n 2, 1) := by decide +kernel
theorem dX4_read_23 : decode cX4_read 23 = .ok (.bipush 12, 2) := by decide +kernel
theorem dX4_read_25 : decode cX4_read 25 = .ok (.if_icmp .ge 63, 3) := by decide +kernel
theorem dX4_read_28 : decode cX4_read 28 = .ok (.aload_n 0, 1) := by decide +kernel
theorem dX4_read_29 : decode cX4_read 29 = .ok (.getfield 18, 3) := by decide +kernel
theorem dX4_read_32 : decode cX4_read 32 = .ok (.iload_n 2, 1) := by decide +kernel
theorem dX4_read_33 : decode cX4_read 33 = .ok (.iconst (-1), 1) := by decide +kernel
theorem dX4_read_34 : decode cX4_read 34 = .ok (.iastore, 1) := by decide +kernel
theorem dX4_read_35 : decode cX4_read 35 = .ok (.iload_n 2, 1) := by decide +kernel
theorem dX4_read_36 : decode cX4_read 36 = .ok (.aload_n 0, 1) := by decide +kernel
theorem dX4_read_37 : decode cX4_read 37 = .ok (.getfield 21, 3) := by decide +kernel
theorem dX4_read_40 : decode cX4_read 40 = .ok (.getfield 38, 3) := by decide +kernel
theorem dX4_read_43 : decode cX4_read 43 = .ok (.if_icmp .ge 39, 3) := by decide +kernel
theorem dX4_read_46 : decode cX4_read 46 = .ok (.aload_n 1, 1) := by decide +kernel
theorem dX4_read_47 : decode cX4_read 47 = .ok (.iconst 3, 1) := by decide +kernel
theorem dX4_read_48 : decode cX4_read 48 = .ok (.iload_n 2, 1) := by decide +kernel
theorem dX4_read_49 : decode cX4_read 49 = .ok (.iadd, 1) := by decide +kernel
theorem dX4_read_50 : decode cX4_read 50 = .ok (.invokevirtual 43, 3) := by decide +kernel
theorem dX4_read_53 : decode cX4_read 53 = .ok (.bipush 35, 2) := by decide +kernel
theorem dX4_read_55 : decode cX4_read 55 = .ok (.if_icmp .eq 27, 3) := by decide +kernel
theorem dX4_read_58 : decode cX4_read 58 = .ok (.aload_n 0, 1) := by decide +kernel
theorem dX4_read_59 : decode cX4_read 59 = .ok (.dup, 1) := by decide +kernel
theorem dX4_read_60 : decode cX4_read 60 = .ok (.getfield 25, 3) := by decide +kernel
theorem dX4_read_63 : decode cX4_read 63 = .ok (.iconst 1, 1) := by decide +kernel
theorem dX4_read_64 : decode cX4_read 64 = .ok (.iload_n 2, 1) := by decide +kernel
theorem dX4_read_65 : decode cX4_read 65 = .ok (.ishl, 1) := by decide +kernel
theorem dX4_read_66 : decode cX4_read 66 = .ok (.ior, 1) := by decide +kernel
theorem dX4_read_67 : decode cX4_read 67 = .ok (.putfield 25, 3) := by decide +kernel
theorem dX4_read_70 : decode cX4_read 70 = .ok (.aload_n 0, 1) := by decide +kernel
theorem dX4_read_71 : decode cX4_read 71 = .ok (.aload_n 1, 1) := by decide +kernel
theorem dX4_read_72 : decode cX4_read 72 = .ok (.iconst 3, 1) := by decide +kernel
theorem dX4_read_73 : decode cX4_read 73 = .ok (.iload_n 2, 1) := by decide +kernel
theorem dX4_read_74 : decode cX4_read 74 = .ok (.iadd, 1) := by decide +kernel
theorem dX4_read_75 : decode cX4_read 75 = .ok (.invokevirtual 49, 3) := by decide +kernel
theorem dX4_read_78 : decode cX4_read 78 = .ok (.iload_n 2, 1) := by decide +kernel
theorem dX4_read_79 : decode cX4_read 79 = .ok (.invokevirtual 52, 3) := by decide +kernel
theorem dX4_read_82 : decode cX4_read 82 = .ok (.iinc 2 1, 3) := by decide +kernel
theorem dX4_read_85 : decode cX4_read 85 = .ok (.goto (-63), 3) := by decide +kernel
theorem dX4_read_88 : decode cX4_read 88 = .ok (.return_, 1) := by decide +kernel
set_option maxRecDepth 20000 in
theorem ggX4_addPlain_X4_addPeg : GoodIn wsX4_addPlain wsX4_addPeg := goodIn_r _ [5, 6, 7, 8, 9, 10, 11, 4, 12, 13, 14, 15, 16, 17, 18, 19, 20, 21, 22, 23, 24, 25, 26, 27, 28, 29, 30, 31, 32, 33, 34, 35, 36, 37] (by decide +kernel) (by decide +kernel)
set_option maxRecDepth 20000 in
theorem gX4_addPlain_X4_addPeg : GoodIn wsX4_addPlain (wsV RX4 52 RX4 yX4_addPeg wsX4_addPeg) := goodIn_app (goodIn_of _ (by decide +kernel)) ggX4_addPlain_X4_addPeg
theorem dX4_addPlain_0 : decode cX4_addPlain 0 = .ok (.aload_n 0, 1) := by decide +kernel
theorem dX4_addPlain_1 : decode cX4_addPlain 1 = .ok (.iconst 0, 1) := by decide +kernel
theorem dX4_addPlain_2 : decode cX4_addPlain 2 = .ok (.iload_n 1, 1) := by decide +kernel
theorem dX4_addPlain_3 : decode cX4_addPlain 3 = .ok (.invokevirtual 52, 3) := by decide +kernel
theorem dX4_addPlain_6 : decode cX4_addPlain 6 = .ok (.return_, 1) := by decide +kernel
set_option maxRecDepth 20000 in
theorem ggX4_addPeg_X4_set : GoodIn wsX4_addPeg wsX4_set := goodIn_r _ [8, 9, 3, 10, 11, 12, 13, 14, 7, 15, 1, 16, 17, 18, 19, 20, 21, 22, 23, 24, 25, 26, 27, 28, 29, 30, 31, 32, 33] (by decide +kernel) (by decide +kernel)
set_option maxRecDepth 20000 in
theorem gX4_addPeg_X4_set : GoodIn wsX4_addPeg (wsV RX4 56 RX4 yX4_set wsX4_set) := goodIn_app (goodIn_of _ (by decide +kernel)) ggX4_addPeg_X4_set
theorem dX4_addPeg_0 : decode cX4_addPeg 0 = .ok (.iload_n 1, 1) := by decide +kernel
theorem dX4_addPeg_1 : decode cX4_addPeg 1 = .ok (.iconst (-1), 1) := by decide +kernel
theorem dX4_addPeg_2 : decode cX4_addPeg 2 = .ok (.if_icmp .eq 22, 3) := by decide +kernel
theorem dX4_addPeg_5 : decode cX4_addPeg 5 = .ok (.aload_n 0, 1) := by decide +kernel
theorem dX4_addPeg_6 : decode cX4_addPeg 6 = .ok (.getfield 29, 3) := by decide +kernel
theorem dX4_addPeg_9 : decode cX4_addPeg 9 = .ok (.ifCond .lt 15, 3) := by decide +kernel
theorem dX4_addPeg_12 : decode cX4_addPeg 12 = .ok (.aload_n 0, 1) := by decide +kernel
theorem dX4_addPeg_13 : decode cX4_addPeg 13 = .ok (.getfield 29, 3) := by decide +kernel
theorem dX4_addPeg_16 : decode cX4_addPeg 16 = .ok (.aload_n 0, 1) := by decide +kernel
theorem dX4_addPeg_17 : decode cX4_addPeg 17 = .ok (.getfield 9, 3) := by decide +kernel
theorem dX4_addPeg_20 : decode cX4_addPeg 20 = .ok (.arraylength, 1) := by decide +kernel
theorem dX4_addPeg_21 : decode cX4_addPeg 21 = .ok (.if_icmp .lt 4, 3) := by decide +kernel
theorem dX4_addPeg_24 : decode cX4_addPeg 24 = .ok (.return_, 1) := by decide +kernel
theorem dX4_addPeg_25 : decode cX4_addPeg 25 = .ok (.aload_n 0, 1) := by decide +kernel
theorem dX4_addPeg_26 : decode cX4_addPeg 26 = .ok (.getfield 29, 3) := by decide +kernel
theorem dX4_addPeg_29 : decode cX4_addPeg 29 = .ok (.istore_n 3, 1) := by decide +kernel
theorem dX4_addPeg_30 : decode cX4_addPeg 30 = .ok (.aload_n 0, 1) := by decide +kernel
theorem dX4_addPeg_31 : decode cX4_addPeg 31 = .ok (.dup, 1) := by decide +kernel
theorem dX4_addPeg_32 : decode cX4_addPeg 32 = .ok (.getfield 29, 3) := by decide +kernel
theorem dX4_addPeg_35 : decode cX4_addPeg 35 = .ok (.iconst 1, 1) := by decide +kernel
theorem dX4_addPeg_36 : decode cX4_addPeg 36 = .ok (.iadd, 1) := by decide +kernel
theorem dX4_addPeg_37 : decode cX4_addPeg 37 = .ok (.putfield 29, 3) := by decide +kernel
theorem dX4_addPeg_40 : decode cX4_addPeg 40 = .ok (.aload_n 0, 1) := by decide +kernel
theorem dX4_addPeg_41 : decode cX4_addPeg 41 = .ok (.getfield 9, 3) := by decide +kernel
theorem dX4_addPeg_44 : decode cX4_addPeg 44 = .ok (.iload_n 3, 1) := by decide +kernel
theorem dX4_addPeg_45 : decode cX4_addPeg 45 = .ok (.iload_n 1, 1) := by decide +kernel
theorem dX4_addPeg_46 : decode cX4_addPeg 46 = .ok (.iastore, 1) := by decide +kernel
theorem dX4_addPeg_47 : decode cX4_addPeg 47 = .ok (.aload_n 0, 1) := by decide +kernel
theorem dX4_addPeg_48 : decode cX4_addPeg 48 = .ok (.getfield 15, 3) := by decide +kernel
theorem dX4_addPeg_51 : decode cX4_addPeg 51 = .ok (.iload_n 3, 1) := by decide +kernel
theorem dX4_addPeg_52 : decode cX4_addPeg 52 = .ok (.iconst (-1), 1) := by decide +kernel
theorem dX4_addPeg_53 : decode cX4_addPeg 53 = .ok (.iastore, 1) := by decide +kernel
theorem dX4_addPeg_54 : decode cX4_addPeg 54 = .ok (.aload_n 0, 1) := by decide +kernel
theorem dX4_addPeg_55 : decode cX4_addPeg 55 = .ok (.iload_n 3, 1) := by decide +kernel
theorem dX4_addPeg_56 : decode cX4_addPeg 56 = .ok (.iload_n 2, 1) := by decide +kernel
theorem dX4_addPeg_57 : decode cX4_addPeg 57 = .ok (.invokevirtual 56, 3) := by decide +kernel
theorem dX4_addPeg_60 : decode cX4_addPeg 60 = .ok (.return_, 1) := by decide +kernel
theorem dX4_copyFrom_0 : decode cX4_copyFrom 0 = .ok (.aload_n 0, 1) := by decide +kernel
theorem dX4_copyFrom_1 : decode cX4_copyFrom 1 = .ok (.aload_n 1, 1) := by decide +kernel
theorem dX4_copyFrom_2 : decode cX4_copyFrom 2 = .ok (.getfield 25, 3) := by decide +kernel
theorem dX4_copyFrom_5 : decode cX4_copyFrom 5 = .ok (.putfield 25, 3) := by decide +kernel
theorem dX4_copyFrom_8 : decode cX4_copyFrom 8 = .ok (.aload_n 0, 1) := by decide +kernel
theorem dX4_copyFrom_9 : decode cX4_copyFrom 9 = .ok (.aload_n 1, 1) := by decide +kernel
theorem dX4_copyFrom_10 : decode cX4_copyFrom 10 = .ok (.getfield 29, 3) := by decide +kernel
theorem dX4_copyFrom_13 : decode cX4_copyFrom 13 = .ok (.putfield 29, 3) := by decide +kernel
theorem dX4_copyFrom_16 : decode cX4_copyFrom 16 = .ok (.aload_n 0, 1) := by decide +kernel
theorem dX4_copyFrom_17 : decode cX4_copyFrom 17 = .ok (.aload_n 1, 1) := by decide +kernel
theorem dX4_copyFrom_18 : decode cX4_copyFrom 18 = .ok (.getfield 32, 3) := by decide +kernel
theorem dX4_copyFrom_21 : decode cX4_copyFrom 21 = .ok (.putfield 32, 3) := by decide +kernel
theorem dX4_copyFrom_24 : decode cX4_copyFrom 24 = .ok (.aload_n 0, 1) := by decide +kernel
theorem dX4_copyFrom_25 : decode cX4_copyFrom 25 = .ok (.aload_n 1, 1) := by decide +kernel
theorem dX4_copyFrom_26 : decode cX4_copyFrom 26 = .ok (.getfield 35, 3) := by decide +kernel
theorem dX4_copyFrom_29 : decode cX4_copyFrom 29 = .ok (.putfield 35, 3) := by decide +kernel
theorem dX4_copyFrom_32 : decode cX4_copyFrom 32 = .ok (.iconst 0, 1) := by decide +kernel
theorem dX4_copyFrom_33 : decode cX4_copyFrom 33 = .ok (.istore_n 2, 1) := by decide +kernel
theorem dX4_copyFrom_34 : decode cX4_copyFrom 34 = .ok (.iload_n 2, 1) := by decide +kernel
theorem dX4_copyFrom_35 : decode cX4_copyFrom 35 = .ok (.bipush 8, 2) := by decide +kernel
theorem dX4_copyFrom_37 : decode cX4_copyFrom 37 = .ok (.if_icmp .ge 33, 3) := by decide +kernel
theorem dX4_copyFrom_40 : decode cX4_copyFrom 40 = .ok (.aload_n 0, 1) := by decide +kernel
theorem dX4_copyFrom_41 : decode cX4_copyFrom 41 = .ok (.getfield 9, 3) := by decide +kernel
theorem dX4_copyFrom_44 : decode cX4_copyFrom 44 = .ok (.iload_n 2, 1) := by decide +kernel
theorem dX4_copyFrom_45 : decode cX4_copyFrom 45 = .ok (.aload_n 1, 1) := by decide +kernel
theorem dX4_copyFrom_46 : decode cX4_copyFrom 46 = .ok (.getfield 9, 3) := by decide +kernel
theorem dX4_copyFrom_49 : decode cX4_copyFrom 49 = .ok (.iload_n 2, 1) := by decide +kernel
theorem dX4_copyFrom_50 : decode cX4_copyFrom 50 = .ok (.iaload, 1) := by decide +kernel
theorem dX4_copyFrom_51 : decode cX4_copyFrom 51 = .ok (.iastore, 1) := by decide +kernel
theorem dX4_copyFrom_52 : decode cX4_copyFrom 52 = .ok (.aload_n 0, 1) := by decide +kernel
theorem dX4_copyFrom_53 : decode cX4_copyFrom 53 = .ok (.getfield 15, 3) := by decide +kernel
theorem dX4_copyFrom_56 : decode cX4_copyFrom 56 = .ok (.iload_n 2, 1) := by decide +kernel
theorem dX4_copyFrom_57 : decode cX4_copyFrom 57 = .ok (.aload_n 1, 1) := by decide +kernel
theorem dX4_copyFrom_58 : decode cX4_copyFrom 58 = .ok (.getfield 15, 3) := by decide +kernel
theorem dX4_copyFrom_61 : decode cX4_copyFrom 61 = .ok (.iload_n 2, 1) := by decide +kernel
theorem dX4_copyFrom_62 : decode cX4_copyFrom 62 = .ok (.iaload, 1) := by decide +kernel
theorem dX4_copyFrom_63 : decode cX4_copyFrom 63 = .ok (.iastore, 1) := by decide +kernel
theorem dX4_copyFrom_64 : decode cX4_copyFrom 64 = .ok (.iinc 2 1, 3) := by decide +kernel
theorem dX4_copyFrom_67 : decode cX4_copyFrom 67 = .ok (.goto (-33), 3) := by decide +kernel
theorem dX4_copyFrom_70 : decode cX4_copyFrom 70 = .ok (.iconst 0, 1) := by decide +kernel
theorem dX4_copyFrom_71 : decode cX4_copyFrom 71 = .ok (.istore_n 2, 1) := by decide +kernel
theorem dX4_copyFrom_72 : decode cX4_copyFrom 72 = .ok (.iload_n 2, 1) := by decide +kernel
theorem dX4_copyFrom_73 : decode cX4_copyFrom 73 = .ok (.bipush 12, 2) := by decide +kernel
theorem dX4_copyFrom_75 : decode cX4_copyFrom 75 = .ok (.if_icmp .ge 21, 3) := by decide +kernel
theorem dX4_copyFrom_78 : decode cX4_copyFrom 78 = .ok (.aload_n 0, 1) := by decide +kernel
theorem dX4_copyFrom_79 : decode cX4_copyFrom 79 = .ok (.getfield 18, 3) := by decide +kernel
theorem dX4_copyFrom_82 : decode cX4_copyFrom 82 = .ok (.iload_n 2, 1) := by decide +kernel
theorem dX4_copyFrom_83 : decode cX4_copyFrom 83 = .ok (.aload_n 1, 1) := by decide +kernel
theorem dX4_copyFrom_84 : decode cX4_copyFrom 84 = .ok (.getfield 18, 3) := by decide +kernel
theorem dX4_copyFrom_87 : decode cX4_copyFrom 87 = .ok (.iload_n 2, 1) := by decide +kernel
theorem dX4_copyFrom_88 : decode cX4_copyFrom 88 = .ok (.iaload, 1) := by decide +kernel
theorem dX4_copyFrom_89 : decode cX4_copyFrom 89 = .ok (.iastore, 1) := by decide +kernel
theorem dX4_copyFrom_90 : decode cX4_copyFrom 90 = .ok (.iinc 2 1, 3) := by decide +kernel
theorem dX4_copyFrom_93 : decode cX4_copyFrom 93 = .ok (.goto (-21), 3) := by decide +kernel
theorem dX4_copyFrom_96 : decode cX4_copyFrom 96 = .ok (.return_, 1) := by decide +kernel
theorem dX4_isPeg_0 : decode cX4_isPeg 0 = .ok (.iload_n 1, 1) := by decide +kernel
theorem dX4_isPeg_1 : decode cX4_isPeg 1 = .ok (.ifCond .lt 21, 3) := by decide +kernel
theorem dX4_isPeg_4 : decode cX4_isPeg 4 = .ok (.iload_n 1, 1) := by decide +kernel
theorem dX4_isPeg_5 : decode cX4_isPeg 5 = .ok (.bipush 8, 2) := by decide +kernel
theorem dX4_isPeg_7 : decode cX4_isPeg 7 = .ok (.if_icmp .ge 15, 3) := by decide +kernel
theorem dX4_isPeg_10 : decode cX4_isPeg 10 = .ok (.iload_n 1, 1) := by decide +kernel
theorem dX4_isPeg_11 : decode cX4_isPeg 11 = .ok (.aload_n 0, 1) := by decide +kernel
theorem dX4_isPeg_12 : decode cX4_isPeg 12 = .ok (.getfield 29, 3) := by decide +kernel
theorem dX4_isPeg_15 : decode cX4_isPeg 15 = .ok (.if_icmp .ge 7, 3) := by decide +kernel
theorem dX4_isPeg_18 : decode cX4_isPeg 18 = .ok (.iconst 1, 1) := by decide +kernel
theorem dX4_isPeg_19 : decode cX4_isPeg 19 = .ok (.goto 4, 3) := by decide +kernel
theorem dX4_isPeg_22 : decode cX4_isPeg 22 = .ok (.iconst 0, 1) := by decide +kernel
theorem dX4_isPeg_23 : decode cX4_isPeg 23 = .ok (.ireturn, 1) := by decide +kernel
set_option maxRecDepth 20000 in
theorem ggX4_kindOf_X4_isPeg : GoodIn wsX4_kindOf wsX4_isPeg := goodIn_r _ [6, 7, 8, 9, 10, 11, 12, 13, 14, 15] (by decide +kernel) (by decide +kernel)
set_option maxRecDepth 20000 in
theorem gX4_kindOf_X4_isPeg : GoodIn wsX4_kindOf (wsV RX4 59 RX4 yX4_isPeg wsX4_isPeg) := goodIn_app (goodIn_of _ (by decide +kernel)) ggX4_kindOf_X4_isPeg
theorem dX4_kindOf_0 : decode cX4_kindOf 0 = .ok (.aload_n 0, 1) := by decide +kernel
theorem dX4_kindOf_1 : decode cX4_kindOf 1 = .ok (.iload_n 1, 1) := by decide +kernel
theorem dX4_kindOf_2 : decode cX4_kindOf 2 = .ok (.invokevirtual 59, 3) := by decide +kernel
theorem dX4_kindOf_5 : decode cX4_kindOf 5 = .ok (.ifCond .eq 12, 3) := by decide +kernel
theorem dX4_kindOf_8 : decode cX4_kindOf 8 = .ok (.aload_n 0, 1) := by decide +kernel
theorem dX4_kindOf_9 : decode cX4_kindOf 9 = .ok (.getfield 9, 3) := by decide +kernel
theorem dX4_kindOf_12 : decode cX4_kindOf 12 = .ok (.iload_n 1, 1) := by decide +kernel
theorem dX4_kindOf_13 : decode cX4_kindOf 13 = .ok (.iaload, 1) := by decide +kernel
theorem dX4_kindOf_14 : decode cX4_kindOf 14 = .ok (.goto 4, 3) := by decide +kernel
theorem dX4_kindOf_17 : decode cX4_kindOf 17 = .ok (.iconst (-1), 1) := by decide +kernel
theorem dX4_kindOf_18 : decode cX4_kindOf 18 = .ok (.ireturn, 1) := by decide +kernel
set_option maxRecDepth 20000 in
theorem ggX4_homeOf_X4_isPeg : GoodIn wsX4_homeOf wsX4_isPeg := goodIn_r _ [6, 7, 8, 9, 10, 11, 12, 13, 14, 15] (by decide +kernel) (by decide +kernel)
set_option maxRecDepth 20000 in
theorem gX4_homeOf_X4_isPeg : GoodIn wsX4_homeOf (wsV RX4 59 RX4 yX4_isPeg wsX4_isPeg) := goodIn_app (goodIn_of _ (by decide +kernel)) ggX4_homeOf_X4_isPeg
theorem dX4_homeOf_0 : decode cX4_homeOf 0 = .ok (.aload_n 0, 1) := by decide +kernel
theorem dX4_homeOf_1 : decode cX4_homeOf 1 = .ok (.iload_n 1, 1) := by decide +kernel
theorem dX4_homeOf_2 : decode cX4_homeOf 2 = .ok (.invokevirtual 59, 3) := by decide +kernel
theorem dX4_homeOf_5 : decode cX4_homeOf 5 = .ok (.ifCond .eq 12, 3) := by decide +kernel
theorem dX4_homeOf_8 : decode cX4_homeOf 8 = .ok (.aload_n 0, 1) := by decide +kernel
theorem dX4_homeOf_9 : decode cX4_homeOf 9 = .ok (.getfield 15, 3) := by decide +kernel
theorem dX4_homeOf_12 : decode cX4_homeOf 12 = .ok (.iload_n 1, 1) := by decide +kernel
theorem dX4_homeOf_13 : decode cX4_homeOf 13 = .ok (.iaload, 1) := by decide +kernel
theorem dX4_homeOf_14 : decode cX4_homeOf 14 = .ok (.goto 4, 3) := by decide +kernel
theorem dX4_homeOf_17 : decode cX4_homeOf 17 = .ok (.iconst (-1), 1) := by decide +kernel
theorem dX4_homeOf_18 : decode cX4_homeOf 18 = .ok (.ireturn, 1) := by decide +kernel
set_option maxRecDepth 20000 in
theorem ggX4_turn_X4_isPeg : GoodIn wsX4_turn wsX4_isPeg := goodIn_r _ [6, 7, 8, 9, 10, 11, 12, 13, 14, 15] (by decide +kernel) (by decide +kernel)
set_option maxRecDepth 20000 in
theorem gX4_turn_X4_isPeg : GoodIn wsX4_turn (wsV RX4 59 RX4 yX4_isPeg wsX4_isPeg) := goodIn_app (goodIn_of _ (by decide +kernel)) ggX4_turn_X4_isPeg
theorem dX4_turn_0 : decode cX4_turn 0 = .ok (.aload_n 0, 1) := by decide +kernel
theorem dX4_turn_1 : decode cX4_turn 1 = .ok (.iload_n 1, 1) := by decide +kernel
theorem dX4_turn_2 : decode cX4_turn 2 = .ok (.invokevirtual 59, 3) := by decide +kernel
theorem dX4_turn_5 : decode cX4_turn 5 = .ok (.ifCond .eq 10, 3) := by decide +kernel
theorem dX4_turn_8 : decode cX4_turn 8 = .ok (.aload_n 0, 1) := by decide +kernel
theorem dX4_turn_9 : decode cX4_turn 9 = .ok (.getfield 9, 3) := by decide +kernel
theorem dX4_turn_12 : decode cX4_turn 12 = .ok (.iload_n 1, 1) := by decide +kernel
theorem dX4_turn_13 : decode cX4_turn 13 = .ok (.iload_n 2, 1) := by decide +kernel
theorem dX4_turn_14 : decode cX4_turn 14 = .ok (.iastore, 1) := by decide +kernel
theorem dX4_turn_15 : decode cX4_turn 15 = .ok (.return_, 1) := by decide +kernel
set_option maxRecDepth 20000 in
theorem ggX4_isHole_X0_has : GoodIn wsX4_isHole wsX0_has := goodIn_r _ [7, 8, 20, 21, 22, 23] (by decide +kernel) (by decide +kernel)
set_option maxRecDepth 20000 in
theorem gX4_isHole_X0_has : GoodIn wsX4_isHole (wsV RX4 63 RX0 yX0_has wsX0_has) := goodIn_app (goodIn_of _ (by decide +kernel)) ggX4_isHole_X0_has
set_option maxRecDepth 20000 in
theorem ggX4_isHole_X5_hasBit : GoodIn wsX4_isHole wsX5_hasBit := goodIn_r _ [11] (by decide +kernel) (by decide +kernel)
set_option maxRecDepth 20000 in
theorem gX4_isHole_X5_hasBit_n66 : GoodIn wsX4_isHole (wsX5_hasBit) := ggX4_isHole_X5_hasBit
theorem dX4_isHole_0 : decode cX4_isHole 0 = .ok (.aload_n 0, 1) := by decide +kernel
theorem dX4_isHole_1 : decode cX4_isHole 1 = .ok (.getfield 21, 3) := by decide +kernel
theorem dX4_isHole_4 : decode cX4_isHole 4 = .ok (.iload_n 1, 1) := by decide +kernel
theorem dX4_isHole_5 : decode cX4_isHole 5 = .ok (.invokevirtual 63, 3) := by decide +kernel
theorem dX4_isHole_8 : decode cX4_isHole 8 = .ok (.ifCond .eq 18, 3) := by decide +kernel
theorem dX4_isHole_11 : decode cX4_isHole 11 = .ok (.aload_n 0, 1) := by decide +kernel
theorem dX4_isHole_12 : decode cX4_isHole 12 = .ok (.getfield 25, 3) := by decide +kernel
theorem dX4_isHole_15 : decode cX4_isHole 15 = .ok (.iload_n 1, 1) := by decide +kernel
theorem dX4_isHole_16 : decode cX4_isHole 16 = .ok (.invokestatic 66, 3) := by decide +kernel
theorem dX4_isHole_19 : decode cX4_isHole 19 = .ok (.ifCond .eq 7, 3) := by decide +kernel
theorem dX4_isHole_22 : decode cX4_isHole 22 = .ok (.iconst 1, 1) := by decide +kernel
theorem dX4_isHole_23 : decode cX4_isHole 23 = .ok (.goto 4, 3) := by decide +kernel
theorem dX4_isHole_26 : decode cX4_isHole 26 = .ok (.iconst 0, 1) := by decide +kernel
theorem dX4_isHole_27 : decode cX4_isHole 27 = .ok (.ireturn, 1) := by decide +kernel
set_option maxRecDepth 20000 in
theorem ggX4_pegIn_X0_has : GoodIn wsX4_pegIn wsX0_has := goodIn_r _ [7, 8, 17, 18, 19, 20] (by decide +kernel) (by decide +kernel)
set_option maxRecDepth 20000 in
theorem gX4_pegIn_X0_has : GoodIn wsX4_pegIn (wsV RX4 63 RX0 yX0_has wsX0_has) := goodIn_app (goodIn_of _ (by decide +kernel)) ggX4_pegIn_X0_has
theorem dX4_pegIn_0 : decode cX4_pegIn 0 = .ok (.aload_n 0, 1) := by decide +kernel
theorem dX4_pegIn_1 : decode cX4_pegIn 1 = .ok (.getfield 21, 3) := by decide +kernel
theorem dX4_pegIn_4 : decode cX4_pegIn 4 = .ok (.iload_n 1, 1) := by decide +kernel
theorem dX4_pegIn_5 : decode cX4_pegIn 5 = .ok (.invokevirtual 63, 3) := by decide +kernel
theorem dX4_pegIn_8 : decode cX4_pegIn 8 = .ok (.ifCond .eq 12, 3) := by decide +kernel
theorem dX4_pegIn_11 : decode cX4_pegIn 11 = .ok (.aload_n 0, 1) := by decide +kernel
theorem dX4_pegIn_12 : decode cX4_pegIn 12 = .ok (.getfield 18, 3) := by decide +kernel
theorem dX4_pegIn_15 : decode cX4_pegIn 15 = .ok (.iload_n 1, 1) := by decide +kernel
theorem dX4_pegIn_16 : decode cX4_pegIn 16 = .ok (.iaload, 1) := by decide +kernel
theorem dX4_pegIn_17 : decode cX4_pegIn 17 = .ok (.goto 4, 3) := by decide +kernel
theorem dX4_pegIn_20 : decode cX4_pegIn 20 = .ok (.iconst (-1), 1) := by decide +kernel
theorem dX4_pegIn_21 : decode cX4_pegIn 21 = .ok (.ireturn, 1) := by decide +kernel
set_option maxRecDepth 20000 in
theorem ggX4_isEmptyHole_X0_has : GoodIn wsX4_isEmptyHole wsX0_has := goodIn_r _ [8, 9, 21, 22, 23, 24] (by decide +kernel) (by decide +kernel)
set_option maxRecDepth 20000 in
theorem gX4_isEmptyHole_X0_has : GoodIn wsX4_isEmptyHole (wsV RX4 63 RX0 yX0_has wsX0_has) := goodIn_app (goodIn_of _ (by decide +kernel)) ggX4_isEmptyHole_X0_has
set_option maxRecDepth 20000 in
theorem ggX4_isEmptyHole_X5_hasBit : GoodIn wsX4_isEmptyHole wsX5_hasBit := goodIn_r _ [12] (by decide +kernel) (by decide +kernel)
set_option maxRecDepth 20000 in
theorem gX4_isEmptyHole_X5_hasBit_n66 : GoodIn wsX4_isEmptyHole (wsX5_hasBit) := ggX4_isEmptyHole_X5_hasBit
theorem dX4_isEmptyHole_0 : decode cX4_isEmptyHole 0 = .ok (.aload_n 0, 1) := by decide +kernel
theorem dX4_isEmptyHole_1 : decode cX4_isEmptyHole 1 = .ok (.getfield 21, 3) := by decide +kernel
theorem dX4_isEmptyHole_4 : decode cX4_isEmptyHole 4 = .ok (.iload_n 1, 1) := by decide +kernel
theorem dX4_isEmptyHole_5 : decode cX4_isEmptyHole 5 = .ok (.invokevirtual 63, 3) := by decide +kernel
theorem dX4_isEmptyHole_8 : decode cX4_isEmptyHole 8 = .ok (.ifCond .eq 28, 3) := by decide +kernel
theorem dX4_isEmptyHole_11 : decode cX4_isEmptyHole 11 = .ok (.aload_n 0, 1) := by decide +kernel
theorem dX4_isEmptyHole_12 : decode cX4_isEmptyHole 12 = .ok (.getfield 25, 3) := by decide +kernel
theorem dX4_isEmptyHole_15 : decode cX4_isEmptyHole 15 = .ok (.iload_n 1, 1) := by decide +kernel
theorem dX4_isEmptyHole_16 : decode cX4_isEmptyHole 16 = .ok (.invokestatic 66, 3) := by decide +kernel
theorem dX4_isEmptyHole_19 : decode cX4_isEmptyHole 19 = .ok (.ifCond .eq 17, 3) := by decide +kernel
theorem dX4_isEmptyHole_22 : decode cX4_isEmptyHole 22 = .ok (.aload_n 0, 1) := by decide +kernel
theorem dX4_isEmptyHole_23 : decode cX4_isEmptyHole 23 = .ok (.getfield 18, 3) := by decide +kernel
theorem dX4_isEmptyHole_26 : decode cX4_isEmptyHole 26 = .ok (.iload_n 1, 1) := by decide +kernel
theorem dX4_isEmptyHole_27 : decode cX4_isEmptyHole 27 = .ok (.iaload, 1) := by decide +kernel
theorem dX4_isEmptyHole_28 : decode cX4_isEmptyHole 28 = .ok (.iconst (-1), 1) := by decide +kernel
theorem dX4_isEmptyHole_29 : decode cX4_isEmptyHole 29 = .ok (.if_icmp .ne 7, 3) := by decide +kernel
theorem dX4_isEmptyHole_32 : decode cX4_isEmptyHole 32 = .ok (.iconst 1, 1) := by decide +kernel
theorem dX4_isEmptyHole_33 : decode cX4_isEmptyHole 33 = .ok (.goto 4, 3) := by decide +kernel
theorem dX4_isEmptyHole_36 : decode cX4_isEmptyHole 36 = .ok (.iconst 0, 1) := by decide +kernel
theorem dX4_isEmptyHole_37 : decode cX4_isEmptyHole 37 = .ok (.ireturn, 1) := by decide +kernel
set_option maxRecDepth 20000 in
theorem ggX4_set_X4_isPeg : GoodIn wsX4_set wsX4_isPeg := goodIn_r _ [9, 10, 17, 18, 19, 20, 21, 22, 23, 24] (by decide +kernel) (by decide +kernel)
set_option maxRecDepth 20000 in
theorem gX4_set_X4_isPeg : GoodIn wsX4_set (wsV RX4 59 RX4 yX4_isPeg wsX4_isPeg) := goodIn_app (goodIn_of _ (by decide +kernel)) ggX4_set_X4_isPeg
set_option maxRecDepth 20000 in
theorem ggX4_set_X0_has : GoodIn wsX4_set wsX0_has := goodIn_r _ [15, 16, 25, 26, 27, 28] (by decide +kernel) (by decide +kernel)
set_option maxRecDepth 20000 in
theorem gX4_set_X0_has : GoodIn wsX4_set (wsV RX4 63 RX0 yX0_has wsX0_has) := goodIn_app (goodIn_of _ (by decide +kernel)) ggX4_set_X0_has
theorem dX4_set_0 : decode cX4_set 0 = .ok (.aload_n 0, 1) := by decide +kernel
theorem dX4_set_1 : decode cX4_set 1 = .ok (.iload_n 1, 1) := by decide +kernel
theorem dX4_set_2 : decode cX4_set 2 = .ok (.invokevirtual 59, 3) := by decide +kernel
theorem dX4_set_5 : decode cX4_set 5 = .ok (.ifCond .eq 38, 3) := by decide +kernel
theorem dX4_set_8 : decode cX4_set 8 = .ok (.aload_n 0, 1) := by decide +kernel
theorem dX4_set_9 : decode cX4_set 9 = .ok (.getfield 21, 3) := by decide +kernel
theorem dX4_set_12 : decode cX4_set 12 = .ok (.iload_n 2, 1) := by decide +kernel
theorem dX4_set_13 : decode cX4_set 13 = .ok (.invokevirtual 63, 3) := by decide +kernel
theorem dX4_set_16 : decode cX4_set 16 = .ok (.ifCond .eq 27, 3) := by decide +kernel
theorem dX4_set_19 : decode cX4_set 19 = .ok (.aload_n 0, 1) := by decide +kernel
theorem dX4_set_20 : decode cX4_set 20 = .ok (.getfield 15, 3) := by decide +kernel
theorem dX4_set_23 : decode cX4_set 23 = .ok (.iload_n 1, 1) := by decide +kernel
theorem dX4_set_24 : decode cX4_set 24 = .ok (.iload_n 2, 1) := by decide +kernel
theorem dX4_set_25 : decode cX4_set 25 = .ok (.iastore, 1) := by decide +kernel
theorem dX4_set_26 : decode cX4_set 26 = .ok (.aload_n 0, 1) := by decide +kernel
theorem dX4_set_27 : decode cX4_set 27 = .ok (.getfield 18, 3) := by decide +kernel
theorem dX4_set_30 : decode cX4_set 30 = .ok (.iload_n 2, 1) := by decide +kernel
theorem dX4_set_31 : decode cX4_set 31 = .ok (.iload_n 1, 1) := by decide +kernel
theorem dX4_set_32 : decode cX4_set 32 = .ok (.iastore, 1) := by decide +kernel
theorem dX4_set_33 : decode cX4_set 33 = .ok (.aload_n 0, 1) := by decide +kernel
theorem dX4_set_34 : decode cX4_set 34 = .ok (.dup, 1) := by decide +kernel
theorem dX4_set_35 : decode cX4_set 35 = .ok (.getfield 32, 3) := by decide +kernel
theorem dX4_set_38 : decode cX4_set 38 = .ok (.iconst 1, 1) := by decide +kernel
theorem dX4_set_39 : decode cX4_set 39 = .ok (.iadd, 1) := by decide +kernel
theorem dX4_set_40 : decode cX4_set 40 = .ok (.putfield 32, 3) := by decide +kernel
theorem dX4_set_43 : decode cX4_set 43 = .ok (.return_, 1) := by decide +kernel
set_option maxRecDepth 20000 in
theorem ggX4_lift_X4_isPeg : GoodIn wsX4_lift wsX4_isPeg := goodIn_r _ [9, 10, 17, 18, 19, 20, 21, 22, 23, 24] (by decide +kernel) (by decide +kernel)
set_option maxRecDepth 20000 in
theorem gX4_lift_X4_isPeg : GoodIn wsX4_lift (wsV RX4 59 RX4 yX4_isPeg wsX4_isPeg) := goodIn_app (goodIn_of _ (by decide +kernel)) ggX4_lift_X4_isPeg
set_option maxRecDepth 20000 in
theorem ggX4_lift_X0_has : GoodIn wsX4_lift wsX0_has := goodIn_r _ [15, 16, 25, 26, 27, 28] (by decide +kernel) (by decide +kernel)
set_option maxRecDepth 20000 in
theorem gX4_lift_X0_has : GoodIn wsX4_lift (wsV RX4 63 RX0 yX0_has wsX0_has) := goodIn_app (goodIn_of _ (by decide +kernel)) ggX4_lift_X0_has
theorem dX4_lift_0 : decode cX4_lift 0 = .ok (.aload_n 0, 1) := by decide +kernel
theorem dX4_lift_1 : decode cX4_lift 1 = .ok (.iload_n 1, 1) := by decide +kernel
theorem dX4_lift_2 : decode cX4_lift 2 = .ok (.invokevirtual 59, 3) := by decide +kernel
theorem dX4_lift_5 : decode cX4_lift 5 = .ok (.ifCond .eq 48, 3) := by decide +kernel
theorem dX4_lift_8 : decode cX4_lift 8 = .ok (.aload_n 0, 1) := by decide +kernel
theorem dX4_lift_9 : decode cX4_lift 9 = .ok (.getfield 21, 3) := by decide +kernel
theorem dX4_lift_12 : decode cX4_lift 12 = .ok (.aload_n 0, 1) := by decide +kernel
theorem dX4_lift_13 : decode cX4_lift 13 = .ok (.getfield 15, 3) := by decide +kernel
theorem dX4_lift_16 : decode cX4_lift 16 = .ok (.iload_n 1, 1) := by decide +kernel
theorem dX4_lift_17 : decode cX4_lift 17 = .ok (.iaload, 1) := by decide +kernel
theorem dX4_lift_18 : decode cX4_lift 18 = .ok (.invokevirtual 63, 3) := by decide +kernel
theorem dX4_lift_21 : decode cX4_lift 21 = .ok (.ifCond .eq 32, 3) := by decide +kernel
theorem dX4_lift_24 : decode cX4_lift 24 = .ok (.aload_n 0, 1) := by decide +kernel
theorem dX4_lift_25 : decode cX4_lift 25 = .ok (.getfield 18, 3) := by decide +kernel
theorem dX4_lift_28 : decode cX4_lift 28 = .ok (.aload_n 0, 1) := by decide +kernel
theorem dX4_lift_29 : decode cX4_lift 29 = .ok (.getfield 15, 3) := by decide +kernel
theorem dX4_lift_32 : decode cX4_lift 32 = .ok (.iload_n 1, 1) := by decide +kernel
theorem dX4_lift_33 : decode cX4_lift 33 = .ok (.iaload, 1) := by decide +kernel
theorem dX4_lift_34 : decode cX4_lift 34 = .ok (.iconst (-1), 1) := by decide +kernel
theorem dX4_lift_35 : decode cX4_lift 35 = .ok (.iastore, 1) := by decide +kernel
theorem dX4_lift_36 : decode cX4_lift 36 = .ok (.aload_n 0, 1) := by decide +kernel
theorem dX4_lift_37 : decode cX4_lift 37 = .ok (.getfield 15, 3) := by decide +kernel
theorem dX4_lift_40 : decode cX4_lift 40 = .ok (.iload_n 1, 1) := by decide +kernel
theorem dX4_lift_41 : decode cX4_lift 41 = .ok (.iconst (-1), 1) := by decide +kernel
theorem dX4_lift_42 : decode cX4_lift 42 = .ok (.iastore, 1) := by decide +kernel
theorem dX4_lift_43 : decode cX4_lift 43 = .ok (.aload_n 0, 1) := by decide +kernel
theorem dX4_lift_44 : decode cX4_lift 44 = .ok (.dup, 1) := by decide +kernel
theorem dX4_lift_45 : decode cX4_lift 45 = .ok (.getfield 32, 3) := by decide +kernel
theorem dX4_lift_48 : decode cX4_lift 48 = .ok (.iconst 1, 1) := by decide +kernel
theorem dX4_lift_49 : decode cX4_lift 49 = .ok (.isub, 1) := by decide +kernel
theorem dX4_lift_50 : decode cX4_lift 50 = .ok (.putfield 32, 3) := by decide +kernel
theorem dX4_lift_53 : decode cX4_lift 53 = .ok (.return_, 1) := by decide +kernel
set_option maxRecDepth 20000 in
theorem ggX4_neighbourOf_X4_homeOf : GoodIn wsX4_neighbourOf wsX4_homeOf := goodIn_r _ [6, 7, 8, 9, 10, 5, 11, 12, 30, 31, 32, 33, 34, 35, 36, 37] (by decide +kernel) (by decide +kernel)
set_option maxRecDepth 20000 in
theorem gX4_neighbourOf_X4_homeOf : GoodIn wsX4_neighbourOf (wsV RX4 70 RX4 yX4_homeOf wsX4_homeOf) := goodIn_app (goodIn_of _ (by decide +kernel)) ggX4_neighbourOf_X4_homeOf
set_option maxRecDepth 20000 in
theorem ggX4_neighbourOf_X0_next : GoodIn wsX4_neighbourOf wsX0_next := goodIn_r _ [17, 18, 19, 20, 21, 16, 22, 23, 38, 39, 40, 41] (by decide +kernel) (by decide +kernel)
set_option maxRecDepth 20000 in
theorem gX4_neighbourOf_X0_next : GoodIn wsX4_neighbourOf (wsV RX4 73 RX0 yX0_next wsX0_next) := goodIn_app (goodIn_of _ (by decide +kernel)) ggX4_neighbourOf_X0_next
set_option maxRecDepth 20000 in
theorem ggX4_neighbourOf_X4_pegIn : GoodIn wsX4_neighbourOf wsX4_pegIn := goodIn_r _ [27, 1, 28, 29, 20, 21, 16, 22, 23, 30, 31, 32, 33, 34, 35, 36, 37, 38, 39, 40, 41] (by decide +kernel) (by decide +kernel)
set_option maxRecDepth 20000 in
theorem gX4_neighbourOf_X4_pegIn : GoodIn wsX4_neighbourOf (wsV RX4 77 RX4 yX4_pegIn wsX4_pegIn) := goodIn_app (goodIn_of _ (by decide +kernel)) ggX4_neighbourOf_X4_pegIn
theorem dX4_neighbourOf_0 : decode cX4_neighbourOf 0 = .ok (.aload_n 0, 1) := by decide +kernel
theorem dX4_neighbourOf_1 : decode cX4_neighbourOf 1 = .ok (.aload_n 0, 1) := by decide +kernel
theorem dX4_neighbourOf_2 : decode cX4_neighbourOf 2 = .ok (.getfield 21, 3) := by decide +kernel
theorem dX4_neighbourOf_5 : decode cX4_neighbourOf 5 = .ok (.aload_n 0, 1) := by decide +kernel
theorem dX4_neighbourOf_6 : decode cX4_neighbourOf 6 = .ok (.iload_n 1, 1) := by decide +kernel
theorem dX4_neighbourOf_7 : decode cX4_neighbourOf 7 = .ok (.invokevirtual 70, 3) := by decide +kernel
theorem dX4_neighbourOf_10 : decode cX4_neighbourOf 10 = .ok (.iload_n 2, 1) := by decide +kernel
theorem dX4_neighbourOf_11 : decode cX4_neighbourOf 11 = .ok (.invokevirtual 73, 3) := by decide +kernel
theorem dX4_neighbourOf_14 : decode cX4_neighbourOf 14 = .ok (.invokevirtual 77, 3) := by decide +kernel
theorem dX4_neighbourOf_17 : decode cX4_neighbourOf 17 = .ok (.ireturn, 1) := by decide +kernel
set_option maxRecDepth 20000 in
theorem ggX4_targetOf_X4_homeOf : GoodIn wsX4_targetOf wsX4_homeOf := goodIn_r _ [6, 7, 8, 9, 10, 5, 11, 12, 50, 51, 52, 53, 54, 55, 56, 57] (by decide +kernel) (by decide +kernel)
set_option maxRecDepth 20000 in
theorem gX4_targetOf_X4_homeOf : GoodIn wsX4_targetOf (wsV RX4 70 RX4 yX4_homeOf wsX4_homeOf) := goodIn_app (goodIn_of _ (by decide +kernel)) ggX4_targetOf_X4_homeOf
set_option maxRecDepth 20000 in
theorem ggX4_targetOf_X0_next : GoodIn wsX4_targetOf wsX0_next := goodIn_r _ [17, 18, 19, 20, 21, 16, 22, 23, 58, 59, 60, 61] (by decide +kernel) (by decide +kernel)
set_option maxRecDepth 20000 in
theorem gX4_targetOf_X0_next : GoodIn wsX4_targetOf (wsV RX4 73 RX0 yX0_next wsX0_next) := goodIn_app (goodIn_of _ (by decide +kernel)) ggX4_targetOf_X0_next
set_option maxRecDepth 20000 in
theorem ggX4_targetOf_X4_pegIn : GoodIn wsX4_targetOf wsX4_pegIn := goodIn_r _ [27, 1, 28, 29, 20, 21, 16, 22, 23, 50, 51, 52, 53, 54, 55, 56, 57, 58, 59, 60, 61] (by decide +kernel) (by decide +kernel)
set_option maxRecDepth 20000 in
theorem gX4_targetOf_X4_pegIn : GoodIn wsX4_targetOf (wsV RX4 77 RX4 yX4_pegIn wsX4_pegIn) := goodIn_app (goodIn_of _ (by decide +kernel)) ggX4_targetOf_X4_pegIn
set_option maxRecDepth 20000 in
theorem ggX4_targetOf_X4_kindOf : GoodIn wsX4_targetOf wsX4_kindOf := goodIn_r _ [33, 34, 8, 9, 10, 5, 11, 12, 50, 51, 52, 53, 54, 55, 56, 57] (by decide +kernel) (by decide +kernel)
set_option maxRecDepth 20000 in
theorem gX4_targetOf_X4_kindOf : GoodIn wsX4_targetOf (wsV RX4 80 RX4 yX4_kindOf wsX4_kindOf) := goodIn_app (goodIn_of _ (by decide +kernel)) ggX4_targetOf_X4_kindOf
set_option maxRecDepth 20000 in
theorem ggX4_targetOf_X5_kindGoes : GoodIn wsX4_targetOf wsX5_kindGoes := goodIn_r _ [37, 38, 39, 40, 36, 41] (by decide +kernel) (by decide +kernel)
set_option maxRecDepth 20000 in
theorem gX4_targetOf_X5_kindGoes_n83 : GoodIn wsX4_targetOf (wsX5_kindGoes) := ggX4_targetOf_X5_kindGoes
set_option maxRecDepth 20000 in
theorem ggX4_targetOf_X5_kindCould : GoodIn wsX4_targetOf wsX5_kindCould := goodIn_r _ [43, 44, 39, 40, 36, 41] (by decide +kernel) (by decide +kernel)
set_option maxRecDepth 20000 in
theorem gX4_targetOf_X5_kindCould_n86 : GoodIn wsX4_targetOf (wsX5_kindCould) := ggX4_targetOf_X5_kindCould
set_option maxRecDepth 20000 in
theorem ggX4_targetOf_X4_isEmptyHole : GoodIn wsX4_targetOf wsX4_isEmptyHole := goodIn_r _ [48, 1, 49, 28, 29, 20, 21, 16, 22, 23, 40, 36, 41, 50, 51, 52, 53, 54, 55, 56, 57, 58, 59, 60, 61] (by decide +kernel) (by decide +kernel)
set_option maxRecDepth 20000 in
theorem gX4_targetOf_X4_isEmptyHole : GoodIn wsX4_targetOf (wsV RX4 89 RX4 yX4_isEmptyHole wsX4_isEmptyHole) := goodIn_app (goodIn_of _ (by decide +kernel)) ggX4_targetOf_X4_isEmptyHole
theorem dX4_targetOf_0 : decode cX4_targetOf 0 = .ok (.aload_n 0, 1) := by decide +kernel
theorem dX4_targetOf_1 : decode cX4_targetOf 1 = .ok (.getfield 21, 3) := by decide +kernel
theorem dX4_targetOf_4 : decode cX4_targetOf 4 = .ok (.aload_n 0, 1) := by decide +kernel
theorem dX4_targetOf_5 : decode cX4_targetOf 5 = .ok (.iload_n 1, 1) := by decide +kernel
theorem dX4_targetOf_6 : decode cX4_targetOf 6 = .ok (.invokevirtual 70, 3) := by decide +kernel
theorem dX4_targetOf_9 : decode cX4_targetOf 9 = .ok (.iload_n 2, 1) := by decide +kernel
theorem dX4_targetOf_10 : decode cX4_targetOf 10 = .ok (.invokevirtual 73, 3) := by decide +kernel
theorem dX4_targetOf_13 : decode cX4_targetOf 13 = .ok (.istore_n 3, 1) := by decide +kernel
theorem dX4_targetOf_14 : decode cX4_targetOf 14 = .ok (.aload_n 0, 1) := by decide +kernel
theorem dX4_targetOf_15 : decode cX4_targetOf 15 = .ok (.iload_n 3, 1) := by decide +kernel
theorem dX4_targetOf_16 : decode cX4_targetOf 16 = .ok (.invokevirtual 77, 3) := by decide +kernel
theorem dX4_targetOf_19 : decode cX4_targetOf 19 = .ok (.istore 4, 2) := by decide +kernel
theorem dX4_targetOf_21 : decode cX4_targetOf 21 = .ok (.iload 4, 2) := by decide +kernel
theorem dX4_targetOf_23 : decode cX4_targetOf 23 = .ok (.iconst (-1), 1) := by decide +kernel
theorem dX4_targetOf_24 : decode cX4_targetOf 24 = .ok (.if_icmp .eq 28, 3) := by decide +kernel
theorem dX4_targetOf_27 : decode cX4_targetOf 27 = .ok (.aload_n 0, 1) := by decide +kernel
theorem dX4_targetOf_28 : decode cX4_targetOf 28 = .ok (.iload_n 1, 1) := by decide +kernel
theorem dX4_targetOf_29 : decode cX4_targetOf 29 = .ok (.invokevirtual 80, 3) := by decide +kernel
theorem dX4_targetOf_32 : decode cX4_targetOf 32 = .ok (.iload_n 2, 1) := by decide +kernel
theorem dX4_targetOf_33 : decode cX4_targetOf 33 = .ok (.invokestatic 83, 3) := by decide +kernel
theorem dX4_targetOf_36 : decode cX4_targetOf 36 = .ok (.ifCond .eq 16, 3) := by decide +kernel
theorem dX4_targetOf_39 : decode cX4_targetOf 39 = .ok (.aload_n 0, 1) := by decide +kernel
theorem dX4_targetOf_40 : decode cX4_targetOf 40 = .ok (.iload 4, 2) := by decide +kernel
theorem dX4_targetOf_42 : decode cX4_targetOf 42 = .ok (.invokevirtual 80, 3) := by decide +kernel
theorem dX4_targetOf_45 : decode cX4_targetOf 45 = .ok (.iconst 2, 1) := by decide +kernel
theorem dX4_targetOf_46 : decode cX4_targetOf 46 = .ok (.invokestatic 86, 3) := by decide +kernel
theorem dX4_targetOf_49 : decode cX4_targetOf 49 = .ok (.ifCond .ne 5, 3) := by decide +kernel
theorem dX4_targetOf_52 : decode cX4_targetOf 52 = .ok (.iconst (-1), 1) := by decide +kernel
theorem dX4_targetOf_53 : decode cX4_targetOf 53 = .ok (.ireturn, 1) := by decide +kernel
theorem dX4_targetOf_54 : decode cX4_targetOf 54 = .ok (.aload_n 0, 1) := by decide +kernel
theorem dX4_targetOf_55 : decode cX4_targetOf 55 = .ok (.getfield 21, 3) := by decide +kernel
theorem dX4_targetOf_58 : decode cX4_targetOf 58 = .ok (.iload_n 3, 1) := by decide +kernel
theorem dX4_targetOf_59 : decode cX4_targetOf 59 = .ok (.iload_n 2, 1) := by decide +kernel
theorem dX4_targetOf_60 : decode cX4_targetOf 60 = .ok (.invokevirtual 73, 3) := by decide +kernel
theorem dX4_targetOf_63 : decode cX4_targetOf 63 = .ok (.istore 5, 2) := by decide +kernel
theorem dX4_targetOf_65 : decode cX4_targetOf 65 = .ok (.aload_n 0, 1) := by decide +kernel
theorem dX4_targetOf_66 : decode cX4_targetOf 66 = .ok (.iload 5, 2) := by decide +kernel
theorem dX4_targetOf_68 : decode cX4_targetOf 68 = .ok (.invokevirtual 89, 3) := by decide +kernel
theorem dX4_targetOf_71 : decode cX4_targetOf 71 = .ok (.ifCond .eq 8, 3) := by decide +kernel
theorem dX4_targetOf_74 : decode cX4_targetOf 74 = .ok (.iload 5, 2) := by decide +kernel
theorem dX4_targetOf_76 : decode cX4_targetOf 76 = .ok (.goto 4, 3) := by decide +kernel
theorem dX4_targetOf_79 : decode cX4_targetOf 79 = .ok (.iconst (-1), 1) := by decide +kernel
theorem dX4_targetOf_80 : decode cX4_targetOf 80 = .ok (.ireturn, 1) := by decide +kernel
set_option maxRecDepth 20000 in
theorem ggX4_targetsOf_X4_targetOf : GoodIn wsX4_targetsOf wsX4_targetOf := goodIn_r _ [5, 6, 7, 8, 9, 4, 10, 11, 12, 13, 14, 15, 16, 17, 18, 19, 20, 21, 22, 23, 24, 25, 26, 27, 28, 29, 30, 31, 32, 33, 34, 35, 36, 37, 38, 39, 40, 41, 42, 43, 44, 45, 46, 47, 48, 49, 50, 51, 52, 53, 54, 55, 56, 57, 58, 59, 60, 61, 62, 63, 64, 65] (by decide +kernel) (by decide +kernel)
set_option maxRecDepth 20000 in
theorem gX4_targetsOf_X4_targetOf : GoodIn wsX4_targetsOf (wsV RX4 92 RX4 yX4_targetOf wsX4_targetOf) := goodIn_app (goodIn_of _ (by decide +kernel)) ggX4_targetsOf_X4_targetOf
theorem dX4_targetsOf_0 : decode cX4_targetsOf 0 = .ok (.iconst 0, 1) := by decide +kernel
theorem dX4_targetsOf_1 : decode cX4_targetsOf 1 = .ok (.istore_n 2, 1) := by decide +kernel
theorem dX4_targetsOf_2 : decode cX4_targetsOf 2 = .ok (.iconst 0, 1) := by decide +kernel
theorem dX4_targetsOf_3 : decode cX4_targetsOf 3 = .ok (.istore_n 3, 1) := by decide +kernel
theorem dX4_targetsOf_4 : decode cX4_targetsOf 4 = .ok (.iload_n 3, 1) := by decide +kernel
theorem dX4_targetsOf_5 : decode cX4_targetsOf 5 = .ok (.bipush 8, 2) := by decide +kernel
theorem dX4_targetsOf_7 : decode cX4_targetsOf 7 = .ok (.if_icmp .ge 30, 3) := by decide +kernel
theorem dX4_targetsOf_10 : decode cX4_targetsOf 10 = .ok (.aload_n 0, 1) := by decide +kernel
theorem dX4_targetsOf_11 : decode cX4_targetsOf 11 = .ok (.iload_n 1, 1) := by decide +kernel
theorem dX4_targetsOf_12 : decode cX4_targetsOf 12 = .ok (.iload_n 3, 1) := by decide +kernel
theorem dX4_targetsOf_13 : decode cX4_targetsOf 13 = .ok (.invokevirtual 92, 3) := by decide +kernel
theorem dX4_targetsOf_16 : decode cX4_targetsOf 16 = .ok (.istore 4, 2) := by decide +kernel
theorem dX4_targetsOf_18 : decode cX4_targetsOf 18 = .ok (.iload 4, 2) := by decide +kernel
theorem dX4_targetsOf_20 : decode cX4_targetsOf 20 = .ok (.iconst (-1), 1) := by decide +kernel
theorem dX4_targetsOf_21 : decode cX4_targetsOf 21 = .ok (.if_icmp .eq 10, 3) := by decide +kernel
theorem dX4_targetsOf_24 : decode cX4_targetsOf 24 = .ok (.iload_n 2, 1) := by decide +kernel
theorem dX4_targetsOf_25 : decode cX4_targetsOf 25 = .ok (.iconst 1, 1) := by decide +kernel
theorem dX4_targetsOf_26 : decode cX4_targetsOf 26 = .ok (.iload 4, 2) := by decide +kernel
theorem dX4_targetsOf_28 : decode cX4_targetsOf 28 = .ok (.ishl, 1) := by decide +kernel
theorem dX4_targetsOf_29 : decode cX4_targetsOf 29 = .ok (.ior, 1) := by decide +kernel
theorem dX4_targetsOf_30 : decode cX4_targetsOf 30 = .ok (.istore_n 2, 1) := by decide +kernel
theorem dX4_targetsOf_31 : decode cX4_targetsOf 31 = .ok (.iinc 3 1, 3) := by decide +kernel
theorem dX4_targetsOf_34 : decode cX4_targetsOf 34 = .ok (.goto (-30), 3) := by decide +kernel
theorem dX4_targetsOf_37 : decode cX4_targetsOf 37 = .ok (.iload_n 2, 1) := by decide +kernel
theorem dX4_targetsOf_38 : decode cX4_targetsOf 38 = .ok (.ireturn, 1) := by decide +kernel
set_option maxRecDepth 20000 in
theorem ggX4_directionTo_X4_targetOf : GoodIn wsX4_directionTo wsX4_targetOf := goodIn_r _ [5, 6, 7, 8, 9, 4, 10, 11, 12, 13, 14, 15, 16, 17, 18, 19, 20, 21, 22, 23, 24, 25, 26, 27, 28, 29, 30, 31, 32, 33, 34, 35, 36, 37, 38, 39, 40, 41, 42, 43, 44, 45, 46, 47, 48, 49, 50, 51, 52, 53, 54, 55, 56, 57, 58, 59, 60, 61, 62, 63, 64, 65] (by decide +kernel) (by decide +kernel)
set_option maxRecDepth 20000 in
theorem gX4_directionTo_X4_targetOf : GoodIn wsX4_directionTo (wsV RX4 92 RX4 yX4_targetOf wsX4_targetOf) := goodIn_app (goodIn_of _ (by decide +kernel)) ggX4_directionTo_X4_targetOf
theorem dX4_directionTo_0 : decode cX4_directionTo 0 = .ok (.iconst 0, 1) := by decide +kernel
theorem dX4_directionTo_1 : decode cX4_directionTo 1 = .ok (.istore_n 3, 1) := by decide +kernel
theorem dX4_directionTo_2 : decode cX4_directionTo 2 = .ok (.iload_n 3, 1) := by decide +kernel
theorem dX4_directionTo_3 : decode cX4_directionTo 3 = .ok (.bipush 8, 2) := by decide +kernel
theorem dX4_directionTo_5 : decode cX4_directionTo 5 = .ok (.if_icmp .ge 26, 3) := by decide +kernel
theorem dX4_directionTo_8 : decode cX4_directionTo 8 = .ok (.iload_n 2, 1) := by decide +kernel
theorem dX4_directionTo_9 : decode cX4_directionTo 9 = .ok (.iconst (-1), 1) := by decide +kernel
theorem dX4_directionTo_10 : decode cX4_directionTo 10 = .ok (.if_icmp .eq 15, 3) := by decide +kernel
theorem dX4_directionTo_13 : decode cX4_directionTo 13 = .ok (.aload_n 0, 1) := by decide +kernel
theorem dX4_directionTo_14 : decode cX4_directionTo 14 = .ok (.iload_n 1, 1) := by decide +kernel
theorem dX4_directionTo_15 : decode cX4_directionTo 15 = .ok (.iload_n 3, 1) := by decide +kernel
theorem dX4_directionTo_16 : decode cX4_directionTo 16 = .ok (.invokevirtual 92, 3) := by decide +kernel
theorem dX4_directionTo_19 : decode cX4_directionTo 19 = .ok (.iload_n 2, 1) := by decide +kernel
theorem dX4_directionTo_20 : decode cX4_directionTo 20 = .ok (.if_icmp .ne 5, 3) := by decide +kernel
theorem dX4_directionTo_23 : decode cX4_directionTo 23 = .ok (.iload_n 3, 1) := by decide +kernel
theorem dX4_directionTo_24 : decode cX4_directionTo 24 = .ok (.ireturn, 1) := by decide +kernel
theorem dX4_directionTo_25 : decode cX4_directionTo 25 = .ok (.iinc 3 1, 3) := by decide +kernel
theorem dX4_directionTo_28 : decode cX4_directionTo 28 = .ok (.goto (-26), 3) := by decide +kernel
theorem dX4_directionTo_31 : decode cX4_directionTo 31 = .ok (.iconst (-1), 1) := by decide +kernel
theorem dX4_directionTo_32 : decode cX4_directionTo 32 = .ok (.ireturn, 1) := by decide +kernel
set_option maxRecDepth 20000 in
theorem ggX4_choices_X4_targetsOf : GoodIn wsX4_choices wsX4_targetsOf := goodIn_r _ [6, 7, 8, 9, 5, 10, 11, 12, 13, 14, 15, 16, 17, 18, 19, 20, 1, 21, 22, 23, 24, 25, 26, 27, 28, 29, 30, 31, 32, 33, 34, 35, 36, 37, 38, 39, 40, 41, 42, 43, 44, 45, 46, 47, 48, 49, 50, 51, 52, 53, 54, 55, 56, 57, 65, 66, 67, 68, 69, 70, 71, 72, 73, 74, 75, 76] (by decide +kernel) (by decide +kernel)
set_option maxRecDepth 20000 in
theorem gX4_choices_X4_targetsOf : GoodIn wsX4_choices (wsV RX4 95 RX4 yX4_targetsOf wsX4_targetsOf) := goodIn_app (goodIn_of _ (by decide +kernel)) ggX4_choices_X4_targetsOf
set_option maxRecDepth 20000 in
theorem ggX4_choices_J6_bitCount_0f7a4 : GoodIn wsX4_choices wsJ6_bitCount_0f7a4 := goodIn_r _ [61, 62, 63, 64] (by decide +kernel) (by decide +kernel)
set_option maxRecDepth 20000 in
theorem gX4_choices_J6_bitCount_0f7a4 : GoodIn wsX4_choices (va_wsS RX4 98 yJ6_bitCount_0f7a4 wsJ6_bitCount_0f7a4) := goodIn_app (goodIn_of _ (by decide +kernel)) ggX4_choices_J6_bitCount_0f7a4
theorem dX4_choices_0 : decode cX4_choices 0 = .ok (.iconst 0, 1) := by decide +kernel
theorem dX4_choices_1 : decode cX4_choices 1 = .ok (.istore_n 1, 1) := by decide +kernel
theorem dX4_choices_2 : decode cX4_choices 2 = .ok (.iconst 0, 1) := by decide +kernel
theorem dX4_choices_3 : decode cX4_choices 3 = .ok (.istore_n 2, 1) := by decide +kernel
theorem dX4_choices_4 : decode cX4_choices 4 = .ok (.iload_n 2, 1) := by decide +kernel
theorem dX4_choices_5 : decode cX4_choices 5 = .ok (.aload_n 0, 1) := by decide +kernel
theorem dX4_choices_6 : decode cX4_choices 6 = .ok (.getfield 29, 3) := by decide +kernel
theorem dX4_choices_9 : decode cX4_choices 9 = .ok (.if_icmp .ge 20, 3) := by decide +kernel
theorem dX4_choices_12 : decode cX4_choices 12 = .ok (.iload_n 1, 1) := by decide +kernel
theorem dX4_choices_13 : decode cX4_choices 13 = .ok (.aload_n 0, 1) := by decide +kernel
theorem dX4_choices_14 : decode cX4_choices 14 = .ok (.iload_n 2, 1) := by decide +kernel
theorem dX4_choices_15 : decode cX4_choices 15 = .ok (.invokevirtual 95, 3) := by decide +kernel
theorem dX4_choices_18 : decode cX4_choices 18 = .ok (.invokestatic 98, 3) := by decide +kernel
theorem dX4_choices_21 : decode cX4_choices 21 = .ok (.iadd, 1) := by decide +kernel
theorem dX4_choices_22 : decode cX4_choices 22 = .ok (.istore_n 1, 1) := by decide +kernel
theorem dX4_choices_23 : decode cX4_choices 23 = .ok (.iinc 2 1, 3) := by decide +kernel
theorem dX4_choices_26 : decode cX4_choices 26 = .ok (.goto (-22), 3) := by decide +kernel
theorem dX4_choices_29 : decode cX4_choices 29 = .ok (.iload_n 1, 1) := by decide +kernel
theorem dX4_choices_30 : decode cX4_choices 30 = .ok (.ireturn, 1) := by decide +kernel
set_option maxRecDepth 20000 in
theorem ggX4_leapByChoice_X4_targetOf : GoodIn wsX4_leapByChoice wsX4_targetOf := goodIn_r _ [6, 7, 8, 9, 10, 5, 11, 12, 13, 14, 15, 16, 1, 17, 18, 19, 20, 21, 22, 23, 24, 25, 26, 27, 28, 29, 30, 31, 32, 33, 34, 35, 36, 37, 38, 39, 40, 41, 42, 43, 44, 45, 46, 47, 48, 49, 50, 51, 52, 53, 71, 72, 73, 74, 75, 76, 77, 78, 79, 80, 81, 82] (by decide +kernel) (by decide +kernel)
set_option maxRecDepth 20000 in
theorem gX4_leapByChoice_X4_targetOf : GoodIn wsX4_leapByChoice (wsV RX4 92 RX4 yX4_targetOf wsX4_targetOf) := goodIn_app (goodIn_of _ (by decide +kernel)) ggX4_leapByChoice_X4_targetOf
set_option maxRecDepth 20000 in
theorem ggX4_leapByChoice_X4_neighbourOf : GoodIn wsX4_leapByChoice wsX4_neighbourOf := goodIn_r _ [57, 7, 8, 9, 10, 5, 11, 12, 13, 14, 15, 16, 1, 17, 18, 19, 20, 21, 22, 23, 24, 25, 26, 27, 28, 29, 30, 31, 32, 33, 71, 72, 73, 74, 75, 76, 77, 78, 79, 80, 81, 82] (by decide +kernel) (by decide +kernel)
set_option maxRecDepth 20000 in
theorem gX4_leapByChoice_X4_neighbourOf : GoodIn wsX4_leapByChoice (wsV RX4 103 RX4 yX4_neighbourOf wsX4_neighbourOf) := goodIn_app (goodIn_of _ (by decide +kernel)) ggX4_leapByChoice_X4_neighbourOf
set_option maxRecDepth 20000 in
theorem ggX4_leapByChoice_X4_leap : GoodIn wsX4_leapByChoice wsX4_leap := goodIn_r _ [61, 62, 63, 64, 5, 65, 7, 12, 32, 66, 13, 14, 15, 16, 1, 33, 24, 25, 20, 26, 27, 34, 35, 36, 37, 38, 46, 40, 47, 48, 43, 44, 45, 67, 68, 69, 70, 71, 72, 73, 74, 75, 76, 77, 78, 79, 80, 81, 82] (by decide +kernel) (by decide +kernel)
set_option maxRecDepth 20000 in
theorem gX4_leapByChoice_X4_leap : GoodIn wsX4_leapByChoice (wsV RX4 106 RX4 yX4_leap wsX4_leap) := goodIn_app (goodIn_of _ (by decide +kernel)) ggX4_leapByChoice_X4_leap
theorem dX4_leapByChoice_0 : decode cX4_leapByChoice 0 = .ok (.iload_n 1, 1) := by decide +kernel
theorem dX4_leapByChoice_1 : decode cX4_leapByChoice 1 = .ok (.istore_n 2, 1) := by decide +kernel
theorem dX4_leapByChoice_2 : decode cX4_leapByChoice 2 = .ok (.iconst 0, 1) := by decide +kernel
theorem dX4_leapByChoice_3 : decode cX4_leapByChoice 3 = .ok (.istore_n 3, 1) := by decide +kernel
theorem dX4_leapByChoice_4 : decode cX4_leapByChoice 4 = .ok (.iload_n 3, 1) := by decide +kernel
theorem dX4_leapByChoice_5 : decode cX4_leapByChoice 5 = .ok (.aload_n 0, 1) := by decide +kernel
theorem dX4_leapByChoice_6 : decode cX4_leapByChoice 6 = .ok (.getfield 29, 3) := by decide +kernel
theorem dX4_leapByChoice_9 : decode cX4_leapByChoice 9 = .ok (.if_icmp .ge 68, 3) := by decide +kernel
theorem dX4_leapByChoice_12 : decode cX4_leapByChoice 12 = .ok (.iconst 0, 1) := by decide +kernel
theorem dX4_leapByChoice_13 : decode cX4_leapByChoice 13 = .ok (.istore 4, 2) := by decide +kernel
theorem dX4_leapByChoice_15 : decode cX4_leapByChoice 15 = .ok (.iload 4, 2) := by decide +kernel
theorem dX4_leapByChoice_17 : decode cX4_leapByChoice 17 = .ok (.bipush 8, 2) := by decide +kernel
theorem dX4_leapByChoice_19 : decode cX4_leapByChoice 19 = .ok (.if_icmp .ge 52, 3) := by decide +kernel
theorem dX4_leapByChoice_22 : decode cX4_leapByChoice 22 = .ok (.aload_n 0, 1) := by decide +kernel
theorem dX4_leapByChoice_23 : decode cX4_leapByChoice 23 = .ok (.iload_n 3, 1) := by decide +kernel
theorem dX4_leapByChoice_24 : decode cX4_leapByChoice 24 = .ok (.iload 4, 2) := by decide +kernel
theorem dX4_leapByChoice_26 : decode cX4_leapByChoice 26 = .ok (.invokevirtual 92, 3) := by decide +kernel
theorem dX4_leapByChoice_29 : decode cX4_leapByChoice 29 = .ok (.istore 5, 2) := by decide +kernel
theorem dX4_leapByChoice_31 : decode cX4_leapByChoice 31 = .ok (.iload 5, 2) := by decide +kernel
theorem dX4_leapByChoice_33 : decode cX4_leapByChoice 33 = .ok (.iconst (-1), 1) := by decide +kernel
theorem dX4_leapByChoice_34 : decode cX4_leapByChoice 34 = .ok (.if_icmp .eq 22, 3) := by decide +kernel
theorem dX4_leapByChoice_37 : decode cX4_leapByChoice 37 = .ok (.iload_n 2, 1) := by decide +kernel
theorem dX4_leapByChoice_38 : decode cX4_leapByChoice 38 = .ok (.ifCond .ne 18, 3) := by decide +kernel
theorem dX4_leapByChoice_41 : decode cX4_leapByChoice 41 = .ok (.aload_n 0, 1) := by decide +kernel
theorem dX4_leapByChoice_42 : decode cX4_leapByChoice 42 = .ok (.iload_n 3, 1) := by decide +kernel
theorem dX4_leapByChoice_43 : decode cX4_leapByChoice 43 = .ok (.aload_n 0, 1) := by decide +kernel
theorem dX4_leapByChoice_44 : decode cX4_leapByChoice 44 = .ok (.iload_n 3, 1) := by decide +kernel
theorem dX4_leapByChoice_45 : decode cX4_leapByChoice 45 = .ok (.iload 4, 2) := by decide +kernel
theorem dX4_leapByChoice_47 : decode cX4_leapByChoice 47 = .ok (.invokevirtual 103, 3) := by decide +kernel
theorem dX4_leapByChoice_50 : decode cX4_leapByChoice 50 = .ok (.iload 5, 2) := by decide +kernel
theorem dX4_leapByChoice_52 : decode cX4_leapByChoice 52 = .ok (.invokevirtual 106, 3) := by decide +kernel
theorem dX4_leapByChoice_55 : decode cX4_leapByChoice 55 = .ok (.return_, 1) := by decide +kernel
theorem dX4_leapByChoice_56 : decode cX4_leapByChoice 56 = .ok (.iload 5, 2) := by decide +kernel
theorem dX4_leapByChoice_58 : decode cX4_leapByChoice 58 = .ok (.iconst (-1), 1) := by decide +kernel
theorem dX4_leapByChoice_59 : decode cX4_leapByChoice 59 = .ok (.if_icmp .eq 6, 3) := by decide +kernel
theorem dX4_leapByChoice_62 : decode cX4_leapByChoice 62 = .ok (.iinc 2 (-1), 3) := by decide +kernel
theorem dX4_leapByChoice_65 : decode cX4_leapByChoice 65 = .ok (.iinc 4 1, 3) := by decide +kernel
theorem dX4_leapByChoice_68 : decode cX4_leapByChoice 68 = .ok (.goto (-53), 3) := by decide +kernel
theorem dX4_leapByChoice_71 : decode cX4_leapByChoice 71 = .ok (.iinc 3 1, 3) := by decide +kernel
theorem dX4_leapByChoice_74 : decode cX4_leapByChoice 74 = .ok (.goto (-70), 3) := by decide +kernel
theorem dX4_leapByChoice_77 : decode cX4_leapByChoice 77 = .ok (.return_, 1) := by decide +kernel
set_option maxRecDepth 20000 in
theorem ggX4_leap_X4_lift : GoodIn wsX4_leap wsX4_lift := goodIn_r _ [5, 6, 7, 8, 9, 10, 11, 12, 4, 13, 14, 15, 16, 17, 18, 19, 20, 37, 38, 39, 40, 41, 42, 43, 44, 45, 46, 47, 48] (by decide +kernel) (by decide +kernel)
set_option maxRecDepth 20000 in
theorem gX4_leap_X4_lift : GoodIn wsX4_leap (wsV RX4 110 RX4 yX4_lift wsX4_lift) := goodIn_app (goodIn_of _ (by decide +kernel)) ggX4_leap_X4_lift
set_option maxRecDepth 20000 in
theorem ggX4_leap_X4_kindOf : GoodIn wsX4_leap wsX4_kindOf := goodIn_r _ [24, 25, 10, 11, 12, 4, 13, 14, 37, 38, 39, 40, 41, 42, 43, 44] (by decide +kernel) (by decide +kernel)
set_option maxRecDepth 20000 in
theorem gX4_leap_X4_kindOf : GoodIn wsX4_leap (wsV RX4 80 RX4 yX4_kindOf wsX4_kindOf) := goodIn_app (goodIn_of _ (by decide +kernel)) ggX4_leap_X4_kindOf
set_option maxRecDepth 20000 in
theorem ggX4_leap_X5_kindCould : GoodIn wsX4_leap wsX5_kindCould := goodIn_r _ [28, 29, 30, 31, 27, 32] (by decide +kernel) (by decide +kernel)
set_option maxRecDepth 20000 in
theorem gX4_leap_X5_kindCould_n86 : GoodIn wsX4_leap (wsX5_kindCould) := ggX4_leap_X5_kindCould
set_option maxRecDepth 20000 in
theorem ggX4_leap_X4_set : GoodIn wsX4_leap wsX4_set := goodIn_r _ [36, 6, 7, 8, 9, 10, 11, 12, 4, 13, 14, 15, 16, 17, 18, 19, 20, 37, 38, 39, 40, 41, 42, 43, 44, 45, 46, 47, 48] (by decide +kernel) (by decide +kernel)
set_option maxRecDepth 20000 in
theorem gX4_leap_X4_set : GoodIn wsX4_leap (wsV RX4 56 RX4 yX4_set wsX4_set) := goodIn_app (goodIn_of _ (by decide +kernel)) ggX4_leap_X4_set
theorem dX4_leap_0 : decode cX4_leap 0 = .ok (.aload_n 0, 1) := by decide +kernel
theorem dX4_leap_1 : decode cX4_leap 1 = .ok (.iload_n 2, 1) := by decide +kernel
theorem dX4_leap_2 : decode cX4_leap 2 = .ok (.invokevirtual 110, 3) := by decide +kernel
theorem dX4_leap_5 : decode cX4_leap 5 = .ok (.aload_n 0, 1) := by decide +kernel
theorem dX4_leap_6 : decode cX4_leap 6 = .ok (.iload_n 1, 1) := by decide +kernel
theorem dX4_leap_7 : decode cX4_leap 7 = .ok (.invokevirtual 110, 3) := by decide +kernel
theorem dX4_leap_10 : decode cX4_leap 10 = .ok (.aload_n 0, 1) := by decide +kernel
theorem dX4_leap_11 : decode cX4_leap 11 = .ok (.iload_n 1, 1) := by decide +kernel
theorem dX4_leap_12 : decode cX4_leap 12 = .ok (.invokevirtual 80, 3) := by decide +kernel
theorem dX4_leap_15 : decode cX4_leap 15 = .ok (.iconst 3, 1) := by decide +kernel
theorem dX4_leap_16 : decode cX4_leap 16 = .ok (.invokestatic 86, 3) := by decide +kernel
theorem dX4_leap_19 : decode cX4_leap 19 = .ok (.ifCond .eq 9, 3) := by decide +kernel
theorem dX4_leap_22 : decode cX4_leap 22 = .ok (.aload_n 0, 1) := by decide +kernel
theorem dX4_leap_23 : decode cX4_leap 23 = .ok (.iload_n 1, 1) := by decide +kernel
theorem dX4_leap_24 : decode cX4_leap 24 = .ok (.iload_n 3, 1) := by decide +kernel
theorem dX4_leap_25 : decode cX4_leap 25 = .ok (.invokevirtual 56, 3) := by decide +kernel
theorem dX4_leap_28 : decode cX4_leap 28 = .ok (.return_, 1) := by decide +kernel
set_option maxRecDepth 20000 in
theorem ggX4_takeBack_X4_lift : GoodIn wsX4_takeBack wsX4_lift := goodIn_r _ [6, 1, 7, 8, 9, 10, 11, 12, 5, 13, 14, 15, 16, 17, 18, 19, 20, 31, 32, 33, 34, 35, 36, 37, 38, 39, 40, 41, 42] (by decide +kernel) (by decide +kernel)
set_option maxRecDepth 20000 in
theorem gX4_takeBack_X4_lift : GoodIn wsX4_takeBack (wsV RX4 110 RX4 yX4_lift wsX4_lift) := goodIn_app (goodIn_of _ (by decide +kernel)) ggX4_takeBack_X4_lift
set_option maxRecDepth 20000 in
theorem ggX4_takeBack_X4_set : GoodIn wsX4_takeBack wsX4_set := goodIn_r _ [24, 1, 7, 8, 9, 10, 11, 12, 5, 13, 14, 15, 16, 17, 18, 19, 20, 31, 32, 33, 34, 35, 36, 37, 38, 39, 40, 41, 42] (by decide +kernel) (by decide +kernel)
set_option maxRecDepth 20000 in
theorem gX4_takeBack_X4_set : GoodIn wsX4_takeBack (wsV RX4 56 RX4 yX4_set wsX4_set) := goodIn_app (goodIn_of _ (by decide +kernel)) ggX4_takeBack_X4_set
set_option maxRecDepth 20000 in
theorem ggX4_takeBack_X0_next : GoodIn wsX4_takeBack wsX0_next := goodIn_r _ [28, 29, 30, 16, 17, 18, 19, 20, 39, 40, 41, 42] (by decide +kernel) (by decide +kernel)
set_option maxRecDepth 20000 in
theorem gX4_takeBack_X0_next : GoodIn wsX4_takeBack (wsV RX4 73 RX0 yX0_next wsX0_next) := goodIn_app (goodIn_of _ (by decide +kernel)) ggX4_takeBack_X0_next
theorem dX4_takeBack_0 : decode cX4_takeBack 0 = .ok (.aload_n 0, 1) := by decide +kernel
theorem dX4_takeBack_1 : decode cX4_takeBack 1 = .ok (.iload_n 1, 1) := by decide +kernel
theorem dX4_takeBack_2 : decode cX4_takeBack 2 = .ok (.invokevirtual 110, 3) := by decide +kernel
theorem dX4_takeBack_5 : decode cX4_takeBack 5 = .ok (.aload_n 0, 1) := by decide +kernel
theorem dX4_takeBack_6 : decode cX4_takeBack 6 = .ok (.iload_n 1, 1) := by decide +kernel
theorem dX4_takeBack_7 : decode cX4_takeBack 7 = .ok (.iload_n 2, 1) := by decide +kernel
theorem dX4_takeBack_8 : decode cX4_takeBack 8 = .ok (.invokevirtual 56, 3) := by decide +kernel
theorem dX4_takeBack_11 : decode cX4_takeBack 11 = .ok (.aload_n 0, 1) := by decide +kernel
theorem dX4_takeBack_12 : decode cX4_takeBack 12 = .ok (.iload_n 3, 1) := by decide +kernel
theorem dX4_takeBack_13 : decode cX4_takeBack 13 = .ok (.aload_n 0, 1) := by decide +kernel
theorem dX4_takeBack_14 : decode cX4_takeBack 14 = .ok (.getfield 21, 3) := by decide +kernel
theorem dX4_takeBack_17 : decode cX4_takeBack 17 = .ok (.iload_n 2, 1) := by decide +kernel
theorem dX4_takeBack_18 : decode cX4_takeBack 18 = .ok (.iload 4, 2) := by decide +kernel
theorem dX4_takeBack_20 : decode cX4_takeBack 20 = .ok (.invokevirtual 73, 3) := by decide +kernel
theorem dX4_takeBack_23 : decode cX4_takeBack 23 = .ok (.invokevirtual 56, 3) := by decide +kernel
theorem dX4_takeBack_26 : decode cX4_takeBack 26 = .ok (.return_, 1) := by decide +kernel
set_option maxRecDepth 20000 in
theorem ggX4_aloneBit_X4_homeOf : GoodIn wsX4_aloneBit wsX4_homeOf := goodIn_r _ [7, 8, 9, 10, 11, 6, 12, 2, 13, 14, 15, 16, 17, 18, 19, 20] (by decide +kernel) (by decide +kernel)
set_option maxRecDepth 20000 in
theorem gX4_aloneBit_X4_homeOf : GoodIn wsX4_aloneBit (wsV RX4 70 RX4 yX4_homeOf wsX4_homeOf) := goodIn_app (goodIn_of _ (by decide +kernel)) ggX4_aloneBit_X4_homeOf
theorem dX4_aloneBit_0 : decode cX4_aloneBit 0 = .ok (.aload_n 0, 1) := by decide +kernel
theorem dX4_aloneBit_1 : decode cX4_aloneBit 1 = .ok (.getfield 32, 3) := by decide +kernel
theorem dX4_aloneBit_4 : decode cX4_aloneBit 4 = .ok (.iconst 1, 1) := by decide +kernel
theorem dX4_aloneBit_5 : decode cX4_aloneBit 5 = .ok (.if_icmp .eq 5, 3) := by decide +kernel
theorem dX4_aloneBit_8 : decode cX4_aloneBit 8 = .ok (.iconst 0, 1) := by decide +kernel
theorem dX4_aloneBit_9 : decode cX4_aloneBit 9 = .ok (.ireturn, 1) := by decide +kernel
theorem dX4_aloneBit_10 : decode cX4_aloneBit 10 = .ok (.iconst 0, 1) := by decide +kernel
theorem dX4_aloneBit_11 : decode cX4_aloneBit 11 = .ok (.istore_n 1, 1) := by decide +kernel
theorem dX4_aloneBit_12 : decode cX4_aloneBit 12 = .ok (.iconst 0, 1) := by decide +kernel
theorem dX4_aloneBit_13 : decode cX4_aloneBit 13 = .ok (.istore_n 2, 1) := by decide +kernel
theorem dX4_aloneBit_14 : decode cX4_aloneBit 14 = .ok (.iload_n 2, 1) := by decide +kernel
theorem dX4_aloneBit_15 : decode cX4_aloneBit 15 = .ok (.aload_n 0, 1) := by decide +kernel
theorem dX4_aloneBit_16 : decode cX4_aloneBit 16 = .ok (.getfield 29, 3) := by decide +kernel
theorem dX4_aloneBit_19 : decode cX4_aloneBit 19 = .ok (.if_icmp .ge 24, 3) := by decide +kernel
theorem dX4_aloneBit_22 : decode cX4_aloneBit 22 = .ok (.aload_n 0, 1) := by decide +kernel
theorem dX4_aloneBit_23 : decode cX4_aloneBit 23 = .ok (.iload_n 2, 1) := by decide +kernel
theorem dX4_aloneBit_24 : decode cX4_aloneBit 24 = .ok (.invokevirtual 70, 3) := by decide +kernel
theorem dX4_aloneBit_27 : decode cX4_aloneBit 27 = .ok (.istore_n 3, 1) := by decide +kernel
theorem dX4_aloneBit_28 : decode cX4_aloneBit 28 = .ok (.iload_n 3, 1) := by decide +kernel
theorem dX4_aloneBit_29 : decode cX4_aloneBit 29 = .ok (.iconst (-1), 1) := by decide +kernel
theorem dX4_aloneBit_30 : decode cX4_aloneBit 30 = .ok (.if_icmp .eq 7, 3) := by decide +kernel
theorem dX4_aloneBit_33 : decode cX4_aloneBit 33 = .ok (.iconst 1, 1) := by decide +kernel
theorem dX4_aloneBit_34 : decode cX4_aloneBit 34 = .ok (.iload_n 3, 1) := by decide +kernel
theorem dX4_aloneBit_35 : decode cX4_aloneBit 35 = .ok (.ishl, 1) := by decide +kernel
theorem dX4_aloneBit_36 : decode cX4_aloneBit 36 = .ok (.istore_n 1, 1) := by decide +kernel
theorem dX4_aloneBit_37 : decode cX4_aloneBit 37 = .ok (.iinc 2 1, 3) := by decide +kernel
theorem dX4_aloneBit_40 : decode cX4_aloneBit 40 = .ok (.goto (-26), 3) := by decide +kernel
theorem dX4_aloneBit_43 : decode cX4_aloneBit 43 = .ok (.iload_n 1, 1) := by decide +kernel
theorem dX4_aloneBit_44 : decode cX4_aloneBit 44 = .ok (.ireturn, 1) := by decide +kernel
set_option maxRecDepth 20000 in
theorem ggX5_init_X2_init : GoodIn wsX5_init wsX2_init := goodIn_r _ [29, 30, 2, 3, 31, 32, 53, 54] (by decide +kernel) (by decide +kernel)
set_option maxRecDepth 20000 in
theorem gX5_init_X2_init_n11 : GoodIn wsX5_init (wsX2_init) := ggX5_init_X2_init
set_option maxRecDepth 20000 in
theorem ggX5_init_X0_init : GoodIn wsX5_init wsX0_init := goodIn_r _ [34, 35, 2, 3, 31, 36, 68, 69, 70, 71] (by decide +kernel) (by decide +kernel)
set_option maxRecDepth 20000 in
theorem gX5_init_X0_init_n18 : GoodIn wsX5_init (wsX0_init) := ggX5_init_X0_init
set_option maxRecDepth 20000 in
theorem ggX5_init_X4_init : GoodIn wsX5_init wsX4_init := goodIn_r _ [39, 40, 2, 3, 31, 41, 42, 43, 44, 72, 73, 74, 75, 76, 77, 78, 79] (by decide +kernel) (by decide +kernel)
set_option maxRecDepth 20000 in
theorem gX5_init_X4_init : GoodIn wsX5_init (wsX4_init) := ggX5_init_X4_init
set_option maxRecDepth 20000 in
theorem ggX5_init_X3_init : GoodIn wsX5_init wsX3_init := goodIn_r _ [46, 47, 2, 3, 31, 48, 49, 80, 81, 82] (by decide +kernel) (by decide +kernel)
set_option maxRecDepth 20000 in
theorem gX5_init_X3_init_n34 : GoodIn wsX5_init (wsX3_init) := ggX5_init_X3_init
set_option maxRecDepth 20000 in
theorem ggX5_init_X1_init : GoodIn wsX5_init wsX1_init := goodIn_r _ [51, 52, 2, 3] (by decide +kernel) (by decide +kernel)
set_option maxRecDepth 20000 in
theorem gX5_init_X1_init_n50 : GoodIn wsX5_init (wsX1_init) := ggX5_init_X1_init
theorem dX5_init_0 : decode cX5_init 0 = .ok (.aload_n 0, 1) := by decide +kernel
theorem dX5_init_1 : decode cX5_init 1 = .ok (.invokespecial 3, 3) := by decide +kernel
theorem dX5_init_4 : decode cX5_init 4 = .ok (.aload_n 0, 1) := by decide +kernel
theorem dX5_init_5 : decode cX5_init 5 = .ok (.new 9, 3) := by decide +kernel
theorem dX5_init_8 : decode cX5_init 8 = .ok (.dup, 1) := by decide +kernel
theorem dX5_init_9 : decode cX5_init 9 = .ok (.invokespecial 11, 3) := by decide +kernel
theorem dX5_init_12 : decode cX5_init 12 = .ok (.putfield 12, 3) := by decide +kernel
theorem dX5_init_15 : decode cX5_init 15 = .ok (.aload_n 0, 1) := by decide +kernel
theorem dX5_init_16 : decode cX5_init 16 = .ok (.new 16, 3) := by decide +kernel
theorem dX5_init_19 : decode cX5_init 19 = .ok (.dup, 1) := by decide +kernel
theorem dX5_init_20 : decode cX5_init 20 = .ok (.invokespecial 18, 3) := by decide +kernel
theorem dX5_init_23 : decode cX5_init 23 = .ok (.putfield 19, 3) := by decide +kernel
theorem dX5_init_26 : decode cX5_init 26 = .ok (.aload_n 0, 1) := by decide +kernel
theorem dX5_init_27 : decode cX5_init 27 = .ok (.new 23, 3) := by decide +kernel
theorem dX5_init_30 : decode cX5_init 30 = .ok (.dup, 1) := by decide +kernel
theorem dX5_init_31 : decode cX5_init 31 = .ok (.aload_n 0, 1) := by decide +kernel
theorem dX5_init_32 : decode cX5_init 32 = .ok (.getfield 19, 3) := by decide +kernel
theorem dX5_init_35 : decode cX5_init 35 = .ok (.invokespecial 25, 3) := by decide +kernel
theorem dX5_init_38 : decode cX5_init 38 = .ok (.putfield 28, 3) := by decide +kernel
theorem dX5_init_41 : decode cX5_init 41 = .ok (.aload_n 0, 1) := by decide +kernel
theorem dX5_init_42 : decode cX5_init 42 = .ok (.new 32, 3) := by decide +kernel
theorem dX5_init_45 : decode cX5_init 45 = .ok (.dup, 1) := by decide +kernel
theorem dX5_init_46 : decode cX5_init 46 = .ok (.invokespecial 34, 3) := by decide +kernel
theorem dX5_init_49 : decode cX5_init 49 = .ok (.putfield 35, 3) := by decide +kernel
theorem dX5_init_52 : decode cX5_init 52 = .ok (.aload_n 0, 1) := by decide +kernel
theorem dX5_init_53 : decode cX5_init 53 = .ok (.new 23, 3) := by decide +kernel
theorem dX5_init_56 : decode cX5_init 56 = .ok (.dup, 1) := by decide +kernel
theorem dX5_init_57 : decode cX5_init 57 = .ok (.aload_n 0, 1) := by decide +kernel
theorem dX5_init_58 : decode cX5_init 58 = .ok (.getfield 19, 3) := by decide +kernel
theorem dX5_init_61 : decode cX5_init 61 = .ok (.invokespecial 25, 3) := by decide +kernel
theorem dX5_init_64 : decode cX5_init 64 = .ok (.putfield 39, 3) := by decide +kernel
theorem dX5_init_67 : decode cX5_init 67 = .ok (.aload_n 0, 1) := by decide +kernel
theorem dX5_init_68 : decode cX5_init 68 = .ok (.new 32, 3) := by decide +kernel
theorem dX5_init_71 : decode cX5_init 71 = .ok (.dup, 1) := by decide +kernel
theorem dX5_init_72 : decode cX5_init 72 = .ok (.invokespecial 34, 3) := by decide +kernel
theorem dX5_init_75 : decode cX5_init 75 = .ok (.putfield 42, 3) := by decide +kernel
theorem dX5_init_78 : decode cX5_init 78 = .ok (.aload_n 0, 1) := by decide +kernel
theorem dX5_init_79 : decode cX5_init 79 = .ok (.new 23, 3) := by decide +kernel
theorem dX5_init_82 : decode cX5_init 82 = .ok (.dup, 1) := by decide +kernel
theorem dX5_init_83 : decode cX5_init 83 = .ok (.aload_n 0, 1) := by decide +kernel
theorem dX5_init_84 : decode cX5_init 84 = .ok (.getfield 19, 3) := by decide +kernel
theorem dX5_init_87 : decode cX5_init 87 = .ok (.invokespecial 25, 3) := by decide +kernel
theorem dX5_init_90 : decode cX5_init 90 = .ok (.putfield 45, 3) := by decide +kernel
theorem dX5_init_93 : decode cX5_init 93 = .ok (.aload_n 0, 1) := by decide +kernel
theorem dX5_init_94 : decode cX5_init 94 = .ok (.new 48, 3) := by decide +kernel
theorem dX5_init_97 : decode cX5_init 97 = .ok (.dup, 1) := by decide +kernel
theorem dX5_init_98 : decode cX5_init 98 = .ok (.invokespecial 50, 3) := by decide +kernel
theorem dX5_init_101 : decode cX5_init 101 = .ok (.putfield 51, 3) := by decide +kernel
theorem dX5_init_104 : decode cX5_init 104 = .ok (.aload_n 0, 1) := by decide +kernel
theorem dX5_init_105 : decode cX5_init 105 = .ok (.bipush 9, 2) := by decide +kernel
theorem dX5_init_107 : decode cX5_init 107 = .ok (.anewarray 48, 3) := by decide +kernel
theorem dX5_init_110 : decode cX5_init 110 = .ok (.putfield 55, 3) := by decide +kernel
theorem dX5_init_113 : decode cX5_init 113 = .ok (.aload_n 0, 1) := by decide +kernel
theorem dX5_init_114 : decode cX5_init 114 = .ok (.getfield 55, 3) := by decide +kernel
theorem dX5_init_117 : decode cX5_init 117 = .ok (.iconst 0, 1) := by decide +kernel
theorem dX5_init_118 : decode cX5_init 118 = .ok (.aload_n 0, 1) := by decide +kernel
theorem dX5_init_119 : decode cX5_init 119 = .ok (.getfield 51, 3) := by decide +kernel
theorem dX5_init_122 : decode cX5_init 122 = .ok (.aastore, 1) := by decide +kernel
theorem dX5_init_123 : decode cX5_init 123 = .ok (.iconst 1, 1) := by decide +kernel
theorem dX5_init_124 : decode cX5_init 124 = .ok (.istore_n 1, 1) := by decide +kernel
theorem dX5_init_125 : decode cX5_init 125 = .ok (.iload_n 1, 1) := by decide +kernel
theorem dX5_init_126 : decode cX5_init 126 = .ok (.aload_n 0, 1) := by decide +kernel
theorem dX5_init_127 : decode cX5_init 127 = .ok (.getfield 55, 3) := by decide +kernel
theorem dX5_init_130 : decode cX5_init 130 = .ok (.arraylength, 1) := by decide +kernel
theorem dX5_init_131 : decode cX5_init 131 = .ok (.if_icmp .ge 22, 3) := by decide +kernel
theorem dX5_init_134 : decode cX5_init 134 = .ok (.aload_n 0, 1) := by decide +kernel
theorem dX5_init_135 : decode cX5_init 135 = .ok (.getfield 55, 3) := by decide +kernel
theorem dX5_init_138 : decode cX5_init 138 = .ok (.iload_n 1, 1) := by decide +kernel
theorem dX5_init_139 : decode cX5_init 139 = .ok (.new 48, 3) := by decide +kernel
theorem dX5_init_142 : decode cX5_init 142 = .ok (.dup, 1) := by decide +kernel
theorem dX5_init_143 : decode cX5_init 143 = .ok (.invokespecial 50, 3) := by decide +kernel
theorem dX5_init_146 : decode cX5_init 146 = .ok (.aastore, 1) := by decide +kernel
theorem dX5_init_147 : decode cX5_init 147 = .ok (.iinc 1 1, 3) := by decide +kernel
theorem dX5_init_150 : decode cX5_init 150 = .ok (.goto (-25), 3) := by decide +kernel
theorem dX5_init_153 : decode cX5_init 153 = .ok (.return_, 1) := by decide +kernel
set_option maxRecDepth 20000 in
theorem ggX5_letter_X2_append : GoodIn wsX5_letter wsX2_append := goodIn_r _ [6, 7, 8, 22, 23] (by decide +kernel) (by decide +kernel)
set_option maxRecDepth 20000 in
theorem gX5_letter_X2_append : GoodIn wsX5_letter (wsV RX5 59 RX2 yX2_append wsX2_append) := goodIn_app (goodIn_of _ (by decide +kernel)) ggX5_letter_X2_append
theorem dX5_letter_0 : decode cX5_letter 0 = .ok (.iload_n 1, 1) := by decide +kernel
theorem dX5_letter_1 : decode cX5_letter 1 = .ok (.bipush 32, 2) := by decide +kernel
theorem dX5_letter_3 : decode cX5_letter 3 = .ok (.if_icmp .lt 9, 3) := by decide +kernel
theorem dX5_letter_6 : decode cX5_letter 6 = .ok (.iload_n 1, 1) := by decide +kernel
theorem dX5_letter_7 : decode cX5_letter 7 = .ok (.bipush 126, 2) := by decide +kernel
theorem dX5_letter_9 : decode cX5_letter 9 = .ok (.if_icmp .le 6, 3) := by decide +kernel
theorem dX5_letter_12 : decode cX5_letter 12 = .ok (.bipush (-102), 2) := by decide +kernel
theorem dX5_letter_14 : decode cX5_letter 14 = .ok (.ireturn, 1) := by decide +kernel
theorem dX5_letter_15 : decode cX5_letter 15 = .ok (.aload_n 0, 1) := by decide +kernel
theorem dX5_letter_16 : decode cX5_letter 16 = .ok (.getfield 12, 3) := by decide +kernel
theorem dX5_letter_19 : decode cX5_letter 19 = .ok (.iload_n 1, 1) := by decide +kernel
theorem dX5_letter_20 : decode cX5_letter 20 = .ok (.invokevirtual 59, 3) := by decide +kernel
theorem dX5_letter_23 : decode cX5_letter 23 = .ok (.ifCond .eq 13, 3) := by decide +kernel
theorem dX5_letter_26 : decode cX5_letter 26 = .ok (.aload_n 0, 1) := by decide +kernel
theorem dX5_letter_27 : decode cX5_letter 27 = .ok (.getfield 12, 3) := by decide +kernel
theorem dX5_letter_30 : decode cX5_letter 30 = .ok (.getfield 63, 3) := by decide +kernel
theorem dX5_letter_33 : decode cX5_letter 33 = .ok (.goto 5, 3) := by decide +kernel
theorem dX5_letter_36 : decode cX5_letter 36 = .ok (.bipush (-104), 2) := by decide +kernel
theorem dX5_letter_38 : decode cX5_letter 38 = .ok (.ireturn, 1) := by decide +kernel
theorem dX5_blank_0 : decode cX5_blank 0 = .ok (.aload_n 0, 1) := by decide +kernel
theorem dX5_blank_1 : decode cX5_blank 1 = .ok (.getfield 12, 3) := by decide +kernel
theorem dX5_blank_4 : decode cX5_blank 4 = .ok (.getfield 63, 3) := by decide +kernel
theorem dX5_blank_7 : decode cX5_blank 7 = .ok (.istore_n 1, 1) := by decide +kernel
theorem dX5_blank_8 : decode cX5_blank 8 = .ok (.aload_n 0, 1) := by decide +kernel
theorem dX5_blank_9 : decode cX5_blank 9 = .ok (.getfield 12, 3) := by decide +kernel
theorem dX5_blank_12 : decode cX5_blank 12 = .ok (.iconst 0, 1) := by decide +kernel
theorem dX5_blank_13 : decode cX5_blank 13 = .ok (.putfield 63, 3) := by decide +kernel
theorem dX5_blank_16 : decode cX5_blank 16 = .ok (.iload_n 1, 1) := by decide +kernel
theorem dX5_blank_17 : decode cX5_blank 17 = .ok (.ireturn, 1) := by decide +kernel
set_option maxRecDepth 20000 in
theorem ggX5_fault_X2_firstFault : GoodIn wsX5_fault wsX2_firstFault := goodIn_r _ [6, 7, 8, 9, 10, 5, 11, 12, 13, 14, 15, 16, 17, 18, 19, 20, 21, 22, 23, 24, 25, 26, 27, 28, 29, 30, 31, 32, 46, 47] (by decide +kernel) (by decide +kernel)
set_option maxRecDepth 20000 in
theorem gX5_fault_X2_firstFault : GoodIn wsX5_fault (wsV RX5 67 RX2 yX2_firstFault wsX2_firstFault) := goodIn_app (goodIn_of _ (by decide +kernel)) ggX5_fault_X2_firstFault
theorem dX5_fault_0 : decode cX5_fault 0 = .ok (.aload_n 0, 1) := by decide +kernel
theorem dX5_fault_1 : decode cX5_fault 1 = .ok (.getfield 12, 3) := by decide +kernel
theorem dX5_fault_4 : decode cX5_fault 4 = .ok (.invokevirtual 67, 3) := by decide +kernel
theorem dX5_fault_7 : decode cX5_fault 7 = .ok (.ireturn, 1) := by decide +kernel
set_option maxRecDepth 20000 in
theorem ggX5_board_X2_isBoard : GoodIn wsX5_board wsX2_isBoard := goodIn_r _ [12, 13, 14, 15, 16, 11, 17, 18, 19, 20, 21, 22, 23, 24, 25, 26, 27, 28, 29, 30, 31, 32, 33, 34, 35, 36, 37, 38, 39, 40, 41, 42, 104, 105] (by decide +kernel) (by decide +kernel)
set_option maxRecDepth 20000 in
theorem gX5_board_X2_isBoard : GoodIn wsX5_board (wsV RX5 71 RX2 yX2_isBoard wsX2_isBoard) := goodIn_app (goodIn_of _ (by decide +kernel)) ggX5_board_X2_isBoard
set_option maxRecDepth 20000 in
theorem ggX5_board_X2_digitAt : GoodIn wsX5_board wsX2_digitAt := goodIn_r _ [21, 22, 23, 24, 11, 25, 13, 26, 104, 105] (by decide +kernel) (by decide +kernel)
set_option maxRecDepth 20000 in
theorem gX5_board_X2_digitAt : GoodIn wsX5_board (wsV RX5 75 RX2 yX2_digitAt wsX2_digitAt) := goodIn_app (goodIn_of _ (by decide +kernel)) ggX5_board_X2_digitAt
set_option maxRecDepth 20000 in
theorem ggX5_board_X0_lay : GoodIn wsX5_board wsX0_lay := goodIn_r _ [48, 49, 50, 51, 52, 53, 54, 55, 47, 56, 114, 115, 116, 117] (by decide +kernel) (by decide +kernel)
set_option maxRecDepth 20000 in
theorem gX5_board_X0_lay : GoodIn wsX5_board (wsV RX5 79 RX0 yX0_lay wsX0_lay) := goodIn_app (goodIn_of _ (by decide +kernel)) ggX5_board_X0_lay
set_option maxRecDepth 20000 in
theorem ggX5_board_X4_read : GoodIn wsX5_board wsX4_read := goodIn_r _ [61, 62, 63, 64, 65, 66, 67, 68, 23, 24, 11, 25, 13, 26, 69, 36, 37, 38, 22, 70, 71, 72, 60, 73, 74, 75, 76, 77, 78, 79, 80, 81, 82, 83, 84, 85, 86, 47, 87, 51, 106, 107, 108, 109, 110, 111, 112, 113, 114, 115, 116, 117, 104, 105] (by decide +kernel) (by decide +kernel)
set_option maxRecDepth 20000 in
theorem gX5_board_X4_read : GoodIn wsX5_board (wsV RX5 83 RX4 yX4_read wsX4_read) := goodIn_app (goodIn_of _ (by decide +kernel)) ggX5_board_X4_read
theorem dX5_board_0 : decode cX5_board 0 = .ok (.aload_n 0, 1) := by decide +kernel
theorem dX5_board_1 : decode cX5_board 1 = .ok (.getfield 12, 3) := by decide +kernel
theorem dX5_board_4 : decode cX5_board 4 = .ok (.invokevirtual 71, 3) := by decide +kernel
theorem dX5_board_7 : decode cX5_board 7 = .ok (.ifCond .ne 6, 3) := by decide +kernel
theorem dX5_board_10 : decode cX5_board 10 = .ok (.bipush (-103), 2) := by decide +kernel
theorem dX5_board_12 : decode cX5_board 12 = .ok (.ireturn, 1) := by decide +kernel
theorem dX5_board_13 : decode cX5_board 13 = .ok (.aload_n 0, 1) := by decide +kernel
theorem dX5_board_14 : decode cX5_board 14 = .ok (.getfield 19, 3) := by decide +kernel
theorem dX5_board_17 : decode cX5_board 17 = .ok (.aload_n 0, 1) := by decide +kernel
theorem dX5_board_18 : decode cX5_board 18 = .ok (.getfield 12, 3) := by decide +kernel
theorem dX5_board_21 : decode cX5_board 21 = .ok (.iconst 0, 1) := by decide +kernel
theorem dX5_board_22 : decode cX5_board 22 = .ok (.invokevirtual 75, 3) := by decide +kernel
theorem dX5_board_25 : decode cX5_board 25 = .ok (.aload_n 0, 1) := by decide +kernel
theorem dX5_board_26 : decode cX5_board 26 = .ok (.getfield 12, 3) := by decide +kernel
theorem dX5_board_29 : decode cX5_board 29 = .ok (.iconst 1, 1) := by decide +kernel
theorem dX5_board_30 : decode cX5_board 30 = .ok (.invokevirtual 75, 3) := by decide +kernel
theorem dX5_board_33 : decode cX5_board 33 = .ok (.invokevirtual 79, 3) := by decide +kernel
theorem dX5_board_36 : decode cX5_board 36 = .ok (.aload_n 0, 1) := by decide +kernel
theorem dX5_board_37 : decode cX5_board 37 = .ok (.getfield 28, 3) := by decide +kernel
theorem dX5_board_40 : decode cX5_board 40 = .ok (.aload_n 0, 1) := by decide +kernel
theorem dX5_board_41 : decode cX5_board 41 = .ok (.getfield 12, 3) := by decide +kernel
theorem dX5_board_44 : decode cX5_board 44 = .ok (.invokevirtual 83, 3) := by decide +kernel
theorem dX5_board_47 : decode cX5_board 47 = .ok (.aload_n 0, 1) := by decide +kernel
theorem dX5_board_48 : decode cX5_board 48 = .ok (.getfield 35, 3) := by decide +kernel
theorem dX5_board_51 : decode cX5_board 51 = .ok (.iconst 0, 1) := by decide +kernel
theorem dX5_board_52 : decode cX5_board 52 = .ok (.putfield 87, 3) := by decide +kernel
theorem dX5_board_55 : decode cX5_board 55 = .ok (.aload_n 0, 1) := by decide +kernel
theorem dX5_board_56 : decode cX5_board 56 = .ok (.getfield 12, 3) := by decide +kernel
theorem dX5_board_59 : decode cX5_board 59 = .ok (.iconst 0, 1) := by decide +kernel
theorem dX5_board_60 : decode cX5_board 60 = .ok (.putfield 63, 3) := by decide +kernel
theorem dX5_board_63 : decode cX5_board 63 = .ok (.aload_n 0, 1) := by decide +kernel
theorem dX5_board_64 : decode cX5_board 64 = .ok (.iconst 0, 1) := by decide +kernel
theorem dX5_board_65 : decode cX5_board 65 = .ok (.putfield 88, 3) := by decide +kernel
theorem dX5_board_68 : decode cX5_board 68 = .ok (.aload_n 0, 1) := by decide +kernel
theorem dX5_board_69 : decode cX5_board 69 = .ok (.iconst 0, 1) := by decide +kernel
theorem dX5_board_70 : decode cX5_board 70 = .ok (.putfield 92, 3) := by decide +kernel
theorem dX5_board_73 : decode cX5_board 73 = .ok (.aload_n 0, 1) := by decide +kernel
theorem dX5_board_74 : decode cX5_board 74 = .ok (.dup, 1) := by decide +kernel
theorem dX5_board_75 : decode cX5_board 75 = .ok (.getfield 95, 3) := by decide +kernel
theorem dX5_board_78 : decode cX5_board 78 = .ok (.iconst 1, 1) := by decide +kernel
theorem dX5_board_79 : decode cX5_board 79 = .ok (.iadd, 1) := by decide +kernel
theorem dX5_board_80 : decode cX5_board 80 = .ok (.putfield 95, 3) := by decide +kernel
theorem dX5_board_83 : decode cX5_board 83 = .ok (.aload_n 0, 1) := by decide +kernel
theorem dX5_board_84 : decode cX5_board 84 = .ok (.getfield 28, 3) := by decide +kernel
theorem dX5_board_87 : decode cX5_board 87 = .ok (.getfield 98, 3) := by decide +kernel
theorem dX5_board_90 : decode cX5_board 90 = .ok (.ireturn, 1) := by decide +kernel
set_option maxRecDepth 20000 in
theorem ggX5_peg_X4_isPeg : GoodIn wsX5_peg wsX4_isPeg := goodIn_r _ [7, 8, 98, 99, 100, 101, 102, 103, 104, 105] (by decide +kernel) (by decide +kernel)
set_option maxRecDepth 20000 in
theorem gX5_peg_X4_isPeg : GoodIn wsX5_peg (wsV RX5 101 RX4 yX4_isPeg wsX4_isPeg) := goodIn_app (goodIn_of _ (by decide +kernel)) ggX5_peg_X4_isPeg
set_option maxRecDepth 20000 in
theorem ggX5_peg_X4_kindOf : GoodIn wsX5_peg wsX4_kindOf := goodIn_r _ [12, 13, 14, 4, 5, 6, 7, 8, 98, 99, 100, 101, 102, 103, 104, 105] (by decide +kernel) (by decide +kernel)
set_option maxRecDepth 20000 in
theorem gX5_peg_X4_kindOf : GoodIn wsX5_peg (wsV RX5 104 RX4 yX4_kindOf wsX4_kindOf) := goodIn_app (goodIn_of _ (by decide +kernel)) ggX5_peg_X4_kindOf
set_option maxRecDepth 20000 in
theorem ggX5_peg_X4_homeOf : GoodIn wsX5_peg wsX4_homeOf := goodIn_r _ [18, 19, 14, 4, 5, 6, 7, 8, 98, 99, 100, 101, 102, 103, 104, 105] (by decide +kernel) (by decide +kernel)
set_option maxRecDepth 20000 in
theorem gX5_peg_X4_homeOf : GoodIn wsX5_peg (wsV RX5 107 RX4 yX4_homeOf wsX4_homeOf) := goodIn_app (goodIn_of _ (by decide +kernel)) ggX5_peg_X4_homeOf
set_option maxRecDepth 20000 in
theorem ggX5_peg_X4_targetsOf : GoodIn wsX5_peg wsX4_targetsOf := goodIn_r _ [23, 24, 25, 26, 6, 27, 28, 29, 16, 17, 18, 19, 14, 4, 5, 7, 8, 30, 31, 32, 33, 34, 35, 36, 37, 38, 39, 40, 41, 42, 43, 44, 45, 46, 47, 10, 11, 12, 13, 48, 49, 50, 51, 52, 53, 54, 55, 56, 57, 58, 59, 60, 61, 62, 98, 99, 100, 101, 102, 103, 104, 105, 106, 107, 108, 109] (by decide +kernel) (by decide +kernel)
set_option maxRecDepth 20000 in
theorem gX5_peg_X4_targetsOf : GoodIn wsX5_peg (wsV RX5 110 RX4 yX4_targetsOf wsX4_targetsOf) := goodIn_app (goodIn_of _ (by decide +kernel)) ggX5_peg_X4_targetsOf
set_option maxRecDepth 20000 in
theorem ggX5_peg_X3_sortsOf : GoodIn wsX5_peg wsX3_sortsOf := goodIn_r _ [67, 68, 69, 70, 110, 111, 112] (by decide +kernel) (by decide +kernel)
set_option maxRecDepth 20000 in
theorem gX5_peg_X3_sortsOf : GoodIn wsX5_peg (wsV RX5 113 RX3 yX3_sortsOf wsX3_sortsOf) := goodIn_app (goodIn_of _ (by decide +kernel)) ggX5_peg_X3_sortsOf
set_option maxRecDepth 20000 in
theorem ggX5_peg_X5_bestQuestion : GoodIn wsX5_peg wsX5_bestQuestion := goodIn_r _ [73, 57, 74, 75, 76, 77, 78, 79, 80, 81, 82, 83, 84] (by decide +kernel) (by decide +kernel)
set_option maxRecDepth 20000 in
theorem gX5_peg_X5_bestQuestion : GoodIn wsX5_peg (va_wsS RX5 116 yX5_bestQuestion wsX5_bestQuestion) := goodIn_app (goodIn_of _ (by decide +kernel)) ggX5_peg_X5_bestQuestion
theorem dX5_peg_0 : decode cX5_peg 0 = .ok (.aload_n 0, 1) := by decide +kernel
theorem dX5_peg_1 : decode cX5_peg 1 = .ok (.getfield 28, 3) := by decide +kernel
theorem dX5_peg_4 : decode cX5_peg 4 = .ok (.iload_n 1, 1) := by decide +kernel
theorem dX5_peg_5 : decode cX5_peg 5 = .ok (.invokevirtual 101, 3) := by decide +kernel
theorem dX5_peg_8 : decode cX5_peg 8 = .ok (.ifCond .ne 6, 3) := by decide +kernel
theorem dX5_peg_11 : decode cX5_peg 11 = .ok (.bipush (-101), 2) := by decide +kernel
theorem dX5_peg_13 : decode cX5_peg 13 = .ok (.ireturn, 1) := by decide +kernel
theorem dX5_peg_14 : decode cX5_peg 14 = .ok (.iload_n 2, 1) := by decide +kernel
theorem dX5_peg_15 : decode cX5_peg 15 = .ok (.tableswitch 81 0 4 #[33, 42, 51, 60, 69], 33) := by decide +kernel
theorem dX5_peg_48 : decode cX5_peg 48 = .ok (.aload_n 0, 1) := by decide +kernel
theorem dX5_peg_49 : decode cX5_peg 49 = .ok (.getfield 28, 3) := by decide +kernel
theorem dX5_peg_52 : decode cX5_peg 52 = .ok (.iload_n 1, 1) := by decide +kernel
theorem dX5_peg_53 : decode cX5_peg 53 = .ok (.invokevirtual 104, 3) := by decide +kernel
theorem dX5_peg_56 : decode cX5_peg 56 = .ok (.ireturn, 1) := by decide +kernel
theorem dX5_peg_57 : decode cX5_peg 57 = .ok (.aload_n 0, 1) := by decide +kernel
theorem dX5_peg_58 : decode cX5_peg 58 = .ok (.getfield 28, 3) := by decide +kernel
theorem dX5_peg_61 : decode cX5_peg 61 = .ok (.iload_n 1, 1) := by decide +kernel
theorem dX5_peg_62 : decode cX5_peg 62 = .ok (.invokevirtual 107, 3) := by decide +kernel
theorem dX5_peg_65 : decode cX5_peg 65 = .ok (.ireturn, 1) := by decide +kernel
theorem dX5_peg_66 : decode cX5_peg 66 = .ok (.aload_n 0, 1) := by decide +kernel
theorem dX5_peg_67 : decode cX5_peg 67 = .ok (.getfield 28, 3) := by decide +kernel
theorem dX5_peg_70 : decode cX5_peg 70 = .ok (.iload_n 1, 1) := by decide +kernel
theorem dX5_peg_71 : decode cX5_peg 71 = .ok (.invokevirtual 110, 3) := by decide +kernel
theorem dX5_peg_74 : decode cX5_peg 74 = .ok (.ireturn, 1) := by decide +kernel
theorem dX5_peg_75 : decode cX5_peg 75 = .ok (.aload_n 0, 1) := by decide +kernel
theorem dX5_peg_76 : decode cX5_peg 76 = .ok (.getfield 35, 3) := by decide +kernel
theorem dX5_peg_79 : decode cX5_peg 79 = .ok (.iload_n 1, 1) := by decide +kernel
theorem dX5_peg_80 : decode cX5_peg 80 = .ok (.invokevirtual 113, 3) := by decide +kernel
theorem dX5_peg_83 : decode cX5_peg 83 = .ok (.ireturn, 1) := by decide +kernel
theorem dX5_peg_84 : decode cX5_peg 84 = .ok (.aload_n 0, 1) := by decide +kernel
theorem dX5_peg_85 : decode cX5_peg 85 = .ok (.getfield 35, 3) := by decide +kernel
theorem dX5_peg_88 : decode cX5_peg 88 = .ok (.iload_n 1, 1) := by decide +kernel
theorem dX5_peg_89 : decode cX5_peg 89 = .ok (.invokevirtual 113, 3) := by decide +kernel
theorem dX5_peg_92 : decode cX5_peg 92 = .ok (.invokestatic 116, 3) := by decide +kernel
theorem dX5_peg_95 : decode cX5_peg 95 = .ok (.ireturn, 1) := by decide +kernel
theorem dX5_peg_96 : decode cX5_peg 96 = .ok (.bipush (-102), 2) := by decide +kernel
theorem dX5_peg_98 : decode cX5_peg 98 = .ok (.ireturn, 1) := by decide +kernel
set_option maxRecDepth 20000 in
theorem ggX5_as_X4_isPeg : GoodIn wsX5_as wsX4_isPeg := goodIn_r _ [7, 8, 32, 33, 34, 35, 36, 37, 38, 39] (by decide +kernel) (by decide +kernel)
set_option maxRecDepth 20000 in
theorem gX5_as_X4_isPeg : GoodIn wsX5_as (wsV RX5 101 RX4 yX4_isPeg wsX4_isPeg) := goodIn_app (goodIn_of _ (by decide +kernel)) ggX5_as_X4_isPeg
set_option maxRecDepth 20000 in
theorem ggX5_as_X4_kindOf : GoodIn wsX5_as wsX4_kindOf := goodIn_r _ [12, 13, 14, 4, 5, 6, 7, 8, 32, 33, 34, 35, 36, 37, 38, 39] (by decide +kernel) (by decide +kernel)
set_option maxRecDepth 20000 in
theorem gX5_as_X4_kindOf : GoodIn wsX5_as (wsV RX5 104 RX4 yX4_kindOf wsX4_kindOf) := goodIn_app (goodIn_of _ (by decide +kernel)) ggX5_as_X4_kindOf
set_option maxRecDepth 20000 in
theorem ggX5_as_X5_hasBit : GoodIn wsX5_as wsX5_hasBit := goodIn_r _ [18] (by decide +kernel) (by decide +kernel)
set_option maxRecDepth 20000 in
theorem gX5_as_X5_hasBit : GoodIn wsX5_as (va_wsS RX5 123 yX5_hasBit wsX5_hasBit) := goodIn_app (goodIn_of _ (by decide +kernel)) ggX5_as_X5_hasBit
theorem dX5_as_0 : decode cX5_as 0 = .ok (.aload_n 0, 1) := by decide +kernel
theorem dX5_as_1 : decode cX5_as 1 = .ok (.getfield 28, 3) := by decide +kernel
theorem dX5_as_4 : decode cX5_as 4 = .ok (.iload_n 1, 1) := by decide +kernel
theorem dX5_as_5 : decode cX5_as 5 = .ok (.invokevirtual 101, 3) := by decide +kernel
theorem dX5_as_8 : decode cX5_as 8 = .ok (.ifCond .ne 6, 3) := by decide +kernel
theorem dX5_as_11 : decode cX5_as 11 = .ok (.bipush (-101), 2) := by decide +kernel
theorem dX5_as_13 : decode cX5_as 13 = .ok (.ireturn, 1) := by decide +kernel
theorem dX5_as_14 : decode cX5_as 14 = .ok (.iload_n 2, 1) := by decide +kernel
theorem dX5_as_15 : decode cX5_as 15 = .ok (.ifCond .lt 8, 3) := by decide +kernel
theorem dX5_as_18 : decode cX5_as 18 = .ok (.iload_n 2, 1) := by decide +kernel
theorem dX5_as_19 : decode cX5_as 19 = .ok (.iconst 5, 1) := by decide +kernel
theorem dX5_as_20 : decode cX5_as 20 = .ok (.if_icmp .lt 6, 3) := by decide +kernel
theorem dX5_as_23 : decode cX5_as 23 = .ok (.bipush (-102), 2) := by decide +kernel
theorem dX5_as_25 : decode cX5_as 25 = .ok (.ireturn, 1) := by decide +kernel
theorem dX5_as_26 : decode cX5_as 26 = .ok (.getstatic 119, 3) := by decide +kernel
theorem dX5_as_29 : decode cX5_as 29 = .ok (.iload_n 2, 1) := by decide +kernel
theorem dX5_as_30 : decode cX5_as 30 = .ok (.iaload, 1) := by decide +kernel
theorem dX5_as_31 : decode cX5_as 31 = .ok (.aload_n 0, 1) := by decide +kernel
theorem dX5_as_32 : decode cX5_as 32 = .ok (.getfield 28, 3) := by decide +kernel
theorem dX5_as_35 : decode cX5_as 35 = .ok (.iload_n 1, 1) := by decide +kernel
theorem dX5_as_36 : decode cX5_as 36 = .ok (.invokevirtual 104, 3) := by decide +kernel
theorem dX5_as_39 : decode cX5_as 39 = .ok (.invokestatic 123, 3) := by decide +kernel
theorem dX5_as_42 : decode cX5_as 42 = .ok (.ifCond .eq 7, 3) := by decide +kernel
theorem dX5_as_45 : decode cX5_as 45 = .ok (.iload_n 1, 1) := by decide +kernel
theorem dX5_as_46 : decode cX5_as 46 = .ok (.goto 4, 3) := by decide +kernel
theorem dX5_as_49 : decode cX5_as 49 = .ok (.iconst (-1), 1) := by decide +kernel
theorem dX5_as_50 : decode cX5_as 50 = .ok (.ireturn, 1) := by decide +kernel
set_option maxRecDepth 20000 in
theorem ggX5_place_X0_has : GoodIn wsX5_place wsX0_has := goodIn_r _ [7, 8, 38, 39, 40, 41] (by decide +kernel) (by decide +kernel)
set_option maxRecDepth 20000 in
theorem gX5_place_X0_has : GoodIn wsX5_place (wsV RX5 127 RX0 yX0_has wsX0_has) := goodIn_app (goodIn_of _ (by decide +kernel)) ggX5_place_X0_has
set_option maxRecDepth 20000 in
theorem ggX5_place_X4_isHole : GoodIn wsX5_place wsX4_isHole := goodIn_r _ [13, 14, 15, 16, 4, 5, 6, 7, 8, 17, 18, 19, 42, 43, 44, 45, 46, 47, 48, 49, 38, 39, 40, 41] (by decide +kernel) (by decide +kernel)
set_option maxRecDepth 20000 in
theorem gX5_place_X4_isHole : GoodIn wsX5_place (wsV RX5 130 RX4 yX4_isHole wsX4_isHole) := goodIn_app (goodIn_of _ (by decide +kernel)) ggX5_place_X4_isHole
set_option maxRecDepth 20000 in
theorem ggX5_place_X4_pegIn : GoodIn wsX5_place wsX4_pegIn := goodIn_r _ [23, 14, 24, 16, 4, 5, 6, 7, 8, 42, 43, 44, 45, 46, 47, 48, 49, 38, 39, 40, 41] (by decide +kernel) (by decide +kernel)
set_option maxRecDepth 20000 in
theorem gX5_place_X4_pegIn : GoodIn wsX5_place (wsV RX5 133 RX4 yX4_pegIn wsX4_pegIn) := goodIn_app (goodIn_of _ (by decide +kernel)) ggX5_place_X4_pegIn
theorem dX5_place_0 : decode cX5_place 0 = .ok (.aload_n 0, 1) := by decide +kernel
theorem dX5_place_1 : decode cX5_place 1 = .ok (.getfield 19, 3) := by decide +kernel
theorem dX5_place_4 : decode cX5_place 4 = .ok (.iload_n 1, 1) := by decide +kernel
theorem dX5_place_5 : decode cX5_place 5 = .ok (.invokevirtual 127, 3) := by decide +kernel
theorem dX5_place_8 : decode cX5_place 8 = .ok (.ifCond .ne 6, 3) := by decide +kernel
theorem dX5_place_11 : decode cX5_place 11 = .ok (.bipush (-101), 2) := by decide +kernel
theorem dX5_place_13 : decode cX5_place 13 = .ok (.ireturn, 1) := by decide +kernel
theorem dX5_place_14 : decode cX5_place 14 = .ok (.iload_n 2, 1) := by decide +kernel
theorem dX5_place_15 : decode cX5_place 15 = .ok (.lookupswitch 51 #[(0, 25), (1, 42)], 25) := by decide +kernel
theorem dX5_place_40 : decode cX5_place 40 = .ok (.aload_n 0, 1) := by decide +kernel
theorem dX5_place_41 : decode cX5_place 41 = .ok (.getfield 28, 3) := by decide +kernel
theorem dX5_place_44 : decode cX5_place 44 = .ok (.iload_n 1, 1) := by decide +kernel
theorem dX5_place_45 : decode cX5_place 45 = .ok (.invokevirtual 130, 3) := by decide +kernel
theorem dX5_place_48 : decode cX5_place 48 = .ok (.ifCond .eq 7, 3) := by decide +kernel
theorem dX5_place_51 : decode cX5_place 51 = .ok (.iconst 1, 1) := by decide +kernel
theorem dX5_place_52 : decode cX5_place 52 = .ok (.goto 4, 3) := by decide +kernel
theorem dX5_place_55 : decode cX5_place 55 = .ok (.iconst 0, 1) := by decide +kernel
theorem dX5_place_56 : decode cX5_place 56 = .ok (.ireturn, 1) := by decide +kernel
theorem dX5_place_57 : decode cX5_place 57 = .ok (.aload_n 0, 1) := by decide +kernel
theorem dX5_place_58 : decode cX5_place 58 = .ok (.getfield 28, 3) := by decide +kernel
theorem dX5_place_61 : decode cX5_place 61 = .ok (.iload_n 1, 1) := by decide +kernel
theorem dX5_place_62 : decode cX5_place 62 = .ok (.invokevirtual 133, 3) := by decide +kernel
theorem dX5_place_65 : decode cX5_place 65 = .ok (.ireturn, 1) := by decide +kernel
theorem dX5_place_66 : decode cX5_place 66 = .ok (.bipush (-102), 2) := by decide +kernel
theorem dX5_place_68 : decode cX5_place 68 = .ok (.ireturn, 1) := by decide +kernel
set_option maxRecDepth 20000 in
theorem ggX5_jump_X4_isPeg : GoodIn wsX5_jump wsX4_isPeg := goodIn_r _ [8, 9, 93, 94, 95, 96, 97, 98, 99, 100] (by decide +kernel) (by decide +kernel)
set_option maxRecDepth 20000 in
theorem gX5_jump_X4_isPeg : GoodIn wsX5_jump (wsV RX5 101 RX4 yX4_isPeg wsX4_isPeg) := goodIn_app (goodIn_of _ (by decide +kernel)) ggX5_jump_X4_isPeg
set_option maxRecDepth 20000 in
theorem ggX5_jump_X0_has : GoodIn wsX5_jump wsX0_has := goodIn_r _ [14, 15, 101, 102, 103, 104] (by decide +kernel) (by decide +kernel)
set_option maxRecDepth 20000 in
theorem gX5_jump_X0_has : GoodIn wsX5_jump (wsV RX5 127 RX0 yX0_has wsX0_has) := goodIn_app (goodIn_of _ (by decide +kernel)) ggX5_jump_X0_has
set_option maxRecDepth 20000 in
theorem ggX5_jump_X4_directionTo : GoodIn wsX5_jump wsX4_directionTo := goodIn_r _ [19, 20, 21, 22, 7, 23, 24, 25, 26, 27, 28, 29, 30, 5, 6, 8, 9, 31, 32, 33, 13, 34, 35, 36, 11, 12, 14, 15, 37, 38, 39, 40, 41, 42, 43, 44, 45, 46, 47, 48, 49, 50, 51, 52, 53, 54, 55, 56, 57, 58, 59, 60, 61, 62, 93, 94, 95, 96, 97, 98, 99, 100, 101, 102, 103, 104] (by decide +kernel) (by decide +kernel)
set_option maxRecDepth 20000 in
theorem gX5_jump_X4_directionTo : GoodIn wsX5_jump (wsV RX5 136 RX4 yX4_directionTo wsX4_directionTo) := goodIn_app (goodIn_of _ (by decide +kernel)) ggX5_jump_X4_directionTo
set_option maxRecDepth 20000 in
theorem ggX5_jump_X4_neighbourOf : GoodIn wsX5_jump wsX4_neighbourOf := goodIn_r _ [66, 24, 25, 26, 27, 7, 28, 29, 30, 5, 6, 8, 9, 31, 32, 33, 13, 34, 35, 36, 11, 12, 14, 15, 37, 38, 39, 40, 41, 42, 93, 94, 95, 96, 97, 98, 99, 100, 101, 102, 103, 104] (by decide +kernel) (by decide +kernel)
set_option maxRecDepth 20000 in
theorem gX5_jump_X4_neighbourOf : GoodIn wsX5_jump (wsV RX5 143 RX4 yX4_neighbourOf wsX4_neighbourOf) := goodIn_app (goodIn_of _ (by decide +kernel)) ggX5_jump_X4_neighbourOf
set_option maxRecDepth 20000 in
theorem ggX5_jump_X4_leap : GoodIn wsX5_jump wsX4_leap := goodIn_r _ [70, 71, 72, 73, 7, 74, 24, 29, 41, 75, 30, 5, 6, 8, 9, 42, 11, 12, 13, 14, 15, 43, 44, 45, 46, 47, 55, 49, 56, 57, 52, 53, 54, 76, 77, 78, 79, 93, 94, 95, 96, 97, 98, 99, 100, 101, 102, 103, 104] (by decide +kernel) (by decide +kernel)
set_option maxRecDepth 20000 in
theorem gX5_jump_X4_leap : GoodIn wsX5_jump (wsV RX5 146 RX4 yX4_leap wsX4_leap) := goodIn_app (goodIn_of _ (by decide +kernel)) ggX5_jump_X4_leap
theorem dX5_jump_0 : decode cX5_jump 0 = .ok (.aload_n 0, 1) := by decide +kernel
theorem dX5_jump_1 : decode cX5_jump 1 = .ok (.getfield 28, 3) := by decide +kernel
theorem dX5_jump_4 : decode cX5_jump 4 = .ok (.iload_n 1, 1) := by decide +kernel
theorem dX5_jump_5 : decode cX5_jump 5 = .ok (.invokevirtual 101, 3) := by decide +kernel
theorem dX5_jump_8 : decode cX5_jump 8 = .ok (.ifCond .eq 14, 3) := by decide +kernel
theorem dX5_jump_11 : decode cX5_jump 11 = .ok (.aload_n 0, 1) := by decide +kernel
theorem dX5_jump_12 : decode cX5_jump 12 = .ok (.getfield 19, 3) := by decide +kernel
theorem dX5_jump_15 : decode cX5_jump 15 = .ok (.iload_n 2, 1) := by decide +kernel
theorem dX5_jump_16 : decode cX5_jump 16 = .ok (.invokevirtual 127, 3) := by decide +kernel
theorem dX5_jump_19 : decode cX5_jump 19 = .ok (.ifCond .ne 6, 3) := by decide +kernel
theorem dX5_jump_22 : decode cX5_jump 22 = .ok (.bipush (-101), 2) := by decide +kernel
theorem dX5_jump_24 : decode cX5_jump 24 = .ok (.ireturn, 1) := by decide +kernel
theorem dX5_jump_25 : decode cX5_jump 25 = .ok (.aload_n 0, 1) := by decide +kernel
theorem dX5_jump_26 : decode cX5_jump 26 = .ok (.getfield 28, 3) := by decide +kernel
theorem dX5_jump_29 : decode cX5_jump 29 = .ok (.iload_n 1, 1) := by decide +kernel
theorem dX5_jump_30 : decode cX5_jump 30 = .ok (.iload_n 2, 1) := by decide +kernel
theorem dX5_jump_31 : decode cX5_jump 31 = .ok (.invokevirtual 136, 3) := by decide +kernel
theorem dX5_jump_34 : decode cX5_jump 34 = .ok (.istore_n 3, 1) := by decide +kernel
theorem dX5_jump_35 : decode cX5_jump 35 = .ok (.iload_n 3, 1) := by decide +kernel
theorem dX5_jump_36 : decode cX5_jump 36 = .ok (.iconst (-1), 1) := by decide +kernel
theorem dX5_jump_37 : decode cX5_jump 37 = .ok (.if_icmp .ne 6, 3) := by decide +kernel
theorem dX5_jump_40 : decode cX5_jump 40 = .ok (.bipush (-103), 2) := by decide +kernel
theorem dX5_jump_42 : decode cX5_jump 42 = .ok (.ireturn, 1) := by decide +kernel
theorem dX5_jump_43 : decode cX5_jump 43 = .ok (.aload_n 0, 1) := by decide +kernel
theorem dX5_jump_44 : decode cX5_jump 44 = .ok (.getfield 28, 3) := by decide +kernel
theorem dX5_jump_47 : decode cX5_jump 47 = .ok (.getfield 140, 3) := by decide +kernel
theorem dX5_jump_50 : decode cX5_jump 50 = .ok (.sipush 999, 3) := by decide +kernel
theorem dX5_jump_53 : decode cX5_jump 53 = .ok (.if_icmp .lt 6, 3) := by decide +kernel
theorem dX5_jump_56 : decode cX5_jump 56 = .ok (.bipush (-104), 2) := by decide +kernel
theorem dX5_jump_58 : decode cX5_jump 58 = .ok (.ireturn, 1) := by decide +kernel
theorem dX5_jump_59 : decode cX5_jump 59 = .ok (.aload_n 0, 1) := by decide +kernel
theorem dX5_jump_60 : decode cX5_jump 60 = .ok (.getfield 28, 3) := by decide +kernel
theorem dX5_jump_63 : decode cX5_jump 63 = .ok (.iload_n 1, 1) := by decide +kernel
theorem dX5_jump_64 : decode cX5_jump 64 = .ok (.aload_n 0, 1) := by decide +kernel
theorem dX5_jump_65 : decode cX5_jump 65 = .ok (.getfield 28, 3) := by decide +kernel
theorem dX5_jump_68 : decode cX5_jump 68 = .ok (.iload_n 1, 1) := by decide +kernel
theorem dX5_jump_69 : decode cX5_jump 69 = .ok (.iload_n 3, 1) := by decide +kernel
theorem dX5_jump_70 : decode cX5_jump 70 = .ok (.invokevirtual 143, 3) := by decide +kernel
theorem dX5_jump_73 : decode cX5_jump 73 = .ok (.iload_n 2, 1) := by decide +kernel
theorem dX5_jump_74 : decode cX5_jump 74 = .ok (.invokevirtual 146, 3) := by decide +kernel
theorem dX5_jump_77 : decode cX5_jump 77 = .ok (.aload_n 0, 1) := by decide +kernel
theorem dX5_jump_78 : decode cX5_jump 78 = .ok (.getfield 28, 3) := by decide +kernel
theorem dX5_jump_81 : decode cX5_jump 81 = .ok (.dup, 1) := by decide +kernel
theorem dX5_jump_82 : decode cX5_jump 82 = .ok (.getfield 140, 3) := by decide +kernel
theorem dX5_jump_85 : decode cX5_jump 85 = .ok (.iconst 1, 1) := by decide +kernel
theorem dX5_jump_86 : decode cX5_jump 86 = .ok (.iadd, 1) := by decide +kernel
theorem dX5_jump_87 : decode cX5_jump 87 = .ok (.putfield 140, 3) := by decide +kernel
theorem dX5_jump_90 : decode cX5_jump 90 = .ok (.aload_n 0, 1) := by decide +kernel
theorem dX5_jump_91 : decode cX5_jump 91 = .ok (.iconst 0, 1) := by decide +kernel
theorem dX5_jump_92 : decode cX5_jump 92 = .ok (.putfield 92, 3) := by decide +kernel
theorem dX5_jump_95 : decode cX5_jump 95 = .ok (.aload_n 0, 1) := by decide +kernel
theorem dX5_jump_96 : decode cX5_jump 96 = .ok (.getfield 28, 3) := by decide +kernel
theorem dX5_jump_99 : decode cX5_jump 99 = .ok (.getfield 150, 3) := by decide +kernel
theorem dX5_jump_102 : decode cX5_jump 102 = .ok (.ireturn, 1) := by decide +kernel
set_option maxRecDepth 20000 in
theorem ggX5_put_X4_isPeg : GoodIn wsX5_put wsX4_isPeg := goodIn_r _ [8, 9, 51, 52, 53, 54, 55, 56, 57, 58] (by decide +kernel) (by decide +kernel)
set_option maxRecDepth 20000 in
theorem gX5_put_X4_isPeg : GoodIn wsX5_put (wsV RX5 101 RX4 yX4_isPeg wsX4_isPeg) := goodIn_app (goodIn_of _ (by decide +kernel)) ggX5_put_X4_isPeg
set_option maxRecDepth 20000 in
theorem ggX5_put_X0_has : GoodIn wsX5_put wsX0_has := goodIn_r _ [14, 15, 59, 60, 61, 62] (by decide +kernel) (by decide +kernel)
set_option maxRecDepth 20000 in
theorem gX5_put_X0_has : GoodIn wsX5_put (wsV RX5 127 RX0 yX0_has wsX0_has) := goodIn_app (goodIn_of _ (by decide +kernel)) ggX5_put_X0_has
set_option maxRecDepth 20000 in
theorem ggX5_put_X4_homeOf : GoodIn wsX5_put wsX4_homeOf := goodIn_r _ [19, 20, 21, 5, 6, 7, 8, 9, 51, 52, 53, 54, 55, 56, 57, 58] (by decide +kernel) (by decide +kernel)
set_option maxRecDepth 20000 in
theorem gX5_put_X4_homeOf : GoodIn wsX5_put (wsV RX5 107 RX4 yX4_homeOf wsX4_homeOf) := goodIn_app (goodIn_of _ (by decide +kernel)) ggX5_put_X4_homeOf
set_option maxRecDepth 20000 in
theorem ggX5_put_X4_isEmptyHole : GoodIn wsX5_put wsX4_isEmptyHole := goodIn_r _ [25, 26, 27, 28, 29, 11, 12, 13, 14, 15, 30, 31, 32, 51, 52, 53, 54, 55, 56, 57, 58, 59, 60, 61, 62] (by decide +kernel) (by decide +kernel)
set_option maxRecDepth 20000 in
theorem gX5_put_X4_isEmptyHole : GoodIn wsX5_put (wsV RX5 153 RX4 yX4_isEmptyHole wsX4_isEmptyHole) := goodIn_app (goodIn_of _ (by decide +kernel)) ggX5_put_X4_isEmptyHole
set_option maxRecDepth 20000 in
theorem ggX5_put_X4_set : GoodIn wsX5_put wsX4_set := goodIn_r _ [36, 26, 20, 28, 37, 21, 5, 6, 7, 8, 9, 29, 11, 12, 13, 14, 15, 51, 52, 53, 54, 55, 56, 57, 58, 59, 60, 61, 62] (by decide +kernel) (by decide +kernel)
set_option maxRecDepth 20000 in
theorem gX5_put_X4_set : GoodIn wsX5_put (wsV RX5 156 RX4 yX4_set wsX4_set) := goodIn_app (goodIn_of _ (by decide +kernel)) ggX5_put_X4_set
theorem dX5_put_0 : decode cX5_put 0 = .ok (.aload_n 0, 1) := by decide +kernel
theorem dX5_put_1 : decode cX5_put 1 = .ok (.getfield 28, 3) := by decide +kernel
theorem dX5_put_4 : decode cX5_put 4 = .ok (.iload_n 1, 1) := by decide +kernel
theorem dX5_put_5 : decode cX5_put 5 = .ok (.invokevirtual 101, 3) := by decide +kernel
theorem dX5_put_8 : decode cX5_put 8 = .ok (.ifCond .eq 14, 3) := by decide +kernel
theorem dX5_put_11 : decode cX5_put 11 = .ok (.aload_n 0, 1) := by decide +kernel
theorem dX5_put_12 : decode cX5_put 12 = .ok (.getfield 19, 3) := by decide +kernel
theorem dX5_put_15 : decode cX5_put 15 = .ok (.iload_n 2, 1) := by decide +kernel
theorem dX5_put_16 : decode cX5_put 16 = .ok (.invokevirtual 127, 3) := by decide +kernel
theorem dX5_put_19 : decode cX5_put 19 = .ok (.ifCond .ne 6, 3) := by decide +kernel
theorem dX5_put_22 : decode cX5_put 22 = .ok (.bipush (-101), 2) := by decide +kernel
theorem dX5_put_24 : decode cX5_put 24 = .ok (.ireturn, 1) := by decide +kernel
theorem dX5_put_25 : decode cX5_put 25 = .ok (.aload_n 0, 1) := by decide +kernel
theorem dX5_put_26 : decode cX5_put 26 = .ok (.getfield 28, 3) := by decide +kernel
theorem dX5_put_29 : decode cX5_put 29 = .ok (.iload_n 1, 1) := by decide +kernel
theorem dX5_put_30 : decode cX5_put 30 = .ok (.invokevirtual 107, 3) := by decide +kernel
theorem dX5_put_33 : decode cX5_put 33 = .ok (.iconst (-1), 1) := by decide +kernel
theorem dX5_put_34 : decode cX5_put 34 = .ok (.if_icmp .ne 14, 3) := by decide +kernel
theorem dX5_put_37 : decode cX5_put 37 = .ok (.aload_n 0, 1) := by decide +kernel
theorem dX5_put_38 : decode cX5_put 38 = .ok (.getfield 28, 3) := by decide +kernel
theorem dX5_put_41 : decode cX5_put 41 = .ok (.iload_n 2, 1) := by decide +kernel
theorem dX5_put_42 : decode cX5_put 42 = .ok (.invokevirtual 153, 3) := by decide +kernel
theorem dX5_put_45 : decode cX5_put 45 = .ok (.ifCond .ne 6, 3) := by decide +kernel
theorem dX5_put_48 : decode cX5_put 48 = .ok (.bipush (-103), 2) := by decide +kernel
theorem dX5_put_50 : decode cX5_put 50 = .ok (.ireturn, 1) := by decide +kernel
theorem dX5_put_51 : decode cX5_put 51 = .ok (.aload_n 0, 1) := by decide +kernel
theorem dX5_put_52 : decode cX5_put 52 = .ok (.getfield 28, 3) := by decide +kernel
theorem dX5_put_55 : decode cX5_put 55 = .ok (.iload_n 1, 1) := by decide +kernel
theorem dX5_put_56 : decode cX5_put 56 = .ok (.iload_n 2, 1) := by decide +kernel
theorem dX5_put_57 : decode cX5_put 57 = .ok (.invokevirtual 156, 3) := by decide +kernel
theorem dX5_put_60 : decode cX5_put 60 = .ok (.aload_n 0, 1) := by decide +kernel
theorem dX5_put_61 : decode cX5_put 61 = .ok (.iconst 0, 1) := by decide +kernel
theorem dX5_put_62 : decode cX5_put 62 = .ok (.putfield 92, 3) := by decide +kernel
theorem dX5_put_65 : decode cX5_put 65 = .ok (.aload_n 0, 1) := by decide +kernel
theorem dX5_put_66 : decode cX5_put 66 = .ok (.getfield 28, 3) := by decide +kernel
theorem dX5_put_69 : decode cX5_put 69 = .ok (.getfield 150, 3) := by decide +kernel
theorem dX5_put_72 : decode cX5_put 72 = .ok (.ireturn, 1) := by decide +kernel
set_option maxRecDepth 20000 in
theorem ggX5_plug_X0_has : GoodIn wsX5_plug wsX0_has := goodIn_r _ [8, 9, 50, 51, 52, 53] (by decide +kernel) (by decide +kernel)
set_option maxRecDepth 20000 in
theorem gX5_plug_X0_has : GoodIn wsX5_plug (wsV RX5 127 RX0 yX0_has wsX0_has) := goodIn_app (goodIn_of _ (by decide +kernel)) ggX5_plug_X0_has
set_option maxRecDepth 20000 in
theorem ggX5_plug_X4_isEmptyHole : GoodIn wsX5_plug wsX4_isEmptyHole := goodIn_r _ [14, 15, 16, 17, 18, 5, 6, 7, 8, 9, 19, 20, 21, 42, 43, 44, 45, 46, 47, 48, 49, 50, 51, 52, 53] (by decide +kernel) (by decide +kernel)
set_option maxRecDepth 20000 in
theorem gX5_plug_X4_isEmptyHole : GoodIn wsX5_plug (wsV RX5 153 RX4 yX4_isEmptyHole wsX4_isEmptyHole) := goodIn_app (goodIn_of _ (by decide +kernel)) ggX5_plug_X4_isEmptyHole
set_option maxRecDepth 20000 in
theorem ggX5_plug_J6_bitCount_0f7a4 : GoodIn wsX5_plug wsJ6_bitCount_0f7a4 := goodIn_r _ [25, 26, 27, 28] (by decide +kernel) (by decide +kernel)
set_option maxRecDepth 20000 in
theorem gX5_plug_J6_bitCount_0f7a4 : GoodIn wsX5_plug (va_wsS RX5 162 yJ6_bitCount_0f7a4 wsJ6_bitCount_0f7a4) := goodIn_app (goodIn_of _ (by decide +kernel)) ggX5_plug_J6_bitCount_0f7a4
theorem dX5_plug_0 : decode cX5_plug 0 = .ok (.aload_n 0, 1) := by decide +kernel
theorem dX5_plug_1 : decode cX5_plug 1 = .ok (.getfield 19, 3) := by decide +kernel
theorem dX5_plug_4 : decode cX5_plug 4 = .ok (.iload_n 1, 1) := by decide +kernel
theorem dX5_plug_5 : decode cX5_plug 5 = .ok (.invokevirtual 127, 3) := by decide +kernel
theorem dX5_plug_8 : decode cX5_plug 8 = .ok (.ifCond .ne 6, 3) := by decide +kernel
theorem dX5_plug_11 : decode cX5_plug 11 = .ok (.bipush (-101), 2) := by decide +kernel
theorem dX5_plug_13 : decode cX5_plug 13 = .ok (.ireturn, 1) := by decide +kernel
theorem dX5_plug_14 : decode cX5_plug 14 = .ok (.aload_n 0, 1) := by decide +kernel
theorem dX5_plug_15 : decode cX5_plug 15 = .ok (.getfield 28, 3) := by decide +kernel
theorem dX5_plug_18 : decode cX5_plug 18 = .ok (.iload_n 1, 1) := by decide +kernel
theorem dX5_plug_19 : decode cX5_plug 19 = .ok (.invokevirtual 153, 3) := by decide +kernel
theorem dX5_plug_22 : decode cX5_plug 22 = .ok (.ifCond .ne 6, 3) := by decide +kernel
theorem dX5_plug_25 : decode cX5_plug 25 = .ok (.bipush (-103), 2) := by decide +kernel
theorem dX5_plug_27 : decode cX5_plug 27 = .ok (.ireturn, 1) := by decide +kernel
theorem dX5_plug_28 : decode cX5_plug 28 = .ok (.aload_n 0, 1) := by decide +kernel
theorem dX5_plug_29 : decode cX5_plug 29 = .ok (.getfield 28, 3) := by decide +kernel
theorem dX5_plug_32 : decode cX5_plug 32 = .ok (.dup, 1) := by decide +kernel
theorem dX5_plug_33 : decode cX5_plug 33 = .ok (.getfield 159, 3) := by decide +kernel
theorem dX5_plug_36 : decode cX5_plug 36 = .ok (.iconst 1, 1) := by decide +kernel
theorem dX5_plug_37 : decode cX5_plug 37 = .ok (.iload_n 1, 1) := by decide +kernel
theorem dX5_plug_38 : decode cX5_plug 38 = .ok (.ishl, 1) := by decide +kernel
theorem dX5_plug_39 : decode cX5_plug 39 = .ok (.iconst (-1), 1) := by decide +kernel
theorem dX5_plug_40 : decode cX5_plug 40 = .ok (.ixor, 1) := by decide +kernel
theorem dX5_plug_41 : decode cX5_plug 41 = .ok (.iand, 1) := by decide +kernel
theorem dX5_plug_42 : decode cX5_plug 42 = .ok (.putfield 159, 3) := by decide +kernel
theorem dX5_plug_45 : decode cX5_plug 45 = .ok (.aload_n 0, 1) := by decide +kernel
theorem dX5_plug_46 : decode cX5_plug 46 = .ok (.iconst 0, 1) := by decide +kernel
theorem dX5_plug_47 : decode cX5_plug 47 = .ok (.putfield 92, 3) := by decide +kernel
theorem dX5_plug_50 : decode cX5_plug 50 = .ok (.aload_n 0, 1) := by decide +kernel
theorem dX5_plug_51 : decode cX5_plug 51 = .ok (.getfield 28, 3) := by decide +kernel
theorem dX5_plug_54 : decode cX5_plug 54 = .ok (.getfield 159, 3) := by decide +kernel
theorem dX5_plug_57 : decode cX5_plug 57 = .ok (.invokestatic 162, 3) := by decide +kernel
theorem dX5_plug_60 : decode cX5_plug 60 = .ok (.ireturn, 1) := by decide +kernel
set_option maxRecDepth 20000 in
theorem ggX5_bore_X0_has : GoodIn wsX5_bore wsX0_has := goodIn_r _ [8, 9, 49, 50, 51, 52] (by decide +kernel) (by decide +kernel)
set_option maxRecDepth 20000 in
theorem gX5_bore_X0_has : GoodIn wsX5_bore (wsV RX5 127 RX0 yX0_has wsX0_has) := goodIn_app (goodIn_of _ (by decide +kernel)) ggX5_bore_X0_has
set_option maxRecDepth 20000 in
theorem ggX5_bore_X4_isHole : GoodIn wsX5_bore wsX4_isHole := goodIn_r _ [14, 15, 16, 17, 5, 6, 7, 8, 9, 18, 19, 20, 41, 42, 43, 44, 45, 46, 47, 48, 49, 50, 51, 52] (by decide +kernel) (by decide +kernel)
set_option maxRecDepth 20000 in
theorem gX5_bore_X4_isHole : GoodIn wsX5_bore (wsV RX5 130 RX4 yX4_isHole wsX4_isHole) := goodIn_app (goodIn_of _ (by decide +kernel)) ggX5_bore_X4_isHole
set_option maxRecDepth 20000 in
theorem ggX5_bore_J6_bitCount_0f7a4 : GoodIn wsX5_bore wsJ6_bitCount_0f7a4 := goodIn_r _ [24, 25, 26, 27] (by decide +kernel) (by decide +kernel)
set_option maxRecDepth 20000 in
theorem gX5_bore_J6_bitCount_0f7a4 : GoodIn wsX5_bore (va_wsS RX5 162 yJ6_bitCount_0f7a4 wsJ6_bitCount_0f7a4) := goodIn_app (goodIn_of _ (by decide +kernel)) ggX5_bore_J6_bitCount_0f7a4
theorem dX5_bore_0 : decode cX5_bore 0 = .ok (.aload_n 0, 1) := by decide +kernel
theorem dX5_bore_1 : decode cX5_bore 1 = .ok (.getfield 19, 3) := by decide +kernel
theorem dX5_bore_4 : decode cX5_bore 4 = .ok (.iload_n 1, 1) := by decide +kernel
theorem dX5_bore_5 : decode cX5_bore 5 = .ok (.invokevirtual 127, 3) := by decide +kernel
theorem dX5_bore_8 : decode cX5_bore 8 = .ok (.ifCond .ne 6, 3) := by decide +kernel
theorem dX5_bore_11 : decode cX5_bore 11 = .ok (.bipush (-101), 2) := by decide +kernel
theorem dX5_bore_13 : decode cX5_bore 13 = .ok (.ireturn, 1) := by decide +kernel
theorem dX5_bore_14 : decode cX5_bore 14 = .ok (.aload_n 0, 1) := by decide +kernel
theorem dX5_bore_15 : decode cX5_bore 15 = .ok (.getfield 28, 3) := by decide +kernel
theorem dX5_bore_18 : decode cX5_bore 18 = .ok (.iload_n 1, 1) := by decide +kernel
theorem dX5_bore_19 : decode cX5_bore 19 = .ok (.invokevirtual 130, 3) := by decide +kernel
theorem dX5_bore_22 : decode cX5_bore 22 = .ok (.ifCond .eq 6, 3) := by decide +kernel
theorem dX5_bore_25 : decode cX5_bore 25 = .ok (.bipush (-103), 2) := by decide +kernel
theorem dX5_bore_27 : decode cX5_bore 27 = .ok (.ireturn, 1) := by decide +kernel
theorem dX5_bore_28 : decode cX5_bore 28 = .ok (.aload_n 0, 1) := by decide +kernel
theorem dX5_bore_29 : decode cX5_bore 29 = .ok (.getfield 28, 3) := by decide +kernel
theorem dX5_bore_32 : decode cX5_bore 32 = .ok (.dup, 1) := by decide +kernel
theorem dX5_bore_33 : decode cX5_bore 33 = .ok (.getfield 159, 3) := by decide +kernel
theorem dX5_bore_36 : decode cX5_bore 36 = .ok (.iconst 1, 1) := by decide +kernel
theorem dX5_bore_37 : decode cX5_bore 37 = .ok (.iload_n 1, 1) := by decide +kernel
theorem dX5_bore_38 : decode cX5_bore 38 = .ok (.ishl, 1) := by decide +kernel
theorem dX5_bore_39 : decode cX5_bore 39 = .ok (.ior, 1) := by decide +kernel
theorem dX5_bore_40 : decode cX5_bore 40 = .ok (.putfield 159, 3) := by decide +kernel
theorem dX5_bore_43 : decode cX5_bore 43 = .ok (.aload_n 0, 1) := by decide +kernel
theorem dX5_bore_44 : decode cX5_bore 44 = .ok (.iconst 0, 1) := by decide +kernel
theorem dX5_bore_45 : decode cX5_bore 45 = .ok (.putfield 92, 3) := by decide +kernel
theorem dX5_bore_48 : decode cX5_bore 48 = .ok (.aload_n 0, 1) := by decide +kernel
theorem dX5_bore_49 : decode cX5_bore 49 = .ok (.getfield 28, 3) := by decide +kernel
theorem dX5_bore_52 : decode cX5_bore 52 = .ok (.getfield 159, 3) := by decide +kernel
theorem dX5_bore_55 : decode cX5_bore 55 = .ok (.invokestatic 162, 3) := by decide +kernel
theorem dX5_bore_58 : decode cX5_bore 58 = .ok (.ireturn, 1) := by decide +kernel
set_option maxRecDepth 20000 in
theorem ggX5_be_X4_isPeg : GoodIn wsX5_be wsX4_isPeg := goodIn_r _ [7, 8, 32, 33, 34, 35, 36, 37, 38, 39] (by decide +kernel) (by decide +kernel)
set_option maxRecDepth 20000 in
theorem gX5_be_X4_isPeg : GoodIn wsX5_be (wsV RX5 101 RX4 yX4_isPeg wsX4_isPeg) := goodIn_app (goodIn_of _ (by decide +kernel)) ggX5_be_X4_isPeg
set_option maxRecDepth 20000 in
theorem ggX5_be_X4_kindOf : GoodIn wsX5_be wsX4_kindOf := goodIn_r _ [12, 13, 14, 4, 5, 6, 7, 8, 32, 33, 34, 35, 36, 37, 38, 39] (by decide +kernel) (by decide +kernel)
set_option maxRecDepth 20000 in
theorem gX5_be_X4_kindOf : GoodIn wsX5_be (wsV RX5 104 RX4 yX4_kindOf wsX4_kindOf) := goodIn_app (goodIn_of _ (by decide +kernel)) ggX5_be_X4_kindOf
set_option maxRecDepth 20000 in
theorem ggX5_be_X4_turn : GoodIn wsX5_be wsX4_turn := goodIn_r _ [18, 13, 14, 4, 5, 6, 7, 8, 32, 33, 34, 35, 36, 37, 38, 39] (by decide +kernel) (by decide +kernel)
set_option maxRecDepth 20000 in
theorem gX5_be_X4_turn : GoodIn wsX5_be (wsV RX5 167 RX4 yX4_turn wsX4_turn) := goodIn_app (goodIn_of _ (by decide +kernel)) ggX5_be_X4_turn
theorem dX5_be_0 : decode cX5_be 0 = .ok (.aload_n 0, 1) := by decide +kernel
theorem dX5_be_1 : decode cX5_be 1 = .ok (.getfield 28, 3) := by decide +kernel
theorem dX5_be_4 : decode cX5_be 4 = .ok (.iload_n 1, 1) := by decide +kernel
theorem dX5_be_5 : decode cX5_be 5 = .ok (.invokevirtual 101, 3) := by decide +kernel
theorem dX5_be_8 : decode cX5_be 8 = .ok (.ifCond .ne 6, 3) := by decide +kernel
theorem dX5_be_11 : decode cX5_be 11 = .ok (.bipush (-101), 2) := by decide +kernel
theorem dX5_be_13 : decode cX5_be 13 = .ok (.ireturn, 1) := by decide +kernel
theorem dX5_be_14 : decode cX5_be 14 = .ok (.iload_n 2, 1) := by decide +kernel
theorem dX5_be_15 : decode cX5_be 15 = .ok (.ifCond .lt 8, 3) := by decide +kernel
theorem dX5_be_18 : decode cX5_be 18 = .ok (.iload_n 2, 1) := by decide +kernel
theorem dX5_be_19 : decode cX5_be 19 = .ok (.iconst 5, 1) := by decide +kernel
theorem dX5_be_20 : decode cX5_be 20 = .ok (.if_icmp .lt 6, 3) := by decide +kernel
theorem dX5_be_23 : decode cX5_be 23 = .ok (.bipush (-102), 2) := by decide +kernel
theorem dX5_be_25 : decode cX5_be 25 = .ok (.ireturn, 1) := by decide +kernel
theorem dX5_be_26 : decode cX5_be 26 = .ok (.aload_n 0, 1) := by decide +kernel
theorem dX5_be_27 : decode cX5_be 27 = .ok (.getfield 28, 3) := by decide +kernel
theorem dX5_be_30 : decode cX5_be 30 = .ok (.iload_n 1, 1) := by decide +kernel
theorem dX5_be_31 : decode cX5_be 31 = .ok (.invokevirtual 104, 3) := by decide +kernel
theorem dX5_be_34 : decode cX5_be 34 = .ok (.istore_n 3, 1) := by decide +kernel
theorem dX5_be_35 : decode cX5_be 35 = .ok (.aload_n 0, 1) := by decide +kernel
theorem dX5_be_36 : decode cX5_be 36 = .ok (.getfield 28, 3) := by decide +kernel
theorem dX5_be_39 : decode cX5_be 39 = .ok (.iload_n 1, 1) := by decide +kernel
theorem dX5_be_40 : decode cX5_be 40 = .ok (.iload_n 2, 1) := by decide +kernel
theorem dX5_be_41 : decode cX5_be 41 = .ok (.invokevirtual 167, 3) := by decide +kernel
theorem dX5_be_44 : decode cX5_be 44 = .ok (.aload_n 0, 1) := by decide +kernel
theorem dX5_be_45 : decode cX5_be 45 = .ok (.iconst 0, 1) := by decide +kernel
theorem dX5_be_46 : decode cX5_be 46 = .ok (.putfield 92, 3) := by decide +kernel
theorem dX5_be_49 : decode cX5_be 49 = .ok (.iload_n 3, 1) := by decide +kernel
theorem dX5_be_50 : decode cX5_be 50 = .ok (.ireturn, 1) := by decide +kernel
set_option maxRecDepth 20000 in
theorem ggX5_courses_X5_lookAhead : GoodIn wsX5_courses wsX5_lookAhead := goodIn_r _ [7, 8, 9, 10, 11, 12, 13, 14, 15, 16, 17, 18, 19, 20, 21, 22, 23, 24, 25, 6, 26, 27, 28, 29, 30, 31, 32, 33, 34, 35, 36, 37, 38, 39, 40, 41, 42, 43, 44, 45, 46, 47, 48, 49, 50, 51, 52, 53, 54, 55, 56, 57, 58, 59, 60, 61, 62, 63, 64, 65, 66, 67, 68, 69, 70, 71, 72, 73, 74, 75, 76, 77, 78, 79, 80, 81, 82, 83, 84, 85, 86, 87, 88, 89, 90, 91, 92, 93, 94, 95, 96, 97, 98, 99, 100, 101, 102, 103, 104, 105, 106, 107, 108, 109, 110, 111, 112, 113, 114, 115, 116, 117, 118, 119, 120, 121, 122, 123, 124, 125, 126, 127, 128, 129, 130, 131, 132, 133, 134, 135, 136, 146, 147, 148, 149, 150, 151, 152, 153, 137, 138, 139, 140, 141, 142, 143, 144, 145, 154, 155, 156, 157] (by decide +kernel) (by decide +kernel)
set_option maxRecDepth 20000 in
theorem gX5_courses_X5_lookAhead : GoodIn wsX5_courses (wsV RX5 170 RX5 yX5_lookAhead wsX5_lookAhead) := goodIn_app (goodIn_of _ (by decide +kernel)) ggX5_courses_X5_lookAhead
theorem dX5_courses_0 : decode cX5_courses 0 = .ok (.iload_n 1, 1) := by decide +kernel
theorem dX5_courses_1 : decode cX5_courses 1 = .ok (.ifCond .lt 8, 3) := by decide +kernel
theorem dX5_courses_4 : decode cX5_courses 4 = .ok (.iload_n 1, 1) := by decide +kernel
theorem dX5_courses_5 : decode cX5_courses 5 = .ok (.iconst 5, 1) := by decide +kernel
theorem dX5_courses_6 : decode cX5_courses 6 = .ok (.if_icmp .le 6, 3) := by decide +kernel
theorem dX5_courses_9 : decode cX5_courses 9 = .ok (.bipush (-102), 2) := by decide +kernel
theorem dX5_courses_11 : decode cX5_courses 11 = .ok (.ireturn, 1) := by decide +kernel
theorem dX5_courses_12 : decode cX5_courses 12 = .ok (.aload_n 0, 1) := by decide +kernel
theorem dX5_courses_13 : decode cX5_courses 13 = .ok (.getfield 95, 3) := by decide +kernel
theorem dX5_courses_16 : decode cX5_courses 16 = .ok (.ifCond .ne 6, 3) := by decide +kernel
theorem dX5_courses_19 : decode cX5_courses 19 = .ok (.bipush (-103), 2) := by decide +kernel
theorem dX5_courses_21 : decode cX5_courses 21 = .ok (.ireturn, 1) := by decide +kernel
theorem dX5_courses_22 : decode cX5_courses 22 = .ok (.aload_n 0, 1) := by decide +kernel
theorem dX5_courses_23 : decode cX5_courses 23 = .ok (.invokevirtual 170, 3) := by decide +kernel
theorem dX5_courses_26 : decode cX5_courses 26 = .ok (.iload_n 1, 1) := by decide +kernel
theorem dX5_courses_27 : decode cX5_courses 27 = .ok (.tableswitch 73 0 4 #[33, 41, 49, 57, 65], 33) := by decide +kernel
theorem dX5_courses_60 : decode cX5_courses 60 = .ok (.aload_n 0, 1) := by decide +kernel
theorem dX5_courses_61 : decode cX5_courses 61 = .ok (.getfield 51, 3) := by decide +kernel
theorem dX5_courses_64 : decode cX5_courses 64 = .ok (.getfield 173, 3) := by decide +kernel
theorem dX5_courses_67 : decode cX5_courses 67 = .ok (.ireturn, 1) := by decide +kernel
theorem dX5_courses_68 : decode cX5_courses 68 = .ok (.aload_n 0, 1) := by decide +kernel
theorem dX5_courses_69 : decode cX5_courses 69 = .ok (.getfield 51, 3) := by decide +kernel
theorem dX5_courses_72 : decode cX5_courses 72 = .ok (.getfield 176, 3) := by decide +kernel
theorem dX5_courses_75 : decode cX5_courses 75 = .ok (.ireturn, 1) := by decide +kernel
theorem dX5_courses_76 : decode cX5_courses 76 = .ok (.aload_n 0, 1) := by decide +kernel
theorem dX5_courses_77 : decode cX5_courses 77 = .ok (.getfield 51, 3) := by decide +kernel
theorem dX5_courses_80 : decode cX5_courses 80 = .ok (.getfield 179, 3) := by decide +kernel
theorem dX5_courses_83 : decode cX5_courses 83 = .ok (.ireturn, 1) := by decide +kernel
theorem dX5_courses_84 : decode cX5_courses 84 = .ok (.aload_n 0, 1) := by decide +kernel
theorem dX5_courses_85 : decode cX5_courses 85 = .ok (.getfield 51, 3) := by decide +kernel
theorem dX5_courses_88 : decode cX5_courses 88 = .ok (.getfield 182, 3) := by decide +kernel
theorem dX5_courses_91 : decode cX5_courses 91 = .ok (.ireturn, 1) := by decide +kernel
theorem dX5_courses_92 : decode cX5_courses 92 = .ok (.aload_n 0, 1) := by decide +kernel
theorem dX5_courses_93 : decode cX5_courses 93 = .ok (.getfield 51, 3) := by decide +kernel
theorem dX5_courses_96 : decode cX5_courses 96 = .ok (.getfield 185, 3) := by decide +kernel
theorem dX5_courses_99 : decode cX5_courses 99 = .ok (.ireturn, 1) := by decide +kernel
theorem dX5_courses_100 : decode cX5_courses 100 = .ok (.aload_n 0, 1) := by decide +kernel
theorem dX5_courses_101 : decode cX5_courses 101 = .ok (.getfield 51, 3) := by decide +kernel
theorem dX5_courses_104 : decode cX5_courses 104 = .ok (.getfield 188, 3) := by decide +kernel
theorem dX5_courses_107 : decode cX5_courses 107 = .ok (.ireturn, 1) := by decide +kernel
set_option maxRecDepth 20000 in
theorem ggX5_wins_X5_lookAhead : GoodIn wsX5_wins wsX5_lookAhead := goodIn_r _ [7, 8, 9, 10, 11, 12, 13, 14, 15, 16, 17, 18, 19, 20, 21, 22, 23, 24, 25, 6, 26, 27, 28, 29, 30, 31, 32, 33, 34, 35, 36, 37, 38, 39, 40, 41, 42, 43, 44, 45, 46, 47, 48, 49, 50, 51, 52, 53, 54, 55, 56, 57, 58, 59, 60, 61, 62, 63, 64, 65, 66, 67, 68, 69, 70, 71, 72, 73, 74, 75, 76, 77, 78, 79, 80, 81, 82, 83, 84, 85, 86, 87, 88, 89, 90, 91, 92, 93, 94, 95, 96, 97, 98, 99, 100, 101, 102, 103, 104, 105, 106, 107, 108, 109, 110, 111, 112, 113, 114, 115, 116, 117, 118, 119, 120, 121, 122, 123, 124, 125, 126, 127, 128, 129, 130, 131, 132, 133, 134, 135, 136, 146, 147, 148, 149, 150, 151, 152, 153, 137, 138, 139, 140, 141, 142, 143, 144, 145, 154, 155, 156, 157] (by decide +kernel) (by decide +kernel)
set_option maxRecDepth 20000 in
theorem gX5_wins_X5_lookAhead : GoodIn wsX5_wins (wsV RX5 170 RX5 yX5_lookAhead wsX5_lookAhead) := goodIn_app (goodIn_of _ (by decide +kernel)) ggX5_wins_X5_lookAhead
theorem dX5_wins_0 : decode cX5_wins 0 = .ok (.iload_n 1, 1) := by decide +kernel
theorem dX5_wins_1 : decode cX5_wins 1 = .ok (.ifCond .lt 8, 3) := by decide +kernel
theorem dX5_wins_4 : decode cX5_wins 4 = .ok (.iload_n 1, 1) := by decide +kernel
theorem dX5_wins_5 : decode cX5_wins 5 = .ok (.iconst 1, 1) := by decide +kernel
theorem dX5_wins_6 : decode cX5_wins 6 = .ok (.if_icmp .le 6, 3) := by decide +kernel
theorem dX5_wins_9 : decode cX5_wins 9 = .ok (.bipush (-102), 2) := by decide +kernel
theorem dX5_wins_11 : decode cX5_wins 11 = .ok (.ireturn, 1) := by decide +kernel
theorem dX5_wins_12 : decode cX5_wins 12 = .ok (.aload_n 0, 1) := by decide +kernel
theorem dX5_wins_13 : decode cX5_wins 13 = .ok (.getfield 95, 3) := by decide +kernel
theorem dX5_wins_16 : decode cX5_wins 16 = .ok (.ifCond .ne 6, 3) := by decide +kernel
theorem dX5_wins_19 : decode cX5_wins 19 = .ok (.bipush (-103), 2) := by decide +kernel
theorem dX5_wins_21 : decode cX5_wins 21 = .ok (.ireturn, 1) := by decide +kernel
theorem dX5_wins_22 : decode cX5_wins 22 = .ok (.aload_n 0, 1) := by decide +kernel
theorem dX5_wins_23 : decode cX5_wins 23 = .ok (.invokevirtual 170, 3) := by decide +kernel
theorem dX5_wins_26 : decode cX5_wins 26 = .ok (.iload_n 1, 1) := by decide +kernel
theorem dX5_wins_27 : decode cX5_wins 27 = .ok (.iconst 1, 1) := by decide +kernel
theorem dX5_wins_28 : decode cX5_wins 28 = .ok (.if_icmp .ne 11, 3) := by decide +kernel
theorem dX5_wins_31 : decode cX5_wins 31 = .ok (.aload_n 0, 1) := by decide +kernel
theorem dX5_wins_32 : decode cX5_wins 32 = .ok (.getfield 51, 3) := by decide +kernel
theorem dX5_wins_35 : decode cX5_wins 35 = .ok (.getfield 191, 3) := by decide +kernel
theorem dX5_wins_38 : decode cX5_wins 38 = .ok (.ireturn, 1) := by decide +kernel
theorem dX5_wins_39 : decode cX5_wins 39 = .ok (.aload_n 0, 1) := by decide +kernel
theorem dX5_wins_40 : decode cX5_wins 40 = .ok (.getfield 51, 3) := by decide +kernel
theorem dX5_wins_43 : decode cX5_wins 43 = .ok (.getfield 191, 3) := by decide +kernel
theorem dX5_wins_46 : decode cX5_wins 46 = .ok (.iconst (-1), 1) := by decide +kernel
theorem dX5_wins_47 : decode cX5_wins 47 = .ok (.if_icmp .ne 7, 3) := by decide +kernel
theorem dX5_wins_50 : decode cX5_wins 50 = .ok (.iconst 0, 1) := by decide +kernel
theorem dX5_wins_51 : decode cX5_wins 51 = .ok (.goto 4, 3) := by decide +kernel
theorem dX5_wins_54 : decode cX5_wins 54 = .ok (.iconst 1, 1) := by decide +kernel
theorem dX5_wins_55 : decode cX5_wins 55 = .ok (.ireturn, 1) := by decide +kernel
set_option maxRecDepth 20000 in
theorem ggX5_add_X4_isEmptyHole : GoodIn wsX5_add wsX4_isEmptyHole := goodIn_r _ [9, 10, 11, 12, 13, 14, 15, 16, 17, 18, 19, 20, 21, 147, 148, 149, 150, 151, 152, 153, 154, 155, 156, 157, 158] (by decide +kernel) (by decide +kernel)
set_option maxRecDepth 20000 in
theorem gX5_add_X4_isEmptyHole : GoodIn wsX5_add (wsV RX5 153 RX4 yX4_isEmptyHole wsX4_isEmptyHole) := goodIn_app (goodIn_of _ (by decide +kernel)) ggX5_add_X4_isEmptyHole
set_option maxRecDepth 20000 in
theorem ggX5_add_X5_fewestWithOneMore : GoodIn wsX5_add wsX5_fewestWithOneMore := goodIn_r _ [25, 26, 4, 27, 28, 29, 30, 31, 8, 32, 11, 33, 34, 35, 36, 37, 12, 38, 39, 40, 41, 42, 43, 44, 45, 46, 47, 48, 49, 10, 50, 51, 52, 53, 13, 14, 15, 16, 17, 18, 54, 55, 20, 56, 57, 58, 59, 60, 61, 62, 63, 64, 65, 66, 67, 68, 69, 70, 71, 72, 73, 74, 75, 76, 77, 78, 79, 80, 81, 82, 83, 84, 85, 86, 87, 88, 89, 90, 91, 92, 93, 94, 95, 96, 19, 21, 97, 98, 99, 100, 6, 7, 9, 101, 102, 103, 104, 105, 106, 107, 108, 109, 110, 111, 112, 113, 114, 115, 116, 117, 118, 119, 120, 121, 122, 123, 124, 125, 126, 127, 128, 129, 130, 131, 132, 133, 134, 135, 136, 137, 138, 139, 140, 141, 142, 143, 144, 145, 146, 159, 160, 161, 162, 163, 164, 165, 166, 167, 147, 148, 149, 150, 151, 152, 153, 154, 155, 156, 157, 158] (by decide +kernel) (by decide +kernel)
set_option maxRecDepth 20000 in
theorem gX5_add_X5_fewestWithOneMore : GoodIn wsX5_add (wsV RX5 197 RX5 yX5_fewestWithOneMore wsX5_fewestWithOneMore) := goodIn_app (goodIn_of _ (by decide +kernel)) ggX5_add_X5_fewestWithOneMore
theorem dX5_add_0 : decode cX5_add 0 = .ok (.aload_n 0, 1) := by decide +kernel
theorem dX5_add_1 : decode cX5_add 1 = .ok (.getfield 95, 3) := by decide +kernel
theorem dX5_add_4 : decode cX5_add 4 = .ok (.ifCond .eq 12, 3) := by decide +kernel
theorem dX5_add_7 : decode cX5_add 7 = .ok (.aload_n 0, 1) := by decide +kernel
theorem dX5_add_8 : decode cX5_add 8 = .ok (.getfield 194, 3) := by decide +kernel
theorem dX5_add_11 : decode cX5_add 11 = .ok (.bipush 12, 2) := by decide +kernel
theorem dX5_add_13 : decode cX5_add 13 = .ok (.if_icmp .lt 6, 3) := by decide +kernel
theorem dX5_add_16 : decode cX5_add 16 = .ok (.bipush (-103), 2) := by decide +kernel
theorem dX5_add_18 : decode cX5_add 18 = .ok (.ireturn, 1) := by decide +kernel
theorem dX5_add_19 : decode cX5_add 19 = .ok (.aload_n 0, 1) := by decide +kernel
theorem dX5_add_20 : decode cX5_add 20 = .ok (.dup, 1) := by decide +kernel
theorem dX5_add_21 : decode cX5_add 21 = .ok (.getfield 194, 3) := by decide +kernel
theorem dX5_add_24 : decode cX5_add 24 = .ok (.iconst 1, 1) := by decide +kernel
theorem dX5_add_25 : decode cX5_add 25 = .ok (.iadd, 1) := by decide +kernel
theorem dX5_add_26 : decode cX5_add 26 = .ok (.putfield 194, 3) := by decide +kernel
theorem dX5_add_29 : decode cX5_add 29 = .ok (.aload_n 0, 1) := by decide +kernel
theorem dX5_add_30 : decode cX5_add 30 = .ok (.iconst 0, 1) := by decide +kernel
theorem dX5_add_31 : decode cX5_add 31 = .ok (.putfield 92, 3) := by decide +kernel
theorem dX5_add_34 : decode cX5_add 34 = .ok (.iconst 0, 1) := by decide +kernel
theorem dX5_add_35 : decode cX5_add 35 = .ok (.istore_n 1, 1) := by decide +kernel
theorem dX5_add_36 : decode cX5_add 36 = .ok (.iload_n 1, 1) := by decide +kernel
theorem dX5_add_37 : decode cX5_add 37 = .ok (.bipush 12, 2) := by decide +kernel
theorem dX5_add_39 : decode cX5_add 39 = .ok (.if_icmp .ge 31, 3) := by decide +kernel
theorem dX5_add_42 : decode cX5_add 42 = .ok (.aload_n 0, 1) := by decide +kernel
theorem dX5_add_43 : decode cX5_add 43 = .ok (.getfield 28, 3) := by decide +kernel
theorem dX5_add_46 : decode cX5_add 46 = .ok (.iload_n 1, 1) := by decide +kernel
theorem dX5_add_47 : decode cX5_add 47 = .ok (.invokevirtual 153, 3) := by decide +kernel
theorem dX5_add_50 : decode cX5_add 50 = .ok (.ifCond .eq 14, 3) := by decide +kernel
theorem dX5_add_53 : decode cX5_add 53 = .ok (.aload_n 0, 1) := by decide +kernel
theorem dX5_add_54 : decode cX5_add 54 = .ok (.iload_n 1, 1) := by decide +kernel
theorem dX5_add_55 : decode cX5_add 55 = .ok (.invokevirtual 197, 3) := by decide +kernel
theorem dX5_add_58 : decode cX5_add 58 = .ok (.iconst 1, 1) := by decide +kernel
theorem dX5_add_59 : decode cX5_add 59 = .ok (.if_icmp .ne 5, 3) := by decide +kernel
theorem dX5_add_62 : decode cX5_add 62 = .ok (.iload_n 1, 1) := by decide +kernel
theorem dX5_add_63 : decode cX5_add 63 = .ok (.ireturn, 1) := by decide +kernel
theorem dX5_add_64 : decode cX5_add 64 = .ok (.iinc 1 1, 3) := by decide +kernel
theorem dX5_add_67 : decode cX5_add 67 = .ok (.goto (-31), 3) := by decide +kernel
theorem dX5_add_70 : decode cX5_add 70 = .ok (.iconst (-1), 1) := by decide +kernel
theorem dX5_add_71 : decode cX5_add 71 = .ok (.ireturn, 1) := by decide +kernel
set_option maxRecDepth 20000 in
theorem ggX5_mean_X5_lookAhead : GoodIn wsX5_mean wsX5_lookAhead := goodIn_r _ [7, 8, 9, 10, 11, 12, 13, 14, 15, 16, 17, 18, 19, 20, 21, 22, 23, 24, 25, 6, 26, 27, 28, 29, 30, 31, 32, 33, 34, 35, 36, 37, 38, 39, 40, 41, 42, 43, 44, 45, 46, 47, 48, 49, 50, 51, 52, 53, 54, 55, 56, 57, 58, 59, 60, 61, 62, 63, 64, 65, 66, 67, 68, 69, 70, 71, 72, 73, 74, 75, 76, 77, 78, 79, 80, 81, 82, 83, 84, 85, 86, 87, 88, 89, 90, 91, 92, 93, 94, 95, 96, 97, 98, 99, 100, 101, 102, 103, 104, 105, 106, 107, 108, 109, 110, 111, 112, 113, 114, 115, 116, 117, 118, 119, 120, 121, 122, 123, 124, 125, 126, 127, 128, 129, 130, 131, 132, 133, 134, 135, 136, 146, 147, 148, 149, 150, 151, 152, 153, 137, 138, 139, 140, 141, 142, 143, 144, 145, 154, 155, 156, 157] (by decide +kernel) (by decide +kernel)
set_option maxRecDepth 20000 in
theorem gX5_mean_X5_lookAhead : GoodIn wsX5_mean (wsV RX5 170 RX5 yX5_lookAhead wsX5_lookAhead) := goodIn_app (goodIn_of _ (by decide +kernel)) ggX5_mean_X5_lookAhead
theorem dX5_mean_0 : decode cX5_mean 0 = .ok (.aload_n 0, 1) := by decide +kernel
theorem dX5_mean_1 : decode cX5_mean 1 = .ok (.getfield 95, 3) := by decide +kernel
theorem dX5_mean_4 : decode cX5_mean 4 = .ok (.ifCond .ne 6, 3) := by decide +kernel
theorem dX5_mean_7 : decode cX5_mean 7 = .ok (.bipush (-103), 2) := by decide +kernel
theorem dX5_mean_9 : decode cX5_mean 9 = .ok (.ireturn, 1) := by decide +kernel
theorem dX5_mean_10 : decode cX5_mean 10 = .ok (.aload_n 0, 1) := by decide +kernel
theorem dX5_mean_11 : decode cX5_mean 11 = .ok (.invokevirtual 170, 3) := by decide +kernel
theorem dX5_mean_14 : decode cX5_mean 14 = .ok (.aload_n 0, 1) := by decide +kernel
theorem dX5_mean_15 : decode cX5_mean 15 = .ok (.getfield 51, 3) := by decide +kernel
theorem dX5_mean_18 : decode cX5_mean 18 = .ok (.getfield 200, 3) := by decide +kernel
theorem dX5_mean_21 : decode cX5_mean 21 = .ok (.ireturn, 1) := by decide +kernel
set_option maxRecDepth 20000 in
theorem ggX5_see_X4_isPeg : GoodIn wsX5_see wsX4_isPeg := goodIn_r _ [8, 9, 34, 35, 36, 37, 38, 39, 40, 41] (by decide +kernel) (by decide +kernel)
set_option maxRecDepth 20000 in
theorem gX5_see_X4_isPeg : GoodIn wsX5_see (wsV RX5 101 RX4 yX4_isPeg wsX4_isPeg) := goodIn_app (goodIn_of _ (by decide +kernel)) ggX5_see_X4_isPeg
set_option maxRecDepth 20000 in
theorem ggX5_see_X3_append : GoodIn wsX5_see wsX3_append := goodIn_r _ [14, 15, 16, 17, 31, 32, 33] (by decide +kernel) (by decide +kernel)
set_option maxRecDepth 20000 in
theorem gX5_see_X3_append : GoodIn wsX5_see (wsV RX5 206 RX3 yX3_append wsX3_append) := goodIn_app (goodIn_of _ (by decide +kernel)) ggX5_see_X3_append
theorem dX5_see_0 : decode cX5_see 0 = .ok (.aload_n 0, 1) := by decide +kernel
theorem dX5_see_1 : decode cX5_see 1 = .ok (.getfield 28, 3) := by decide +kernel
theorem dX5_see_4 : decode cX5_see 4 = .ok (.iload_n 1, 1) := by decide +kernel
theorem dX5_see_5 : decode cX5_see 5 = .ok (.invokevirtual 101, 3) := by decide +kernel
theorem dX5_see_8 : decode cX5_see 8 = .ok (.ifCond .ne 6, 3) := by decide +kernel
theorem dX5_see_11 : decode cX5_see 11 = .ok (.bipush (-101), 2) := by decide +kernel
theorem dX5_see_13 : decode cX5_see 13 = .ok (.ireturn, 1) := by decide +kernel
theorem dX5_see_14 : decode cX5_see 14 = .ok (.iload_n 2, 1) := by decide +kernel
theorem dX5_see_15 : decode cX5_see 15 = .ok (.ifCond .lt 8, 3) := by decide +kernel
theorem dX5_see_18 : decode cX5_see 18 = .ok (.iload_n 2, 1) := by decide +kernel
theorem dX5_see_19 : decode cX5_see 19 = .ok (.iconst 4, 1) := by decide +kernel
theorem dX5_see_20 : decode cX5_see 20 = .ok (.if_icmp .lt 6, 3) := by decide +kernel
theorem dX5_see_23 : decode cX5_see 23 = .ok (.bipush (-102), 2) := by decide +kernel
theorem dX5_see_25 : decode cX5_see 25 = .ok (.ireturn, 1) := by decide +kernel
theorem dX5_see_26 : decode cX5_see 26 = .ok (.iload_n 3, 1) := by decide +kernel
theorem dX5_see_27 : decode cX5_see 27 = .ok (.ifCond .eq 11, 3) := by decide +kernel
theorem dX5_see_30 : decode cX5_see 30 = .ok (.getstatic 203, 3) := by decide +kernel
theorem dX5_see_33 : decode cX5_see 33 = .ok (.iload_n 2, 1) := by decide +kernel
theorem dX5_see_34 : decode cX5_see 34 = .ok (.iaload, 1) := by decide +kernel
theorem dX5_see_35 : decode cX5_see 35 = .ok (.goto 13, 3) := by decide +kernel
theorem dX5_see_38 : decode cX5_see 38 = .ok (.bipush 31, 2) := by decide +kernel
theorem dX5_see_40 : decode cX5_see 40 = .ok (.getstatic 203, 3) := by decide +kernel
theorem dX5_see_43 : decode cX5_see 43 = .ok (.iload_n 2, 1) := by decide +kernel
theorem dX5_see_44 : decode cX5_see 44 = .ok (.iaload, 1) := by decide +kernel
theorem dX5_see_45 : decode cX5_see 45 = .ok (.iconst (-1), 1) := by decide +kernel
theorem dX5_see_46 : decode cX5_see 46 = .ok (.ixor, 1) := by decide +kernel
theorem dX5_see_47 : decode cX5_see 47 = .ok (.iand, 1) := by decide +kernel
theorem dX5_see_48 : decode cX5_see 48 = .ok (.istore 4, 2) := by decide +kernel
theorem dX5_see_50 : decode cX5_see 50 = .ok (.aload_n 0, 1) := by decide +kernel
theorem dX5_see_51 : decode cX5_see 51 = .ok (.getfield 35, 3) := by decide +kernel
theorem dX5_see_54 : decode cX5_see 54 = .ok (.iload_n 1, 1) := by decide +kernel
theorem dX5_see_55 : decode cX5_see 55 = .ok (.iload 4, 2) := by decide +kernel
theorem dX5_see_57 : decode cX5_see 57 = .ok (.invokevirtual 206, 3) := by decide +kernel
theorem dX5_see_60 : decode cX5_see 60 = .ok (.ifCond .eq 13, 3) := by decide +kernel
theorem dX5_see_63 : decode cX5_see 63 = .ok (.aload_n 0, 1) := by decide +kernel
theorem dX5_see_64 : decode cX5_see 64 = .ok (.getfield 35, 3) := by decide +kernel
theorem dX5_see_67 : decode cX5_see 67 = .ok (.getfield 87, 3) := by decide +kernel
theorem dX5_see_70 : decode cX5_see 70 = .ok (.goto 5, 3) := by decide +kernel
theorem dX5_see_73 : decode cX5_see 73 = .ok (.bipush (-104), 2) := by decide +kernel
theorem dX5_see_75 : decode cX5_see 75 = .ok (.ireturn, 1) := by decide +kernel
theorem dX5_forget_0 : decode cX5_forget 0 = .ok (.aload_n 0, 1) := by decide +kernel
theorem dX5_forget_1 : decode cX5_forget 1 = .ok (.getfield 35, 3) := by decide +kernel
theorem dX5_forget_4 : decode cX5_forget 4 = .ok (.getfield 87, 3) := by decide +kernel
theorem dX5_forget_7 : decode cX5_forget 7 = .ok (.istore_n 1, 1) := by decide +kernel
theorem dX5_forget_8 : decode cX5_forget 8 = .ok (.aload_n 0, 1) := by decide +kernel
theorem dX5_forget_9 : decode cX5_forget 9 = .ok (.getfield 35, 3) := by decide +kernel
theorem dX5_forget_12 : decode cX5_forget 12 = .ok (.iconst 0, 1) := by decide +kernel
theorem dX5_forget_13 : decode cX5_forget 13 = .ok (.putfield 87, 3) := by decide +kernel
theorem dX5_forget_16 : decode cX5_forget 16 = .ok (.iload_n 1, 1) := by decide +kernel
theorem dX5_forget_17 : decode cX5_forget 17 = .ok (.ireturn, 1) := by decide +kernel
set_option maxRecDepth 20000 in
theorem ggX5_runs_X4_copyFrom : GoodIn wsX5_runs wsX4_copyFrom := goodIn_r _ [9, 10, 11, 12, 13, 14, 15, 16, 118, 119, 120, 121, 122, 123, 124, 125] (by decide +kernel) (by decide +kernel)
set_option maxRecDepth 20000 in
theorem gX5_runs_X4_copyFrom : GoodIn wsX5_runs (wsV RX5 208 RX4 yX4_copyFrom wsX4_copyFrom) := goodIn_app (goodIn_of _ (by decide +kernel)) ggX5_runs_X4_copyFrom
set_option maxRecDepth 20000 in
theorem ggX5_runs_X4_choices : GoodIn wsX5_runs wsX4_choices := goodIn_r _ [20, 11, 21, 22, 23, 8, 24, 25, 26, 27, 28, 29, 30, 31, 32, 33, 15, 34, 35, 36, 37, 38, 39, 40, 41, 42, 43, 44, 45, 46, 47, 48, 49, 50, 51, 52, 16, 53, 54, 55, 56, 57, 14, 58, 59, 60, 61, 62, 63, 64, 65, 66, 67, 68, 69, 70, 71, 10, 72, 73, 74, 75, 76, 77, 78, 118, 119, 120, 121, 122, 123, 124, 125, 126, 127, 128, 129] (by decide +kernel) (by decide +kernel)
set_option maxRecDepth 20000 in
theorem gX5_runs_X4_choices : GoodIn wsX5_runs (wsV RX5 212 RX4 yX4_choices wsX4_choices) := goodIn_app (goodIn_of _ (by decide +kernel)) ggX5_runs_X4_choices
set_option maxRecDepth 20000 in
theorem ggX5_runs_X5_nextSeed : GoodIn wsX5_runs wsX5_nextSeed := goodIn_r _ [81, 82, 83, 84] (by decide +kernel) (by decide +kernel)
set_option maxRecDepth 20000 in
theorem gX5_runs_X5_nextSeed : GoodIn wsX5_runs (va_wsS RX5 215 yX5_nextSeed wsX5_nextSeed) := goodIn_app (goodIn_of _ (by decide +kernel)) ggX5_runs_X5_nextSeed
set_option maxRecDepth 20000 in
theorem ggX5_runs_X4_leapByChoice : GoodIn wsX5_runs wsX4_leapByChoice := goodIn_r _ [88, 11, 25, 26, 27, 8, 28, 29, 30, 31, 32, 33, 15, 34, 35, 36, 37, 38, 39, 40, 41, 42, 43, 44, 45, 46, 47, 48, 49, 50, 51, 52, 16, 53, 54, 55, 56, 57, 14, 58, 59, 60, 61, 62, 63, 64, 65, 66, 67, 68, 69, 70, 71, 10, 89, 90, 91, 92, 93, 94, 95, 96, 97, 98, 99, 100, 12, 101, 102, 103, 104, 118, 119, 120, 121, 122, 123, 124, 125, 126, 127, 128, 129] (by decide +kernel) (by decide +kernel)
set_option maxRecDepth 20000 in
theorem gX5_runs_X4_leapByChoice : GoodIn wsX5_runs (wsV RX5 221 RX4 yX4_leapByChoice wsX4_leapByChoice) := goodIn_app (goodIn_of _ (by decide +kernel)) ggX5_runs_X4_leapByChoice
theorem dX5_runs_0 : decode cX5_runs 0 = .ok (.iload_n 1, 1) := by decide +kernel
theorem dX5_runs_1 : decode cX5_runs 1 = .ok (.iconst 1, 1) := by decide +kernel
theorem dX5_runs_2 : decode cX5_runs 2 = .ok (.if_icmp .lt 22, 3) := by decide +kernel
theorem dX5_runs_5 : decode cX5_runs 5 = .ok (.iload_n 1, 1) := by decide +kernel
theorem dX5_runs_6 : decode cX5_runs 6 = .ok (.bipush 40, 2) := by decide +kernel
theorem dX5_runs_8 : decode cX5_runs 8 = .ok (.if_icmp .gt 16, 3) := by decide +kernel
theorem dX5_runs_11 : decode cX5_runs 11 = .ok (.iload_n 2, 1) := by decide +kernel
theorem dX5_runs_12 : decode cX5_runs 12 = .ok (.ifCond .lt 12, 3) := by decide +kernel
theorem dX5_runs_15 : decode cX5_runs 15 = .ok (.iload_n 3, 1) := by decide +kernel
theorem dX5_runs_16 : decode cX5_runs 16 = .ok (.ifCond .lt 8, 3) := by decide +kernel
theorem dX5_runs_19 : decode cX5_runs 19 = .ok (.iload_n 3, 1) := by decide +kernel
theorem dX5_runs_20 : decode cX5_runs 20 = .ok (.iconst 2, 1) := by decide +kernel
theorem dX5_runs_21 : decode cX5_runs 21 = .ok (.if_icmp .le 6, 3) := by decide +kernel
theorem dX5_runs_24 : decode cX5_runs 24 = .ok (.bipush (-102), 2) := by decide +kernel
theorem dX5_runs_26 : decode cX5_runs 26 = .ok (.ireturn, 1) := by decide +kernel
theorem dX5_runs_27 : decode cX5_runs 27 = .ok (.aload_n 0, 1) := by decide +kernel
theorem dX5_runs_28 : decode cX5_runs 28 = .ok (.getfield 95, 3) := by decide +kernel
theorem dX5_runs_31 : decode cX5_runs 31 = .ok (.ifCond .ne 6, 3) := by decide +kernel
theorem dX5_runs_34 : decode cX5_runs 34 = .ok (.bipush (-103), 2) := by decide +kernel
theorem dX5_runs_36 : decode cX5_runs 36 = .ok (.ireturn, 1) := by decide +kernel
theorem dX5_runs_37 : decode cX5_runs 37 = .ok (.iload_n 2, 1) := by decide +kernel
theorem dX5_runs_38 : decode cX5_runs 38 = .ok (.i2l, 1) := by decide +kernel
theorem dX5_runs_39 : decode cX5_runs 39 = .ok (.lstore 4, 2) := by decide +kernel
theorem dX5_runs_41 : decode cX5_runs 41 = .ok (.iconst 0, 1) := by decide +kernel
theorem dX5_runs_42 : decode cX5_runs 42 = .ok (.istore 6, 2) := by decide +kernel
theorem dX5_runs_44 : decode cX5_runs 44 = .ok (.iconst 0, 1) := by decide +kernel
theorem dX5_runs_45 : decode cX5_runs 45 = .ok (.istore 7, 2) := by decide +kernel
theorem dX5_runs_47 : decode cX5_runs 47 = .ok (.iconst 0, 1) := by decide +kernel
theorem dX5_runs_48 : decode cX5_runs 48 = .ok (.istore 8, 2) := by decide +kernel
theorem dX5_runs_50 : decode cX5_runs 50 = .ok (.iload 8, 2) := by decide +kernel
theorem dX5_runs_52 : decode cX5_runs 52 = .ok (.iload_n 1, 1) := by decide +kernel
theorem dX5_runs_53 : decode cX5_runs 53 = .ok (.if_icmp .ge 101, 3) := by decide +kernel
theorem dX5_runs_56 : decode cX5_runs 56 = .ok (.aload_n 0, 1) := by decide +kernel
theorem dX5_runs_57 : decode cX5_runs 57 = .ok (.getfield 45, 3) := by decide +kernel
theorem dX5_runs_60 : decode cX5_runs 60 = .ok (.aload_n 0, 1) := by decide +kernel
theorem dX5_runs_61 : decode cX5_runs 61 = .ok (.getfield 28, 3) := by decide +kernel
theorem dX5_runs_64 : decode cX5_runs 64 = .ok (.invokevirtual 208, 3) := by decide +kernel
theorem dX5_runs_67 : decode cX5_runs 67 = .ok (.aload_n 0, 1) := by decide +kernel
theorem dX5_runs_68 : decode cX5_runs 68 = .ok (.getfield 45, 3) := by decide +kernel
theorem dX5_runs_71 : decode cX5_runs 71 = .ok (.invokevirtual 212, 3) := by decide +kernel
theorem dX5_runs_74 : decode cX5_runs 74 = .ok (.istore 9, 2) := by decide +kernel
theorem dX5_runs_76 : decode cX5_runs 76 = .ok (.iconst 0, 1) := by decide +kernel
theorem dX5_runs_77 : decode cX5_runs 77 = .ok (.istore 10, 2) := by decide +kernel
theorem dX5_runs_79 : decode cX5_runs 79 = .ok (.iload 10, 2) := by decide +kernel
theorem dX5_runs_81 : decode cX5_runs 81 = .ok (.bipush 7, 2) := by decide +kernel
theorem dX5_runs_83 : decode cX5_runs 83 = .ok (.if_icmp .ge 51, 3) := by decide +kernel
theorem dX5_runs_86 : decode cX5_runs 86 = .ok (.iload 9, 2) := by decide +kernel
theorem dX5_runs_88 : decode cX5_runs 88 = .ok (.ifCond .le 46, 3) := by decide +kernel
theorem dX5_runs_91 : decode cX5_runs 91 = .ok (.lload 4, 2) := by decide +kernel
theorem dX5_runs_93 : decode cX5_runs 93 = .ok (.invokestatic 215, 3) := by decide +kernel
theorem dX5_runs_96 : decode cX5_runs 96 = .ok (.lstore 4, 2) := by decide +kernel
theorem dX5_runs_98 : decode cX5_runs 98 = .ok (.aload_n 0, 1) := by decide +kernel
theorem dX5_runs_99 : decode cX5_runs 99 = .ok (.getfield 45, 3) := by decide +kernel
theorem dX5_runs_102 : decode cX5_runs 102 = .ok (.lload 4, 2) := by decide +kernel
theorem dX5_runs_104 : decode cX5_runs 104 = .ok (.ldc2_w 219, 3) := by decide +kernel
theorem dX5_runs_107 : decode cX5_runs 107 = .ok (.ldiv, 1) := by decide +kernel
theorem dX5_runs_108 : decode cX5_runs 108 = .ok (.iload 9, 2) := by decide +kernel
theorem dX5_runs_110 : decode cX5_runs 110 = .ok (.i2l, 1) := by decide +kernel
theorem dX5_runs_111 : decode cX5_runs 111 = .ok (.lrem, 1) := by decide +kernel
theorem dX5_runs_112 : decode cX5_runs 112 = .ok (.l2i, 1) := by decide +kernel
theorem dX5_runs_113 : decode cX5_runs 113 = .ok (.invokevirtual 221, 3) := by decide +kernel
theorem dX5_runs_116 : decode cX5_runs 116 = .ok (.iinc 6 1, 3) := by decide +kernel
theorem dX5_runs_119 : decode cX5_runs 119 = .ok (.aload_n 0, 1) := by decide +kernel
theorem dX5_runs_120 : decode cX5_runs 120 = .ok (.getfield 45, 3) := by decide +kernel
theorem dX5_runs_123 : decode cX5_runs 123 = .ok (.invokevirtual 212, 3) := by decide +kernel
theorem dX5_runs_126 : decode cX5_runs 126 = .ok (.istore 9, 2) := by decide +kernel
theorem dX5_runs_128 : decode cX5_runs 128 = .ok (.iinc 10 1, 3) := by decide +kernel
theorem dX5_runs_131 : decode cX5_runs 131 = .ok (.goto (-52), 3) := by decide +kernel
theorem dX5_runs_134 : decode cX5_runs 134 = .ok (.aload_n 0, 1) := by decide +kernel
theorem dX5_runs_135 : decode cX5_runs 135 = .ok (.getfield 45, 3) := by decide +kernel
theorem dX5_runs_138 : decode cX5_runs 138 = .ok (.getfield 150, 3) := by decide +kernel
theorem dX5_runs_141 : decode cX5_runs 141 = .ok (.iconst 1, 1) := by decide +kernel
theorem dX5_runs_142 : decode cX5_runs 142 = .ok (.if_icmp .ne 6, 3) := by decide +kernel
theorem dX5_runs_145 : decode cX5_runs 145 = .ok (.iinc 7 1, 3) := by decide +kernel
theorem dX5_runs_148 : decode cX5_runs 148 = .ok (.iinc 8 1, 3) := by decide +kernel
theorem dX5_runs_151 : decode cX5_runs 151 = .ok (.goto (-101), 3) := by decide +kernel
theorem dX5_runs_154 : decode cX5_runs 154 = .ok (.iload_n 3, 1) := by decide +kernel
theorem dX5_runs_155 : decode cX5_runs 155 = .ok (.ifCond .ne 8, 3) := by decide +kernel
theorem dX5_runs_158 : decode cX5_runs 158 = .ok (.iload 6, 2) := by decide +kernel
theorem dX5_runs_160 : decode cX5_runs 160 = .ok (.goto 16, 3) := by decide +kernel
theorem dX5_runs_163 : decode cX5_runs 163 = .ok (.iload_n 3, 1) := by decide +kernel
theorem dX5_runs_164 : decode cX5_runs 164 = .ok (.iconst 1, 1) := by decide +kernel
theorem dX5_runs_165 : decode cX5_runs 165 = .ok (.if_icmp .ne 8, 3) := by decide +kernel
theorem dX5_runs_168 : decode cX5_runs 168 = .ok (.iload 7, 2) := by decide +kernel
theorem dX5_runs_170 : decode cX5_runs 170 = .ok (.goto 6, 3) := by decide +kernel
theorem dX5_runs_173 : decode cX5_runs 173 = .ok (.lload 4, 2) := by decide +kernel
theorem dX5_runs_175 : decode cX5_runs 175 = .ok (.l2i, 1) := by decide +kernel
theorem dX5_runs_176 : decode cX5_runs 176 = .ok (.ireturn, 1) := by decide +kernel
set_option maxRecDepth 20000 in
theorem ggX5_image_X4_copyFrom : GoodIn wsX5_image wsX4_copyFrom := goodIn_r _ [11, 12, 13, 14, 15, 16, 17, 18, 40, 41, 42, 43, 44, 45, 46, 47] (by decide +kernel) (by decide +kernel)
set_option maxRecDepth 20000 in
theorem gX5_image_X4_copyFrom : GoodIn wsX5_image (wsV RX5 208 RX4 yX4_copyFrom wsX4_copyFrom) := goodIn_app (goodIn_of _ (by decide +kernel)) ggX5_image_X4_copyFrom
set_option maxRecDepth 20000 in
theorem ggX5_image_X3_copyFrom : GoodIn wsX5_image wsX3_copyFrom := goodIn_r _ [23, 24, 25, 26, 48, 49, 50] (by decide +kernel) (by decide +kernel)
set_option maxRecDepth 20000 in
theorem gX5_image_X3_copyFrom : GoodIn wsX5_image (wsV RX5 225 RX3 yX3_copyFrom wsX3_copyFrom) := goodIn_app (goodIn_of _ (by decide +kernel)) ggX5_image_X3_copyFrom
theorem dX5_image_0 : decode cX5_image 0 = .ok (.aload_n 0, 1) := by decide +kernel
theorem dX5_image_1 : decode cX5_image 1 = .ok (.getfield 95, 3) := by decide +kernel
theorem dX5_image_4 : decode cX5_image 4 = .ok (.ifCond .ne 6, 3) := by decide +kernel
theorem dX5_image_7 : decode cX5_image 7 = .ok (.bipush (-103), 2) := by decide +kernel
theorem dX5_image_9 : decode cX5_image 9 = .ok (.ireturn, 1) := by decide +kernel
theorem dX5_image_10 : decode cX5_image 10 = .ok (.aload_n 0, 1) := by decide +kernel
theorem dX5_image_11 : decode cX5_image 11 = .ok (.getfield 39, 3) := by decide +kernel
theorem dX5_image_14 : decode cX5_image 14 = .ok (.aload_n 0, 1) := by decide +kernel
theorem dX5_image_15 : decode cX5_image 15 = .ok (.getfield 28, 3) := by decide +kernel
theorem dX5_image_18 : decode cX5_image 18 = .ok (.invokevirtual 208, 3) := by decide +kernel
theorem dX5_image_21 : decode cX5_image 21 = .ok (.aload_n 0, 1) := by decide +kernel
theorem dX5_image_22 : decode cX5_image 22 = .ok (.getfield 42, 3) := by decide +kernel
theorem dX5_image_25 : decode cX5_image 25 = .ok (.aload_n 0, 1) := by decide +kernel
theorem dX5_image_26 : decode cX5_image 26 = .ok (.getfield 35, 3) := by decide +kernel
theorem dX5_image_29 : decode cX5_image 29 = .ok (.invokevirtual 225, 3) := by decide +kernel
theorem dX5_image_32 : decode cX5_image 32 = .ok (.aload_n 0, 1) := by decide +kernel
theorem dX5_image_33 : decode cX5_image 33 = .ok (.iconst 1, 1) := by decide +kernel
theorem dX5_image_34 : decode cX5_image 34 = .ok (.putfield 88, 3) := by decide +kernel
theorem dX5_image_37 : decode cX5_image 37 = .ok (.aload_n 0, 1) := by decide +kernel
theorem dX5_image_38 : decode cX5_image 38 = .ok (.getfield 28, 3) := by decide +kernel
theorem dX5_image_41 : decode cX5_image 41 = .ok (.getfield 140, 3) := by decide +kernel
theorem dX5_image_44 : decode cX5_image 44 = .ok (.ireturn, 1) := by decide +kernel
set_option maxRecDepth 20000 in
theorem ggX5_restore_X4_copyFrom : GoodIn wsX5_restore wsX4_copyFrom := goodIn_r _ [11, 12, 13, 14, 15, 16, 17, 18, 40, 41, 42, 43, 44, 45, 46, 47] (by decide +kernel) (by decide +kernel)
set_option maxRecDepth 20000 in
theorem gX5_restore_X4_copyFrom : GoodIn wsX5_restore (wsV RX5 208 RX4 yX4_copyFrom wsX4_copyFrom) := goodIn_app (goodIn_of _ (by decide +kernel)) ggX5_restore_X4_copyFrom
set_option maxRecDepth 20000 in
theorem ggX5_restore_X3_copyFrom : GoodIn wsX5_restore wsX3_copyFrom := goodIn_r _ [23, 24, 25, 26, 48, 49, 50] (by decide +kernel) (by decide +kernel)
set_option maxRecDepth 20000 in
theorem gX5_restore_X3_copyFrom : GoodIn wsX5_restore (wsV RX5 225 RX3 yX3_copyFrom wsX3_copyFrom) := goodIn_app (goodIn_of _ (by decide +kernel)) ggX5_restore_X3_copyFrom
theorem dX5_restore_0 : decode cX5_restore 0 = .ok (.aload_n 0, 1) := by decide +kernel
theorem dX5_restore_1 : decode cX5_restore 1 = .ok (.getfield 88, 3) := by decide +kernel
theorem dX5_restore_4 : decode cX5_restore 4 = .ok (.ifCond .ne 6, 3) := by decide +kernel
theorem dX5_restore_7 : decode cX5_restore 7 = .ok (.bipush (-103), 2) := by decide +kernel
theorem dX5_restore_9 : decode cX5_restore 9 = .ok (.ireturn, 1) := by decide +kernel
theorem dX5_restore_10 : decode cX5_restore 10 = .ok (.aload_n 0, 1) := by decide +kernel
theorem dX5_restore_11 : decode cX5_restore 11 = .ok (.getfield 28, 3) := by decide +kernel
theorem dX5_restore_14 : decode cX5_restore 14 = .ok (.aload_n 0, 1) := by decide +kernel
theorem dX5_restore_15 : decode cX5_restore 15 = .ok (.getfield 39, 3) := by decide +kernel
theorem dX5_restore_18 : decode cX5_restore 18 = .ok (.invokevirtual 208, 3) := by decide +kernel
theorem dX5_restore_21 : decode cX5_restore 21 = .ok (.aload_n 0, 1) := by decide +kernel
theorem dX5_restore_22 : decode cX5_restore 22 = .ok (.getfield 35, 3) := by decide +kernel
theorem dX5_restore_25 : decode cX5_restore 25 = .ok (.aload_n 0, 1) := by decide +kernel
theorem dX5_restore_26 : decode cX5_restore 26 = .ok (.getfield 42, 3) := by decide +kernel
theorem dX5_restore_29 : decode cX5_restore 29 = .ok (.invokevirtual 225, 3) := by decide +kernel
theorem dX5_restore_32 : decode cX5_restore 32 = .ok (.aload_n 0, 1) := by decide +kernel
theorem dX5_restore_33 : decode cX5_restore 33 = .ok (.iconst 0, 1) := by decide +kernel
theorem dX5_restore_34 : decode cX5_restore 34 = .ok (.putfield 92, 3) := by decide +kernel
theorem dX5_restore_37 : decode cX5_restore 37 = .ok (.aload_n 0, 1) := by decide +kernel
theorem dX5_restore_38 : decode cX5_restore 38 = .ok (.getfield 28, 3) := by decide +kernel
theorem dX5_restore_41 : decode cX5_restore 41 = .ok (.getfield 140, 3) := by decide +kernel
theorem dX5_restore_44 : decode cX5_restore 44 = .ok (.ireturn, 1) := by decide +kernel
set_option maxRecDepth 20000 in
theorem ggX5_count_J6_bitCount_0f7a4 : GoodIn wsX5_count wsJ6_bitCount_0f7a4 := goodIn_r _ [10, 11, 12, 13] (by decide +kernel) (by decide +kernel)
set_option maxRecDepth 20000 in
theorem gX5_count_J6_bitCount_0f7a4 : GoodIn wsX5_count (va_wsS RX5 162 yJ6_bitCount_0f7a4 wsJ6_bitCount_0f7a4) := goodIn_app (goodIn_of _ (by decide +kernel)) ggX5_count_J6_bitCount_0f7a4
set_option maxRecDepth 20000 in
theorem ggX5_count_X4_choices : GoodIn wsX5_count wsX4_choices := goodIn_r _ [18, 19, 20, 21, 22, 17, 23, 24, 25, 26, 27, 28, 29, 30, 31, 32, 33, 34, 35, 36, 37, 38, 39, 40, 41, 42, 43, 44, 45, 46, 47, 48, 49, 50, 51, 52, 53, 54, 55, 56, 57, 58, 59, 60, 61, 62, 63, 64, 65, 66, 67, 68, 69, 70, 71, 72, 73, 74, 75, 8, 9, 10, 11, 12, 13, 93, 94, 95, 96, 97, 98, 99, 100, 89, 90, 91, 92] (by decide +kernel) (by decide +kernel)
set_option maxRecDepth 20000 in
theorem gX5_count_X4_choices : GoodIn wsX5_count (wsV RX5 212 RX4 yX4_choices wsX4_choices) := goodIn_app (goodIn_of _ (by decide +kernel)) ggX5_count_X4_choices
theorem dX5_count_0 : decode cX5_count 0 = .ok (.iload_n 1, 1) := by decide +kernel
theorem dX5_count_1 : decode cX5_count 1 = .ok (.tableswitch 144 0 10 #[59, 67, 75, 86, 94, 102, 110, 118, 126, 134, 139], 59) := by decide +kernel
theorem dX5_count_60 : decode cX5_count 60 = .ok (.aload_n 0, 1) := by decide +kernel
theorem dX5_count_61 : decode cX5_count 61 = .ok (.getfield 19, 3) := by decide +kernel
theorem dX5_count_64 : decode cX5_count 64 = .ok (.getfield 228, 3) := by decide +kernel
theorem dX5_count_67 : decode cX5_count 67 = .ok (.ireturn, 1) := by decide +kernel
theorem dX5_count_68 : decode cX5_count 68 = .ok (.aload_n 0, 1) := by decide +kernel
theorem dX5_count_69 : decode cX5_count 69 = .ok (.getfield 19, 3) := by decide +kernel
theorem dX5_count_72 : decode cX5_count 72 = .ok (.getfield 231, 3) := by decide +kernel
theorem dX5_count_75 : decode cX5_count 75 = .ok (.ireturn, 1) := by decide +kernel
theorem dX5_count_76 : decode cX5_count 76 = .ok (.aload_n 0, 1) := by decide +kernel
theorem dX5_count_77 : decode cX5_count 77 = .ok (.getfield 28, 3) := by decide +kernel
theorem dX5_count_80 : decode cX5_count 80 = .ok (.getfield 159, 3) := by decide +kernel
theorem dX5_count_83 : decode cX5_count 83 = .ok (.invokestatic 162, 3) := by decide +kernel
theorem dX5_count_86 : decode cX5_count 86 = .ok (.ireturn, 1) := by decide +kernel
theorem dX5_count_87 : decode cX5_count 87 = .ok (.aload_n 0, 1) := by decide +kernel
theorem dX5_count_88 : decode cX5_count 88 = .ok (.getfield 28, 3) := by decide +kernel
theorem dX5_count_91 : decode cX5_count 91 = .ok (.getfield 98, 3) := by decide +kernel
theorem dX5_count_94 : decode cX5_count 94 = .ok (.ireturn, 1) := by decide +kernel
theorem dX5_count_95 : decode cX5_count 95 = .ok (.aload_n 0, 1) := by decide +kernel
theorem dX5_count_96 : decode cX5_count 96 = .ok (.getfield 28, 3) := by decide +kernel
theorem dX5_count_99 : decode cX5_count 99 = .ok (.getfield 150, 3) := by decide +kernel
theorem dX5_count_102 : decode cX5_count 102 = .ok (.ireturn, 1) := by decide +kernel
theorem dX5_count_103 : decode cX5_count 103 = .ok (.aload_n 0, 1) := by decide +kernel
theorem dX5_count_104 : decode cX5_count 104 = .ok (.getfield 28, 3) := by decide +kernel
theorem dX5_count_107 : decode cX5_count 107 = .ok (.invokevirtual 212, 3) := by decide +kernel
theorem dX5_count_110 : decode cX5_count 110 = .ok (.ireturn, 1) := by decide +kernel
theorem dX5_count_111 : decode cX5_count 111 = .ok (.aload_n 0, 1) := by decide +kernel
theorem dX5_count_112 : decode cX5_count 112 = .ok (.getfield 28, 3) := by decide +kernel
theorem dX5_count_115 : decode cX5_count 115 = .ok (.getfield 140, 3) := by decide +kernel
theorem dX5_count_118 : decode cX5_count 118 = .ok (.ireturn, 1) := by decide +kernel
theorem dX5_count_119 : decode cX5_count 119 = .ok (.aload_n 0, 1) := by decide +kernel
theorem dX5_count_120 : decode cX5_count 120 = .ok (.getfield 35, 3) := by decide +kernel
theorem dX5_count_123 : decode cX5_count 123 = .ok (.getfield 87, 3) := by decide +kernel
theorem dX5_count_126 : decode cX5_count 126 = .ok (.ireturn, 1) := by decide +kernel
theorem dX5_count_127 : decode cX5_count 127 = .ok (.aload_n 0, 1) := by decide +kernel
theorem dX5_count_128 : decode cX5_count 128 = .ok (.getfield 12, 3) := by decide +kernel
theorem dX5_count_131 : decode cX5_count 131 = .ok (.getfield 63, 3) := by decide +kernel
theorem dX5_count_134 : decode cX5_count 134 = .ok (.ireturn, 1) := by decide +kernel
theorem dX5_count_135 : decode cX5_count 135 = .ok (.aload_n 0, 1) := by decide +kernel
theorem dX5_count_136 : decode cX5_count 136 = .ok (.getfield 95, 3) := by decide +kernel
theorem dX5_count_139 : decode cX5_count 139 = .ok (.ireturn, 1) := by decide +kernel
theorem dX5_count_140 : decode cX5_count 140 = .ok (.aload_n 0, 1) := by decide +kernel
theorem dX5_count_141 : decode cX5_count 141 = .ok (.getfield 194, 3) := by decide +kernel
theorem dX5_count_144 : decode cX5_count 144 = .ok (.ireturn, 1) := by decide +kernel
theorem dX5_count_145 : decode cX5_count 145 = .ok (.bipush (-102), 2) := by decide +kernel
theorem dX5_count_147 : decode cX5_count 147 = .ok (.ireturn, 1) := by decide +kernel
set_option maxRecDepth 20000 in
theorem ggX5_digest_X5_peg : GoodIn wsX5_digest wsX5_peg := goodIn_r _ [11, 2, 12, 13, 14, 15, 16, 17, 18, 19, 20, 21, 22, 23, 24, 25, 26, 27, 28, 29, 30, 31, 32, 33, 34, 35, 36, 37, 38, 39, 40, 41, 42, 43, 44, 45, 46, 47, 48, 49, 50, 51, 52, 53, 54, 55, 56, 57, 58, 10, 59, 60, 61, 62, 63, 64, 65, 66, 67, 68, 69, 70, 71, 72, 73, 74, 75, 76, 77, 78, 79, 80, 81, 82, 83, 84, 85, 86, 87, 88, 89, 90, 91, 92, 93, 199, 200, 201, 202, 203, 204, 205, 206, 207, 208, 209, 210, 211, 212, 213, 214, 215, 216, 217, 218, 219, 220, 221, 222, 223, 226, 227, 228] (by decide +kernel) (by decide +kernel)
set_option maxRecDepth 20000 in
theorem gX5_digest_X5_peg : GoodIn wsX5_digest (wsV RX5 238 RX5 yX5_peg wsX5_peg) := goodIn_app (goodIn_of _ (by decide +kernel)) ggX5_digest_X5_peg
set_option maxRecDepth 20000 in
theorem ggX5_digest_X5_place : GoodIn wsX5_digest wsX5_place := goodIn_r _ [97, 4, 2, 98, 47, 48, 43, 49, 50, 99, 100, 101, 16, 102, 38, 71, 56, 62, 10, 63, 103, 52, 53, 54, 55, 199, 200, 201, 202, 203, 204, 205, 206, 207, 208, 209, 210, 211, 220, 221, 222, 223, 212, 213, 214, 215, 216, 217, 218, 219] (by decide +kernel) (by decide +kernel)
set_option maxRecDepth 20000 in
theorem gX5_digest_X5_place : GoodIn wsX5_digest (wsV RX5 244 RX5 yX5_place wsX5_place) := goodIn_app (goodIn_of _ (by decide +kernel)) ggX5_digest_X5_place
set_option maxRecDepth 20000 in
theorem ggX5_digest_X5_courses : GoodIn wsX5_digest wsX5_courses := goodIn_r _ [107, 5, 108, 109, 110, 111, 10, 112, 113, 114, 2, 115, 116, 117, 118, 16, 119, 71, 18, 120, 121, 23, 29, 55, 122, 123, 124, 125, 126, 127, 128, 129, 130, 131, 132, 133, 134, 135, 136, 137, 138, 139, 35, 36, 37, 38, 39, 26, 27, 28, 24, 14, 15, 17, 40, 41, 42, 43, 44, 45, 46, 47, 48, 49, 50, 51, 52, 53, 54, 56, 57, 20, 21, 22, 58, 59, 60, 61, 62, 63, 64, 65, 66, 67, 68, 69, 70, 25, 140, 141, 142, 143, 144, 145, 146, 147, 148, 149, 150, 151, 152, 153, 154, 155, 156, 157, 158, 159, 160, 161, 162, 163, 164, 84, 85, 86, 165, 166, 167, 168, 169, 170, 171, 172, 199, 200, 201, 202, 203, 204, 205, 206, 207, 208, 209, 210, 211, 229, 230, 231, 232, 233, 234, 235, 236, 237, 212, 213, 214, 215, 216, 217, 218, 219, 220, 221, 222, 223] (by decide +kernel) (by decide +kernel)
set_option maxRecDepth 20000 in
theorem gX5_digest_X5_courses : GoodIn wsX5_digest (wsV RX5 247 RX5 yX5_courses wsX5_courses) := goodIn_app (goodIn_of _ (by decide +kernel)) ggX5_digest_X5_courses
set_option maxRecDepth 20000 in
theorem ggX5_digest_X5_wins : GoodIn wsX5_digest wsX5_wins := goodIn_r _ [176, 5, 108, 109, 110, 111, 10, 112, 113, 114, 2, 115, 116, 117, 118, 16, 119, 71, 18, 120, 121, 23, 29, 55, 122, 123, 124, 125, 126, 127, 128, 129, 130, 131, 132, 133, 134, 135, 136, 137, 138, 139, 35, 36, 37, 38, 39, 26, 27, 28, 24, 14, 15, 17, 40, 41, 42, 43, 44, 45, 46, 47, 48, 49, 50, 51, 52, 53, 54, 56, 57, 20, 21, 22, 58, 59, 60, 61, 62, 63, 64, 65, 66, 67, 68, 69, 70, 25, 140, 141, 142, 143, 144, 145, 146, 147, 148, 149, 150, 151, 152, 153, 154, 155, 156, 157, 158, 159, 160, 161, 162, 163, 164, 84, 85, 86, 165, 166, 167, 168, 169, 170, 171, 172, 199, 200, 201, 202, 203, 204, 205, 206, 207, 208, 209, 210, 211, 229, 230, 231, 232, 233, 234, 235, 236, 237, 212, 213, 214, 215, 216, 217, 218, 219, 220, 221, 222, 223] (by decide +kernel) (by decide +kernel)
set_option maxRecDepth 20000 in
theorem gX5_digest_X5_wins : GoodIn wsX5_digest (wsV RX5 250 RX5 yX5_wins wsX5_wins) := goodIn_app (goodIn_of _ (by decide +kernel)) ggX5_digest_X5_wins
set_option maxRecDepth 20000 in
theorem ggX5_digest_X5_mean : GoodIn wsX5_digest wsX5_mean := goodIn_r _ [180, 5, 108, 109, 110, 111, 10, 112, 113, 114, 2, 115, 116, 117, 118, 16, 119, 71, 18, 120, 121, 23, 29, 55, 122, 123, 124, 125, 126, 127, 128, 129, 130, 131, 132, 133, 134, 135, 136, 137, 138, 139, 35, 36, 37, 38, 39, 26, 27, 28, 24, 14, 15, 17, 40, 41, 42, 43, 44, 45, 46, 47, 48, 49, 50, 51, 52, 53, 54, 56, 57, 20, 21, 22, 58, 59, 60, 61, 62, 63, 64, 65, 66, 67, 68, 69, 70, 25, 140, 141, 142, 143, 144, 145, 146, 147, 148, 149, 150, 151, 152, 153, 154, 155, 156, 157, 158, 159, 160, 161, 162, 163, 164, 84, 85, 86, 165, 166, 167, 168, 169, 170, 171, 172, 199, 200, 201, 202, 203, 204, 205, 206, 207, 208, 209, 210, 211, 229, 230, 231, 232, 233, 234, 235, 236, 237, 212, 213, 214, 215, 216, 217, 218, 219, 220, 221, 222, 223] (by decide +kernel) (by decide +kernel)
set_option maxRecDepth 20000 in
theorem gX5_digest_X5_mean : GoodIn wsX5_digest (wsV RX5 253 RX5 yX5_mean wsX5_mean) := goodIn_app (goodIn_of _ (by decide +kernel)) ggX5_digest_X5_mean
set_option maxRecDepth 20000 in
theorem ggX5_digest_X2_codeAt : GoodIn wsX5_digest wsX2_codeAt := goodIn_r _ [185, 186, 187, 224, 225] (by decide +kernel) (by decide +kernel)
set_option maxRecDepth 20000 in
theorem gX5_digest_X2_codeAt : GoodIn wsX5_digest (wsV RX5 255 RX2 yX2_codeAt wsX2_codeAt) := goodIn_app (goodIn_of _ (by decide +kernel)) ggX5_digest_X2_codeAt
set_option maxRecDepth 20000 in
theorem ggX5_digest_X5_count : GoodIn wsX5_digest wsX5_count := goodIn_r _ [191, 4, 2, 12, 6, 5, 192, 87, 88, 89, 90, 91, 92, 93, 193, 194, 195, 16, 196, 18, 197, 31, 32, 33, 34, 35, 36, 37, 38, 39, 26, 27, 28, 29, 24, 14, 15, 17, 40, 41, 42, 43, 44, 45, 46, 47, 48, 49, 50, 51, 52, 53, 54, 55, 56, 57, 20, 21, 22, 23, 58, 10, 59, 60, 61, 62, 63, 64, 65, 66, 67, 68, 69, 70, 71, 198, 199, 200, 201, 202, 203, 204, 205, 206, 207, 208, 209, 210, 211, 220, 221, 222, 223, 212, 213, 214, 215, 216, 217, 218, 219, 226, 227, 228, 224, 225] (by decide +kernel) (by decide +kernel)
set_option maxRecDepth 20000 in
theorem gX5_digest_X5_count : GoodIn wsX5_digest (wsV RX5 258 RX5 yX5_count wsX5_count) := goodIn_app (goodIn_of _ (by decide +kernel)) ggX5_digest_X5_count
theorem dX5_digest_0 : decode cX5_digest 0 = .ok (.ldc2_w 234, 3) := by decide +kernel
theorem dX5_digest_3 : decode cX5_digest 3 = .ok (.lstore_n 1, 1) := by decide +kernel
theorem dX5_digest_4 : decode cX5_digest 4 = .ok (.iconst 0, 1) := by decide +kernel
theorem dX5_digest_5 : decode cX5_digest 5 = .ok (.istore_n 3, 1) := by decide +kernel
theorem dX5_digest_6 : decode cX5_digest 6 = .ok (.iload_n 3, 1) := by decide +kernel
theorem dX5_digest_7 : decode cX5_digest 7 = .ok (.aload_n 0, 1) := by decide +kernel
theorem dX5_digest_8 : decode cX5_digest 8 = .ok (.getfield 28, 3) := by decide +kernel
theorem dX5_digest_11 : decode cX5_digest 11 = .ok (.getfield 98, 3) := by decide +kernel
theorem dX5_digest_14 : decode cX5_digest 14 = .ok (.if_icmp .ge 39, 3) := by decide +kernel
theorem dX5_digest_17 : decode cX5_digest 17 = .ok (.iconst 0, 1) := by decide +kernel
theorem dX5_digest_18 : decode cX5_digest 18 = .ok (.istore 4, 2) := by decide +kernel
theorem dX5_digest_20 : decode cX5_digest 20 = .ok (.iload 4, 2) := by decide +kernel
theorem dX5_digest_22 : decode cX5_digest 22 = .ok (.iconst 4, 1) := by decide +kernel
theorem dX5_digest_23 : decode cX5_digest 23 = .ok (.if_icmp .gt 24, 3) := by decide +kernel
theorem dX5_digest_26 : decode cX5_digest 26 = .ok (.ldc2_w 236, 3) := by decide +kernel
theorem dX5_digest_29 : decode cX5_digest 29 = .ok (.lload_n 1, 1) := by decide +kernel
theorem dX5_digest_30 : decode cX5_digest 30 = .ok (.lmul, 1) := by decide +kernel
theorem dX5_digest_31 : decode cX5_digest 31 = .ok (.aload_n 0, 1) := by decide +kernel
theorem dX5_digest_32 : decode cX5_digest 32 = .ok (.iload_n 3, 1) := by decide +kernel
theorem dX5_digest_33 : decode cX5_digest 33 = .ok (.iload 4, 2) := by decide +kernel
theorem dX5_digest_35 : decode cX5_digest 35 = .ok (.invokevirtual 238, 3) := by decide +kernel
theorem dX5_digest_38 : decode cX5_digest 38 = .ok (.i2l, 1) := by decide +kernel
theorem dX5_digest_39 : decode cX5_digest 39 = .ok (.ladd, 1) := by decide +kernel
theorem dX5_digest_40 : decode cX5_digest 40 = .ok (.lstore_n 1, 1) := by decide +kernel
theorem dX5_digest_41 : decode cX5_digest 41 = .ok (.iinc 4 1, 3) := by decide +kernel
theorem dX5_digest_44 : decode cX5_digest 44 = .ok (.goto (-24), 3) := by decide +kernel
theorem dX5_digest_47 : decode cX5_digest 47 = .ok (.iinc 3 1, 3) := by decide +kernel
theorem dX5_digest_50 : decode cX5_digest 50 = .ok (.goto (-44), 3) := by decide +kernel
theorem dX5_digest_53 : decode cX5_digest 53 = .ok (.iconst 0, 1) := by decide +kernel
theorem dX5_digest_54 : decode cX5_digest 54 = .ok (.istore_n 3, 1) := by decide +kernel
theorem dX5_digest_55 : decode cX5_digest 55 = .ok (.iload_n 3, 1) := by decide +kernel
theorem dX5_digest_56 : decode cX5_digest 56 = .ok (.aload_n 0, 1) := by decide +kernel
theorem dX5_digest_57 : decode cX5_digest 57 = .ok (.getfield 19, 3) := by decide +kernel
theorem dX5_digest_60 : decode cX5_digest 60 = .ok (.getfield 241, 3) := by decide +kernel
theorem dX5_digest_63 : decode cX5_digest 63 = .ok (.if_icmp .ge 37, 3) := by decide +kernel
theorem dX5_digest_66 : decode cX5_digest 66 = .ok (.ldc2_w 236, 3) := by decide +kernel
theorem dX5_digest_69 : decode cX5_digest 69 = .ok (.lload_n 1, 1) := by decide +kernel
theorem dX5_digest_70 : decode cX5_digest 70 = .ok (.lmul, 1) := by decide +kernel
theorem dX5_digest_71 : decode cX5_digest 71 = .ok (.aload_n 0, 1) := by decide +kernel
theorem dX5_digest_72 : decode cX5_digest 72 = .ok (.iload_n 3, 1) := by decide +kernel
theorem dX5_digest_73 : decode cX5_digest 73 = .ok (.iconst 0, 1) := by decide +kernel
theorem dX5_digest_74 : decode cX5_digest 74 = .ok (.invokevirtual 244, 3) := by decide +kernel
theorem dX5_digest_77 : decode cX5_digest 77 = .ok (.i2l, 1) := by decide +kernel
theorem dX5_digest_78 : decode cX5_digest 78 = .ok (.ladd, 1) := by decide +kernel
theorem dX5_digest_79 : decode cX5_digest 79 = .ok (.lstore_n 1, 1) := by decide +kernel
theorem dX5_digest_80 : decode cX5_digest 80 = .ok (.ldc2_w 236, 3) := by decide +kernel
theorem dX5_digest_83 : decode cX5_digest 83 = .ok (.lload_n 1, 1) := by decide +kernel
theorem dX5_digest_84 : decode cX5_digest 84 = .ok (.lmul, 1) := by decide +kernel
theorem dX5_digest_85 : decode cX5_digest 85 = .ok (.aload_n 0, 1) := by decide +kernel
theorem dX5_digest_86 : decode cX5_digest 86 = .ok (.iload_n 3, 1) := by decide +kernel
theorem dX5_digest_87 : decode cX5_digest 87 = .ok (.iconst 1, 1) := by decide +kernel
theorem dX5_digest_88 : decode cX5_digest 88 = .ok (.invokevirtual 244, 3) := by decide +kernel
theorem dX5_digest_91 : decode cX5_digest 91 = .ok (.i2l, 1) := by decide +kernel
theorem dX5_digest_92 : decode cX5_digest 92 = .ok (.ladd, 1) := by decide +kernel
theorem dX5_digest_93 : decode cX5_digest 93 = .ok (.lstore_n 1, 1) := by decide +kernel
theorem dX5_digest_94 : decode cX5_digest 94 = .ok (.iinc 3 1, 3) := by decide +kernel
theorem dX5_digest_97 : decode cX5_digest 97 = .ok (.goto (-42), 3) := by decide +kernel
theorem dX5_digest_100 : decode cX5_digest 100 = .ok (.aload_n 0, 1) := by decide +kernel
theorem dX5_digest_101 : decode cX5_digest 101 = .ok (.getfield 95, 3) := by decide +kernel
theorem dX5_digest_104 : decode cX5_digest 104 = .ok (.ifCond .le 67, 3) := by decide +kernel
theorem dX5_digest_107 : decode cX5_digest 107 = .ok (.iconst 0, 1) := by decide +kernel
theorem dX5_digest_108 : decode cX5_digest 108 = .ok (.istore_n 3, 1) := by decide +kernel
theorem dX5_digest_109 : decode cX5_digest 109 = .ok (.iload_n 3, 1) := by decide +kernel
theorem dX5_digest_110 : decode cX5_digest 110 = .ok (.iconst 5, 1) := by decide +kernel
theorem dX5_digest_111 : decode cX5_digest 111 = .ok (.if_icmp .gt 22, 3) := by decide +kernel
theorem dX5_digest_114 : decode cX5_digest 114 = .ok (.ldc2_w 236, 3) := by decide +kernel
theorem dX5_digest_117 : decode cX5_digest 117 = .ok (.lload_n 1, 1) := by decide +kernel
theorem dX5_digest_118 : decode cX5_digest 118 = .ok (.lmul, 1) := by decide +kernel
theorem dX5_digest_119 : decode cX5_digest 119 = .ok (.aload_n 0, 1) := by decide +kernel
theorem dX5_digest_120 : decode cX5_digest 120 = .ok (.iload_n 3, 1) := by decide +kernel
theorem dX5_digest_121 : decode cX5_digest 121 = .ok (.invokevirtual 247, 3) := by decide +kernel
theorem dX5_digest_124 : decode cX5_digest 124 = .ok (.i2l, 1) := by decide +kernel
theorem dX5_digest_125 : decode cX5_digest 125 = .ok (.ladd, 1) := by decide +kernel
theorem dX5_digest_126 : decode cX5_digest 126 = .ok (.lstore_n 1, 1) := by decide +kernel
theorem dX5_digest_127 : decode cX5_digest 127 = .ok (.iinc 3 1, 3) := by decide +kernel
theorem dX5_digest_130 : decode cX5_digest 130 = .ok (.goto (-21), 3) := by decide +kernel
theorem dX5_digest_133 : decode cX5_digest 133 = .ok (.ldc2_w 236, 3) := by decide +kernel
theorem dX5_digest_136 : decode cX5_digest 136 = .ok (.lload_n 1, 1) := by decide +kernel
theorem dX5_digest_137 : decode cX5_digest 137 = .ok (.lmul, 1) := by decide +kernel
theorem dX5_digest_138 : decode cX5_digest 138 = .ok (.aload_n 0, 1) := by decide +kernel
theorem dX5_digest_139 : decode cX5_digest 139 = .ok (.iconst 0, 1) := by decide +kernel
theorem dX5_digest_140 : decode cX5_digest 140 = .ok (.invokevirtual 250, 3) := by decide +kernel
theorem dX5_digest_143 : decode cX5_digest 143 = .ok (.i2l, 1) := by decide +kernel
theorem dX5_digest_144 : decode cX5_digest 144 = .ok (.ladd, 1) := by decide +kernel
theorem dX5_digest_145 : decode cX5_digest 145 = .ok (.lstore_n 1, 1) := by decide +kernel
theorem dX5_digest_146 : decode cX5_digest 146 = .ok (.ldc2_w 236, 3) := by decide +kernel
theorem dX5_digest_149 : decode cX5_digest 149 = .ok (.lload_n 1, 1) := by decide +kernel
theorem dX5_digest_150 : decode cX5_digest 150 = .ok (.lmul, 1) := by decide +kernel
theorem dX5_digest_151 : decode cX5_digest 151 = .ok (.aload_n 0, 1) := by decide +kernel
theorem dX5_digest_152 : decode cX5_digest 152 = .ok (.iconst 1, 1) := by decide +kernel
theorem dX5_digest_153 : decode cX5_digest 153 = .ok (.invokevirtual 250, 3) := by decide +kernel
theorem dX5_digest_156 : decode cX5_digest 156 = .ok (.i2l, 1) := by decide +kernel
theorem dX5_digest_157 : decode cX5_digest 157 = .ok (.ladd, 1) := by decide +kernel
theorem dX5_digest_158 : decode cX5_digest 158 = .ok (.lstore_n 1, 1) := by decide +kernel
theorem dX5_digest_159 : decode cX5_digest 159 = .ok (.ldc2_w 236, 3) := by decide +kernel
theorem dX5_digest_162 : decode cX5_digest 162 = .ok (.lload_n 1, 1) := by decide +kernel
theorem dX5_digest_163 : decode cX5_digest 163 = .ok (.lmul, 1) := by decide +kernel
theorem dX5_digest_164 : decode cX5_digest 164 = .ok (.aload_n 0, 1) := by decide +kernel
theorem dX5_digest_165 : decode cX5_digest 165 = .ok (.invokevirtual 253, 3) := by decide +kernel
theorem dX5_digest_168 : decode cX5_digest 168 = .ok (.i2l, 1) := by decide +kernel
theorem dX5_digest_169 : decode cX5_digest 169 = .ok (.ladd, 1) := by decide +kernel
theorem dX5_digest_170 : decode cX5_digest 170 = .ok (.lstore_n 1, 1) := by decide +kernel
theorem dX5_digest_171 : decode cX5_digest 171 = .ok (.iconst 0, 1) := by decide +kernel
theorem dX5_digest_172 : decode cX5_digest 172 = .ok (.istore_n 3, 1) := by decide +kernel
theorem dX5_digest_173 : decode cX5_digest 173 = .ok (.iload_n 3, 1) := by decide +kernel
theorem dX5_digest_174 : decode cX5_digest 174 = .ok (.aload_n 0, 1) := by decide +kernel
theorem dX5_digest_175 : decode cX5_digest 175 = .ok (.getfield 12, 3) := by decide +kernel
theorem dX5_digest_178 : decode cX5_digest 178 = .ok (.getfield 63, 3) := by decide +kernel
theorem dX5_digest_181 : decode cX5_digest 181 = .ok (.if_icmp .ge 25, 3) := by decide +kernel
theorem dX5_digest_184 : decode cX5_digest 184 = .ok (.ldc2_w 236, 3) := by decide +kernel
theorem dX5_digest_187 : decode cX5_digest 187 = .ok (.lload_n 1, 1) := by decide +kernel
theorem dX5_digest_188 : decode cX5_digest 188 = .ok (.lmul, 1) := by decide +kernel
theorem dX5_digest_189 : decode cX5_digest 189 = .ok (.aload_n 0, 1) := by decide +kernel
theorem dX5_digest_190 : decode cX5_digest 190 = .ok (.getfield 12, 3) := by decide +kernel
theorem dX5_digest_193 : decode cX5_digest 193 = .ok (.iload_n 3, 1) := by decide +kernel
theorem dX5_digest_194 : decode cX5_digest 194 = .ok (.invokevirtual 255, 3) := by decide +kernel
theorem dX5_digest_197 : decode cX5_digest 197 = .ok (.i2l, 1) := by decide +kernel
theorem dX5_digest_198 : decode cX5_digest 198 = .ok (.ladd, 1) := by decide +kernel
theorem dX5_digest_199 : decode cX5_digest 199 = .ok (.lstore_n 1, 1) := by decide +kernel
theorem dX5_digest_200 : decode cX5_digest 200 = .ok (.iinc 3 1, 3) := by decide +kernel
theorem dX5_digest_203 : decode cX5_digest 203 = .ok (.goto (-30), 3) := by decide +kernel
theorem dX5_digest_206 : decode cX5_digest 206 = .ok (.iconst 0, 1) := by decide +kernel
theorem dX5_digest_207 : decode cX5_digest 207 = .ok (.istore_n 3, 1) := by decide +kernel
theorem dX5_digest_208 : decode cX5_digest 208 = .ok (.iload_n 3, 1) := by decide +kernel
theorem dX5_digest_209 : decode cX5_digest 209 = .ok (.bipush 10, 2) := by decide +kernel
theorem dX5_digest_211 : decode cX5_digest 211 = .ok (.if_icmp .gt 22, 3) := by decide +kernel
theorem dX5_digest_214 : decode cX5_digest 214 = .ok (.ldc2_w 236, 3) := by decide +kernel
theorem dX5_digest_217 : decode cX5_digest 217 = .ok (.lload_n 1, 1) := by decide +kernel
theorem dX5_digest_218 : decode cX5_digest 218 = .ok (.lmul, 1) := by decide +kernel
theorem dX5_digest_219 : decode cX5_digest 219 = .ok (.aload_n 0, 1) := by decide +kernel
theorem dX5_digest_220 : decode cX5_digest 220 = .ok (.iload_n 3, 1) := by decide +kernel
theorem dX5_digest_221 : decode cX5_digest 221 = .ok (.invokevirtual 258, 3) := by decide +kernel
theorem dX5_digest_224 : decode cX5_digest 224 = .ok (.i2l, 1) := by decide +kernel
theorem dX5_digest_225 : decode cX5_digest 225 = .ok (.ladd, 1) := by decide +kernel
theorem dX5_digest_226 : decode cX5_digest 226 = .ok (.lstore_n 1, 1) := by decide +kernel
theorem dX5_digest_227 : decode cX5_digest 227 = .ok (.iinc 3 1, 3) := by decide +kernel
theorem dX5_digest_230 : decode cX5_digest 230 = .ok (.goto (-22), 3) := by decide +kernel
theorem dX5_digest_233 : decode cX5_digest 233 = .ok (.lload_n 1, 1) := by decide +kernel
theorem dX5_digest_234 : decode cX5_digest 234 = .ok (.lreturn, 1) := by decide +kernel
set_option maxRecDepth 20000 in
theorem ggX5_lookAhead_X4_copyFrom : GoodIn wsX5_lookAhead wsX4_copyFrom := goodIn_r _ [9, 10, 11, 12, 13, 14, 15, 16, 131, 132, 133, 134, 135, 136, 137, 138] (by decide +kernel) (by decide +kernel)
set_option maxRecDepth 20000 in
theorem gX5_lookAhead_X4_copyFrom : GoodIn wsX5_lookAhead (wsV RX5 208 RX4 yX4_copyFrom wsX4_copyFrom) := goodIn_app (goodIn_of _ (by decide +kernel)) ggX5_lookAhead_X4_copyFrom
set_option maxRecDepth 20000 in
theorem ggX5_lookAhead_X5_look : GoodIn wsX5_lookAhead wsX5_look := goodIn_r _ [20, 21, 22, 23, 24, 25, 26, 27, 28, 29, 30, 31, 32, 33, 34, 35, 36, 37, 8, 38, 39, 40, 41, 42, 43, 15, 44, 45, 46, 47, 11, 48, 49, 50, 51, 52, 53, 54, 55, 56, 57, 58, 59, 60, 61, 62, 16, 63, 64, 65, 66, 67, 14, 68, 19, 69, 70, 71, 72, 73, 74, 75, 76, 77, 78, 79, 80, 10, 81, 82, 83, 84, 85, 86, 87, 88, 89, 90, 91, 92, 93, 12, 94, 95, 96, 97, 17, 18, 98, 99, 100, 101, 102, 103, 104, 105, 106, 107, 108, 109, 110, 111, 112, 113, 114, 115, 116, 117, 131, 132, 133, 134, 135, 136, 137, 138, 139, 140, 141, 142, 143, 144, 145, 146, 147, 148, 149, 150, 151] (by decide +kernel) (by decide +kernel)
set_option maxRecDepth 20000 in
theorem gX5_lookAhead_X5_look : GoodIn wsX5_lookAhead (va_wsS RX5 261 yX5_look wsX5_look) := goodIn_app (goodIn_of _ (by decide +kernel)) ggX5_lookAhead_X5_look
theorem dX5_lookAhead_0 : decode cX5_lookAhead 0 = .ok (.aload_n 0, 1) := by decide +kernel
theorem dX5_lookAhead_1 : decode cX5_lookAhead 1 = .ok (.getfield 92, 3) := by decide +kernel
theorem dX5_lookAhead_4 : decode cX5_lookAhead 4 = .ok (.ifCond .ne 31, 3) := by decide +kernel
theorem dX5_lookAhead_7 : decode cX5_lookAhead 7 = .ok (.aload_n 0, 1) := by decide +kernel
theorem dX5_lookAhead_8 : decode cX5_lookAhead 8 = .ok (.getfield 45, 3) := by decide +kernel
theorem dX5_lookAhead_11 : decode cX5_lookAhead 11 = .ok (.aload_n 0, 1) := by decide +kernel
theorem dX5_lookAhead_12 : decode cX5_lookAhead 12 = .ok (.getfield 28, 3) := by decide +kernel
theorem dX5_lookAhead_15 : decode cX5_lookAhead 15 = .ok (.invokevirtual 208, 3) := by decide +kernel
theorem dX5_lookAhead_18 : decode cX5_lookAhead 18 = .ok (.aload_n 0, 1) := by decide +kernel
theorem dX5_lookAhead_19 : decode cX5_lookAhead 19 = .ok (.getfield 45, 3) := by decide +kernel
theorem dX5_lookAhead_22 : decode cX5_lookAhead 22 = .ok (.aload_n 0, 1) := by decide +kernel
theorem dX5_lookAhead_23 : decode cX5_lookAhead 23 = .ok (.getfield 55, 3) := by decide +kernel
theorem dX5_lookAhead_26 : decode cX5_lookAhead 26 = .ok (.iconst 0, 1) := by decide +kernel
theorem dX5_lookAhead_27 : decode cX5_lookAhead 27 = .ok (.invokestatic 261, 3) := by decide +kernel
theorem dX5_lookAhead_30 : decode cX5_lookAhead 30 = .ok (.aload_n 0, 1) := by decide +kernel
theorem dX5_lookAhead_31 : decode cX5_lookAhead 31 = .ok (.iconst 1, 1) := by decide +kernel
theorem dX5_lookAhead_32 : decode cX5_lookAhead 32 = .ok (.putfield 92, 3) := by decide +kernel
theorem dX5_lookAhead_35 : decode cX5_lookAhead 35 = .ok (.return_, 1) := by decide +kernel
set_option maxRecDepth 20000 in
theorem ggX5_fewestWithOneMore_X4_copyFrom : GoodIn wsX5_fewestWithOneMore wsX4_copyFrom := goodIn_r _ [9, 10, 11, 12, 13, 14, 15, 16, 148, 149, 150, 151, 152, 153, 154, 155] (by decide +kernel) (by decide +kernel)
set_option maxRecDepth 20000 in
theorem gX5_fewestWithOneMore_X4_copyFrom : GoodIn wsX5_fewestWithOneMore (wsV RX5 208 RX4 yX4_copyFrom wsX4_copyFrom) := goodIn_app (goodIn_of _ (by decide +kernel)) ggX5_fewestWithOneMore_X4_copyFrom
set_option maxRecDepth 20000 in
theorem ggX5_fewestWithOneMore_X4_addPlain : GoodIn wsX5_fewestWithOneMore wsX4_addPlain := goodIn_r _ [20, 21, 22, 23, 8, 24, 11, 14, 15, 25, 26, 27, 28, 29, 16, 12, 30, 31, 32, 33, 34, 35, 36, 37, 38, 39, 148, 149, 150, 151, 152, 153, 154, 155, 156, 157, 158, 159] (by decide +kernel) (by decide +kernel)
set_option maxRecDepth 20000 in
theorem gX5_fewestWithOneMore_X4_addPlain : GoodIn wsX5_fewestWithOneMore (wsV RX5 265 RX4 yX4_addPlain wsX4_addPlain) := goodIn_app (goodIn_of _ (by decide +kernel)) ggX5_fewestWithOneMore_X4_addPlain
set_option maxRecDepth 20000 in
theorem ggX5_fewestWithOneMore_X5_look : GoodIn wsX5_fewestWithOneMore wsX5_look := goodIn_r _ [43, 44, 45, 46, 47, 48, 49, 50, 51, 52, 53, 54, 55, 56, 57, 58, 59, 60, 8, 61, 29, 62, 63, 64, 65, 15, 30, 31, 32, 33, 11, 66, 67, 68, 37, 69, 70, 71, 35, 36, 38, 39, 72, 73, 74, 75, 16, 34, 76, 77, 78, 79, 14, 80, 42, 81, 82, 83, 84, 85, 86, 87, 88, 89, 90, 91, 92, 10, 93, 94, 95, 96, 97, 98, 99, 100, 101, 102, 103, 104, 105, 12, 25, 26, 27, 28, 40, 41, 106, 107, 108, 109, 110, 111, 112, 113, 114, 115, 116, 117, 118, 119, 120, 121, 122, 123, 124, 125, 148, 149, 150, 151, 152, 153, 154, 155, 139, 140, 141, 142, 143, 144, 145, 146, 147, 156, 157, 158, 159] (by decide +kernel) (by decide +kernel)
set_option maxRecDepth 20000 in
theorem gX5_fewestWithOneMore_X5_look : GoodIn wsX5_fewestWithOneMore (va_wsS RX5 261 yX5_look wsX5_look) := goodIn_app (goodIn_of _ (by decide +kernel)) ggX5_fewestWithOneMore_X5_look
theorem dX5_fewestWithOneMore_0 : decode cX5_fewestWithOneMore 0 = .ok (.aload_n 0, 1) := by decide +kernel
theorem dX5_fewestWithOneMore_1 : decode cX5_fewestWithOneMore 1 = .ok (.getfield 45, 3) := by decide +kernel
theorem dX5_fewestWithOneMore_4 : decode cX5_fewestWithOneMore 4 = .ok (.aload_n 0, 1) := by decide +kernel
theorem dX5_fewestWithOneMore_5 : decode cX5_fewestWithOneMore 5 = .ok (.getfield 28, 3) := by decide +kernel
theorem dX5_fewestWithOneMore_8 : decode cX5_fewestWithOneMore 8 = .ok (.invokevirtual 208, 3) := by decide +kernel
theorem dX5_fewestWithOneMore_11 : decode cX5_fewestWithOneMore 11 = .ok (.aload_n 0, 1) := by decide +kernel
theorem dX5_fewestWithOneMore_12 : decode cX5_fewestWithOneMore 12 = .ok (.getfield 45, 3) := by decide +kernel
theorem dX5_fewestWithOneMore_15 : decode cX5_fewestWithOneMore 15 = .ok (.iload_n 1, 1) := by decide +kernel
theorem dX5_fewestWithOneMore_16 : decode cX5_fewestWithOneMore 16 = .ok (.invokevirtual 265, 3) := by decide +kernel
theorem dX5_fewestWithOneMore_19 : decode cX5_fewestWithOneMore 19 = .ok (.aload_n 0, 1) := by decide +kernel
theorem dX5_fewestWithOneMore_20 : decode cX5_fewestWithOneMore 20 = .ok (.getfield 45, 3) := by decide +kernel
theorem dX5_fewestWithOneMore_23 : decode cX5_fewestWithOneMore 23 = .ok (.aload_n 0, 1) := by decide +kernel
theorem dX5_fewestWithOneMore_24 : decode cX5_fewestWithOneMore 24 = .ok (.getfield 55, 3) := by decide +kernel
theorem dX5_fewestWithOneMore_27 : decode cX5_fewestWithOneMore 27 = .ok (.iconst 0, 1) := by decide +kernel
theorem dX5_fewestWithOneMore_28 : decode cX5_fewestWithOneMore 28 = .ok (.invokestatic 261, 3) := by decide +kernel
theorem dX5_fewestWithOneMore_31 : decode cX5_fewestWithOneMore 31 = .ok (.aload_n 0, 1) := by decide +kernel
theorem dX5_fewestWithOneMore_32 : decode cX5_fewestWithOneMore 32 = .ok (.getfield 51, 3) := by decide +kernel
theorem dX5_fewestWithOneMore_35 : decode cX5_fewestWithOneMore 35 = .ok (.getfield 173, 3) := by decide +kernel
theorem dX5_fewestWithOneMore_38 : decode cX5_fewestWithOneMore 38 = .ok (.ireturn, 1) := by decide +kernel
set_option maxRecDepth 20000 in
theorem ggX5_look_X1_begin : GoodIn wsX5_look wsX1_begin := goodIn_r _ [5, 6, 7, 8, 9, 10, 11, 12, 13, 14, 116, 117, 118, 119, 120, 121, 122, 123, 124] (by decide +kernel) (by decide +kernel)
set_option maxRecDepth 20000 in
theorem gX5_look_X1_begin : GoodIn wsX5_look (wsV RX5 268 RX1 yX1_begin wsX1_begin) := goodIn_app (goodIn_of _ (by decide +kernel)) ggX5_look_X1_begin
set_option maxRecDepth 20000 in
theorem ggX5_look_X4_targetOf : GoodIn wsX5_look wsX4_targetOf := goodIn_r _ [19, 20, 21, 22, 23, 18, 24, 25, 26, 27, 28, 29, 30, 31, 32, 33, 34, 35, 36, 37, 38, 39, 40, 41, 42, 43, 44, 45, 46, 47, 48, 49, 50, 51, 52, 53, 54, 55, 56, 57, 58, 59, 60, 61, 62, 63, 64, 65, 66, 67, 108, 109, 110, 111, 112, 113, 114, 115, 125, 126, 127, 128] (by decide +kernel) (by decide +kernel)
set_option maxRecDepth 20000 in
theorem gX5_look_X4_targetOf : GoodIn wsX5_look (wsV RX5 271 RX4 yX4_targetOf wsX4_targetOf) := goodIn_app (goodIn_of _ (by decide +kernel)) ggX5_look_X4_targetOf
set_option maxRecDepth 20000 in
theorem ggX5_look_X4_homeOf : GoodIn wsX5_look wsX4_homeOf := goodIn_r _ [24, 25, 26, 27, 28, 18, 29, 30, 108, 109, 110, 111, 112, 113, 114, 115] (by decide +kernel) (by decide +kernel)
set_option maxRecDepth 20000 in
theorem gX5_look_X4_homeOf : GoodIn wsX5_look (wsV RX5 107 RX4 yX4_homeOf wsX4_homeOf) := goodIn_app (goodIn_of _ (by decide +kernel)) ggX5_look_X4_homeOf
set_option maxRecDepth 20000 in
theorem ggX5_look_X4_neighbourOf : GoodIn wsX5_look wsX4_neighbourOf := goodIn_r _ [72, 20, 21, 22, 23, 18, 24, 25, 26, 27, 28, 29, 30, 31, 32, 33, 34, 35, 36, 37, 38, 39, 40, 41, 42, 43, 44, 45, 46, 47, 108, 109, 110, 111, 112, 113, 114, 115, 125, 126, 127, 128] (by decide +kernel) (by decide +kernel)
set_option maxRecDepth 20000 in
theorem gX5_look_X4_neighbourOf : GoodIn wsX5_look (wsV RX5 143 RX4 yX4_neighbourOf wsX4_neighbourOf) := goodIn_app (goodIn_of _ (by decide +kernel)) ggX5_look_X4_neighbourOf
set_option maxRecDepth 20000 in
theorem ggX5_look_X4_leap : GoodIn wsX5_look wsX4_leap := goodIn_r _ [76, 77, 78, 79, 18, 80, 20, 25, 46, 81, 26, 27, 28, 29, 30, 47, 38, 39, 34, 40, 41, 48, 49, 50, 51, 52, 60, 54, 61, 62, 57, 58, 59, 82, 83, 84, 85, 108, 109, 110, 111, 112, 113, 114, 115, 125, 126, 127, 128] (by decide +kernel) (by decide +kernel)
set_option maxRecDepth 20000 in
theorem gX5_look_X4_leap : GoodIn wsX5_look (wsV RX5 146 RX4 yX4_leap wsX4_leap) := goodIn_app (goodIn_of _ (by decide +kernel)) ggX5_look_X4_leap
set_option maxRecDepth 20000 in
theorem ggX5_look_X5_look : GoodIn wsX5_look wsX5_look := goodIn_r _ [0, 1, 2, 3, 4, 5, 6, 7, 8, 9, 10, 11, 12, 13, 14, 15, 16, 17, 18, 19, 20, 21, 22, 23, 24, 25, 26, 27, 28, 29, 30, 31, 32, 33, 34, 35, 36, 37, 38, 39, 40, 41, 42, 43, 44, 45, 46, 47, 48, 49, 50, 51, 52, 53, 54, 55, 56, 57, 58, 59, 60, 61, 62, 63, 64, 65, 66, 67, 68, 69, 70, 71, 72, 73, 74, 75, 76, 77, 78, 79, 80, 81, 82, 83, 84, 85, 86, 87, 88, 89, 90, 91, 92, 93, 94, 95, 96, 97, 98, 99, 100, 101, 102, 103, 104, 105, 106, 107, 108, 109, 110, 111, 112, 113, 114, 115, 116, 117, 118, 119, 120, 121, 122, 123, 124, 125, 126, 127, 128] (by decide +kernel) (by decide +kernel)
set_option maxRecDepth 20000 in
theorem gX5_look_X5_look : GoodIn wsX5_look (va_wsS RX5 261 yX5_look wsX5_look) := goodIn_app (goodIn_of _ (by decide +kernel)) ggX5_look_X5_look
set_option maxRecDepth 20000 in
theorem ggX5_look_X4_takeBack : GoodIn wsX5_look wsX4_takeBack := goodIn_r _ [91, 20, 77, 78, 79, 18, 80, 25, 46, 81, 26, 27, 28, 29, 30, 47, 38, 39, 34, 40, 41, 82, 83, 84, 85, 31, 32, 33, 35, 36, 37, 108, 109, 110, 111, 112, 113, 114, 115, 125, 126, 127, 128] (by decide +kernel) (by decide +kernel)
set_option maxRecDepth 20000 in
theorem gX5_look_X4_takeBack : GoodIn wsX5_look (wsV RX5 274 RX4 yX4_takeBack wsX4_takeBack) := goodIn_app (goodIn_of _ (by decide +kernel)) ggX5_look_X4_takeBack
set_option maxRecDepth 20000 in
theorem ggX5_look_X1_take : GoodIn wsX5_look wsX1_take := goodIn_r _ [95, 6, 7, 8, 11, 10, 96, 97, 98, 99, 9, 12, 13, 14, 116, 117, 118, 119, 120, 121, 122, 123, 124] (by decide +kernel) (by decide +kernel)
set_option maxRecDepth 20000 in
theorem gX5_look_X1_take : GoodIn wsX5_look (wsV RX5 278 RX1 yX1_take wsX1_take) := goodIn_app (goodIn_of _ (by decide +kernel)) ggX5_look_X1_take
set_option maxRecDepth 20000 in
theorem ggX5_look_X4_aloneBit : GoodIn wsX5_look wsX4_aloneBit := goodIn_r _ [103, 81, 30, 21, 22, 23, 18, 24, 25, 26, 27, 28, 29, 108, 109, 110, 111, 112, 113, 114, 115] (by decide +kernel) (by decide +kernel)
set_option maxRecDepth 20000 in
theorem gX5_look_X4_aloneBit : GoodIn wsX5_look (wsV RX5 282 RX4 yX4_aloneBit wsX4_aloneBit) := goodIn_app (goodIn_of _ (by decide +kernel)) ggX5_look_X4_aloneBit
set_option maxRecDepth 20000 in
theorem ggX5_look_X1_end : GoodIn wsX5_look wsX1_end := goodIn_r _ [107, 6, 14, 7, 9, 12, 116, 117, 118, 119, 120, 121, 122, 123, 124] (by decide +kernel) (by decide +kernel)
set_option maxRecDepth 20000 in
theorem gX5_look_X1_end : GoodIn wsX5_look (wsV RX5 285 RX1 yX1_end wsX1_end) := goodIn_app (goodIn_of _ (by decide +kernel)) ggX5_look_X1_end
theorem dX5_look_0 : decode cX5_look 0 = .ok (.iload_n 2, 1) := by decide +kernel
theorem dX5_look_1 : decode cX5_look 1 = .ok (.ifCond .lt 15, 3) := by decide +kernel
theorem dX5_look_4 : decode cX5_look 4 = .ok (.iload_n 2, 1) := by decide +kernel
theorem dX5_look_5 : decode cX5_look 5 = .ok (.aload_n 1, 1) := by decide +kernel
theorem dX5_look_6 : decode cX5_look 6 = .ok (.arraylength, 1) := by decide +kernel
theorem dX5_look_7 : decode cX5_look 7 = .ok (.if_icmp .ge 9, 3) := by decide +kernel
theorem dX5_look_10 : decode cX5_look 10 = .ok (.aload_n 1, 1) := by decide +kernel
theorem dX5_look_11 : decode cX5_look 11 = .ok (.iload_n 2, 1) := by decide +kernel
theorem dX5_look_12 : decode cX5_look 12 = .ok (.aaload, 1) := by decide +kernel
theorem dX5_look_13 : decode cX5_look 13 = .ok (.ifnonnull 4, 3) := by decide +kernel
theorem dX5_look_16 : decode cX5_look 16 = .ok (.return_, 1) := by decide +kernel
theorem dX5_look_17 : decode cX5_look 17 = .ok (.aload_n 1, 1) := by decide +kernel
theorem dX5_look_18 : decode cX5_look 18 = .ok (.iload_n 2, 1) := by decide +kernel
theorem dX5_look_19 : decode cX5_look 19 = .ok (.aaload, 1) := by decide +kernel
theorem dX5_look_20 : decode cX5_look 20 = .ok (.astore_n 3, 1) := by decide +kernel
theorem dX5_look_21 : decode cX5_look 21 = .ok (.aload_n 3, 1) := by decide +kernel
theorem dX5_look_22 : decode cX5_look 22 = .ok (.invokevirtual 268, 3) := by decide +kernel
theorem dX5_look_25 : decode cX5_look 25 = .ok (.iload_n 2, 1) := by decide +kernel
theorem dX5_look_26 : decode cX5_look 26 = .ok (.iconst 1, 1) := by decide +kernel
theorem dX5_look_27 : decode cX5_look 27 = .ok (.iadd, 1) := by decide +kernel
theorem dX5_look_28 : decode cX5_look 28 = .ok (.aload_n 1, 1) := by decide +kernel
theorem dX5_look_29 : decode cX5_look 29 = .ok (.arraylength, 1) := by decide +kernel
theorem dX5_look_30 : decode cX5_look 30 = .ok (.if_icmp .ge 11, 3) := by decide +kernel
theorem dX5_look_33 : decode cX5_look 33 = .ok (.aload_n 1, 1) := by decide +kernel
theorem dX5_look_34 : decode cX5_look 34 = .ok (.iload_n 2, 1) := by decide +kernel
theorem dX5_look_35 : decode cX5_look 35 = .ok (.iconst 1, 1) := by decide +kernel
theorem dX5_look_36 : decode cX5_look 36 = .ok (.iadd, 1) := by decide +kernel
theorem dX5_look_37 : decode cX5_look 37 = .ok (.aaload, 1) := by decide +kernel
theorem dX5_look_38 : decode cX5_look 38 = .ok (.goto 4, 3) := by decide +kernel
theorem dX5_look_41 : decode cX5_look 41 = .ok (.aconst_null, 1) := by decide +kernel
theorem dX5_look_42 : decode cX5_look 42 = .ok (.astore 4, 2) := by decide +kernel
theorem dX5_look_44 : decode cX5_look 44 = .ok (.iconst 0, 1) := by decide +kernel
theorem dX5_look_45 : decode cX5_look 45 = .ok (.istore 5, 2) := by decide +kernel
theorem dX5_look_47 : decode cX5_look 47 = .ok (.iload 5, 2) := by decide +kernel
theorem dX5_look_49 : decode cX5_look 49 = .ok (.aload_n 0, 1) := by decide +kernel
theorem dX5_look_50 : decode cX5_look 50 = .ok (.getfield 98, 3) := by decide +kernel
theorem dX5_look_53 : decode cX5_look 53 = .ok (.if_icmp .ge 108, 3) := by decide +kernel
theorem dX5_look_56 : decode cX5_look 56 = .ok (.aload 4, 2) := by decide +kernel
theorem dX5_look_58 : decode cX5_look 58 = .ok (.ifnull 103, 3) := by decide +kernel
theorem dX5_look_61 : decode cX5_look 61 = .ok (.iconst 0, 1) := by decide +kernel
theorem dX5_look_62 : decode cX5_look 62 = .ok (.istore 6, 2) := by decide +kernel
theorem dX5_look_64 : decode cX5_look 64 = .ok (.iload 6, 2) := by decide +kernel
theorem dX5_look_66 : decode cX5_look 66 = .ok (.bipush 8, 2) := by decide +kernel
theorem dX5_look_68 : decode cX5_look 68 = .ok (.if_icmp .ge 87, 3) := by decide +kernel
theorem dX5_look_71 : decode cX5_look 71 = .ok (.aload_n 0, 1) := by decide +kernel
theorem dX5_look_72 : decode cX5_look 72 = .ok (.iload 5, 2) := by decide +kernel
theorem dX5_look_74 : decode cX5_look 74 = .ok (.iload 6, 2) := by decide +kernel
theorem dX5_look_76 : decode cX5_look 76 = .ok (.invokevirtual 271, 3) := by decide +kernel
theorem dX5_look_79 : decode cX5_look 79 = .ok (.istore 7, 2) := by decide +kernel
theorem dX5_look_81 : decode cX5_look 81 = .ok (.iload 7, 2) := by decide +kernel
theorem dX5_look_83 : decode cX5_look 83 = .ok (.iconst (-1), 1) := by decide +kernel
theorem dX5_look_84 : decode cX5_look 84 = .ok (.if_icmp .eq 65, 3) := by decide +kernel
theorem dX5_look_87 : decode cX5_look 87 = .ok (.aload_n 0, 1) := by decide +kernel
theorem dX5_look_88 : decode cX5_look 88 = .ok (.iload 5, 2) := by decide +kernel
theorem dX5_look_90 : decode cX5_look 90 = .ok (.invokevirtual 107, 3) := by decide +kernel
theorem dX5_look_93 : decode cX5_look 93 = .ok (.istore 8, 2) := by decide +kernel
theorem dX5_look_95 : decode cX5_look 95 = .ok (.aload_n 0, 1) := by decide +kernel
theorem dX5_look_96 : decode cX5_look 96 = .ok (.iload 5, 2) := by decide +kernel
theorem dX5_look_98 : decode cX5_look 98 = .ok (.iload 6, 2) := by decide +kernel
theorem dX5_look_100 : decode cX5_look 100 = .ok (.invokevirtual 143, 3) := by decide +kernel
theorem dX5_look_103 : decode cX5_look 103 = .ok (.istore 9, 2) := by decide +kernel
theorem dX5_look_105 : decode cX5_look 105 = .ok (.aload_n 0, 1) := by decide +kernel
theorem dX5_look_106 : decode cX5_look 106 = .ok (.iload 5, 2) := by decide +kernel
theorem dX5_look_108 : decode cX5_look 108 = .ok (.iload 9, 2) := by decide +kernel
theorem dX5_look_110 : decode cX5_look 110 = .ok (.iload 7, 2) := by decide +kernel
theorem dX5_look_112 : decode cX5_look 112 = .ok (.invokevirtual 146, 3) := by decide +kernel
theorem dX5_look_115 : decode cX5_look 115 = .ok (.aload_n 0, 1) := by decide +kernel
theorem dX5_look_116 : decode cX5_look 116 = .ok (.aload_n 1, 1) := by decide +kernel
theorem dX5_look_117 : decode cX5_look 117 = .ok (.iload_n 2, 1) := by decide +kernel
theorem dX5_look_118 : decode cX5_look 118 = .ok (.iconst 1, 1) := by decide +kernel
theorem dX5_look_119 : decode cX5_look 119 = .ok (.iadd, 1) := by decide +kernel
theorem dX5_look_120 : decode cX5_look 120 = .ok (.invokestatic 261, 3) := by decide +kernel
theorem dX5_look_123 : decode cX5_look 123 = .ok (.aload_n 0, 1) := by decide +kernel
theorem dX5_look_124 : decode cX5_look 124 = .ok (.iload 5, 2) := by decide +kernel
theorem dX5_look_126 : decode cX5_look 126 = .ok (.iload 8, 2) := by decide +kernel
theorem dX5_look_128 : decode cX5_look 128 = .ok (.iload 9, 2) := by decide +kernel
theorem dX5_look_130 : decode cX5_look 130 = .ok (.iload 6, 2) := by decide +kernel
theorem dX5_look_132 : decode cX5_look 132 = .ok (.invokevirtual 274, 3) := by decide +kernel
theorem dX5_look_135 : decode cX5_look 135 = .ok (.aload_n 3, 1) := by decide +kernel
theorem dX5_look_136 : decode cX5_look 136 = .ok (.bipush 100, 2) := by decide +kernel
theorem dX5_look_138 : decode cX5_look 138 = .ok (.iload 5, 2) := by decide +kernel
theorem dX5_look_140 : decode cX5_look 140 = .ok (.imul, 1) := by decide +kernel
theorem dX5_look_141 : decode cX5_look 141 = .ok (.iload 7, 2) := by decide +kernel
theorem dX5_look_143 : decode cX5_look 143 = .ok (.iadd, 1) := by decide +kernel
theorem dX5_look_144 : decode cX5_look 144 = .ok (.aload 4, 2) := by decide +kernel
theorem dX5_look_146 : decode cX5_look 146 = .ok (.invokevirtual 278, 3) := by decide +kernel
theorem dX5_look_149 : decode cX5_look 149 = .ok (.iinc 6 1, 3) := by decide +kernel
theorem dX5_look_152 : decode cX5_look 152 = .ok (.goto (-88), 3) := by decide +kernel
theorem dX5_look_155 : decode cX5_look 155 = .ok (.iinc 5 1, 3) := by decide +kernel
theorem dX5_look_158 : decode cX5_look 158 = .ok (.goto (-111), 3) := by decide +kernel
theorem dX5_look_161 : decode cX5_look 161 = .ok (.aload_n 3, 1) := by decide +kernel
theorem dX5_look_162 : decode cX5_look 162 = .ok (.aload_n 0, 1) := by decide +kernel
theorem dX5_look_163 : decode cX5_look 163 = .ok (.getfield 150, 3) := by decide +kernel
theorem dX5_look_166 : decode cX5_look 166 = .ok (.aload_n 0, 1) := by decide +kernel
theorem dX5_look_167 : decode cX5_look 167 = .ok (.invokevirtual 282, 3) := by decide +kernel
theorem dX5_look_170 : decode cX5_look 170 = .ok (.invokevirtual 285, 3) := by decide +kernel
theorem dX5_look_173 : decode cX5_look 173 = .ok (.return_, 1) := by decide +kernel
theorem dX5_nextSeed_0 : decode cX5_nextSeed 0 = .ok (.ldc2_w 288, 3) := by decide +kernel
theorem dX5_nextSeed_3 : decode cX5_nextSeed 3 = .ok (.lload_n 0, 1) := by decide +kernel
theorem dX5_nextSeed_4 : decode cX5_nextSeed 4 = .ok (.lmul, 1) := by decide +kernel
theorem dX5_nextSeed_5 : decode cX5_nextSeed 5 = .ok (.ldc2_w 290, 3) := by decide +kernel
theorem dX5_nextSeed_8 : decode cX5_nextSeed 8 = .ok (.ladd, 1) := by decide +kernel
theorem dX5_nextSeed_9 : decode cX5_nextSeed 9 = .ok (.ldc2_w 292, 3) := by decide +kernel
theorem dX5_nextSeed_12 : decode cX5_nextSeed 12 = .ok (.lrem, 1) := by decide +kernel
theorem dX5_nextSeed_13 : decode cX5_nextSeed 13 = .ok (.lreturn, 1) := by decide +kernel
theorem dX5_hasBit_0 : decode cX5_hasBit 0 = .ok (.iload_n 1, 1) := by decide +kernel
theorem dX5_hasBit_1 : decode cX5_hasBit 1 = .ok (.ifCond .lt 16, 3) := by decide +kernel
theorem dX5_hasBit_4 : decode cX5_hasBit 4 = .ok (.iload_n 0, 1) := by decide +kernel
theorem dX5_hasBit_5 : decode cX5_hasBit 5 = .ok (.iload_n 1, 1) := by decide +kernel
theorem dX5_hasBit_6 : decode cX5_hasBit 6 = .ok (.ishr, 1) := by decide +kernel
theorem dX5_hasBit_7 : decode cX5_hasBit 7 = .ok (.iconst 1, 1) := by decide +kernel
theorem dX5_hasBit_8 : decode cX5_hasBit 8 = .ok (.iand, 1) := by decide +kernel
theorem dX5_hasBit_9 : decode cX5_hasBit 9 = .ok (.iconst 1, 1) := by decide +kernel
theorem dX5_hasBit_10 : decode cX5_hasBit 10 = .ok (.if_icmp .ne 7, 3) := by decide +kernel
theorem dX5_hasBit_13 : decode cX5_hasBit 13 = .ok (.iconst 1, 1) := by decide +kernel
theorem dX5_hasBit_14 : decode cX5_hasBit 14 = .ok (.goto 4, 3) := by decide +kernel
theorem dX5_hasBit_17 : decode cX5_hasBit 17 = .ok (.iconst 0, 1) := by decide +kernel
theorem dX5_hasBit_18 : decode cX5_hasBit 18 = .ok (.ireturn, 1) := by decide +kernel
set_option maxRecDepth 20000 in
theorem ggX5_kindCould_X5_hasBit : GoodIn wsX5_kindCould wsX5_hasBit := goodIn_r _ [5] (by decide +kernel) (by decide +kernel)
set_option maxRecDepth 20000 in
theorem gX5_kindCould_X5_hasBit : GoodIn wsX5_kindCould (va_wsS RX5 123 yX5_hasBit wsX5_hasBit) := goodIn_app (goodIn_of _ (by decide +kernel)) ggX5_kindCould_X5_hasBit
theorem dX5_kindCould_0 : decode cX5_kindCould 0 = .ok (.iload_n 1, 1) := by decide +kernel
theorem dX5_kindCould_1 : decode cX5_kindCould 1 = .ok (.ifCond .lt 24, 3) := by decide +kernel
theorem dX5_kindCould_4 : decode cX5_kindCould 4 = .ok (.iload_n 1, 1) := by decide +kernel
theorem dX5_kindCould_5 : decode cX5_kindCould 5 = .ok (.iconst 4, 1) := by decide +kernel
theorem dX5_kindCould_6 : decode cX5_kindCould 6 = .ok (.if_icmp .ge 19, 3) := by decide +kernel
theorem dX5_kindCould_9 : decode cX5_kindCould 9 = .ok (.getstatic 203, 3) := by decide +kernel
theorem dX5_kindCould_12 : decode cX5_kindCould 12 = .ok (.iload_n 1, 1) := by decide +kernel
theorem dX5_kindCould_13 : decode cX5_kindCould 13 = .ok (.iaload, 1) := by decide +kernel
theorem dX5_kindCould_14 : decode cX5_kindCould 14 = .ok (.iload_n 0, 1) := by decide +kernel
theorem dX5_kindCould_15 : decode cX5_kindCould 15 = .ok (.invokestatic 123, 3) := by decide +kernel
theorem dX5_kindCould_18 : decode cX5_kindCould 18 = .ok (.ifCond .eq 7, 3) := by decide +kernel
theorem dX5_kindCould_21 : decode cX5_kindCould 21 = .ok (.iconst 1, 1) := by decide +kernel
theorem dX5_kindCould_22 : decode cX5_kindCould 22 = .ok (.goto 4, 3) := by decide +kernel
theorem dX5_kindCould_25 : decode cX5_kindCould 25 = .ok (.iconst 0, 1) := by decide +kernel
theorem dX5_kindCould_26 : decode cX5_kindCould 26 = .ok (.ireturn, 1) := by decide +kernel
set_option maxRecDepth 20000 in
theorem ggX5_kindGoes_X5_hasBit : GoodIn wsX5_kindGoes wsX5_hasBit := goodIn_r _ [5] (by decide +kernel) (by decide +kernel)
set_option maxRecDepth 20000 in
theorem gX5_kindGoes_X5_hasBit : GoodIn wsX5_kindGoes (va_wsS RX5 123 yX5_hasBit wsX5_hasBit) := goodIn_app (goodIn_of _ (by decide +kernel)) ggX5_kindGoes_X5_hasBit
theorem dX5_kindGoes_0 : decode cX5_kindGoes 0 = .ok (.iload_n 1, 1) := by decide +kernel
theorem dX5_kindGoes_1 : decode cX5_kindGoes 1 = .ok (.ifCond .lt 25, 3) := by decide +kernel
theorem dX5_kindGoes_4 : decode cX5_kindGoes 4 = .ok (.iload_n 1, 1) := by decide +kernel
theorem dX5_kindGoes_5 : decode cX5_kindGoes 5 = .ok (.bipush 8, 2) := by decide +kernel
theorem dX5_kindGoes_7 : decode cX5_kindGoes 7 = .ok (.if_icmp .ge 19, 3) := by decide +kernel
theorem dX5_kindGoes_10 : decode cX5_kindGoes 10 = .ok (.getstatic 294, 3) := by decide +kernel
theorem dX5_kindGoes_13 : decode cX5_kindGoes 13 = .ok (.iload_n 1, 1) := by decide +kernel
theorem dX5_kindGoes_14 : decode cX5_kindGoes 14 = .ok (.iaload, 1) := by decide +kernel
theorem dX5_kindGoes_15 : decode cX5_kindGoes 15 = .ok (.iload_n 0, 1) := by decide +kernel
theorem dX5_kindGoes_16 : decode cX5_kindGoes 16 = .ok (.invokestatic 123, 3) := by decide +kernel
theorem dX5_kindGoes_19 : decode cX5_kindGoes 19 = .ok (.ifCond .eq 7, 3) := by decide +kernel
theorem dX5_kindGoes_22 : decode cX5_kindGoes 22 = .ok (.iconst 1, 1) := by decide +kernel
theorem dX5_kindGoes_23 : decode cX5_kindGoes 23 = .ok (.goto 4, 3) := by decide +kernel
theorem dX5_kindGoes_26 : decode cX5_kindGoes 26 = .ok (.iconst 0, 1) := by decide +kernel
theorem dX5_kindGoes_27 : decode cX5_kindGoes 27 = .ok (.ireturn, 1) := by decide +kernel
set_option maxRecDepth 20000 in
theorem ggX5_bestQuestion_J6_bitCount_0f7a4 : GoodIn wsX5_bestQuestion wsJ6_bitCount_0f7a4 := goodIn_r _ [9, 10, 11, 12] (by decide +kernel) (by decide +kernel)
set_option maxRecDepth 20000 in
theorem gX5_bestQuestion_J6_bitCount_0f7a4 : GoodIn wsX5_bestQuestion (va_wsS RX5 162 yJ6_bitCount_0f7a4 wsJ6_bitCount_0f7a4) := goodIn_app (goodIn_of _ (by decide +kernel)) ggX5_bestQuestion_J6_bitCount_0f7a4
theorem dX5_bestQuestion_0 : decode cX5_bestQuestion 0 = .ok (.iload_n 0, 1) := by decide +kernel
theorem dX5_bestQuestion_1 : decode cX5_bestQuestion 1 = .ok (.ifCond .ne 5, 3) := by decide +kernel
theorem dX5_bestQuestion_4 : decode cX5_bestQuestion 4 = .ok (.iconst (-1), 1) := by decide +kernel
theorem dX5_bestQuestion_5 : decode cX5_bestQuestion 5 = .ok (.ireturn, 1) := by decide +kernel
theorem dX5_bestQuestion_6 : decode cX5_bestQuestion 6 = .ok (.iconst (-1), 1) := by decide +kernel
theorem dX5_bestQuestion_7 : decode cX5_bestQuestion 7 = .ok (.istore_n 1, 1) := by decide +kernel
theorem dX5_bestQuestion_8 : decode cX5_bestQuestion 8 = .ok (.bipush 6, 2) := by decide +kernel
theorem dX5_bestQuestion_10 : decode cX5_bestQuestion 10 = .ok (.istore_n 2, 1) := by decide +kernel
theorem dX5_bestQuestion_11 : decode cX5_bestQuestion 11 = .ok (.iconst 0, 1) := by decide +kernel
theorem dX5_bestQuestion_12 : decode cX5_bestQuestion 12 = .ok (.istore_n 3, 1) := by decide +kernel
theorem dX5_bestQuestion_13 : decode cX5_bestQuestion 13 = .ok (.iload_n 3, 1) := by decide +kernel
theorem dX5_bestQuestion_14 : decode cX5_bestQuestion 14 = .ok (.iconst 4, 1) := by decide +kernel
theorem dX5_bestQuestion_15 : decode cX5_bestQuestion 15 = .ok (.if_icmp .ge 47, 3) := by decide +kernel
theorem dX5_bestQuestion_18 : decode cX5_bestQuestion 18 = .ok (.iload_n 0, 1) := by decide +kernel
theorem dX5_bestQuestion_19 : decode cX5_bestQuestion 19 = .ok (.getstatic 203, 3) := by decide +kernel
theorem dX5_bestQuestion_22 : decode cX5_bestQuestion 22 = .ok (.iload_n 3, 1) := by decide +kernel
theorem dX5_bestQuestion_23 : decode cX5_bestQuestion 23 = .ok (.iaload, 1) := by decide +kernel
theorem dX5_bestQuestion_24 : decode cX5_bestQuestion 24 = .ok (.iand, 1) := by decide +kernel
theorem dX5_bestQuestion_25 : decode cX5_bestQuestion 25 = .ok (.invokestatic 162, 3) := by decide +kernel
theorem dX5_bestQuestion_28 : decode cX5_bestQuestion 28 = .ok (.iload_n 0, 1) := by decide +kernel
theorem dX5_bestQuestion_29 : decode cX5_bestQuestion 29 = .ok (.getstatic 203, 3) := by decide +kernel
theorem dX5_bestQuestion_32 : decode cX5_bestQuestion 32 = .ok (.iload_n 3, 1) := by decide +kernel
theorem dX5_bestQuestion_33 : decode cX5_bestQuestion 33 = .ok (.iaload, 1) := by decide +kernel
theorem dX5_bestQuestion_34 : decode cX5_bestQuestion 34 = .ok (.iconst (-1), 1) := by decide +kernel
theorem dX5_bestQuestion_35 : decode cX5_bestQuestion 35 = .ok (.ixor, 1) := by decide +kernel
theorem dX5_bestQuestion_36 : decode cX5_bestQuestion 36 = .ok (.iand, 1) := by decide +kernel
theorem dX5_bestQuestion_37 : decode cX5_bestQuestion 37 = .ok (.invokestatic 162, 3) := by decide +kernel
theorem dX5_bestQuestion_40 : decode cX5_bestQuestion 40 = .ok (.invokestatic 297, 3) := by decide +kernel
theorem dX5_bestQuestion_43 : decode cX5_bestQuestion 43 = .ok (.istore 4, 2) := by decide +kernel
theorem dX5_bestQuestion_45 : decode cX5_bestQuestion 45 = .ok (.iload 4, 2) := by decide +kernel
theorem dX5_bestQuestion_47 : decode cX5_bestQuestion 47 = .ok (.iload_n 2, 1) := by decide +kernel
theorem dX5_bestQuestion_48 : decode cX5_bestQuestion 48 = .ok (.if_icmp .ge 8, 3) := by decide +kernel
theorem dX5_bestQuestion_51 : decode cX5_bestQuestion 51 = .ok (.iload 4, 2) := by decide +kernel
theorem dX5_bestQuestion_53 : decode cX5_bestQuestion 53 = .ok (.istore_n 2, 1) := by decide +kernel
theorem dX5_bestQuestion_54 : decode cX5_bestQuestion 54 = .ok (.iload_n 3, 1) := by decide +kernel
theorem dX5_bestQuestion_55 : decode cX5_bestQuestion 55 = .ok (.istore_n 1, 1) := by decide +kernel
theorem dX5_bestQuestion_56 : decode cX5_bestQuestion 56 = .ok (.iinc 3 1, 3) := by decide +kernel
theorem dX5_bestQuestion_59 : decode cX5_bestQuestion 59 = .ok (.goto (-46), 3) := by decide +kernel
theorem dX5_bestQuestion_62 : decode cX5_bestQuestion 62 = .ok (.iload_n 1, 1) := by decide +kernel
theorem dX5_bestQuestion_63 : decode cX5_bestQuestion 63 = .ok (.ireturn, 1) := by decide +kernel
theorem dX6_init_0 : decode cX6_init 0 = .ok (.aload_n 0, 1) := by decide +kernel
theorem dX6_init_1 : decode cX6_init 1 = .ok (.invokespecial 1, 3) := by decide +kernel
theorem dX6_init_4 : decode cX6_init 4 = .ok (.aload_n 0, 1) := by decide +kernel
theorem dX6_init_5 : decode cX6_init 5 = .ok (.bipush 8, 2) := by decide +kernel
theorem dX6_init_7 : decode cX6_init 7 = .ok (.newarray .int, 2) := by decide +kernel
theorem dX6_init_9 : decode cX6_init 9 = .ok (.putfield 7, 3) := by decide +kernel
theorem dX6_init_12 : decode cX6_init 12 = .ok (.aload_n 0, 1) := by decide +kernel
theorem dX6_init_13 : decode cX6_init 13 = .ok (.bipush 8, 2) := by decide +kernel
theorem dX6_init_15 : decode cX6_init 15 = .ok (.newarray .int, 2) := by decide +kernel
theorem dX6_init_17 : decode cX6_init 17 = .ok (.putfield 13, 3) := by decide +kernel
theorem dX6_init_20 : decode cX6_init 20 = .ok (.aload_n 0, 1) := by decide +kernel
theorem dX6_init_21 : decode cX6_init 21 = .ok (.bipush 6, 2) := by decide +kernel
theorem dX6_init_23 : decode cX6_init 23 = .ok (.newarray .int, 2) := by decide +kernel
theorem dX6_init_25 : decode cX6_init 25 = .ok (.putfield 16, 3) := by decide +kernel
theorem dX6_init_28 : decode cX6_init 28 = .ok (.aload_n 0, 1) := by decide +kernel
theorem dX6_init_29 : decode cX6_init 29 = .ok (.bipush 6, 2) := by decide +kernel
theorem dX6_init_31 : decode cX6_init 31 = .ok (.newarray .int, 2) := by decide +kernel
theorem dX6_init_33 : decode cX6_init 33 = .ok (.putfield 19, 3) := by decide +kernel
theorem dX6_init_36 : decode cX6_init 36 = .ok (.aload_n 0, 1) := by decide +kernel
theorem dX6_init_37 : decode cX6_init 37 = .ok (.bipush 6, 2) := by decide +kernel
theorem dX6_init_39 : decode cX6_init 39 = .ok (.newarray .int, 2) := by decide +kernel
theorem dX6_init_41 : decode cX6_init 41 = .ok (.putfield 22, 3) := by decide +kernel
theorem dX6_init_44 : decode cX6_init 44 = .ok (.aload_n 0, 1) := by decide +kernel
theorem dX6_init_45 : decode cX6_init 45 = .ok (.bipush 18, 2) := by decide +kernel
theorem dX6_init_47 : decode cX6_init 47 = .ok (.newarray .byte, 2) := by decide +kernel
theorem dX6_init_49 : decode cX6_init 49 = .ok (.putfield 25, 3) := by decide +kernel
theorem dX6_init_52 : decode cX6_init 52 = .ok (.aload_n 0, 1) := by decide +kernel
theorem dX6_init_53 : decode cX6_init 53 = .ok (.bipush 72, 2) := by decide +kernel
theorem dX6_init_55 : decode cX6_init 55 = .ok (.newarray .int, 2) := by decide +kernel
theorem dX6_init_57 : decode cX6_init 57 = .ok (.putfield 29, 3) := by decide +kernel
theorem dX6_init_60 : decode cX6_init 60 = .ok (.aload_n 0, 1) := by decide +kernel
theorem dX6_init_61 : decode cX6_init 61 = .ok (.bipush 9, 2) := by decide +kernel
theorem dX6_init_63 : decode cX6_init 63 = .ok (.newarray .int, 2) := by decide +kernel
theorem dX6_init_65 : decode cX6_init 65 = .ok (.putfield 32, 3) := by decide +kernel
theorem dX6_init_68 : decode cX6_init 68 = .ok (.aload_n 0, 1) := by decide +kernel
theorem dX6_init_69 : decode cX6_init 69 = .ok (.bipush 9, 2) := by decide +kernel
theorem dX6_init_71 : decode cX6_init 71 = .ok (.newarray .int, 2) := by decide +kernel
theorem dX6_init_73 : decode cX6_init 73 = .ok (.putfield 35, 3) := by decide +kernel
theorem dX6_init_76 : decode cX6_init 76 = .ok (.aload_n 0, 1) := by decide +kernel
theorem dX6_init_77 : decode cX6_init 77 = .ok (.bipush 9, 2) := by decide +kernel
theorem dX6_init_79 : decode cX6_init 79 = .ok (.newarray .int, 2) := by decide +kernel
theorem dX6_init_81 : decode cX6_init 81 = .ok (.putfield 38, 3) := by decide +kernel
theorem dX6_init_84 : decode cX6_init 84 = .ok (.aload_n 0, 1) := by decide +kernel
theorem dX6_init_85 : decode cX6_init 85 = .ok (.bipush 9, 2) := by decide +kernel
theorem dX6_init_87 : decode cX6_init 87 = .ok (.newarray .int, 2) := by decide +kernel
theorem dX6_init_89 : decode cX6_init 89 = .ok (.putfield 41, 3) := by decide +kernel
theorem dX6_init_92 : decode cX6_init 92 = .ok (.aload_n 0, 1) := by decide +kernel
theorem dX6_init_93 : decode cX6_init 93 = .ok (.bipush 9, 2) := by decide +kernel
theorem dX6_init_95 : decode cX6_init 95 = .ok (.newarray .int, 2) := by decide +kernel
theorem dX6_init_97 : decode cX6_init 97 = .ok (.putfield 44, 3) := by decide +kernel
theorem dX6_init_100 : decode cX6_init 100 = .ok (.aload_n 0, 1) := by decide +kernel
theorem dX6_init_101 : decode cX6_init 101 = .ok (.bipush 9, 2) := by decide +kernel
theorem dX6_init_103 : decode cX6_init 103 = .ok (.newarray .int, 2) := by decide +kernel
theorem dX6_init_105 : decode cX6_init 105 = .ok (.putfield 47, 3) := by decide +kernel
theorem dX6_init_108 : decode cX6_init 108 = .ok (.aload_n 0, 1) := by decide +kernel
theorem dX6_init_109 : decode cX6_init 109 = .ok (.bipush 9, 2) := by decide +kernel
theorem dX6_init_111 : decode cX6_init 111 = .ok (.newarray .int, 2) := by decide +kernel
theorem dX6_init_113 : decode cX6_init 113 = .ok (.putfield 50, 3) := by decide +kernel
theorem dX6_init_116 : decode cX6_init 116 = .ok (.aload_n 0, 1) := by decide +kernel
theorem dX6_init_117 : decode cX6_init 117 = .ok (.bipush 9, 2) := by decide +kernel
theorem dX6_init_119 : decode cX6_init 119 = .ok (.newarray .int, 2) := by decide +kernel
theorem dX6_init_121 : decode cX6_init 121 = .ok (.putfield 53, 3) := by decide +kernel
theorem dX6_init_124 : decode cX6_init 124 = .ok (.aload_n 0, 1) := by decide +kernel
theorem dX6_init_125 : decode cX6_init 125 = .ok (.bipush 9, 2) := by decide +kernel
theorem dX6_init_127 : decode cX6_init 127 = .ok (.newarray .int, 2) := by decide +kernel
theorem dX6_init_129 : decode cX6_init 129 = .ok (.putfield 56, 3) := by decide +kernel
theorem dX6_init_132 : decode cX6_init 132 = .ok (.aload_n 0, 1) := by decide +kernel
theorem dX6_init_133 : decode cX6_init 133 = .ok (.bipush 9, 2) := by decide +kernel
theorem dX6_init_135 : decode cX6_init 135 = .ok (.newarray .int, 2) := by decide +kernel
theorem dX6_init_137 : decode cX6_init 137 = .ok (.putfield 59, 3) := by decide +kernel
theorem dX6_init_140 : decode cX6_init 140 = .ok (.aload_n 0, 1) := by decide +kernel
theorem dX6_init_141 : decode cX6_init 141 = .ok (.bipush 8, 2) := by decide +kernel
theorem dX6_init_143 : decode cX6_init 143 = .ok (.newarray .int, 2) := by decide +kernel
theorem dX6_init_145 : decode cX6_init 145 = .ok (.putfield 62, 3) := by decide +kernel
theorem dX6_init_148 : decode cX6_init 148 = .ok (.aload_n 0, 1) := by decide +kernel
theorem dX6_init_149 : decode cX6_init 149 = .ok (.bipush 8, 2) := by decide +kernel
theorem dX6_init_151 : decode cX6_init 151 = .ok (.newarray .int, 2) := by decide +kernel
theorem dX6_init_153 : decode cX6_init 153 = .ok (.putfield 65, 3) := by decide +kernel
theorem dX6_init_156 : decode cX6_init 156 = .ok (.aload_n 0, 1) := by decide +kernel
theorem dX6_init_157 : decode cX6_init 157 = .ok (.bipush 6, 2) := by decide +kernel
theorem dX6_init_159 : decode cX6_init 159 = .ok (.newarray .int, 2) := by decide +kernel
theorem dX6_init_161 : decode cX6_init 161 = .ok (.putfield 68, 3) := by decide +kernel
theorem dX6_init_164 : decode cX6_init 164 = .ok (.aload_n 0, 1) := by decide +kernel
theorem dX6_init_165 : decode cX6_init 165 = .ok (.bipush 6, 2) := by decide +kernel
theorem dX6_init_167 : decode cX6_init 167 = .ok (.newarray .int, 2) := by decide +kernel
theorem dX6_init_169 : decode cX6_init 169 = .ok (.putfield 71, 3) := by decide +kernel
theorem dX6_init_172 : decode cX6_init 172 = .ok (.aload_n 0, 1) := by decide +kernel
theorem dX6_init_173 : decode cX6_init 173 = .ok (.bipush 6, 2) := by decide +kernel
theorem dX6_init_175 : decode cX6_init 175 = .ok (.newarray .int, 2) := by decide +kernel
theorem dX6_init_177 : decode cX6_init 177 = .ok (.putfield 74, 3) := by decide +kernel
theorem dX6_init_180 : decode cX6_init 180 = .ok (.return_, 1) := by decide +kernel
theorem dX6_within_0 : decode cX6_within 0 = .ok (.iload_n 0, 1) := by decide +kernel
theorem dX6_within_1 : decode cX6_within 1 = .ok (.iload_n 1, 1) := by decide +kernel
theorem dX6_within_2 : decode cX6_within 2 = .ok (.if_icmp .lt 12, 3) := by decide +kernel
theorem dX6_within_5 : decode cX6_within 5 = .ok (.iload_n 0, 1) := by decide +kernel
theorem dX6_within_6 : decode cX6_within 6 = .ok (.iload_n 2, 1) := by decide +kernel
theorem dX6_within_7 : decode cX6_within 7 = .ok (.if_icmp .gt 7, 3) := by decide +kernel
theorem dX6_within_10 : decode cX6_within 10 = .ok (.iconst 1, 1) := by decide +kernel
theorem dX6_within_11 : decode cX6_within 11 = .ok (.goto 4, 3) := by decide +kernel
theorem dX6_within_14 : decode cX6_within 14 = .ok (.iconst 0, 1) := by decide +kernel
theorem dX6_within_15 : decode cX6_within 15 = .ok (.ireturn, 1) := by decide +kernel
theorem dX6_isIn_0 : decode cX6_isIn 0 = .ok (.iload_n 0, 1) := by decide +kernel
theorem dX6_isIn_1 : decode cX6_isIn 1 = .ok (.iload_n 1, 1) := by decide +kernel
theorem dX6_isIn_2 : decode cX6_isIn 2 = .ok (.ishr, 1) := by decide +kernel
theorem dX6_isIn_3 : decode cX6_isIn 3 = .ok (.iconst 1, 1) := by decide +kernel
theorem dX6_isIn_4 : decode cX6_isIn 4 = .ok (.iand, 1) := by decide +kernel
theorem dX6_isIn_5 : decode cX6_isIn 5 = .ok (.iconst 1, 1) := by decide +kernel
theorem dX6_isIn_6 : decode cX6_isIn 6 = .ok (.if_icmp .ne 7, 3) := by decide +kernel
theorem dX6_isIn_9 : decode cX6_isIn 9 = .ok (.iconst 1, 1) := by decide +kernel
theorem dX6_isIn_10 : decode cX6_isIn 10 = .ok (.goto 4, 3) := by decide +kernel
theorem dX6_isIn_13 : decode cX6_isIn 13 = .ok (.iconst 0, 1) := by decide +kernel
theorem dX6_isIn_14 : decode cX6_isIn 14 = .ok (.ireturn, 1) := by decide +kernel
theorem dX6_size_0 : decode cX6_size 0 = .ok (.iconst 0, 1) := by decide +kernel
theorem dX6_size_1 : decode cX6_size 1 = .ok (.istore_n 1, 1) := by decide +kernel
theorem dX6_size_2 : decode cX6_size 2 = .ok (.iconst 0, 1) := by decide +kernel
theorem dX6_size_3 : decode cX6_size 3 = .ok (.istore_n 2, 1) := by decide +kernel
theorem dX6_size_4 : decode cX6_size 4 = .ok (.iload_n 2, 1) := by decide +kernel
theorem dX6_size_5 : decode cX6_size 5 = .ok (.bipush 12, 2) := by decide +kernel
theorem dX6_size_7 : decode cX6_size 7 = .ok (.if_icmp .ge 17, 3) := by decide +kernel
theorem dX6_size_10 : decode cX6_size 10 = .ok (.iload_n 1, 1) := by decide +kernel
theorem dX6_size_11 : decode cX6_size 11 = .ok (.iload_n 0, 1) := by decide +kernel
theorem dX6_size_12 : decode cX6_size 12 = .ok (.iload_n 2, 1) := by decide +kernel
theorem dX6_size_13 : decode cX6_size 13 = .ok (.ishr, 1) := by decide +kernel
theorem dX6_size_14 : decode cX6_size 14 = .ok (.iconst 1, 1) := by decide +kernel
theorem dX6_size_15 : decode cX6_size 15 = .ok (.iand, 1) := by decide +kernel
theorem dX6_size_16 : decode cX6_size 16 = .ok (.iadd, 1) := by decide +kernel
theorem dX6_size_17 : decode cX6_size 17 = .ok (.istore_n 1, 1) := by decide +kernel
theorem dX6_size_18 : decode cX6_size 18 = .ok (.iinc 2 1, 3) := by decide +kernel
theorem dX6_size_21 : decode cX6_size 21 = .ok (.goto (-17), 3) := by decide +kernel
theorem dX6_size_24 : decode cX6_size 24 = .ok (.iload_n 1, 1) := by decide +kernel
theorem dX6_size_25 : decode cX6_size 25 = .ok (.ireturn, 1) := by decide +kernel
set_option maxRecDepth 20000 in
theorem ggX6_letter_X6_within : GoodIn wsX6_letter wsX6_within := goodIn_r _ [6] (by decide +kernel) (by decide +kernel)
set_option maxRecDepth 20000 in
theorem gX6_letter_X6_within : GoodIn wsX6_letter (va_wsS RX6 77 yX6_within wsX6_within) := goodIn_app (goodIn_of _ (by decide +kernel)) ggX6_letter_X6_within
theorem dX6_letter_0 : decode cX6_letter 0 = .ok (.iload_n 1, 1) := by decide +kernel
theorem dX6_letter_1 : decode cX6_letter 1 = .ok (.bipush 32, 2) := by decide +kernel
theorem dX6_letter_3 : decode cX6_letter 3 = .ok (.bipush 126, 2) := by decide +kernel
theorem dX6_letter_5 : decode cX6_letter 5 = .ok (.invokestatic 77, 3) := by decide +kernel
theorem dX6_letter_8 : decode cX6_letter 8 = .ok (.ifCond .ne 6, 3) := by decide +kernel
theorem dX6_letter_11 : decode cX6_letter 11 = .ok (.bipush (-102), 2) := by decide +kernel
theorem dX6_letter_13 : decode cX6_letter 13 = .ok (.ireturn, 1) := by decide +kernel
theorem dX6_letter_14 : decode cX6_letter 14 = .ok (.aload_n 0, 1) := by decide +kernel
theorem dX6_letter_15 : decode cX6_letter 15 = .ok (.getfield 81, 3) := by decide +kernel
theorem dX6_letter_18 : decode cX6_letter 18 = .ok (.bipush 18, 2) := by decide +kernel
theorem dX6_letter_20 : decode cX6_letter 20 = .ok (.if_icmp .ne 6, 3) := by decide +kernel
theorem dX6_letter_23 : decode cX6_letter 23 = .ok (.bipush (-104), 2) := by decide +kernel
theorem dX6_letter_25 : decode cX6_letter 25 = .ok (.ireturn, 1) := by decide +kernel
theorem dX6_letter_26 : decode cX6_letter 26 = .ok (.aload_n 0, 1) := by decide +kernel
theorem dX6_letter_27 : decode cX6_letter 27 = .ok (.getfield 25, 3) := by decide +kernel
theorem dX6_letter_30 : decode cX6_letter 30 = .ok (.aload_n 0, 1) := by decide +kernel
theorem dX6_letter_31 : decode cX6_letter 31 = .ok (.getfield 81, 3) := by decide +kernel
theorem dX6_letter_34 : decode cX6_letter 34 = .ok (.iload_n 1, 1) := by decide +kernel
theorem dX6_letter_35 : decode cX6_letter 35 = .ok (.i2b, 1) := by decide +kernel
theorem dX6_letter_36 : decode cX6_letter 36 = .ok (.bastore, 1) := by decide +kernel
theorem dX6_letter_37 : decode cX6_letter 37 = .ok (.aload_n 0, 1) := by decide +kernel
theorem dX6_letter_38 : decode cX6_letter 38 = .ok (.dup, 1) := by decide +kernel
theorem dX6_letter_39 : decode cX6_letter 39 = .ok (.getfield 81, 3) := by decide +kernel
theorem dX6_letter_42 : decode cX6_letter 42 = .ok (.iconst 1, 1) := by decide +kernel
theorem dX6_letter_43 : decode cX6_letter 43 = .ok (.iadd, 1) := by decide +kernel
theorem dX6_letter_44 : decode cX6_letter 44 = .ok (.putfield 81, 3) := by decide +kernel
theorem dX6_letter_47 : decode cX6_letter 47 = .ok (.aload_n 0, 1) := by decide +kernel
theorem dX6_letter_48 : decode cX6_letter 48 = .ok (.getfield 81, 3) := by decide +kernel
theorem dX6_letter_51 : decode cX6_letter 51 = .ok (.ireturn, 1) := by decide +kernel
theorem dX6_blank_0 : decode cX6_blank 0 = .ok (.aload_n 0, 1) := by decide +kernel
theorem dX6_blank_1 : decode cX6_blank 1 = .ok (.getfield 81, 3) := by decide +kernel
theorem dX6_blank_4 : decode cX6_blank 4 = .ok (.istore_n 1, 1) := by decide +kernel
theorem dX6_blank_5 : decode cX6_blank 5 = .ok (.aload_n 0, 1) := by decide +kernel
theorem dX6_blank_6 : decode cX6_blank 6 = .ok (.iconst 0, 1) := by decide +kernel
theorem dX6_blank_7 : decode cX6_blank 7 = .ok (.putfield 81, 3) := by decide +kernel
theorem dX6_blank_10 : decode cX6_blank 10 = .ok (.iload_n 1, 1) := by decide +kernel
theorem dX6_blank_11 : decode cX6_blank 11 = .ok (.ireturn, 1) := by decide +kernel
theorem dX6_kindBy_0 : decode cX6_kindBy 0 = .ok (.iload_n 0, 1) := by decide +kernel
theorem dX6_kindBy_1 : decode cX6_kindBy 1 = .ok (.lookupswitch 61 #[(98, 59), (102, 57), (112, 51), (115, 55), (120, 53)], 51) := by decide +kernel
theorem dX6_kindBy_52 : decode cX6_kindBy 52 = .ok (.iconst 0, 1) := by decide +kernel
theorem dX6_kindBy_53 : decode cX6_kindBy 53 = .ok (.ireturn, 1) := by decide +kernel
theorem dX6_kindBy_54 : decode cX6_kindBy 54 = .ok (.iconst 1, 1) := by decide +kernel
theorem dX6_kindBy_55 : decode cX6_kindBy 55 = .ok (.ireturn, 1) := by decide +kernel
theorem dX6_kindBy_56 : decode cX6_kindBy 56 = .ok (.iconst 2, 1) := by decide +kernel
theorem dX6_kindBy_57 : decode cX6_kindBy 57 = .ok (.ireturn, 1) := by decide +kernel
theorem dX6_kindBy_58 : decode cX6_kindBy 58 = .ok (.iconst 3, 1) := by decide +kernel
theorem dX6_kindBy_59 : decode cX6_kindBy 59 = .ok (.ireturn, 1) := by decide +kernel
theorem dX6_kindBy_60 : decode cX6_kindBy 60 = .ok (.iconst 4, 1) := by decide +kernel
theorem dX6_kindBy_61 : decode cX6_kindBy 61 = .ok (.ireturn, 1) := by decide +kernel
theorem dX6_kindBy_62 : decode cX6_kindBy 62 = .ok (.iconst (-1), 1) := by decide +kernel
theorem dX6_kindBy_63 : decode cX6_kindBy 63 = .ok (.ireturn, 1) := by decide +kernel
theorem dX6_at_0 : decode cX6_at 0 = .ok (.iload_n 1, 1) := by decide +kernel
theorem dX6_at_1 : decode cX6_at 1 = .ok (.aload_n 0, 1) := by decide +kernel
theorem dX6_at_2 : decode cX6_at 2 = .ok (.getfield 81, 3) := by decide +kernel
theorem dX6_at_5 : decode cX6_at 5 = .ok (.if_icmp .ge 12, 3) := by decide +kernel
theorem dX6_at_8 : decode cX6_at 8 = .ok (.aload_n 0, 1) := by decide +kernel
theorem dX6_at_9 : decode cX6_at 9 = .ok (.getfield 25, 3) := by decide +kernel
theorem dX6_at_12 : decode cX6_at 12 = .ok (.iload_n 1, 1) := by decide +kernel
theorem dX6_at_13 : decode cX6_at 13 = .ok (.baload, 1) := by decide +kernel
theorem dX6_at_14 : decode cX6_at 14 = .ok (.goto 4, 3) := by decide +kernel
theorem dX6_at_17 : decode cX6_at 17 = .ok (.iconst 0, 1) := by decide +kernel
theorem dX6_at_18 : decode cX6_at 18 = .ok (.ireturn, 1) := by decide +kernel
set_option maxRecDepth 20000 in
theorem ggX6_readPlaces_X6_at : GoodIn wsX6_readPlaces wsX6_at := goodIn_r _ [8, 2, 9, 13, 14, 15, 16, 17, 18, 19, 20, 21, 22, 23, 24, 25, 26, 27, 28, 29, 30, 31, 32, 33, 34, 35, 36, 37, 38, 39, 40, 41, 42, 43, 44, 45, 46, 47, 48, 49, 50, 51, 52] (by decide +kernel) (by decide +kernel)
set_option maxRecDepth 20000 in
theorem gX6_readPlaces_X6_at : GoodIn wsX6_readPlaces (wsV RX6 85 RX6 yX6_at wsX6_at) := goodIn_app (goodIn_of _ (by decide +kernel)) ggX6_readPlaces_X6_at
set_option maxRecDepth 20000 in
theorem ggX6_readPlaces_X6_kindBy : GoodIn wsX6_readPlaces wsX6_kindBy := goodIn_r _ [12] (by decide +kernel) (by decide +kernel)
set_option maxRecDepth 20000 in
theorem gX6_readPlaces_X6_kindBy : GoodIn wsX6_readPlaces (va_wsS RX6 89 yX6_kindBy wsX6_kindBy) := goodIn_app (goodIn_of _ (by decide +kernel)) ggX6_readPlaces_X6_kindBy
theorem dX6_readPlaces_0 : decode cX6_readPlaces 0 = .ok (.iconst 3, 1) := by decide +kernel
theorem dX6_readPlaces_1 : decode cX6_readPlaces 1 = .ok (.istore_n 2, 1) := by decide +kernel
theorem dX6_readPlaces_2 : decode cX6_readPlaces 2 = .ok (.iload_n 2, 1) := by decide +kernel
theorem dX6_readPlaces_3 : decode cX6_readPlaces 3 = .ok (.iconst 3, 1) := by decide +kernel
theorem dX6_readPlaces_4 : decode cX6_readPlaces 4 = .ok (.iload_n 1, 1) := by decide +kernel
theorem dX6_readPlaces_5 : decode cX6_readPlaces 5 = .ok (.iadd, 1) := by decide +kernel
theorem dX6_readPlaces_6 : decode cX6_readPlaces 6 = .ok (.if_icmp .ge 84, 3) := by decide +kernel
theorem dX6_readPlaces_9 : decode cX6_readPlaces 9 = .ok (.aload_n 0, 1) := by decide +kernel
theorem dX6_readPlaces_10 : decode cX6_readPlaces 10 = .ok (.iload_n 2, 1) := by decide +kernel
theorem dX6_readPlaces_11 : decode cX6_readPlaces 11 = .ok (.invokevirtual 85, 3) := by decide +kernel
theorem dX6_readPlaces_14 : decode cX6_readPlaces 14 = .ok (.invokestatic 89, 3) := by decide +kernel
theorem dX6_readPlaces_17 : decode cX6_readPlaces 17 = .ok (.iconst (-1), 1) := by decide +kernel
theorem dX6_readPlaces_18 : decode cX6_readPlaces 18 = .ok (.if_icmp .eq 7, 3) := by decide +kernel
theorem dX6_readPlaces_21 : decode cX6_readPlaces 21 = .ok (.iconst 1, 1) := by decide +kernel
theorem dX6_readPlaces_22 : decode cX6_readPlaces 22 = .ok (.goto 4, 3) := by decide +kernel
theorem dX6_readPlaces_25 : decode cX6_readPlaces 25 = .ok (.iconst 0, 1) := by decide +kernel
theorem dX6_readPlaces_26 : decode cX6_readPlaces 26 = .ok (.istore_n 3, 1) := by decide +kernel
theorem dX6_readPlaces_27 : decode cX6_readPlaces 27 = .ok (.iload_n 3, 1) := by decide +kernel
theorem dX6_readPlaces_28 : decode cX6_readPlaces 28 = .ok (.ifCond .ne 23, 3) := by decide +kernel
theorem dX6_readPlaces_31 : decode cX6_readPlaces 31 = .ok (.aload_n 0, 1) := by decide +kernel
theorem dX6_readPlaces_32 : decode cX6_readPlaces 32 = .ok (.iload_n 2, 1) := by decide +kernel
theorem dX6_readPlaces_33 : decode cX6_readPlaces 33 = .ok (.invokevirtual 85, 3) := by decide +kernel
theorem dX6_readPlaces_36 : decode cX6_readPlaces 36 = .ok (.bipush 46, 2) := by decide +kernel
theorem dX6_readPlaces_38 : decode cX6_readPlaces 38 = .ok (.if_icmp .eq 13, 3) := by decide +kernel
theorem dX6_readPlaces_41 : decode cX6_readPlaces 41 = .ok (.aload_n 0, 1) := by decide +kernel
theorem dX6_readPlaces_42 : decode cX6_readPlaces 42 = .ok (.iload_n 2, 1) := by decide +kernel
theorem dX6_readPlaces_43 : decode cX6_readPlaces 43 = .ok (.invokevirtual 85, 3) := by decide +kernel
theorem dX6_readPlaces_46 : decode cX6_readPlaces 46 = .ok (.bipush 35, 2) := by decide +kernel
theorem dX6_readPlaces_48 : decode cX6_readPlaces 48 = .ok (.if_icmp .ne 16, 3) := by decide +kernel
theorem dX6_readPlaces_51 : decode cX6_readPlaces 51 = .ok (.iload_n 3, 1) := by decide +kernel
theorem dX6_readPlaces_52 : decode cX6_readPlaces 52 = .ok (.ifCond .eq 14, 3) := by decide +kernel
theorem dX6_readPlaces_55 : decode cX6_readPlaces 55 = .ok (.aload_n 0, 1) := by decide +kernel
theorem dX6_readPlaces_56 : decode cX6_readPlaces 56 = .ok (.getfield 92, 3) := by decide +kernel
theorem dX6_readPlaces_59 : decode cX6_readPlaces 59 = .ok (.bipush 7, 2) := by decide +kernel
theorem dX6_readPlaces_61 : decode cX6_readPlaces 61 = .ok (.if_icmp .ne 5, 3) := by decide +kernel
theorem dX6_readPlaces_64 : decode cX6_readPlaces 64 = .ok (.iload_n 2, 1) := by decide +kernel
theorem dX6_readPlaces_65 : decode cX6_readPlaces 65 = .ok (.ireturn, 1) := by decide +kernel
theorem dX6_readPlaces_66 : decode cX6_readPlaces 66 = .ok (.aload_n 0, 1) := by decide +kernel
theorem dX6_readPlaces_67 : decode cX6_readPlaces 67 = .ok (.dup, 1) := by decide +kernel
theorem dX6_readPlaces_68 : decode cX6_readPlaces 68 = .ok (.getfield 92, 3) := by decide +kernel
theorem dX6_readPlaces_71 : decode cX6_readPlaces 71 = .ok (.iload_n 3, 1) := by decide +kernel
theorem dX6_readPlaces_72 : decode cX6_readPlaces 72 = .ok (.ifCond .eq 7, 3) := by decide +kernel
theorem dX6_readPlaces_75 : decode cX6_readPlaces 75 = .ok (.iconst 1, 1) := by decide +kernel
theorem dX6_readPlaces_76 : decode cX6_readPlaces 76 = .ok (.goto 4, 3) := by decide +kernel
theorem dX6_readPlaces_79 : decode cX6_readPlaces 79 = .ok (.iconst 0, 1) := by decide +kernel
theorem dX6_readPlaces_80 : decode cX6_readPlaces 80 = .ok (.iadd, 1) := by decide +kernel
theorem dX6_readPlaces_81 : decode cX6_readPlaces 81 = .ok (.putfield 92, 3) := by decide +kernel
theorem dX6_readPlaces_84 : decode cX6_readPlaces 84 = .ok (.iinc 2 1, 3) := by decide +kernel
theorem dX6_readPlaces_87 : decode cX6_readPlaces 87 = .ok (.goto (-85), 3) := by decide +kernel
theorem dX6_readPlaces_90 : decode cX6_readPlaces 90 = .ok (.aload_n 0, 1) := by decide +kernel
theorem dX6_readPlaces_91 : decode cX6_readPlaces 91 = .ok (.aload_n 0, 1) := by decide +kernel
theorem dX6_readPlaces_92 : decode cX6_readPlaces 92 = .ok (.getfield 92, 3) := by decide +kernel
theorem dX6_readPlaces_95 : decode cX6_readPlaces 95 = .ok (.ifCond .le 15, 3) := by decide +kernel
theorem dX6_readPlaces_98 : decode cX6_readPlaces 98 = .ok (.iload_n 2, 1) := by decide +kernel
theorem dX6_readPlaces_99 : decode cX6_readPlaces 99 = .ok (.aload_n 0, 1) := by decide +kernel
theorem dX6_readPlaces_100 : decode cX6_readPlaces 100 = .ok (.getfield 81, 3) := by decide +kernel
theorem dX6_readPlaces_103 : decode cX6_readPlaces 103 = .ok (.if_icmp .ne 7, 3) := by decide +kernel
theorem dX6_readPlaces_106 : decode cX6_readPlaces 106 = .ok (.iconst 1, 1) := by decide +kernel
theorem dX6_readPlaces_107 : decode cX6_readPlaces 107 = .ok (.goto 4, 3) := by decide +kernel
theorem dX6_readPlaces_110 : decode cX6_readPlaces 110 = .ok (.iconst 0, 1) := by decide +kernel
theorem dX6_readPlaces_111 : decode cX6_readPlaces 111 = .ok (.putfield 95, 3) := by decide +kernel
theorem dX6_readPlaces_114 : decode cX6_readPlaces 114 = .ok (.iload_n 2, 1) := by decide +kernel
theorem dX6_readPlaces_115 : decode cX6_readPlaces 115 = .ok (.ireturn, 1) := by decide +kernel
set_option maxRecDepth 20000 in
theorem ggX6_read_X6_at : GoodIn wsX6_read wsX6_at := goodIn_r _ [7, 8, 9, 20, 21, 22, 23, 24, 25, 26, 27, 28, 29, 30, 31, 32, 33, 34, 35, 36, 37, 38, 39, 40, 41, 42, 43, 44, 45, 46, 47, 48, 49, 50, 51, 52, 53, 54, 55, 56, 57, 58, 59] (by decide +kernel) (by decide +kernel)
set_option maxRecDepth 20000 in
theorem gX6_read_X6_at : GoodIn wsX6_read (wsV RX6 85 RX6 yX6_at wsX6_at) := goodIn_app (goodIn_of _ (by decide +kernel)) ggX6_read_X6_at
set_option maxRecDepth 20000 in
theorem ggX6_read_X6_within : GoodIn wsX6_read wsX6_within := goodIn_r _ [12] (by decide +kernel) (by decide +kernel)
set_option maxRecDepth 20000 in
theorem gX6_read_X6_within : GoodIn wsX6_read (va_wsS RX6 77 yX6_within wsX6_within) := goodIn_app (goodIn_of _ (by decide +kernel)) ggX6_read_X6_within
set_option maxRecDepth 20000 in
theorem ggX6_read_X6_readPlaces : GoodIn wsX6_read wsX6_readPlaces := goodIn_r _ [16, 2, 8, 1, 3, 4, 5, 6, 7, 9, 17, 18, 19, 20, 21, 22, 23, 24, 25, 26, 27, 28, 29, 30, 31, 32, 33, 34, 35, 36, 37, 38, 39, 40, 41, 42, 43, 44, 45, 46, 47, 48, 49, 50, 51, 52, 53, 54, 55, 56, 57, 58, 59] (by decide +kernel) (by decide +kernel)
set_option maxRecDepth 20000 in
theorem gX6_read_X6_readPlaces : GoodIn wsX6_read (wsV RX6 99 RX6 yX6_readPlaces wsX6_readPlaces) := goodIn_app (goodIn_of _ (by decide +kernel)) ggX6_read_X6_readPlaces
theorem dX6_read_0 : decode cX6_read 0 = .ok (.aload_n 0, 1) := by decide +kernel
theorem dX6_read_1 : decode cX6_read 1 = .ok (.iconst 0, 1) := by decide +kernel
theorem dX6_read_2 : decode cX6_read 2 = .ok (.putfield 95, 3) := by decide +kernel
theorem dX6_read_5 : decode cX6_read 5 = .ok (.aload_n 0, 1) := by decide +kernel
theorem dX6_read_6 : decode cX6_read 6 = .ok (.iconst 0, 1) := by decide +kernel
theorem dX6_read_7 : decode cX6_read 7 = .ok (.putfield 92, 3) := by decide +kernel
theorem dX6_read_10 : decode cX6_read 10 = .ok (.aload_n 0, 1) := by decide +kernel
theorem dX6_read_11 : decode cX6_read 11 = .ok (.iconst 0, 1) := by decide +kernel
theorem dX6_read_12 : decode cX6_read 12 = .ok (.invokevirtual 85, 3) := by decide +kernel
theorem dX6_read_15 : decode cX6_read 15 = .ok (.bipush 48, 2) := by decide +kernel
theorem dX6_read_17 : decode cX6_read 17 = .ok (.isub, 1) := by decide +kernel
theorem dX6_read_18 : decode cX6_read 18 = .ok (.istore_n 1, 1) := by decide +kernel
theorem dX6_read_19 : decode cX6_read 19 = .ok (.aload_n 0, 1) := by decide +kernel
theorem dX6_read_20 : decode cX6_read 20 = .ok (.iconst 1, 1) := by decide +kernel
theorem dX6_read_21 : decode cX6_read 21 = .ok (.invokevirtual 85, 3) := by decide +kernel
theorem dX6_read_24 : decode cX6_read 24 = .ok (.bipush 48, 2) := by decide +kernel
theorem dX6_read_26 : decode cX6_read 26 = .ok (.isub, 1) := by decide +kernel
theorem dX6_read_27 : decode cX6_read 27 = .ok (.istore_n 2, 1) := by decide +kernel
theorem dX6_read_28 : decode cX6_read 28 = .ok (.iload_n 1, 1) := by decide +kernel
theorem dX6_read_29 : decode cX6_read 29 = .ok (.iconst 2, 1) := by decide +kernel
theorem dX6_read_30 : decode cX6_read 30 = .ok (.iconst 4, 1) := by decide +kernel
theorem dX6_read_31 : decode cX6_read 31 = .ok (.invokestatic 77, 3) := by decide +kernel
theorem dX6_read_34 : decode cX6_read 34 = .ok (.ifCond .ne 5, 3) := by decide +kernel
theorem dX6_read_37 : decode cX6_read 37 = .ok (.iconst 0, 1) := by decide +kernel
theorem dX6_read_38 : decode cX6_read 38 = .ok (.ireturn, 1) := by decide +kernel
theorem dX6_read_39 : decode cX6_read 39 = .ok (.iload_n 2, 1) := by decide +kernel
theorem dX6_read_40 : decode cX6_read 40 = .ok (.iconst 2, 1) := by decide +kernel
theorem dX6_read_41 : decode cX6_read 41 = .ok (.iconst 4, 1) := by decide +kernel
theorem dX6_read_42 : decode cX6_read 42 = .ok (.invokestatic 77, 3) := by decide +kernel
theorem dX6_read_45 : decode cX6_read 45 = .ok (.ifCond .eq 11, 3) := by decide +kernel
theorem dX6_read_48 : decode cX6_read 48 = .ok (.iload_n 1, 1) := by decide +kernel
theorem dX6_read_49 : decode cX6_read 49 = .ok (.iload_n 2, 1) := by decide +kernel
theorem dX6_read_50 : decode cX6_read 50 = .ok (.imul, 1) := by decide +kernel
theorem dX6_read_51 : decode cX6_read 51 = .ok (.bipush 12, 2) := by decide +kernel
theorem dX6_read_53 : decode cX6_read 53 = .ok (.if_icmp .le 5, 3) := by decide +kernel
theorem dX6_read_56 : decode cX6_read 56 = .ok (.iconst 1, 1) := by decide +kernel
theorem dX6_read_57 : decode cX6_read 57 = .ok (.ireturn, 1) := by decide +kernel
theorem dX6_read_58 : decode cX6_read 58 = .ok (.aload_n 0, 1) := by decide +kernel
theorem dX6_read_59 : decode cX6_read 59 = .ok (.iconst 2, 1) := by decide +kernel
theorem dX6_read_60 : decode cX6_read 60 = .ok (.invokevirtual 85, 3) := by decide +kernel
theorem dX6_read_63 : decode cX6_read 63 = .ok (.bipush 59, 2) := by decide +kernel
theorem dX6_read_65 : decode cX6_read 65 = .ok (.if_icmp .eq 5, 3) := by decide +kernel
theorem dX6_read_68 : decode cX6_read 68 = .ok (.iconst 2, 1) := by decide +kernel
theorem dX6_read_69 : decode cX6_read 69 = .ok (.ireturn, 1) := by decide +kernel
theorem dX6_read_70 : decode cX6_read 70 = .ok (.aload_n 0, 1) := by decide +kernel
theorem dX6_read_71 : decode cX6_read 71 = .ok (.iload_n 1, 1) := by decide +kernel
theorem dX6_read_72 : decode cX6_read 72 = .ok (.iload_n 2, 1) := by decide +kernel
theorem dX6_read_73 : decode cX6_read 73 = .ok (.imul, 1) := by decide +kernel
theorem dX6_read_74 : decode cX6_read 74 = .ok (.invokevirtual 99, 3) := by decide +kernel
theorem dX6_read_77 : decode cX6_read 77 = .ok (.ireturn, 1) := by decide +kernel
set_option maxRecDepth 20000 in
theorem ggX6_fault_X6_read : GoodIn wsX6_fault wsX6_read := goodIn_r _ [5, 6, 7, 8, 9, 10, 4, 11, 12, 13, 14, 15, 16, 17, 18, 19, 20, 21, 22, 23, 24, 25, 26, 27, 28, 29, 30, 31, 32, 33, 34, 35, 36, 37, 38, 39, 40, 41, 42, 43, 44, 45, 46, 47, 48, 49, 50, 51, 52, 53, 54, 55, 56, 57, 58, 59, 60, 61, 62, 63] (by decide +kernel) (by decide +kernel)
set_option maxRecDepth 20000 in
theorem gX6_fault_X6_read : GoodIn wsX6_fault (wsV RX6 102 RX6 yX6_read wsX6_read) := goodIn_app (goodIn_of _ (by decide +kernel)) ggX6_fault_X6_read
theorem dX6_fault_0 : decode cX6_fault 0 = .ok (.aload_n 0, 1) := by decide +kernel
theorem dX6_fault_1 : decode cX6_fault 1 = .ok (.invokevirtual 102, 3) := by decide +kernel
theorem dX6_fault_4 : decode cX6_fault 4 = .ok (.ireturn, 1) := by decide +kernel
set_option maxRecDepth 20000 in
theorem ggX6_board_X6_read : GoodIn wsX6_board wsX6_read := goodIn_r _ [17, 1, 18, 19, 20, 21, 16, 22, 12, 2, 23, 24, 25, 26, 27, 28, 29, 30, 31, 32, 37, 38, 39, 40, 41, 42, 43, 44, 45, 46, 47, 48, 49, 50, 51, 52, 53, 54, 55, 56, 57, 58, 59, 60, 61, 62, 63, 64, 65, 66, 67, 68, 69, 70, 71, 72, 73, 74, 75, 76] (by decide +kernel) (by decide +kernel)
set_option maxRecDepth 20000 in
theorem gX6_board_X6_read : GoodIn wsX6_board (wsV RX6 102 RX6 yX6_read wsX6_read) := goodIn_app (goodIn_of _ (by decide +kernel)) ggX6_board_X6_read
set_option maxRecDepth 20000 in
theorem ggX6_board_X6_places : GoodIn wsX6_board wsX6_places := goodIn_r _ [36, 3, 4, 37, 38, 39, 40, 41, 42, 43, 44, 45, 46, 47, 48, 49, 50, 51, 52, 53, 54, 55, 56, 57, 58, 59, 60, 61, 62, 63, 64, 65, 66, 67, 68, 69, 70, 71, 72, 73, 74, 75, 76] (by decide +kernel) (by decide +kernel)
set_option maxRecDepth 20000 in
theorem gX6_board_X6_places : GoodIn wsX6_board (wsV RX6 118 RX6 yX6_places wsX6_places) := goodIn_app (goodIn_of _ (by decide +kernel)) ggX6_board_X6_places
set_option maxRecDepth 20000 in
theorem ggX6_board_X6_kindBy : GoodIn wsX6_board wsX6_kindBy := goodIn_r _ [32] (by decide +kernel) (by decide +kernel)
set_option maxRecDepth 20000 in
theorem gX6_board_X6_kindBy : GoodIn wsX6_board (va_wsS RX6 89 yX6_kindBy wsX6_kindBy) := goodIn_app (goodIn_of _ (by decide +kernel)) ggX6_board_X6_kindBy
theorem dX6_board_0 : decode cX6_board 0 = .ok (.aload_n 0, 1) := by decide +kernel
theorem dX6_board_1 : decode cX6_board 1 = .ok (.invokevirtual 102, 3) := by decide +kernel
theorem dX6_board_4 : decode cX6_board 4 = .ok (.pop, 1) := by decide +kernel
theorem dX6_board_5 : decode cX6_board 5 = .ok (.aload_n 0, 1) := by decide +kernel
theorem dX6_board_6 : decode cX6_board 6 = .ok (.getfield 95, 3) := by decide +kernel
theorem dX6_board_9 : decode cX6_board 9 = .ok (.ifCond .ne 6, 3) := by decide +kernel
theorem dX6_board_12 : decode cX6_board 12 = .ok (.bipush (-103), 2) := by decide +kernel
theorem dX6_board_14 : decode cX6_board 14 = .ok (.ireturn, 1) := by decide +kernel
theorem dX6_board_15 : decode cX6_board 15 = .ok (.aload_n 0, 1) := by decide +kernel
theorem dX6_board_16 : decode cX6_board 16 = .ok (.aload_n 0, 1) := by decide +kernel
theorem dX6_board_17 : decode cX6_board 17 = .ok (.getfield 25, 3) := by decide +kernel
theorem dX6_board_20 : decode cX6_board 20 = .ok (.iconst 0, 1) := by decide +kernel
theorem dX6_board_21 : decode cX6_board 21 = .ok (.baload, 1) := by decide +kernel
theorem dX6_board_22 : decode cX6_board 22 = .ok (.bipush 48, 2) := by decide +kernel
theorem dX6_board_24 : decode cX6_board 24 = .ok (.isub, 1) := by decide +kernel
theorem dX6_board_25 : decode cX6_board 25 = .ok (.putfield 106, 3) := by decide +kernel
theorem dX6_board_28 : decode cX6_board 28 = .ok (.aload_n 0, 1) := by decide +kernel
theorem dX6_board_29 : decode cX6_board 29 = .ok (.aload_n 0, 1) := by decide +kernel
theorem dX6_board_30 : decode cX6_board 30 = .ok (.getfield 25, 3) := by decide +kernel
theorem dX6_board_33 : decode cX6_board 33 = .ok (.iconst 1, 1) := by decide +kernel
theorem dX6_board_34 : decode cX6_board 34 = .ok (.baload, 1) := by decide +kernel
theorem dX6_board_35 : decode cX6_board 35 = .ok (.bipush 48, 2) := by decide +kernel
theorem dX6_board_37 : decode cX6_board 37 = .ok (.isub, 1) := by decide +kernel
theorem dX6_board_38 : decode cX6_board 38 = .ok (.putfield 109, 3) := by decide +kernel
theorem dX6_board_41 : decode cX6_board 41 = .ok (.aload_n 0, 1) := by decide +kernel
theorem dX6_board_42 : decode cX6_board 42 = .ok (.iconst 0, 1) := by decide +kernel
theorem dX6_board_43 : decode cX6_board 43 = .ok (.putfield 112, 3) := by decide +kernel
theorem dX6_board_46 : decode cX6_board 46 = .ok (.aload_n 0, 1) := by decide +kernel
theorem dX6_board_47 : decode cX6_board 47 = .ok (.iconst 0, 1) := by decide +kernel
theorem dX6_board_48 : decode cX6_board 48 = .ok (.putfield 115, 3) := by decide +kernel
theorem dX6_board_51 : decode cX6_board 51 = .ok (.iconst 0, 1) := by decide +kernel
theorem dX6_board_52 : decode cX6_board 52 = .ok (.istore_n 1, 1) := by decide +kernel
theorem dX6_board_53 : decode cX6_board 53 = .ok (.iload_n 1, 1) := by decide +kernel
theorem dX6_board_54 : decode cX6_board 54 = .ok (.aload_n 0, 1) := by decide +kernel
theorem dX6_board_55 : decode cX6_board 55 = .ok (.invokevirtual 118, 3) := by decide +kernel
theorem dX6_board_58 : decode cX6_board 58 = .ok (.if_icmp .ge 81, 3) := by decide +kernel
theorem dX6_board_61 : decode cX6_board 61 = .ok (.aload_n 0, 1) := by decide +kernel
theorem dX6_board_62 : decode cX6_board 62 = .ok (.getfield 25, 3) := by decide +kernel
theorem dX6_board_65 : decode cX6_board 65 = .ok (.iconst 3, 1) := by decide +kernel
theorem dX6_board_66 : decode cX6_board 66 = .ok (.iload_n 1, 1) := by decide +kernel
theorem dX6_board_67 : decode cX6_board 67 = .ok (.iadd, 1) := by decide +kernel
theorem dX6_board_68 : decode cX6_board 68 = .ok (.baload, 1) := by decide +kernel
theorem dX6_board_69 : decode cX6_board 69 = .ok (.istore_n 2, 1) := by decide +kernel
theorem dX6_board_70 : decode cX6_board 70 = .ok (.aload_n 0, 1) := by decide +kernel
theorem dX6_board_71 : decode cX6_board 71 = .ok (.dup, 1) := by decide +kernel
theorem dX6_board_72 : decode cX6_board 72 = .ok (.getfield 112, 3) := by decide +kernel
theorem dX6_board_75 : decode cX6_board 75 = .ok (.iload_n 2, 1) := by decide +kernel
theorem dX6_board_76 : decode cX6_board 76 = .ok (.bipush 35, 2) := by decide +kernel
theorem dX6_board_78 : decode cX6_board 78 = .ok (.if_icmp .ne 7, 3) := by decide +kernel
theorem dX6_board_81 : decode cX6_board 81 = .ok (.iconst 0, 1) := by decide +kernel
theorem dX6_board_82 : decode cX6_board 82 = .ok (.goto 6, 3) := by decide +kernel
theorem dX6_board_85 : decode cX6_board 85 = .ok (.iconst 1, 1) := by decide +kernel
theorem dX6_board_86 : decode cX6_board 86 = .ok (.iload_n 1, 1) := by decide +kernel
theorem dX6_board_87 : decode cX6_board 87 = .ok (.ishl, 1) := by decide +kernel
theorem dX6_board_88 : decode cX6_board 88 = .ok (.ior, 1) := by decide +kernel
theorem dX6_board_89 : decode cX6_board 89 = .ok (.putfield 112, 3) := by decide +kernel
theorem dX6_board_92 : decode cX6_board 92 = .ok (.iload_n 2, 1) := by decide +kernel
theorem dX6_board_93 : decode cX6_board 93 = .ok (.invokestatic 89, 3) := by decide +kernel
theorem dX6_board_96 : decode cX6_board 96 = .ok (.iconst (-1), 1) := by decide +kernel
theorem dX6_board_97 : decode cX6_board 97 = .ok (.if_icmp .eq 36, 3) := by decide +kernel
theorem dX6_board_100 : decode cX6_board 100 = .ok (.aload_n 0, 1) := by decide +kernel
theorem dX6_board_101 : decode cX6_board 101 = .ok (.getfield 7, 3) := by decide +kernel
theorem dX6_board_104 : decode cX6_board 104 = .ok (.aload_n 0, 1) := by decide +kernel
theorem dX6_board_105 : decode cX6_board 105 = .ok (.getfield 115, 3) := by decide +kernel
theorem dX6_board_108 : decode cX6_board 108 = .ok (.iload_n 2, 1) := by decide +kernel
theorem dX6_board_109 : decode cX6_board 109 = .ok (.invokestatic 89, 3) := by decide +kernel
theorem dX6_board_112 : decode cX6_board 112 = .ok (.iastore, 1) := by decide +kernel
theorem dX6_board_113 : decode cX6_board 113 = .ok (.aload_n 0, 1) := by decide +kernel
theorem dX6_board_114 : decode cX6_board 114 = .ok (.getfield 13, 3) := by decide +kernel
theorem dX6_board_117 : decode cX6_board 117 = .ok (.aload_n 0, 1) := by decide +kernel
theorem dX6_board_118 : decode cX6_board 118 = .ok (.getfield 115, 3) := by decide +kernel
theorem dX6_board_121 : decode cX6_board 121 = .ok (.iload_n 1, 1) := by decide +kernel
theorem dX6_board_122 : decode cX6_board 122 = .ok (.iastore, 1) := by decide +kernel
theorem dX6_board_123 : decode cX6_board 123 = .ok (.aload_n 0, 1) := by decide +kernel
theorem dX6_board_124 : decode cX6_board 124 = .ok (.dup, 1) := by decide +kernel
theorem dX6_board_125 : decode cX6_board 125 = .ok (.getfield 115, 3) := by decide +kernel
theorem dX6_board_128 : decode cX6_board 128 = .ok (.iconst 1, 1) := by decide +kernel
theorem dX6_board_129 : decode cX6_board 129 = .ok (.iadd, 1) := by decide +kernel
theorem dX6_board_130 : decode cX6_board 130 = .ok (.putfield 115, 3) := by decide +kernel
theorem dX6_board_133 : decode cX6_board 133 = .ok (.iinc 1 1, 3) := by decide +kernel
theorem dX6_board_136 : decode cX6_board 136 = .ok (.goto (-83), 3) := by decide +kernel
theorem dX6_board_139 : decode cX6_board 139 = .ok (.aload_n 0, 1) := by decide +kernel
theorem dX6_board_140 : decode cX6_board 140 = .ok (.iconst 0, 1) := by decide +kernel
theorem dX6_board_141 : decode cX6_board 141 = .ok (.putfield 121, 3) := by decide +kernel
theorem dX6_board_144 : decode cX6_board 144 = .ok (.aload_n 0, 1) := by decide +kernel
theorem dX6_board_145 : decode cX6_board 145 = .ok (.dup, 1) := by decide +kernel
theorem dX6_board_146 : decode cX6_board 146 = .ok (.getfield 124, 3) := by decide +kernel
theorem dX6_board_149 : decode cX6_board 149 = .ok (.iconst 1, 1) := by decide +kernel
theorem dX6_board_150 : decode cX6_board 150 = .ok (.iadd, 1) := by decide +kernel
theorem dX6_board_151 : decode cX6_board 151 = .ok (.putfield 124, 3) := by decide +kernel
theorem dX6_board_154 : decode cX6_board 154 = .ok (.aload_n 0, 1) := by decide +kernel
theorem dX6_board_155 : decode cX6_board 155 = .ok (.iconst 0, 1) := by decide +kernel
theorem dX6_board_156 : decode cX6_board 156 = .ok (.putfield 127, 3) := by decide +kernel
theorem dX6_board_159 : decode cX6_board 159 = .ok (.aload_n 0, 1) := by decide +kernel
theorem dX6_board_160 : decode cX6_board 160 = .ok (.iconst 0, 1) := by decide +kernel
theorem dX6_board_161 : decode cX6_board 161 = .ok (.putfield 81, 3) := by decide +kernel
theorem dX6_board_164 : decode cX6_board 164 = .ok (.aload_n 0, 1) := by decide +kernel
theorem dX6_board_165 : decode cX6_board 165 = .ok (.getfield 115, 3) := by decide +kernel
theorem dX6_board_168 : decode cX6_board 168 = .ok (.ireturn, 1) := by decide +kernel
theorem dX6_places_0 : decode cX6_places 0 = .ok (.aload_n 0, 1) := by decide +kernel
theorem dX6_places_1 : decode cX6_places 1 = .ok (.getfield 106, 3) := by decide +kernel
theorem dX6_places_4 : decode cX6_places 4 = .ok (.aload_n 0, 1) := by decide +kernel
theorem dX6_places_5 : decode cX6_places 5 = .ok (.getfield 109, 3) := by decide +kernel
theorem dX6_places_8 : decode cX6_places 8 = .ok (.imul, 1) := by decide +kernel
theorem dX6_places_9 : decode cX6_places 9 = .ok (.ireturn, 1) := by decide +kernel
set_option maxRecDepth 20000 in
theorem ggX6_isPeg_X6_within : GoodIn wsX6_isPeg wsX6_within := goodIn_r _ [5] (by decide +kernel) (by decide +kernel)
set_option maxRecDepth 20000 in
theorem gX6_isPeg_X6_within : GoodIn wsX6_isPeg (va_wsS RX6 77 yX6_within wsX6_within) := goodIn_app (goodIn_of _ (by decide +kernel)) ggX6_isPeg_X6_within
theorem dX6_isPeg_0 : decode cX6_isPeg 0 = .ok (.iload_n 1, 1) := by decide +kernel
theorem dX6_isPeg_1 : decode cX6_isPeg 1 = .ok (.iconst 0, 1) := by decide +kernel
theorem dX6_isPeg_2 : decode cX6_isPeg 2 = .ok (.aload_n 0, 1) := by decide +kernel
theorem dX6_isPeg_3 : decode cX6_isPeg 3 = .ok (.getfield 115, 3) := by decide +kernel
theorem dX6_isPeg_6 : decode cX6_isPeg 6 = .ok (.iconst 1, 1) := by decide +kernel
theorem dX6_isPeg_7 : decode cX6_isPeg 7 = .ok (.isub, 1) := by decide +kernel
theorem dX6_isPeg_8 : decode cX6_isPeg 8 = .ok (.invokestatic 77, 3) := by decide +kernel
theorem dX6_isPeg_11 : decode cX6_isPeg 11 = .ok (.ireturn, 1) := by decide +kernel
set_option maxRecDepth 20000 in
theorem ggX6_isPlace_X6_places : GoodIn wsX6_isPlace wsX6_places := goodIn_r _ [5, 6, 7, 11, 12, 13, 14, 15, 16, 17, 18, 19, 20, 21, 22, 23, 24, 25, 26, 27, 28, 29, 30, 31, 32, 33, 34, 35, 36, 37, 38, 39, 40, 41, 42, 43, 44, 45, 46, 47, 48, 49, 50] (by decide +kernel) (by decide +kernel)
set_option maxRecDepth 20000 in
theorem gX6_isPlace_X6_places : GoodIn wsX6_isPlace (wsV RX6 118 RX6 yX6_places wsX6_places) := goodIn_app (goodIn_of _ (by decide +kernel)) ggX6_isPlace_X6_places
set_option maxRecDepth 20000 in
theorem ggX6_isPlace_X6_within : GoodIn wsX6_isPlace wsX6_within := goodIn_r _ [10] (by decide +kernel) (by decide +kernel)
set_option maxRecDepth 20000 in
theorem gX6_isPlace_X6_within : GoodIn wsX6_isPlace (va_wsS RX6 77 yX6_within wsX6_within) := goodIn_app (goodIn_of _ (by decide +kernel)) ggX6_isPlace_X6_within
theorem dX6_isPlace_0 : decode cX6_isPlace 0 = .ok (.iload_n 1, 1) := by decide +kernel
theorem dX6_isPlace_1 : decode cX6_isPlace 1 = .ok (.iconst 0, 1) := by decide +kernel
theorem dX6_isPlace_2 : decode cX6_isPlace 2 = .ok (.aload_n 0, 1) := by decide +kernel
theorem dX6_isPlace_3 : decode cX6_isPlace 3 = .ok (.invokevirtual 118, 3) := by decide +kernel
theorem dX6_isPlace_6 : decode cX6_isPlace 6 = .ok (.iconst 1, 1) := by decide +kernel
theorem dX6_isPlace_7 : decode cX6_isPlace 7 = .ok (.isub, 1) := by decide +kernel
theorem dX6_isPlace_8 : decode cX6_isPlace 8 = .ok (.invokestatic 77, 3) := by decide +kernel
theorem dX6_isPlace_11 : decode cX6_isPlace 11 = .ok (.ireturn, 1) := by decide +kernel
theorem dX6_putDeep_0 : decode cX6_putDeep 0 = .ok (.iconst 0, 1) := by decide +kernel
theorem dX6_putDeep_1 : decode cX6_putDeep 1 = .ok (.istore_n 1, 1) := by decide +kernel
theorem dX6_putDeep_2 : decode cX6_putDeep 2 = .ok (.iload_n 1, 1) := by decide +kernel
theorem dX6_putDeep_3 : decode cX6_putDeep 3 = .ok (.bipush 8, 2) := by decide +kernel
theorem dX6_putDeep_5 : decode cX6_putDeep 5 = .ok (.if_icmp .ge 33, 3) := by decide +kernel
theorem dX6_putDeep_8 : decode cX6_putDeep 8 = .ok (.aload_n 0, 1) := by decide +kernel
theorem dX6_putDeep_9 : decode cX6_putDeep 9 = .ok (.getfield 29, 3) := by decide +kernel
theorem dX6_putDeep_12 : decode cX6_putDeep 12 = .ok (.iload_n 1, 1) := by decide +kernel
theorem dX6_putDeep_13 : decode cX6_putDeep 13 = .ok (.iload_n 1, 1) := by decide +kernel
theorem dX6_putDeep_14 : decode cX6_putDeep 14 = .ok (.aload_n 0, 1) := by decide +kernel
theorem dX6_putDeep_15 : decode cX6_putDeep 15 = .ok (.getfield 115, 3) := by decide +kernel
theorem dX6_putDeep_18 : decode cX6_putDeep 18 = .ok (.if_icmp .ge 12, 3) := by decide +kernel
theorem dX6_putDeep_21 : decode cX6_putDeep 21 = .ok (.aload_n 0, 1) := by decide +kernel
theorem dX6_putDeep_22 : decode cX6_putDeep 22 = .ok (.getfield 13, 3) := by decide +kernel
theorem dX6_putDeep_25 : decode cX6_putDeep 25 = .ok (.iload_n 1, 1) := by decide +kernel
theorem dX6_putDeep_26 : decode cX6_putDeep 26 = .ok (.iaload, 1) := by decide +kernel
theorem dX6_putDeep_27 : decode cX6_putDeep 27 = .ok (.goto 4, 3) := by decide +kernel
theorem dX6_putDeep_30 : decode cX6_putDeep 30 = .ok (.iconst (-1), 1) := by decide +kernel
theorem dX6_putDeep_31 : decode cX6_putDeep 31 = .ok (.iastore, 1) := by decide +kernel
theorem dX6_putDeep_32 : decode cX6_putDeep 32 = .ok (.iinc 1 1, 3) := by decide +kernel
theorem dX6_putDeep_35 : decode cX6_putDeep 35 = .ok (.goto (-33), 3) := by decide +kernel
theorem dX6_putDeep_38 : decode cX6_putDeep 38 = .ok (.return_, 1) := by decide +kernel
theorem dX6_whoAt_0 : decode cX6_whoAt 0 = .ok (.iconst (-1), 1) := by decide +kernel
theorem dX6_whoAt_1 : decode cX6_whoAt 1 = .ok (.istore_n 3, 1) := by decide +kernel
theorem dX6_whoAt_2 : decode cX6_whoAt 2 = .ok (.iconst 0, 1) := by decide +kernel
theorem dX6_whoAt_3 : decode cX6_whoAt 3 = .ok (.istore 4, 2) := by decide +kernel
theorem dX6_whoAt_5 : decode cX6_whoAt 5 = .ok (.iload 4, 2) := by decide +kernel
theorem dX6_whoAt_7 : decode cX6_whoAt 7 = .ok (.aload_n 0, 1) := by decide +kernel
theorem dX6_whoAt_8 : decode cX6_whoAt 8 = .ok (.getfield 115, 3) := by decide +kernel
theorem dX6_whoAt_11 : decode cX6_whoAt 11 = .ok (.if_icmp .ge 32, 3) := by decide +kernel
theorem dX6_whoAt_14 : decode cX6_whoAt 14 = .ok (.aload_n 0, 1) := by decide +kernel
theorem dX6_whoAt_15 : decode cX6_whoAt 15 = .ok (.getfield 29, 3) := by decide +kernel
theorem dX6_whoAt_18 : decode cX6_whoAt 18 = .ok (.bipush 8, 2) := by decide +kernel
theorem dX6_whoAt_20 : decode cX6_whoAt 20 = .ok (.iload_n 1, 1) := by decide +kernel
theorem dX6_whoAt_21 : decode cX6_whoAt 21 = .ok (.imul, 1) := by decide +kernel
theorem dX6_whoAt_22 : decode cX6_whoAt 22 = .ok (.iload 4, 2) := by decide +kernel
theorem dX6_whoAt_24 : decode cX6_whoAt 24 = .ok (.iadd, 1) := by decide +kernel
theorem dX6_whoAt_25 : decode cX6_whoAt 25 = .ok (.iaload, 1) := by decide +kernel
theorem dX6_whoAt_26 : decode cX6_whoAt 26 = .ok (.iload_n 2, 1) := by decide +kernel
theorem dX6_whoAt_27 : decode cX6_whoAt 27 = .ok (.if_icmp .ne 8, 3) := by decide +kernel
theorem dX6_whoAt_30 : decode cX6_whoAt 30 = .ok (.iload 4, 2) := by decide +kernel
theorem dX6_whoAt_32 : decode cX6_whoAt 32 = .ok (.goto 4, 3) := by decide +kernel
theorem dX6_whoAt_35 : decode cX6_whoAt 35 = .ok (.iload_n 3, 1) := by decide +kernel
theorem dX6_whoAt_36 : decode cX6_whoAt 36 = .ok (.istore_n 3, 1) := by decide +kernel
theorem dX6_whoAt_37 : decode cX6_whoAt 37 = .ok (.iinc 4 1, 3) := by decide +kernel
theorem dX6_whoAt_40 : decode cX6_whoAt 40 = .ok (.goto (-35), 3) := by decide +kernel
theorem dX6_whoAt_43 : decode cX6_whoAt 43 = .ok (.iload_n 3, 1) := by decide +kernel
theorem dX6_whoAt_44 : decode cX6_whoAt 44 = .ok (.ireturn, 1) := by decide +kernel
theorem dX6_apart_0 : decode cX6_apart 0 = .ok (.iload_n 0, 1) := by decide +kernel
theorem dX6_apart_1 : decode cX6_apart 1 = .ok (.iload_n 1, 1) := by decide +kernel
theorem dX6_apart_2 : decode cX6_apart 2 = .ok (.if_icmp .le 9, 3) := by decide +kernel
theorem dX6_apart_5 : decode cX6_apart 5 = .ok (.iload_n 0, 1) := by decide +kernel
theorem dX6_apart_6 : decode cX6_apart 6 = .ok (.iload_n 1, 1) := by decide +kernel
theorem dX6_apart_7 : decode cX6_apart 7 = .ok (.isub, 1) := by decide +kernel
theorem dX6_apart_8 : decode cX6_apart 8 = .ok (.goto 6, 3) := by decide +kernel
theorem dX6_apart_11 : decode cX6_apart 11 = .ok (.iload_n 1, 1) := by decide +kernel
theorem dX6_apart_12 : decode cX6_apart 12 = .ok (.iload_n 0, 1) := by decide +kernel
theorem dX6_apart_13 : decode cX6_apart 13 = .ok (.isub, 1) := by decide +kernel
theorem dX6_apart_14 : decode cX6_apart 14 = .ok (.ireturn, 1) := by decide +kernel
theorem dX6_goesBy_0 : decode cX6_goesBy 0 = .ok (.iload_n 2, 1) := by decide +kernel
theorem dX6_goesBy_1 : decode cX6_goesBy 1 = .ok (.iload_n 3, 1) := by decide +kernel
theorem dX6_goesBy_2 : decode cX6_goesBy 2 = .ok (.iadd, 1) := by decide +kernel
theorem dX6_goesBy_3 : decode cX6_goesBy 3 = .ok (.iconst 2, 1) := by decide +kernel
theorem dX6_goesBy_4 : decode cX6_goesBy 4 = .ok (.if_icmp .ne 12, 3) := by decide +kernel
theorem dX6_goesBy_7 : decode cX6_goesBy 7 = .ok (.iload_n 2, 1) := by decide +kernel
theorem dX6_goesBy_8 : decode cX6_goesBy 8 = .ok (.iload_n 3, 1) := by decide +kernel
theorem dX6_goesBy_9 : decode cX6_goesBy 9 = .ok (.if_icmp .eq 7, 3) := by decide +kernel
theorem dX6_goesBy_12 : decode cX6_goesBy 12 = .ok (.iconst 1, 1) := by decide +kernel
theorem dX6_goesBy_13 : decode cX6_goesBy 13 = .ok (.goto 4, 3) := by decide +kernel
theorem dX6_goesBy_16 : decode cX6_goesBy 16 = .ok (.iconst 0, 1) := by decide +kernel
theorem dX6_goesBy_17 : decode cX6_goesBy 17 = .ok (.istore 4, 2) := by decide +kernel
theorem dX6_goesBy_19 : decode cX6_goesBy 19 = .ok (.iload_n 2, 1) := by decide +kernel
theorem dX6_goesBy_20 : decode cX6_goesBy 20 = .ok (.iconst 2, 1) := by decide +kernel
theorem dX6_goesBy_21 : decode cX6_goesBy 21 = .ok (.if_icmp .ne 12, 3) := by decide +kernel
theorem dX6_goesBy_24 : decode cX6_goesBy 24 = .ok (.iload_n 3, 1) := by decide +kernel
theorem dX6_goesBy_25 : decode cX6_goesBy 25 = .ok (.iconst 2, 1) := by decide +kernel
theorem dX6_goesBy_26 : decode cX6_goesBy 26 = .ok (.if_icmp .ne 7, 3) := by decide +kernel
theorem dX6_goesBy_29 : decode cX6_goesBy 29 = .ok (.iconst 1, 1) := by decide +kernel
theorem dX6_goesBy_30 : decode cX6_goesBy 30 = .ok (.goto 4, 3) := by decide +kernel
theorem dX6_goesBy_33 : decode cX6_goesBy 33 = .ok (.iconst 0, 1) := by decide +kernel
theorem dX6_goesBy_34 : decode cX6_goesBy 34 = .ok (.istore 5, 2) := by decide +kernel
theorem dX6_goesBy_36 : decode cX6_goesBy 36 = .ok (.iload_n 1, 1) := by decide +kernel
theorem dX6_goesBy_37 : decode cX6_goesBy 37 = .ok (.iconst 1, 1) := by decide +kernel
theorem dX6_goesBy_38 : decode cX6_goesBy 38 = .ok (.if_icmp .ne 8, 3) := by decide +kernel
theorem dX6_goesBy_41 : decode cX6_goesBy 41 = .ok (.iload 5, 2) := by decide +kernel
theorem dX6_goesBy_43 : decode cX6_goesBy 43 = .ok (.goto 28, 3) := by decide +kernel
theorem dX6_goesBy_46 : decode cX6_goesBy 46 = .ok (.iload_n 1, 1) := by decide +kernel
theorem dX6_goesBy_47 : decode cX6_goesBy 47 = .ok (.iconst 4, 1) := by decide +kernel
theorem dX6_goesBy_48 : decode cX6_goesBy 48 = .ok (.if_icmp .ne 21, 3) := by decide +kernel
theorem dX6_goesBy_51 : decode cX6_goesBy 51 = .ok (.iload 4, 2) := by decide +kernel
theorem dX6_goesBy_53 : decode cX6_goesBy 53 = .ok (.ifCond .ne 8, 3) := by decide +kernel
theorem dX6_goesBy_56 : decode cX6_goesBy 56 = .ok (.iload 5, 2) := by decide +kernel
theorem dX6_goesBy_58 : decode cX6_goesBy 58 = .ok (.ifCond .eq 7, 3) := by decide +kernel
theorem dX6_goesBy_61 : decode cX6_goesBy 61 = .ok (.iconst 1, 1) := by decide +kernel
theorem dX6_goesBy_62 : decode cX6_goesBy 62 = .ok (.goto 9, 3) := by decide +kernel
theorem dX6_goesBy_65 : decode cX6_goesBy 65 = .ok (.iconst 0, 1) := by decide +kernel
theorem dX6_goesBy_66 : decode cX6_goesBy 66 = .ok (.goto 5, 3) := by decide +kernel
theorem dX6_goesBy_69 : decode cX6_goesBy 69 = .ok (.iload 4, 2) := by decide +kernel
theorem dX6_goesBy_71 : decode cX6_goesBy 71 = .ok (.ireturn, 1) := by decide +kernel
set_option maxRecDepth 20000 in
theorem ggX6_overBy_X6_isIn : GoodIn wsX6_overBy wsX6_isIn := goodIn_r _ [8] (by decide +kernel) (by decide +kernel)
set_option maxRecDepth 20000 in
theorem gX6_overBy_X6_isIn : GoodIn wsX6_overBy (va_wsS RX6 130 yX6_isIn wsX6_isIn) := goodIn_app (goodIn_of _ (by decide +kernel)) ggX6_overBy_X6_isIn
set_option maxRecDepth 20000 in
theorem ggX6_overBy_X6_whoAt : GoodIn wsX6_overBy wsX6_whoAt := goodIn_r _ [12, 13, 1, 21, 22, 23, 24, 25, 26, 27, 28, 29, 30, 31, 32, 33, 34, 35, 36, 37, 38, 39, 40, 41, 42, 43, 44, 45, 46, 47, 48, 49, 50, 51, 52, 53, 54, 55, 56, 57, 58, 59, 60] (by decide +kernel) (by decide +kernel)
set_option maxRecDepth 20000 in
theorem gX6_overBy_X6_whoAt : GoodIn wsX6_overBy (wsV RX6 134 RX6 yX6_whoAt wsX6_whoAt) := goodIn_app (goodIn_of _ (by decide +kernel)) ggX6_overBy_X6_whoAt
set_option maxRecDepth 20000 in
theorem ggX6_overBy_X6_apart : GoodIn wsX6_overBy wsX6_apart := goodIn_r _ [16] (by decide +kernel) (by decide +kernel)
set_option maxRecDepth 20000 in
theorem gX6_overBy_X6_apart : GoodIn wsX6_overBy (va_wsS RX6 138 yX6_apart wsX6_apart) := goodIn_app (goodIn_of _ (by decide +kernel)) ggX6_overBy_X6_apart
set_option maxRecDepth 20000 in
theorem ggX6_overBy_X6_goesBy : GoodIn wsX6_overBy wsX6_goesBy := goodIn_r _ [20] (by decide +kernel) (by decide +kernel)
set_option maxRecDepth 20000 in
theorem gX6_overBy_X6_goesBy : GoodIn wsX6_overBy (wsV RX6 141 RX6 yX6_goesBy wsX6_goesBy) := goodIn_app (goodIn_of _ (by decide +kernel)) ggX6_overBy_X6_goesBy
theorem dX6_overBy_0 : decode cX6_overBy 0 = .ok (.aload_n 0, 1) := by decide +kernel
theorem dX6_overBy_1 : decode cX6_overBy 1 = .ok (.getfield 29, 3) := by decide +kernel
theorem dX6_overBy_4 : decode cX6_overBy 4 = .ok (.bipush 8, 2) := by decide +kernel
theorem dX6_overBy_6 : decode cX6_overBy 6 = .ok (.iload_n 1, 1) := by decide +kernel
theorem dX6_overBy_7 : decode cX6_overBy 7 = .ok (.imul, 1) := by decide +kernel
theorem dX6_overBy_8 : decode cX6_overBy 8 = .ok (.iload_n 2, 1) := by decide +kernel
theorem dX6_overBy_9 : decode cX6_overBy 9 = .ok (.iadd, 1) := by decide +kernel
theorem dX6_overBy_10 : decode cX6_overBy 10 = .ok (.iaload, 1) := by decide +kernel
theorem dX6_overBy_11 : decode cX6_overBy 11 = .ok (.istore 4, 2) := by decide +kernel
theorem dX6_overBy_13 : decode cX6_overBy 13 = .ok (.iload 4, 2) := by decide +kernel
theorem dX6_overBy_15 : decode cX6_overBy 15 = .ok (.iconst (-1), 1) := by decide +kernel
theorem dX6_overBy_16 : decode cX6_overBy 16 = .ok (.if_icmp .eq 24, 3) := by decide +kernel
theorem dX6_overBy_19 : decode cX6_overBy 19 = .ok (.aload_n 0, 1) := by decide +kernel
theorem dX6_overBy_20 : decode cX6_overBy 20 = .ok (.getfield 112, 3) := by decide +kernel
theorem dX6_overBy_23 : decode cX6_overBy 23 = .ok (.iload_n 3, 1) := by decide +kernel
theorem dX6_overBy_24 : decode cX6_overBy 24 = .ok (.invokestatic 130, 3) := by decide +kernel
theorem dX6_overBy_27 : decode cX6_overBy 27 = .ok (.ifCond .eq 13, 3) := by decide +kernel
theorem dX6_overBy_30 : decode cX6_overBy 30 = .ok (.aload_n 0, 1) := by decide +kernel
theorem dX6_overBy_31 : decode cX6_overBy 31 = .ok (.iload_n 1, 1) := by decide +kernel
theorem dX6_overBy_32 : decode cX6_overBy 32 = .ok (.iload_n 3, 1) := by decide +kernel
theorem dX6_overBy_33 : decode cX6_overBy 33 = .ok (.invokevirtual 134, 3) := by decide +kernel
theorem dX6_overBy_36 : decode cX6_overBy 36 = .ok (.iconst (-1), 1) := by decide +kernel
theorem dX6_overBy_37 : decode cX6_overBy 37 = .ok (.if_icmp .eq 5, 3) := by decide +kernel
theorem dX6_overBy_40 : decode cX6_overBy 40 = .ok (.iconst (-1), 1) := by decide +kernel
theorem dX6_overBy_41 : decode cX6_overBy 41 = .ok (.ireturn, 1) := by decide +kernel
theorem dX6_overBy_42 : decode cX6_overBy 42 = .ok (.aload_n 0, 1) := by decide +kernel
theorem dX6_overBy_43 : decode cX6_overBy 43 = .ok (.aload_n 0, 1) := by decide +kernel
theorem dX6_overBy_44 : decode cX6_overBy 44 = .ok (.getfield 7, 3) := by decide +kernel
theorem dX6_overBy_47 : decode cX6_overBy 47 = .ok (.iload_n 2, 1) := by decide +kernel
theorem dX6_overBy_48 : decode cX6_overBy 48 = .ok (.iaload, 1) := by decide +kernel
theorem dX6_overBy_49 : decode cX6_overBy 49 = .ok (.iload 4, 2) := by decide +kernel
theorem dX6_overBy_51 : decode cX6_overBy 51 = .ok (.aload_n 0, 1) := by decide +kernel
theorem dX6_overBy_52 : decode cX6_overBy 52 = .ok (.getfield 109, 3) := by decide +kernel
theorem dX6_overBy_55 : decode cX6_overBy 55 = .ok (.idiv, 1) := by decide +kernel
theorem dX6_overBy_56 : decode cX6_overBy 56 = .ok (.iload_n 3, 1) := by decide +kernel
theorem dX6_overBy_57 : decode cX6_overBy 57 = .ok (.aload_n 0, 1) := by decide +kernel
theorem dX6_overBy_58 : decode cX6_overBy 58 = .ok (.getfield 109, 3) := by decide +kernel
theorem dX6_overBy_61 : decode cX6_overBy 61 = .ok (.idiv, 1) := by decide +kernel
theorem dX6_overBy_62 : decode cX6_overBy 62 = .ok (.invokestatic 138, 3) := by decide +kernel
theorem dX6_overBy_65 : decode cX6_overBy 65 = .ok (.iload 4, 2) := by decide +kernel
theorem dX6_overBy_67 : decode cX6_overBy 67 = .ok (.aload_n 0, 1) := by decide +kernel
theorem dX6_overBy_68 : decode cX6_overBy 68 = .ok (.getfield 109, 3) := by decide +kernel
theorem dX6_overBy_71 : decode cX6_overBy 71 = .ok (.irem, 1) := by decide +kernel
theorem dX6_overBy_72 : decode cX6_overBy 72 = .ok (.iload_n 3, 1) := by decide +kernel
theorem dX6_overBy_73 : decode cX6_overBy 73 = .ok (.aload_n 0, 1) := by decide +kernel
theorem dX6_overBy_74 : decode cX6_overBy 74 = .ok (.getfield 109, 3) := by decide +kernel
theorem dX6_overBy_77 : decode cX6_overBy 77 = .ok (.irem, 1) := by decide +kernel
theorem dX6_overBy_78 : decode cX6_overBy 78 = .ok (.invokestatic 138, 3) := by decide +kernel
theorem dX6_overBy_81 : decode cX6_overBy 81 = .ok (.invokevirtual 141, 3) := by decide +kernel
theorem dX6_overBy_84 : decode cX6_overBy 84 = .ok (.ifCond .ne 5, 3) := by decide +kernel
theorem dX6_overBy_87 : decode cX6_overBy 87 = .ok (.iconst (-1), 1) := by decide +kernel
theorem dX6_overBy_88 : decode cX6_overBy 88 = .ok (.ireturn, 1) := by decide +kernel
theorem dX6_overBy_89 : decode cX6_overBy 89 = .ok (.aload_n 0, 1) := by decide +kernel
theorem dX6_overBy_90 : decode cX6_overBy 90 = .ok (.iload_n 1, 1) := by decide +kernel
theorem dX6_overBy_91 : decode cX6_overBy 91 = .ok (.iload 4, 2) := by decide +kernel
theorem dX6_overBy_93 : decode cX6_overBy 93 = .ok (.iload_n 3, 1) := by decide +kernel
theorem dX6_overBy_94 : decode cX6_overBy 94 = .ok (.iadd, 1) := by decide +kernel
theorem dX6_overBy_95 : decode cX6_overBy 95 = .ok (.iconst 2, 1) := by decide +kernel
theorem dX6_overBy_96 : decode cX6_overBy 96 = .ok (.idiv, 1) := by decide +kernel
theorem dX6_overBy_97 : decode cX6_overBy 97 = .ok (.invokevirtual 134, 3) := by decide +kernel
theorem dX6_overBy_100 : decode cX6_overBy 100 = .ok (.istore 5, 2) := by decide +kernel
theorem dX6_overBy_102 : decode cX6_overBy 102 = .ok (.iload 5, 2) := by decide +kernel
theorem dX6_overBy_104 : decode cX6_overBy 104 = .ok (.iconst (-1), 1) := by decide +kernel
theorem dX6_overBy_105 : decode cX6_overBy 105 = .ok (.if_icmp .eq 14, 3) := by decide +kernel
theorem dX6_overBy_108 : decode cX6_overBy 108 = .ok (.aload_n 0, 1) := by decide +kernel
theorem dX6_overBy_109 : decode cX6_overBy 109 = .ok (.getfield 7, 3) := by decide +kernel
theorem dX6_overBy_112 : decode cX6_overBy 112 = .ok (.iload 5, 2) := by decide +kernel
theorem dX6_overBy_114 : decode cX6_overBy 114 = .ok (.iaload, 1) := by decide +kernel
theorem dX6_overBy_115 : decode cX6_overBy 115 = .ok (.iconst 2, 1) := by decide +kernel
theorem dX6_overBy_116 : decode cX6_overBy 116 = .ok (.if_icmp .ne 7, 3) := by decide +kernel
theorem dX6_overBy_119 : decode cX6_overBy 119 = .ok (.iconst (-1), 1) := by decide +kernel
theorem dX6_overBy_120 : decode cX6_overBy 120 = .ok (.goto 5, 3) := by decide +kernel
theorem dX6_overBy_123 : decode cX6_overBy 123 = .ok (.iload 5, 2) := by decide +kernel
theorem dX6_overBy_125 : decode cX6_overBy 125 = .ok (.ireturn, 1) := by decide +kernel
set_option maxRecDepth 20000 in
theorem ggX6_isJump_X6_overBy : GoodIn wsX6_isJump wsX6_overBy := goodIn_r _ [5, 6, 7, 8, 9, 10, 11, 4, 12, 13, 14, 15, 16, 17, 18, 19, 20, 21, 22, 23, 24, 25, 26, 27, 28, 29, 30, 31, 32, 33, 34, 35, 36, 37, 38, 39, 40, 41, 42, 43, 44, 45, 46, 47, 48, 49, 50, 51, 52, 53, 54, 55, 56, 57, 58, 59, 60, 61, 62, 63, 64] (by decide +kernel) (by decide +kernel)
set_option maxRecDepth 20000 in
theorem gX6_isJump_X6_overBy : GoodIn wsX6_isJump (wsV RX6 144 RX6 yX6_overBy wsX6_overBy) := goodIn_app (goodIn_of _ (by decide +kernel)) ggX6_isJump_X6_overBy
theorem dX6_isJump_0 : decode cX6_isJump 0 = .ok (.aload_n 0, 1) := by decide +kernel
theorem dX6_isJump_1 : decode cX6_isJump 1 = .ok (.iload_n 1, 1) := by decide +kernel
theorem dX6_isJump_2 : decode cX6_isJump 2 = .ok (.iload_n 2, 1) := by decide +kernel
theorem dX6_isJump_3 : decode cX6_isJump 3 = .ok (.iload_n 3, 1) := by decide +kernel
theorem dX6_isJump_4 : decode cX6_isJump 4 = .ok (.invokevirtual 144, 3) := by decide +kernel
theorem dX6_isJump_7 : decode cX6_isJump 7 = .ok (.iconst (-1), 1) := by decide +kernel
theorem dX6_isJump_8 : decode cX6_isJump 8 = .ok (.if_icmp .eq 7, 3) := by decide +kernel
theorem dX6_isJump_11 : decode cX6_isJump 11 = .ok (.iconst 1, 1) := by decide +kernel
theorem dX6_isJump_12 : decode cX6_isJump 12 = .ok (.goto 4, 3) := by decide +kernel
theorem dX6_isJump_15 : decode cX6_isJump 15 = .ok (.iconst 0, 1) := by decide +kernel
theorem dX6_isJump_16 : decode cX6_isJump 16 = .ok (.ireturn, 1) := by decide +kernel
set_option maxRecDepth 20000 in
theorem ggX6_goDeep_X6_overBy : GoodIn wsX6_goDeep wsX6_overBy := goodIn_r _ [7, 1, 8, 2, 9, 10, 11, 6, 12, 13, 14, 15, 16, 17, 18, 19, 20, 21, 22, 23, 24, 25, 26, 27, 28, 29, 30, 31, 32, 33, 34, 35, 36, 37, 38, 39, 40, 41, 42, 43, 44, 45, 46, 47, 48, 49, 50, 51, 52, 53, 54, 55, 56, 57, 58, 59, 60, 61, 62, 63, 64] (by decide +kernel) (by decide +kernel)
set_option maxRecDepth 20000 in
theorem gX6_goDeep_X6_overBy : GoodIn wsX6_goDeep (wsV RX6 144 RX6 yX6_overBy wsX6_overBy) := goodIn_app (goodIn_of _ (by decide +kernel)) ggX6_goDeep_X6_overBy
theorem dX6_goDeep_0 : decode cX6_goDeep 0 = .ok (.aload_n 0, 1) := by decide +kernel
theorem dX6_goDeep_1 : decode cX6_goDeep 1 = .ok (.iload_n 1, 1) := by decide +kernel
theorem dX6_goDeep_2 : decode cX6_goDeep 2 = .ok (.iload_n 2, 1) := by decide +kernel
theorem dX6_goDeep_3 : decode cX6_goDeep 3 = .ok (.iload_n 3, 1) := by decide +kernel
theorem dX6_goDeep_4 : decode cX6_goDeep 4 = .ok (.invokevirtual 144, 3) := by decide +kernel
theorem dX6_goDeep_7 : decode cX6_goDeep 7 = .ok (.istore 4, 2) := by decide +kernel
theorem dX6_goDeep_9 : decode cX6_goDeep 9 = .ok (.iconst 0, 1) := by decide +kernel
theorem dX6_goDeep_10 : decode cX6_goDeep 10 = .ok (.istore 5, 2) := by decide +kernel
theorem dX6_goDeep_12 : decode cX6_goDeep 12 = .ok (.iload 5, 2) := by decide +kernel
theorem dX6_goDeep_14 : decode cX6_goDeep 14 = .ok (.bipush 8, 2) := by decide +kernel
theorem dX6_goDeep_16 : decode cX6_goDeep 16 = .ok (.if_icmp .ge 36, 3) := by decide +kernel
theorem dX6_goDeep_19 : decode cX6_goDeep 19 = .ok (.aload_n 0, 1) := by decide +kernel
theorem dX6_goDeep_20 : decode cX6_goDeep 20 = .ok (.getfield 29, 3) := by decide +kernel
theorem dX6_goDeep_23 : decode cX6_goDeep 23 = .ok (.bipush 8, 2) := by decide +kernel
theorem dX6_goDeep_25 : decode cX6_goDeep 25 = .ok (.iload_n 1, 1) := by decide +kernel
theorem dX6_goDeep_26 : decode cX6_goDeep 26 = .ok (.imul, 1) := by decide +kernel
theorem dX6_goDeep_27 : decode cX6_goDeep 27 = .ok (.bipush 8, 2) := by decide +kernel
theorem dX6_goDeep_29 : decode cX6_goDeep 29 = .ok (.iadd, 1) := by decide +kernel
theorem dX6_goDeep_30 : decode cX6_goDeep 30 = .ok (.iload 5, 2) := by decide +kernel
theorem dX6_goDeep_32 : decode cX6_goDeep 32 = .ok (.iadd, 1) := by decide +kernel
theorem dX6_goDeep_33 : decode cX6_goDeep 33 = .ok (.aload_n 0, 1) := by decide +kernel
theorem dX6_goDeep_34 : decode cX6_goDeep 34 = .ok (.getfield 29, 3) := by decide +kernel
theorem dX6_goDeep_37 : decode cX6_goDeep 37 = .ok (.bipush 8, 2) := by decide +kernel
theorem dX6_goDeep_39 : decode cX6_goDeep 39 = .ok (.iload_n 1, 1) := by decide +kernel
theorem dX6_goDeep_40 : decode cX6_goDeep 40 = .ok (.imul, 1) := by decide +kernel
theorem dX6_goDeep_41 : decode cX6_goDeep 41 = .ok (.iload 5, 2) := by decide +kernel
theorem dX6_goDeep_43 : decode cX6_goDeep 43 = .ok (.iadd, 1) := by decide +kernel
theorem dX6_goDeep_44 : decode cX6_goDeep 44 = .ok (.iaload, 1) := by decide +kernel
theorem dX6_goDeep_45 : decode cX6_goDeep 45 = .ok (.iastore, 1) := by decide +kernel
theorem dX6_goDeep_46 : decode cX6_goDeep 46 = .ok (.iinc 5 1, 3) := by decide +kernel
theorem dX6_goDeep_49 : decode cX6_goDeep 49 = .ok (.goto (-37), 3) := by decide +kernel
theorem dX6_goDeep_52 : decode cX6_goDeep 52 = .ok (.aload_n 0, 1) := by decide +kernel
theorem dX6_goDeep_53 : decode cX6_goDeep 53 = .ok (.getfield 29, 3) := by decide +kernel
theorem dX6_goDeep_56 : decode cX6_goDeep 56 = .ok (.bipush 8, 2) := by decide +kernel
theorem dX6_goDeep_58 : decode cX6_goDeep 58 = .ok (.iload_n 1, 1) := by decide +kernel
theorem dX6_goDeep_59 : decode cX6_goDeep 59 = .ok (.imul, 1) := by decide +kernel
theorem dX6_goDeep_60 : decode cX6_goDeep 60 = .ok (.bipush 8, 2) := by decide +kernel
theorem dX6_goDeep_62 : decode cX6_goDeep 62 = .ok (.iadd, 1) := by decide +kernel
theorem dX6_goDeep_63 : decode cX6_goDeep 63 = .ok (.iload_n 2, 1) := by decide +kernel
theorem dX6_goDeep_64 : decode cX6_goDeep 64 = .ok (.iadd, 1) := by decide +kernel
theorem dX6_goDeep_65 : decode cX6_goDeep 65 = .ok (.aload_n 0, 1) := by decide +kernel
theorem dX6_goDeep_66 : decode cX6_goDeep 66 = .ok (.getfield 7, 3) := by decide +kernel
theorem dX6_goDeep_69 : decode cX6_goDeep 69 = .ok (.iload_n 2, 1) := by decide +kernel
theorem dX6_goDeep_70 : decode cX6_goDeep 70 = .ok (.iaload, 1) := by decide +kernel
theorem dX6_goDeep_71 : decode cX6_goDeep 71 = .ok (.iconst 3, 1) := by decide +kernel
theorem dX6_goDeep_72 : decode cX6_goDeep 72 = .ok (.if_icmp .ne 7, 3) := by decide +kernel
theorem dX6_goDeep_75 : decode cX6_goDeep 75 = .ok (.iconst (-1), 1) := by decide +kernel
theorem dX6_goDeep_76 : decode cX6_goDeep 76 = .ok (.goto 4, 3) := by decide +kernel
theorem dX6_goDeep_79 : decode cX6_goDeep 79 = .ok (.iload_n 3, 1) := by decide +kernel
theorem dX6_goDeep_80 : decode cX6_goDeep 80 = .ok (.iastore, 1) := by decide +kernel
theorem dX6_goDeep_81 : decode cX6_goDeep 81 = .ok (.aload_n 0, 1) := by decide +kernel
theorem dX6_goDeep_82 : decode cX6_goDeep 82 = .ok (.getfield 29, 3) := by decide +kernel
theorem dX6_goDeep_85 : decode cX6_goDeep 85 = .ok (.bipush 8, 2) := by decide +kernel
theorem dX6_goDeep_87 : decode cX6_goDeep 87 = .ok (.iload_n 1, 1) := by decide +kernel
theorem dX6_goDeep_88 : decode cX6_goDeep 88 = .ok (.imul, 1) := by decide +kernel
theorem dX6_goDeep_89 : decode cX6_goDeep 89 = .ok (.bipush 8, 2) := by decide +kernel
theorem dX6_goDeep_91 : decode cX6_goDeep 91 = .ok (.iadd, 1) := by decide +kernel
theorem dX6_goDeep_92 : decode cX6_goDeep 92 = .ok (.iload 4, 2) := by decide +kernel
theorem dX6_goDeep_94 : decode cX6_goDeep 94 = .ok (.iadd, 1) := by decide +kernel
theorem dX6_goDeep_95 : decode cX6_goDeep 95 = .ok (.iconst (-1), 1) := by decide +kernel
theorem dX6_goDeep_96 : decode cX6_goDeep 96 = .ok (.iastore, 1) := by decide +kernel
theorem dX6_goDeep_97 : decode cX6_goDeep 97 = .ok (.return_, 1) := by decide +kernel
theorem dX6_onBoard_0 : decode cX6_onBoard 0 = .ok (.iconst 0, 1) := by decide +kernel
theorem dX6_onBoard_1 : decode cX6_onBoard 1 = .ok (.istore_n 2, 1) := by decide +kernel
theorem dX6_onBoard_2 : decode cX6_onBoard 2 = .ok (.iconst 0, 1) := by decide +kernel
theorem dX6_onBoard_3 : decode cX6_onBoard 3 = .ok (.istore_n 3, 1) := by decide +kernel
theorem dX6_onBoard_4 : decode cX6_onBoard 4 = .ok (.iload_n 3, 1) := by decide +kernel
theorem dX6_onBoard_5 : decode cX6_onBoard 5 = .ok (.aload_n 0, 1) := by decide +kernel
theorem dX6_onBoard_6 : decode cX6_onBoard 6 = .ok (.getfield 115, 3) := by decide +kernel
theorem dX6_onBoard_9 : decode cX6_onBoard 9 = .ok (.if_icmp .ge 32, 3) := by decide +kernel
theorem dX6_onBoard_12 : decode cX6_onBoard 12 = .ok (.iload_n 2, 1) := by decide +kernel
theorem dX6_onBoard_13 : decode cX6_onBoard 13 = .ok (.aload_n 0, 1) := by decide +kernel
theorem dX6_onBoard_14 : decode cX6_onBoard 14 = .ok (.getfield 29, 3) := by decide +kernel
theorem dX6_onBoard_17 : decode cX6_onBoard 17 = .ok (.bipush 8, 2) := by decide +kernel
theorem dX6_onBoard_19 : decode cX6_onBoard 19 = .ok (.iload_n 1, 1) := by decide +kernel
theorem dX6_onBoard_20 : decode cX6_onBoard 20 = .ok (.imul, 1) := by decide +kernel
theorem dX6_onBoard_21 : decode cX6_onBoard 21 = .ok (.iload_n 3, 1) := by decide +kernel
theorem dX6_onBoard_22 : decode cX6_onBoard 22 = .ok (.iadd, 1) := by decide +kernel
theorem dX6_onBoard_23 : decode cX6_onBoard 23 = .ok (.iaload, 1) := by decide +kernel
theorem dX6_onBoard_24 : decode cX6_onBoard 24 = .ok (.iconst (-1), 1) := by decide +kernel
theorem dX6_onBoard_25 : decode cX6_onBoard 25 = .ok (.if_icmp .ne 7, 3) := by decide +kernel
theorem dX6_onBoard_28 : decode cX6_onBoard 28 = .ok (.iconst 0, 1) := by decide +kernel
theorem dX6_onBoard_29 : decode cX6_onBoard 29 = .ok (.goto 4, 3) := by decide +kernel
theorem dX6_onBoard_32 : decode cX6_onBoard 32 = .ok (.iconst 1, 1) := by decide +kernel
theorem dX6_onBoard_33 : decode cX6_onBoard 33 = .ok (.iadd, 1) := by decide +kernel
theorem dX6_onBoard_34 : decode cX6_onBoard 34 = .ok (.istore_n 2, 1) := by decide +kernel
theorem dX6_onBoard_35 : decode cX6_onBoard 35 = .ok (.iinc 3 1, 3) := by decide +kernel
theorem dX6_onBoard_38 : decode cX6_onBoard 38 = .ok (.goto (-34), 3) := by decide +kernel
theorem dX6_onBoard_41 : decode cX6_onBoard 41 = .ok (.iload_n 2, 1) := by decide +kernel
theorem dX6_onBoard_42 : decode cX6_onBoard 42 = .ok (.ireturn, 1) := by decide +kernel
set_option maxRecDepth 20000 in
theorem ggX6_goes_X6_places : GoodIn wsX6_goes wsX6_places := goodIn_r _ [5, 6, 7, 34, 35, 36, 37, 38, 39, 40, 41, 42, 43, 44, 45, 46, 47, 48, 49, 50, 51, 52, 53, 54, 55, 56, 57, 58, 59, 60, 61, 62, 63, 64, 65, 66, 67, 68, 69, 70, 71, 72, 73] (by decide +kernel) (by decide +kernel)
set_option maxRecDepth 20000 in
theorem gX6_goes_X6_places : GoodIn wsX6_goes (wsV RX6 118 RX6 yX6_places wsX6_places) := goodIn_app (goodIn_of _ (by decide +kernel)) ggX6_goes_X6_places
set_option maxRecDepth 20000 in
theorem ggX6_goes_X6_isJump : GoodIn wsX6_goes wsX6_isJump := goodIn_r _ [11, 12, 13, 14, 4, 15, 16, 17, 18, 7, 19, 20, 21, 22, 23, 24, 25, 26, 27, 28, 29, 30, 31, 32, 33, 34, 35, 36, 37, 38, 39, 40, 41, 42, 43, 44, 45, 46, 47, 48, 49, 50, 51, 52, 53, 54, 55, 56, 57, 58, 59, 60, 61, 62, 63, 64, 65, 66, 67, 68, 69, 70, 71, 72, 73] (by decide +kernel) (by decide +kernel)
set_option maxRecDepth 20000 in
theorem gX6_goes_X6_isJump : GoodIn wsX6_goes (wsV RX6 148 RX6 yX6_isJump wsX6_isJump) := goodIn_app (goodIn_of _ (by decide +kernel)) ggX6_goes_X6_isJump
theorem dX6_goes_0 : decode cX6_goes 0 = .ok (.iconst 0, 1) := by decide +kernel
theorem dX6_goes_1 : decode cX6_goes 1 = .ok (.istore_n 3, 1) := by decide +kernel
theorem dX6_goes_2 : decode cX6_goes 2 = .ok (.iconst 0, 1) := by decide +kernel
theorem dX6_goes_3 : decode cX6_goes 3 = .ok (.istore 4, 2) := by decide +kernel
theorem dX6_goes_5 : decode cX6_goes 5 = .ok (.iload 4, 2) := by decide +kernel
theorem dX6_goes_7 : decode cX6_goes 7 = .ok (.aload_n 0, 1) := by decide +kernel
theorem dX6_goes_8 : decode cX6_goes 8 = .ok (.invokevirtual 118, 3) := by decide +kernel
theorem dX6_goes_11 : decode cX6_goes 11 = .ok (.if_icmp .ge 31, 3) := by decide +kernel
theorem dX6_goes_14 : decode cX6_goes 14 = .ok (.iload_n 3, 1) := by decide +kernel
theorem dX6_goes_15 : decode cX6_goes 15 = .ok (.aload_n 0, 1) := by decide +kernel
theorem dX6_goes_16 : decode cX6_goes 16 = .ok (.iload_n 1, 1) := by decide +kernel
theorem dX6_goes_17 : decode cX6_goes 17 = .ok (.iload_n 2, 1) := by decide +kernel
theorem dX6_goes_18 : decode cX6_goes 18 = .ok (.iload 4, 2) := by decide +kernel
theorem dX6_goes_20 : decode cX6_goes 20 = .ok (.invokevirtual 148, 3) := by decide +kernel
theorem dX6_goes_23 : decode cX6_goes 23 = .ok (.ifCond .eq 10, 3) := by decide +kernel
theorem dX6_goes_26 : decode cX6_goes 26 = .ok (.iconst 1, 1) := by decide +kernel
theorem dX6_goes_27 : decode cX6_goes 27 = .ok (.iload 4, 2) := by decide +kernel
theorem dX6_goes_29 : decode cX6_goes 29 = .ok (.ishl, 1) := by decide +kernel
theorem dX6_goes_30 : decode cX6_goes 30 = .ok (.goto 4, 3) := by decide +kernel
theorem dX6_goes_33 : decode cX6_goes 33 = .ok (.iconst 0, 1) := by decide +kernel
theorem dX6_goes_34 : decode cX6_goes 34 = .ok (.ior, 1) := by decide +kernel
theorem dX6_goes_35 : decode cX6_goes 35 = .ok (.istore_n 3, 1) := by decide +kernel
theorem dX6_goes_36 : decode cX6_goes 36 = .ok (.iinc 4 1, 3) := by decide +kernel
theorem dX6_goes_39 : decode cX6_goes 39 = .ok (.goto (-34), 3) := by decide +kernel
theorem dX6_goes_42 : decode cX6_goes 42 = .ok (.iload_n 3, 1) := by decide +kernel
theorem dX6_goes_43 : decode cX6_goes 43 = .ok (.ireturn, 1) := by decide +kernel
set_option maxRecDepth 20000 in
theorem ggX6_jumpsNow_X6_goes : GoodIn wsX6_jumpsNow wsX6_goes := goodIn_r _ [6, 7, 8, 9, 5, 10, 11, 12, 13, 14, 15, 16, 17, 18, 19, 20, 21, 22, 23, 24, 25, 26, 27, 28, 29, 30, 1, 31, 32, 33, 34, 35, 36, 37, 41, 42, 43, 44, 45, 46, 47, 48, 49, 50, 51, 52, 53, 54, 55, 56, 57, 58, 59, 60, 61, 62, 63, 64, 65, 66, 67, 68, 69, 70, 71, 72, 73, 74, 75, 76, 77, 78, 79, 80] (by decide +kernel) (by decide +kernel)
set_option maxRecDepth 20000 in
theorem gX6_jumpsNow_X6_goes : GoodIn wsX6_jumpsNow (wsV RX6 151 RX6 yX6_goes wsX6_goes) := goodIn_app (goodIn_of _ (by decide +kernel)) ggX6_jumpsNow_X6_goes
set_option maxRecDepth 20000 in
theorem ggX6_jumpsNow_X6_size : GoodIn wsX6_jumpsNow wsX6_size := goodIn_r _ [40] (by decide +kernel) (by decide +kernel)
set_option maxRecDepth 20000 in
theorem gX6_jumpsNow_X6_size : GoodIn wsX6_jumpsNow (va_wsS RX6 154 yX6_size wsX6_size) := goodIn_app (goodIn_of _ (by decide +kernel)) ggX6_jumpsNow_X6_size
theorem dX6_jumpsNow_0 : decode cX6_jumpsNow 0 = .ok (.iconst 0, 1) := by decide +kernel
theorem dX6_jumpsNow_1 : decode cX6_jumpsNow 1 = .ok (.istore_n 2, 1) := by decide +kernel
theorem dX6_jumpsNow_2 : decode cX6_jumpsNow 2 = .ok (.iconst 0, 1) := by decide +kernel
theorem dX6_jumpsNow_3 : decode cX6_jumpsNow 3 = .ok (.istore_n 3, 1) := by decide +kernel
theorem dX6_jumpsNow_4 : decode cX6_jumpsNow 4 = .ok (.iload_n 3, 1) := by decide +kernel
theorem dX6_jumpsNow_5 : decode cX6_jumpsNow 5 = .ok (.aload_n 0, 1) := by decide +kernel
theorem dX6_jumpsNow_6 : decode cX6_jumpsNow 6 = .ok (.getfield 115, 3) := by decide +kernel
theorem dX6_jumpsNow_9 : decode cX6_jumpsNow 9 = .ok (.if_icmp .ge 21, 3) := by decide +kernel
theorem dX6_jumpsNow_12 : decode cX6_jumpsNow 12 = .ok (.iload_n 2, 1) := by decide +kernel
theorem dX6_jumpsNow_13 : decode cX6_jumpsNow 13 = .ok (.aload_n 0, 1) := by decide +kernel
theorem dX6_jumpsNow_14 : decode cX6_jumpsNow 14 = .ok (.iload_n 1, 1) := by decide +kernel
theorem dX6_jumpsNow_15 : decode cX6_jumpsNow 15 = .ok (.iload_n 3, 1) := by decide +kernel
theorem dX6_jumpsNow_16 : decode cX6_jumpsNow 16 = .ok (.invokevirtual 151, 3) := by decide +kernel
theorem dX6_jumpsNow_19 : decode cX6_jumpsNow 19 = .ok (.invokestatic 154, 3) := by decide +kernel
theorem dX6_jumpsNow_22 : decode cX6_jumpsNow 22 = .ok (.iadd, 1) := by decide +kernel
theorem dX6_jumpsNow_23 : decode cX6_jumpsNow 23 = .ok (.istore_n 2, 1) := by decide +kernel
theorem dX6_jumpsNow_24 : decode cX6_jumpsNow 24 = .ok (.iinc 3 1, 3) := by decide +kernel
theorem dX6_jumpsNow_27 : decode cX6_jumpsNow 27 = .ok (.goto (-23), 3) := by decide +kernel
theorem dX6_jumpsNow_30 : decode cX6_jumpsNow 30 = .ok (.iload_n 2, 1) := by decide +kernel
theorem dX6_jumpsNow_31 : decode cX6_jumpsNow 31 = .ok (.ireturn, 1) := by decide +kernel
set_option maxRecDepth 20000 in
theorem ggX6_pegNow_X6_putDeep : GoodIn wsX6_pegNow wsX6_putDeep := goodIn_r _ [7, 8, 9, 2, 62, 63, 64, 65, 66, 67, 68, 69, 70, 71, 72, 73, 74, 75, 76, 77, 78, 79, 80, 81, 82, 83, 84, 85, 86, 87, 88, 89, 90, 91, 92, 93, 94, 95, 96, 97, 98, 99, 100, 101] (by decide +kernel) (by decide +kernel)
set_option maxRecDepth 20000 in
theorem gX6_pegNow_X6_putDeep : GoodIn wsX6_pegNow (wsV RX6 157 RX6 yX6_putDeep wsX6_putDeep) := goodIn_app (goodIn_of _ (by decide +kernel)) ggX6_pegNow_X6_putDeep
set_option maxRecDepth 20000 in
theorem ggX6_pegNow_X6_goes : GoodIn wsX6_pegNow wsX6_goes := goodIn_r _ [13, 14, 15, 16, 6, 17, 18, 19, 20, 21, 22, 23, 24, 25, 26, 27, 8, 28, 1, 29, 30, 31, 32, 33, 34, 35, 9, 36, 37, 38, 39, 40, 41, 42, 62, 63, 64, 65, 66, 67, 68, 69, 70, 71, 72, 73, 74, 75, 76, 77, 78, 79, 80, 81, 82, 83, 84, 85, 86, 87, 88, 89, 90, 91, 92, 93, 94, 95, 96, 97, 98, 99, 100, 101] (by decide +kernel) (by decide +kernel)
set_option maxRecDepth 20000 in
theorem gX6_pegNow_X6_goes : GoodIn wsX6_pegNow (wsV RX6 151 RX6 yX6_goes wsX6_goes) := goodIn_app (goodIn_of _ (by decide +kernel)) ggX6_pegNow_X6_goes
set_option maxRecDepth 20000 in
theorem ggX6_pegNow_X6_sortsOf : GoodIn wsX6_pegNow wsX6_sortsOf := goodIn_r _ [46, 47, 48, 49, 50, 51, 52, 6, 53, 62, 63, 64, 65, 66, 67, 68, 69, 70, 71, 72, 73, 74, 75, 76, 77, 78, 79, 80, 81, 82, 83, 84, 85, 86, 87, 88, 89, 90, 91, 92, 93, 94, 95, 96, 97, 98, 99, 100, 101] (by decide +kernel) (by decide +kernel)
set_option maxRecDepth 20000 in
theorem gX6_pegNow_X6_sortsOf : GoodIn wsX6_pegNow (wsV RX6 160 RX6 yX6_sortsOf wsX6_sortsOf) := goodIn_app (goodIn_of _ (by decide +kernel)) ggX6_pegNow_X6_sortsOf
set_option maxRecDepth 20000 in
theorem ggX6_pegNow_X6_askOf : GoodIn wsX6_pegNow wsX6_askOf := goodIn_r _ [57, 58, 43, 44, 45, 6, 46, 47, 48, 49, 50, 51, 52, 53, 29, 30, 31, 59, 60, 61, 62, 63, 64, 65, 66, 67, 68, 69, 70, 71, 72, 73, 74, 75, 76, 77, 78, 79, 80, 81, 82, 83, 84, 85, 86, 87, 88, 89, 90, 91, 92, 93, 94, 95, 96, 97, 98, 99, 100, 101] (by decide +kernel) (by decide +kernel)
set_option maxRecDepth 20000 in
theorem gX6_pegNow_X6_askOf : GoodIn wsX6_pegNow (wsV RX6 163 RX6 yX6_askOf wsX6_askOf) := goodIn_app (goodIn_of _ (by decide +kernel)) ggX6_pegNow_X6_askOf
theorem dX6_pegNow_0 : decode cX6_pegNow 0 = .ok (.iload_n 2, 1) := by decide +kernel
theorem dX6_pegNow_1 : decode cX6_pegNow 1 = .ok (.tableswitch 62 0 3 #[31, 38, 45, 56], 31) := by decide +kernel
theorem dX6_pegNow_32 : decode cX6_pegNow 32 = .ok (.aload_n 0, 1) := by decide +kernel
theorem dX6_pegNow_33 : decode cX6_pegNow 33 = .ok (.getfield 7, 3) := by decide +kernel
theorem dX6_pegNow_36 : decode cX6_pegNow 36 = .ok (.iload_n 1, 1) := by decide +kernel
theorem dX6_pegNow_37 : decode cX6_pegNow 37 = .ok (.iaload, 1) := by decide +kernel
theorem dX6_pegNow_38 : decode cX6_pegNow 38 = .ok (.ireturn, 1) := by decide +kernel
theorem dX6_pegNow_39 : decode cX6_pegNow 39 = .ok (.aload_n 0, 1) := by decide +kernel
theorem dX6_pegNow_40 : decode cX6_pegNow 40 = .ok (.getfield 13, 3) := by decide +kernel
theorem dX6_pegNow_43 : decode cX6_pegNow 43 = .ok (.iload_n 1, 1) := by decide +kernel
theorem dX6_pegNow_44 : decode cX6_pegNow 44 = .ok (.iaload, 1) := by decide +kernel
theorem dX6_pegNow_45 : decode cX6_pegNow 45 = .ok (.ireturn, 1) := by decide +kernel
theorem dX6_pegNow_46 : decode cX6_pegNow 46 = .ok (.aload_n 0, 1) := by decide +kernel
theorem dX6_pegNow_47 : decode cX6_pegNow 47 = .ok (.invokevirtual 157, 3) := by decide +kernel
theorem dX6_pegNow_50 : decode cX6_pegNow 50 = .ok (.aload_n 0, 1) := by decide +kernel
theorem dX6_pegNow_51 : decode cX6_pegNow 51 = .ok (.iconst 0, 1) := by decide +kernel
theorem dX6_pegNow_52 : decode cX6_pegNow 52 = .ok (.iload_n 1, 1) := by decide +kernel
theorem dX6_pegNow_53 : decode cX6_pegNow 53 = .ok (.invokevirtual 151, 3) := by decide +kernel
theorem dX6_pegNow_56 : decode cX6_pegNow 56 = .ok (.ireturn, 1) := by decide +kernel
theorem dX6_pegNow_57 : decode cX6_pegNow 57 = .ok (.aload_n 0, 1) := by decide +kernel
theorem dX6_pegNow_58 : decode cX6_pegNow 58 = .ok (.iload_n 1, 1) := by decide +kernel
theorem dX6_pegNow_59 : decode cX6_pegNow 59 = .ok (.invokevirtual 160, 3) := by decide +kernel
theorem dX6_pegNow_62 : decode cX6_pegNow 62 = .ok (.ireturn, 1) := by decide +kernel
theorem dX6_pegNow_63 : decode cX6_pegNow 63 = .ok (.aload_n 0, 1) := by decide +kernel
theorem dX6_pegNow_64 : decode cX6_pegNow 64 = .ok (.iload_n 1, 1) := by decide +kernel
theorem dX6_pegNow_65 : decode cX6_pegNow 65 = .ok (.invokevirtual 163, 3) := by decide +kernel
theorem dX6_pegNow_68 : decode cX6_pegNow 68 = .ok (.ireturn, 1) := by decide +kernel
set_option maxRecDepth 20000 in
theorem ggX6_peg_X6_isPeg : GoodIn wsX6_peg wsX6_isPeg := goodIn_r _ [5, 6, 7, 8, 4, 9, 73, 74, 75, 76, 77, 78, 79, 80, 81, 82, 83, 84, 85, 86, 87, 88, 89, 90, 91, 92, 93, 94, 95, 96, 97, 98, 99, 100, 101, 102, 103, 104, 105, 106, 107, 108, 109, 110, 111, 112] (by decide +kernel) (by decide +kernel)
set_option maxRecDepth 20000 in
theorem gX6_peg_X6_isPeg : GoodIn wsX6_peg (wsV RX6 166 RX6 yX6_isPeg wsX6_isPeg) := goodIn_app (goodIn_of _ (by decide +kernel)) ggX6_peg_X6_isPeg
set_option maxRecDepth 20000 in
theorem ggX6_peg_X6_within : GoodIn wsX6_peg wsX6_within := goodIn_r _ [9] (by decide +kernel) (by decide +kernel)
set_option maxRecDepth 20000 in
theorem gX6_peg_X6_within : GoodIn wsX6_peg (va_wsS RX6 77 yX6_within wsX6_within) := goodIn_app (goodIn_of _ (by decide +kernel)) ggX6_peg_X6_within
set_option maxRecDepth 20000 in
theorem ggX6_peg_X6_pegNow : GoodIn wsX6_peg wsX6_pegNow := goodIn_r _ [13, 14, 15, 16, 17, 18, 4, 19, 20, 6, 21, 22, 23, 24, 25, 26, 27, 28, 29, 30, 31, 32, 33, 34, 35, 36, 37, 38, 39, 40, 41, 42, 43, 44, 45, 46, 47, 48, 49, 50, 51, 52, 53, 54, 55, 56, 57, 58, 59, 60, 61, 62, 63, 64, 65, 66, 67, 68, 69, 70, 71, 72, 73, 74, 75, 76, 77, 78, 79, 80, 81, 82, 83, 84, 85, 86, 87, 88, 89, 90, 91, 92, 93, 94, 95, 96, 97, 98, 99, 100, 101, 102, 103, 104, 105, 106, 107, 108, 109, 110, 111, 112] (by decide +kernel) (by decide +kernel)
set_option maxRecDepth 20000 in
theorem gX6_peg_X6_pegNow : GoodIn wsX6_peg (wsV RX6 170 RX6 yX6_pegNow wsX6_pegNow) := goodIn_app (goodIn_of _ (by decide +kernel)) ggX6_peg_X6_pegNow
theorem dX6_peg_0 : decode cX6_peg 0 = .ok (.aload_n 0, 1) := by decide +kernel
theorem dX6_peg_1 : decode cX6_peg 1 = .ok (.iload_n 1, 1) := by decide +kernel
theorem dX6_peg_2 : decode cX6_peg 2 = .ok (.invokevirtual 166, 3) := by decide +kernel
theorem dX6_peg_5 : decode cX6_peg 5 = .ok (.ifCond .ne 8, 3) := by decide +kernel
theorem dX6_peg_8 : decode cX6_peg 8 = .ok (.bipush (-101), 2) := by decide +kernel
theorem dX6_peg_10 : decode cX6_peg 10 = .ok (.goto 23, 3) := by decide +kernel
theorem dX6_peg_13 : decode cX6_peg 13 = .ok (.iload_n 2, 1) := by decide +kernel
theorem dX6_peg_14 : decode cX6_peg 14 = .ok (.iconst 0, 1) := by decide +kernel
theorem dX6_peg_15 : decode cX6_peg 15 = .ok (.iconst 4, 1) := by decide +kernel
theorem dX6_peg_16 : decode cX6_peg 16 = .ok (.invokestatic 77, 3) := by decide +kernel
theorem dX6_peg_19 : decode cX6_peg 19 = .ok (.ifCond .eq 12, 3) := by decide +kernel
theorem dX6_peg_22 : decode cX6_peg 22 = .ok (.aload_n 0, 1) := by decide +kernel
theorem dX6_peg_23 : decode cX6_peg 23 = .ok (.iload_n 1, 1) := by decide +kernel
theorem dX6_peg_24 : decode cX6_peg 24 = .ok (.iload_n 2, 1) := by decide +kernel
theorem dX6_peg_25 : decode cX6_peg 25 = .ok (.invokevirtual 170, 3) := by decide +kernel
theorem dX6_peg_28 : decode cX6_peg 28 = .ok (.goto 5, 3) := by decide +kernel
theorem dX6_peg_31 : decode cX6_peg 31 = .ok (.bipush (-102), 2) := by decide +kernel
theorem dX6_peg_33 : decode cX6_peg 33 = .ok (.ireturn, 1) := by decide +kernel
set_option maxRecDepth 20000 in
theorem ggX6_as_X6_isPeg : GoodIn wsX6_as wsX6_isPeg := goodIn_r _ [6, 7, 8, 9, 5, 10, 11, 12, 13, 14, 15, 16, 17, 18, 19, 20, 21, 22, 23, 24, 25, 26, 27, 28, 29, 30, 31, 32, 33, 34, 35, 36, 37, 38, 39, 40, 41, 42, 43, 44, 45, 46, 47, 48, 49, 50] (by decide +kernel) (by decide +kernel)
set_option maxRecDepth 20000 in
theorem gX6_as_X6_isPeg : GoodIn wsX6_as (wsV RX6 166 RX6 yX6_isPeg wsX6_isPeg) := goodIn_app (goodIn_of _ (by decide +kernel)) ggX6_as_X6_isPeg
set_option maxRecDepth 20000 in
theorem ggX6_as_X6_within : GoodIn wsX6_as wsX6_within := goodIn_r _ [10] (by decide +kernel) (by decide +kernel)
set_option maxRecDepth 20000 in
theorem gX6_as_X6_within : GoodIn wsX6_as (va_wsS RX6 77 yX6_within wsX6_within) := goodIn_app (goodIn_of _ (by decide +kernel)) ggX6_as_X6_within
theorem dX6_as_0 : decode cX6_as 0 = .ok (.aload_n 0, 1) := by decide +kernel
theorem dX6_as_1 : decode cX6_as 1 = .ok (.iload_n 1, 1) := by decide +kernel
theorem dX6_as_2 : decode cX6_as 2 = .ok (.invokevirtual 166, 3) := by decide +kernel
theorem dX6_as_5 : decode cX6_as 5 = .ok (.ifCond .ne 6, 3) := by decide +kernel
theorem dX6_as_8 : decode cX6_as 8 = .ok (.bipush (-101), 2) := by decide +kernel
theorem dX6_as_10 : decode cX6_as 10 = .ok (.ireturn, 1) := by decide +kernel
theorem dX6_as_11 : decode cX6_as 11 = .ok (.iload_n 2, 1) := by decide +kernel
theorem dX6_as_12 : decode cX6_as 12 = .ok (.iconst 0, 1) := by decide +kernel
theorem dX6_as_13 : decode cX6_as 13 = .ok (.iconst 4, 1) := by decide +kernel
theorem dX6_as_14 : decode cX6_as 14 = .ok (.invokestatic 77, 3) := by decide +kernel
theorem dX6_as_17 : decode cX6_as 17 = .ok (.ifCond .ne 6, 3) := by decide +kernel
theorem dX6_as_20 : decode cX6_as 20 = .ok (.bipush (-102), 2) := by decide +kernel
theorem dX6_as_22 : decode cX6_as 22 = .ok (.ireturn, 1) := by decide +kernel
theorem dX6_as_23 : decode cX6_as 23 = .ok (.aload_n 0, 1) := by decide +kernel
theorem dX6_as_24 : decode cX6_as 24 = .ok (.getfield 7, 3) := by decide +kernel
theorem dX6_as_27 : decode cX6_as 27 = .ok (.iload_n 1, 1) := by decide +kernel
theorem dX6_as_28 : decode cX6_as 28 = .ok (.iaload, 1) := by decide +kernel
theorem dX6_as_29 : decode cX6_as 29 = .ok (.istore_n 3, 1) := by decide +kernel
theorem dX6_as_30 : decode cX6_as 30 = .ok (.iload_n 2, 1) := by decide +kernel
theorem dX6_as_31 : decode cX6_as 31 = .ok (.ifCond .eq 18, 3) := by decide +kernel
theorem dX6_as_34 : decode cX6_as 34 = .ok (.iload_n 3, 1) := by decide +kernel
theorem dX6_as_35 : decode cX6_as 35 = .ok (.iload_n 2, 1) := by decide +kernel
theorem dX6_as_36 : decode cX6_as 36 = .ok (.if_icmp .eq 13, 3) := by decide +kernel
theorem dX6_as_39 : decode cX6_as 39 = .ok (.iload_n 2, 1) := by decide +kernel
theorem dX6_as_40 : decode cX6_as 40 = .ok (.iconst 1, 1) := by decide +kernel
theorem dX6_as_41 : decode cX6_as 41 = .ok (.if_icmp .ne 12, 3) := by decide +kernel
theorem dX6_as_44 : decode cX6_as 44 = .ok (.iload_n 3, 1) := by decide +kernel
theorem dX6_as_45 : decode cX6_as 45 = .ok (.iconst 4, 1) := by decide +kernel
theorem dX6_as_46 : decode cX6_as 46 = .ok (.if_icmp .ne 7, 3) := by decide +kernel
theorem dX6_as_49 : decode cX6_as 49 = .ok (.iload_n 1, 1) := by decide +kernel
theorem dX6_as_50 : decode cX6_as 50 = .ok (.goto 4, 3) := by decide +kernel
theorem dX6_as_53 : decode cX6_as 53 = .ok (.iconst (-1), 1) := by decide +kernel
theorem dX6_as_54 : decode cX6_as 54 = .ok (.ireturn, 1) := by decide +kernel
set_option maxRecDepth 20000 in
theorem ggX6_placeNow_X6_putDeep : GoodIn wsX6_placeNow wsX6_putDeep := goodIn_r _ [6, 7, 8, 9, 14, 15, 16, 17, 18, 19, 20, 21, 22, 23, 24, 25, 26, 27, 28, 29, 30, 31, 32, 33, 34, 35, 36, 37, 38, 39, 40, 41, 42, 43, 44, 45, 46, 47, 48, 49, 50, 51, 52, 53] (by decide +kernel) (by decide +kernel)
set_option maxRecDepth 20000 in
theorem gX6_placeNow_X6_putDeep : GoodIn wsX6_placeNow (wsV RX6 157 RX6 yX6_putDeep wsX6_putDeep) := goodIn_app (goodIn_of _ (by decide +kernel)) ggX6_placeNow_X6_putDeep
set_option maxRecDepth 20000 in
theorem ggX6_placeNow_X6_whoAt : GoodIn wsX6_placeNow wsX6_whoAt := goodIn_r _ [13, 8, 7, 14, 15, 16, 17, 18, 19, 20, 21, 22, 23, 24, 25, 26, 27, 28, 29, 30, 31, 32, 33, 34, 35, 36, 37, 38, 39, 40, 41, 42, 43, 44, 45, 46, 47, 48, 49, 50, 51, 52, 53] (by decide +kernel) (by decide +kernel)
set_option maxRecDepth 20000 in
theorem gX6_placeNow_X6_whoAt : GoodIn wsX6_placeNow (wsV RX6 134 RX6 yX6_whoAt wsX6_whoAt) := goodIn_app (goodIn_of _ (by decide +kernel)) ggX6_placeNow_X6_whoAt
theorem dX6_placeNow_0 : decode cX6_placeNow 0 = .ok (.aload_n 0, 1) := by decide +kernel
theorem dX6_placeNow_1 : decode cX6_placeNow 1 = .ok (.invokevirtual 157, 3) := by decide +kernel
theorem dX6_placeNow_4 : decode cX6_placeNow 4 = .ok (.iload_n 2, 1) := by decide +kernel
theorem dX6_placeNow_5 : decode cX6_placeNow 5 = .ok (.ifCond .ne 14, 3) := by decide +kernel
theorem dX6_placeNow_8 : decode cX6_placeNow 8 = .ok (.aload_n 0, 1) := by decide +kernel
theorem dX6_placeNow_9 : decode cX6_placeNow 9 = .ok (.getfield 112, 3) := by decide +kernel
theorem dX6_placeNow_12 : decode cX6_placeNow 12 = .ok (.iload_n 1, 1) := by decide +kernel
theorem dX6_placeNow_13 : decode cX6_placeNow 13 = .ok (.ishr, 1) := by decide +kernel
theorem dX6_placeNow_14 : decode cX6_placeNow 14 = .ok (.iconst 1, 1) := by decide +kernel
theorem dX6_placeNow_15 : decode cX6_placeNow 15 = .ok (.iand, 1) := by decide +kernel
theorem dX6_placeNow_16 : decode cX6_placeNow 16 = .ok (.goto 9, 3) := by decide +kernel
theorem dX6_placeNow_19 : decode cX6_placeNow 19 = .ok (.aload_n 0, 1) := by decide +kernel
theorem dX6_placeNow_20 : decode cX6_placeNow 20 = .ok (.iconst 0, 1) := by decide +kernel
theorem dX6_placeNow_21 : decode cX6_placeNow 21 = .ok (.iload_n 1, 1) := by decide +kernel
theorem dX6_placeNow_22 : decode cX6_placeNow 22 = .ok (.invokevirtual 134, 3) := by decide +kernel
theorem dX6_placeNow_25 : decode cX6_placeNow 25 = .ok (.ireturn, 1) := by decide +kernel
set_option maxRecDepth 20000 in
theorem ggX6_place_X6_isPlace : GoodIn wsX6_place wsX6_isPlace := goodIn_r _ [5, 6, 7, 8, 4, 9, 10, 11, 12, 13, 14, 31, 32, 33, 34, 35, 36, 37, 38, 39, 40, 41, 42, 43, 44, 45, 46, 47, 48, 49, 50, 51, 52, 53, 54, 55, 56, 57, 58, 59, 60, 61, 62, 63, 64, 65, 66, 67, 68, 69, 70] (by decide +kernel) (by decide +kernel)
set_option maxRecDepth 20000 in
theorem gX6_place_X6_isPlace : GoodIn wsX6_place (wsV RX6 173 RX6 yX6_isPlace wsX6_isPlace) := goodIn_app (goodIn_of _ (by decide +kernel)) ggX6_place_X6_isPlace
set_option maxRecDepth 20000 in
theorem ggX6_place_X6_within : GoodIn wsX6_place wsX6_within := goodIn_r _ [14] (by decide +kernel) (by decide +kernel)
set_option maxRecDepth 20000 in
theorem gX6_place_X6_within : GoodIn wsX6_place (va_wsS RX6 77 yX6_within wsX6_within) := goodIn_app (goodIn_of _ (by decide +kernel)) ggX6_place_X6_within
set_option maxRecDepth 20000 in
theorem ggX6_place_X6_placeNow : GoodIn wsX6_place wsX6_placeNow := goodIn_r _ [18, 19, 20, 21, 22, 4, 23, 24, 25, 26, 27, 28, 29, 30, 31, 32, 33, 34, 35, 36, 37, 38, 39, 40, 41, 42, 43, 44, 45, 46, 47, 48, 49, 50, 51, 52, 53, 54, 55, 56, 57, 58, 59, 60, 61, 62, 63, 64, 65, 66, 67, 68, 69, 70] (by decide +kernel) (by decide +kernel)
set_option maxRecDepth 20000 in
theorem gX6_place_X6_placeNow : GoodIn wsX6_place (wsV RX6 176 RX6 yX6_placeNow wsX6_placeNow) := goodIn_app (goodIn_of _ (by decide +kernel)) ggX6_place_X6_placeNow
theorem dX6_place_0 : decode cX6_place 0 = .ok (.aload_n 0, 1) := by decide +kernel
theorem dX6_place_1 : decode cX6_place 1 = .ok (.iload_n 1, 1) := by decide +kernel
theorem dX6_place_2 : decode cX6_place 2 = .ok (.invokevirtual 173, 3) := by decide +kernel
theorem dX6_place_5 : decode cX6_place 5 = .ok (.ifCond .ne 8, 3) := by decide +kernel
theorem dX6_place_8 : decode cX6_place 8 = .ok (.bipush (-101), 2) := by decide +kernel
theorem dX6_place_10 : decode cX6_place 10 = .ok (.goto 23, 3) := by decide +kernel
theorem dX6_place_13 : decode cX6_place 13 = .ok (.iload_n 2, 1) := by decide +kernel
theorem dX6_place_14 : decode cX6_place 14 = .ok (.iconst 0, 1) := by decide +kernel
theorem dX6_place_15 : decode cX6_place 15 = .ok (.iconst 1, 1) := by decide +kernel
theorem dX6_place_16 : decode cX6_place 16 = .ok (.invokestatic 77, 3) := by decide +kernel
theorem dX6_place_19 : decode cX6_place 19 = .ok (.ifCond .eq 12, 3) := by decide +kernel
theorem dX6_place_22 : decode cX6_place 22 = .ok (.aload_n 0, 1) := by decide +kernel
theorem dX6_place_23 : decode cX6_place 23 = .ok (.iload_n 1, 1) := by decide +kernel
theorem dX6_place_24 : decode cX6_place 24 = .ok (.iload_n 2, 1) := by decide +kernel
theorem dX6_place_25 : decode cX6_place 25 = .ok (.invokevirtual 176, 3) := by decide +kernel
theorem dX6_place_28 : decode cX6_place 28 = .ok (.goto 5, 3) := by decide +kernel
theorem dX6_place_31 : decode cX6_place 31 = .ok (.bipush (-102), 2) := by decide +kernel
theorem dX6_place_33 : decode cX6_place 33 = .ok (.ireturn, 1) := by decide +kernel
set_option maxRecDepth 20000 in
theorem ggX6_jump_X6_isPeg : GoodIn wsX6_jump wsX6_isPeg := goodIn_r _ [9, 2, 10, 11, 8, 12, 59, 60, 61, 62, 63, 64, 65, 66, 67, 68, 69, 70, 71, 72, 73, 74, 75, 76, 77, 78, 79, 80, 81, 82, 83, 84, 85, 86, 87, 88, 89, 90, 91, 92, 93, 94, 95, 96, 97, 98] (by decide +kernel) (by decide +kernel)
set_option maxRecDepth 20000 in
theorem gX6_jump_X6_isPeg : GoodIn wsX6_jump (wsV RX6 166 RX6 yX6_isPeg wsX6_isPeg) := goodIn_app (goodIn_of _ (by decide +kernel)) ggX6_jump_X6_isPeg
set_option maxRecDepth 20000 in
theorem ggX6_jump_X6_isPlace : GoodIn wsX6_jump wsX6_isPlace := goodIn_r _ [16, 17, 18, 19, 8, 20, 21, 22, 10, 11, 12, 59, 60, 61, 62, 63, 64, 65, 66, 67, 68, 69, 70, 71, 72, 73, 74, 75, 76, 77, 78, 79, 80, 81, 82, 83, 84, 85, 86, 87, 88, 89, 90, 91, 92, 93, 94, 95, 96, 97, 98] (by decide +kernel) (by decide +kernel)
set_option maxRecDepth 20000 in
theorem gX6_jump_X6_isPlace : GoodIn wsX6_jump (wsV RX6 173 RX6 yX6_isPlace wsX6_isPlace) := goodIn_app (goodIn_of _ (by decide +kernel)) ggX6_jump_X6_isPlace
set_option maxRecDepth 20000 in
theorem ggX6_jump_X6_putDeep : GoodIn wsX6_jump wsX6_putDeep := goodIn_r _ [26, 4, 2, 3, 59, 60, 61, 62, 63, 64, 65, 66, 67, 68, 69, 70, 71, 72, 73, 74, 75, 76, 77, 78, 79, 80, 81, 82, 83, 84, 85, 86, 87, 88, 89, 90, 91, 92, 93, 94, 95, 96, 97, 98] (by decide +kernel) (by decide +kernel)
set_option maxRecDepth 20000 in
theorem gX6_jump_X6_putDeep : GoodIn wsX6_jump (wsV RX6 157 RX6 yX6_putDeep wsX6_putDeep) := goodIn_app (goodIn_of _ (by decide +kernel)) ggX6_jump_X6_putDeep
set_option maxRecDepth 20000 in
theorem ggX6_jump_X6_isJump : GoodIn wsX6_jump wsX6_isJump := goodIn_r _ [30, 31, 32, 33, 8, 34, 4, 35, 36, 22, 37, 38, 39, 40, 41, 42, 43, 2, 44, 45, 46, 47, 48, 49, 50, 59, 60, 61, 62, 63, 64, 65, 66, 67, 68, 69, 70, 71, 72, 73, 74, 75, 76, 77, 78, 79, 80, 81, 82, 83, 84, 85, 86, 87, 88, 89, 90, 91, 92, 93, 94, 95, 96, 97, 98] (by decide +kernel) (by decide +kernel)
set_option maxRecDepth 20000 in
theorem gX6_jump_X6_isJump : GoodIn wsX6_jump (wsV RX6 148 RX6 yX6_isJump wsX6_isJump) := goodIn_app (goodIn_of _ (by decide +kernel)) ggX6_jump_X6_isJump
set_option maxRecDepth 20000 in
theorem ggX6_jump_X6_goDeep : GoodIn wsX6_jump wsX6_goDeep := goodIn_r _ [54, 4, 36, 31, 32, 33, 8, 34, 35, 22, 37, 38, 39, 40, 41, 42, 43, 2, 44, 45, 46, 47, 48, 49, 50, 59, 60, 61, 62, 63, 64, 65, 66, 67, 68, 69, 70, 71, 72, 73, 74, 75, 76, 77, 78, 79, 80, 81, 82, 83, 84, 85, 86, 87, 88, 89, 90, 91, 92, 93, 94, 95, 96, 97, 98] (by decide +kernel) (by decide +kernel)
set_option maxRecDepth 20000 in
theorem gX6_jump_X6_goDeep : GoodIn wsX6_jump (wsV RX6 179 RX6 yX6_goDeep wsX6_goDeep) := goodIn_app (goodIn_of _ (by decide +kernel)) ggX6_jump_X6_goDeep
set_option maxRecDepth 20000 in
theorem ggX6_jump_X6_onBoard : GoodIn wsX6_jump wsX6_onBoard := goodIn_r _ [58, 2, 4, 59, 60, 61, 62, 63, 64, 65, 66, 67, 68, 69, 70, 71, 72, 73, 74, 75, 76, 77, 78, 79, 80, 81, 82, 83, 84, 85, 86, 87, 88, 89, 90, 91, 92, 93, 94, 95, 96, 97, 98] (by decide +kernel) (by decide +kernel)
set_option maxRecDepth 20000 in
theorem gX6_jump_X6_onBoard : GoodIn wsX6_jump (wsV RX6 183 RX6 yX6_onBoard wsX6_onBoard) := goodIn_app (goodIn_of _ (by decide +kernel)) ggX6_jump_X6_onBoard
theorem dX6_jump_0 : decode cX6_jump 0 = .ok (.aload_n 0, 1) := by decide +kernel
theorem dX6_jump_1 : decode cX6_jump 1 = .ok (.iload_n 1, 1) := by decide +kernel
theorem dX6_jump_2 : decode cX6_jump 2 = .ok (.invokevirtual 166, 3) := by decide +kernel
theorem dX6_jump_5 : decode cX6_jump 5 = .ok (.ifCond .eq 11, 3) := by decide +kernel
theorem dX6_jump_8 : decode cX6_jump 8 = .ok (.aload_n 0, 1) := by decide +kernel
theorem dX6_jump_9 : decode cX6_jump 9 = .ok (.iload_n 2, 1) := by decide +kernel
theorem dX6_jump_10 : decode cX6_jump 10 = .ok (.invokevirtual 173, 3) := by decide +kernel
theorem dX6_jump_13 : decode cX6_jump 13 = .ok (.ifCond .ne 6, 3) := by decide +kernel
theorem dX6_jump_16 : decode cX6_jump 16 = .ok (.bipush (-101), 2) := by decide +kernel
theorem dX6_jump_18 : decode cX6_jump 18 = .ok (.ireturn, 1) := by decide +kernel
theorem dX6_jump_19 : decode cX6_jump 19 = .ok (.aload_n 0, 1) := by decide +kernel
theorem dX6_jump_20 : decode cX6_jump 20 = .ok (.invokevirtual 157, 3) := by decide +kernel
theorem dX6_jump_23 : decode cX6_jump 23 = .ok (.aload_n 0, 1) := by decide +kernel
theorem dX6_jump_24 : decode cX6_jump 24 = .ok (.iconst 0, 1) := by decide +kernel
theorem dX6_jump_25 : decode cX6_jump 25 = .ok (.iload_n 1, 1) := by decide +kernel
theorem dX6_jump_26 : decode cX6_jump 26 = .ok (.iload_n 2, 1) := by decide +kernel
theorem dX6_jump_27 : decode cX6_jump 27 = .ok (.invokevirtual 148, 3) := by decide +kernel
theorem dX6_jump_30 : decode cX6_jump 30 = .ok (.ifCond .ne 6, 3) := by decide +kernel
theorem dX6_jump_33 : decode cX6_jump 33 = .ok (.bipush (-103), 2) := by decide +kernel
theorem dX6_jump_35 : decode cX6_jump 35 = .ok (.ireturn, 1) := by decide +kernel
theorem dX6_jump_36 : decode cX6_jump 36 = .ok (.aload_n 0, 1) := by decide +kernel
theorem dX6_jump_37 : decode cX6_jump 37 = .ok (.getfield 121, 3) := by decide +kernel
theorem dX6_jump_40 : decode cX6_jump 40 = .ok (.sipush 999, 3) := by decide +kernel
theorem dX6_jump_43 : decode cX6_jump 43 = .ok (.if_icmp .ne 6, 3) := by decide +kernel
theorem dX6_jump_46 : decode cX6_jump 46 = .ok (.bipush (-104), 2) := by decide +kernel
theorem dX6_jump_48 : decode cX6_jump 48 = .ok (.ireturn, 1) := by decide +kernel
theorem dX6_jump_49 : decode cX6_jump 49 = .ok (.aload_n 0, 1) := by decide +kernel
theorem dX6_jump_50 : decode cX6_jump 50 = .ok (.iconst 0, 1) := by decide +kernel
theorem dX6_jump_51 : decode cX6_jump 51 = .ok (.iload_n 1, 1) := by decide +kernel
theorem dX6_jump_52 : decode cX6_jump 52 = .ok (.iload_n 2, 1) := by decide +kernel
theorem dX6_jump_53 : decode cX6_jump 53 = .ok (.invokevirtual 179, 3) := by decide +kernel
theorem dX6_jump_56 : decode cX6_jump 56 = .ok (.iconst 0, 1) := by decide +kernel
theorem dX6_jump_57 : decode cX6_jump 57 = .ok (.istore_n 3, 1) := by decide +kernel
theorem dX6_jump_58 : decode cX6_jump 58 = .ok (.iload_n 3, 1) := by decide +kernel
theorem dX6_jump_59 : decode cX6_jump 59 = .ok (.aload_n 0, 1) := by decide +kernel
theorem dX6_jump_60 : decode cX6_jump 60 = .ok (.getfield 115, 3) := by decide +kernel
theorem dX6_jump_63 : decode cX6_jump 63 = .ok (.if_icmp .ge 24, 3) := by decide +kernel
theorem dX6_jump_66 : decode cX6_jump 66 = .ok (.aload_n 0, 1) := by decide +kernel
theorem dX6_jump_67 : decode cX6_jump 67 = .ok (.getfield 13, 3) := by decide +kernel
theorem dX6_jump_70 : decode cX6_jump 70 = .ok (.iload_n 3, 1) := by decide +kernel
theorem dX6_jump_71 : decode cX6_jump 71 = .ok (.aload_n 0, 1) := by decide +kernel
theorem dX6_jump_72 : decode cX6_jump 72 = .ok (.getfield 29, 3) := by decide +kernel
theorem dX6_jump_75 : decode cX6_jump 75 = .ok (.bipush 8, 2) := by decide +kernel
theorem dX6_jump_77 : decode cX6_jump 77 = .ok (.iload_n 3, 1) := by decide +kernel
theorem dX6_jump_78 : decode cX6_jump 78 = .ok (.iadd, 1) := by decide +kernel
theorem dX6_jump_79 : decode cX6_jump 79 = .ok (.iaload, 1) := by decide +kernel
theorem dX6_jump_80 : decode cX6_jump 80 = .ok (.iastore, 1) := by decide +kernel
theorem dX6_jump_81 : decode cX6_jump 81 = .ok (.iinc 3 1, 3) := by decide +kernel
theorem dX6_jump_84 : decode cX6_jump 84 = .ok (.goto (-26), 3) := by decide +kernel
theorem dX6_jump_87 : decode cX6_jump 87 = .ok (.aload_n 0, 1) := by decide +kernel
theorem dX6_jump_88 : decode cX6_jump 88 = .ok (.dup, 1) := by decide +kernel
theorem dX6_jump_89 : decode cX6_jump 89 = .ok (.getfield 121, 3) := by decide +kernel
theorem dX6_jump_92 : decode cX6_jump 92 = .ok (.iconst 1, 1) := by decide +kernel
theorem dX6_jump_93 : decode cX6_jump 93 = .ok (.iadd, 1) := by decide +kernel
theorem dX6_jump_94 : decode cX6_jump 94 = .ok (.putfield 121, 3) := by decide +kernel
theorem dX6_jump_97 : decode cX6_jump 97 = .ok (.aload_n 0, 1) := by decide +kernel
theorem dX6_jump_98 : decode cX6_jump 98 = .ok (.iconst 1, 1) := by decide +kernel
theorem dX6_jump_99 : decode cX6_jump 99 = .ok (.invokevirtual 183, 3) := by decide +kernel
theorem dX6_jump_102 : decode cX6_jump 102 = .ok (.ireturn, 1) := by decide +kernel
set_option maxRecDepth 20000 in
theorem ggX6_isEmpty_X6_putDeep : GoodIn wsX6_isEmpty wsX6_putDeep := goodIn_r _ [6, 7, 8, 9, 17, 18, 19, 20, 21, 22, 23, 24, 25, 26, 27, 28, 29, 30, 31, 32, 33, 34, 35, 36, 37, 38, 39, 40, 41, 42, 43, 44, 45, 46, 47, 48, 49, 50, 51, 52, 53, 54, 55, 56] (by decide +kernel) (by decide +kernel)
set_option maxRecDepth 20000 in
theorem gX6_isEmpty_X6_putDeep : GoodIn wsX6_isEmpty (wsV RX6 157 RX6 yX6_putDeep wsX6_putDeep) := goodIn_app (goodIn_of _ (by decide +kernel)) ggX6_isEmpty_X6_putDeep
set_option maxRecDepth 20000 in
theorem ggX6_isEmpty_X6_isIn : GoodIn wsX6_isEmpty wsX6_isIn := goodIn_r _ [12] (by decide +kernel) (by decide +kernel)
set_option maxRecDepth 20000 in
theorem gX6_isEmpty_X6_isIn : GoodIn wsX6_isEmpty (va_wsS RX6 130 yX6_isIn wsX6_isIn) := goodIn_app (goodIn_of _ (by decide +kernel)) ggX6_isEmpty_X6_isIn
set_option maxRecDepth 20000 in
theorem ggX6_isEmpty_X6_whoAt : GoodIn wsX6_isEmpty wsX6_whoAt := goodIn_r _ [16, 8, 7, 17, 18, 19, 20, 21, 22, 23, 24, 25, 26, 27, 28, 29, 30, 31, 32, 33, 34, 35, 36, 37, 38, 39, 40, 41, 42, 43, 44, 45, 46, 47, 48, 49, 50, 51, 52, 53, 54, 55, 56] (by decide +kernel) (by decide +kernel)
set_option maxRecDepth 20000 in
theorem gX6_isEmpty_X6_whoAt : GoodIn wsX6_isEmpty (wsV RX6 134 RX6 yX6_whoAt wsX6_whoAt) := goodIn_app (goodIn_of _ (by decide +kernel)) ggX6_isEmpty_X6_whoAt
theorem dX6_isEmpty_0 : decode cX6_isEmpty 0 = .ok (.aload_n 0, 1) := by decide +kernel
theorem dX6_isEmpty_1 : decode cX6_isEmpty 1 = .ok (.invokevirtual 157, 3) := by decide +kernel
theorem dX6_isEmpty_4 : decode cX6_isEmpty 4 = .ok (.aload_n 0, 1) := by decide +kernel
theorem dX6_isEmpty_5 : decode cX6_isEmpty 5 = .ok (.getfield 112, 3) := by decide +kernel
theorem dX6_isEmpty_8 : decode cX6_isEmpty 8 = .ok (.iload_n 1, 1) := by decide +kernel
theorem dX6_isEmpty_9 : decode cX6_isEmpty 9 = .ok (.invokestatic 130, 3) := by decide +kernel
theorem dX6_isEmpty_12 : decode cX6_isEmpty 12 = .ok (.ifCond .eq 17, 3) := by decide +kernel
theorem dX6_isEmpty_15 : decode cX6_isEmpty 15 = .ok (.aload_n 0, 1) := by decide +kernel
theorem dX6_isEmpty_16 : decode cX6_isEmpty 16 = .ok (.iconst 0, 1) := by decide +kernel
theorem dX6_isEmpty_17 : decode cX6_isEmpty 17 = .ok (.iload_n 1, 1) := by decide +kernel
theorem dX6_isEmpty_18 : decode cX6_isEmpty 18 = .ok (.invokevirtual 134, 3) := by decide +kernel
theorem dX6_isEmpty_21 : decode cX6_isEmpty 21 = .ok (.iconst (-1), 1) := by decide +kernel
theorem dX6_isEmpty_22 : decode cX6_isEmpty 22 = .ok (.if_icmp .ne 7, 3) := by decide +kernel
theorem dX6_isEmpty_25 : decode cX6_isEmpty 25 = .ok (.iconst 1, 1) := by decide +kernel
theorem dX6_isEmpty_26 : decode cX6_isEmpty 26 = .ok (.goto 4, 3) := by decide +kernel
theorem dX6_isEmpty_29 : decode cX6_isEmpty 29 = .ok (.iconst 0, 1) := by decide +kernel
theorem dX6_isEmpty_30 : decode cX6_isEmpty 30 = .ok (.ireturn, 1) := by decide +kernel
set_option maxRecDepth 20000 in
theorem ggX6_put_X6_isPeg : GoodIn wsX6_put wsX6_isPeg := goodIn_r _ [6, 7, 8, 9, 5, 10, 42, 43, 44, 45, 46, 47, 48, 49, 50, 51, 52, 53, 54, 55, 56, 57, 58, 59, 60, 61, 62, 63, 64, 65, 66, 67, 68, 69, 70, 71, 72, 73, 74, 75, 76, 77, 78, 79, 80, 81] (by decide +kernel) (by decide +kernel)
set_option maxRecDepth 20000 in
theorem gX6_put_X6_isPeg : GoodIn wsX6_put (wsV RX6 166 RX6 yX6_isPeg wsX6_isPeg) := goodIn_app (goodIn_of _ (by decide +kernel)) ggX6_put_X6_isPeg
set_option maxRecDepth 20000 in
theorem ggX6_put_X6_isPlace : GoodIn wsX6_put wsX6_isPlace := goodIn_r _ [14, 15, 16, 17, 5, 18, 19, 20, 8, 9, 10, 42, 43, 44, 45, 46, 47, 48, 49, 50, 51, 52, 53, 54, 55, 56, 57, 58, 59, 60, 61, 62, 63, 64, 65, 66, 67, 68, 69, 70, 71, 72, 73, 74, 75, 76, 77, 78, 79, 80, 81] (by decide +kernel) (by decide +kernel)
set_option maxRecDepth 20000 in
theorem gX6_put_X6_isPlace : GoodIn wsX6_put (wsV RX6 173 RX6 yX6_isPlace wsX6_isPlace) := goodIn_app (goodIn_of _ (by decide +kernel)) ggX6_put_X6_isPlace
set_option maxRecDepth 20000 in
theorem ggX6_put_X6_isEmpty : GoodIn wsX6_put wsX6_isEmpty := goodIn_r _ [24, 25, 26, 27, 28, 5, 29, 30, 7, 1, 31, 32, 33, 34, 35, 36, 37, 42, 43, 44, 45, 46, 47, 48, 49, 50, 51, 52, 53, 54, 55, 56, 57, 58, 59, 60, 61, 62, 63, 64, 65, 66, 67, 68, 69, 70, 71, 72, 73, 74, 75, 76, 77, 78, 79, 80, 81] (by decide +kernel) (by decide +kernel)
set_option maxRecDepth 20000 in
theorem gX6_put_X6_isEmpty : GoodIn wsX6_put (wsV RX6 186 RX6 yX6_isEmpty wsX6_isEmpty) := goodIn_app (goodIn_of _ (by decide +kernel)) ggX6_put_X6_isEmpty
set_option maxRecDepth 20000 in
theorem ggX6_put_X6_putDeep : GoodIn wsX6_put wsX6_putDeep := goodIn_r _ [29, 30, 7, 1, 42, 43, 44, 45, 46, 47, 48, 49, 50, 51, 52, 53, 54, 55, 56, 57, 58, 59, 60, 61, 62, 63, 64, 65, 66, 67, 68, 69, 70, 71, 72, 73, 74, 75, 76, 77, 78, 79, 80, 81] (by decide +kernel) (by decide +kernel)
set_option maxRecDepth 20000 in
theorem gX6_put_X6_putDeep : GoodIn wsX6_put (wsV RX6 157 RX6 yX6_putDeep wsX6_putDeep) := goodIn_app (goodIn_of _ (by decide +kernel)) ggX6_put_X6_putDeep
set_option maxRecDepth 20000 in
theorem ggX6_put_X6_onBoard : GoodIn wsX6_put wsX6_onBoard := goodIn_r _ [41, 7, 30, 42, 43, 44, 45, 46, 47, 48, 49, 50, 51, 52, 53, 54, 55, 56, 57, 58, 59, 60, 61, 62, 63, 64, 65, 66, 67, 68, 69, 70, 71, 72, 73, 74, 75, 76, 77, 78, 79, 80, 81] (by decide +kernel) (by decide +kernel)
set_option maxRecDepth 20000 in
theorem gX6_put_X6_onBoard : GoodIn wsX6_put (wsV RX6 183 RX6 yX6_onBoard wsX6_onBoard) := goodIn_app (goodIn_of _ (by decide +kernel)) ggX6_put_X6_onBoard
theorem dX6_put_0 : decode cX6_put 0 = .ok (.aload_n 0, 1) := by decide +kernel
theorem dX6_put_1 : decode cX6_put 1 = .ok (.iload_n 1, 1) := by decide +kernel
theorem dX6_put_2 : decode cX6_put 2 = .ok (.invokevirtual 166, 3) := by decide +kernel
theorem dX6_put_5 : decode cX6_put 5 = .ok (.ifCond .eq 11, 3) := by decide +kernel
theorem dX6_put_8 : decode cX6_put 8 = .ok (.aload_n 0, 1) := by decide +kernel
theorem dX6_put_9 : decode cX6_put 9 = .ok (.iload_n 2, 1) := by decide +kernel
theorem dX6_put_10 : decode cX6_put 10 = .ok (.invokevirtual 173, 3) := by decide +kernel
theorem dX6_put_13 : decode cX6_put 13 = .ok (.ifCond .ne 6, 3) := by decide +kernel
theorem dX6_put_16 : decode cX6_put 16 = .ok (.bipush (-101), 2) := by decide +kernel
theorem dX6_put_18 : decode cX6_put 18 = .ok (.ireturn, 1) := by decide +kernel
theorem dX6_put_19 : decode cX6_put 19 = .ok (.aload_n 0, 1) := by decide +kernel
theorem dX6_put_20 : decode cX6_put 20 = .ok (.getfield 13, 3) := by decide +kernel
theorem dX6_put_23 : decode cX6_put 23 = .ok (.iload_n 1, 1) := by decide +kernel
theorem dX6_put_24 : decode cX6_put 24 = .ok (.iaload, 1) := by decide +kernel
theorem dX6_put_25 : decode cX6_put 25 = .ok (.iconst (-1), 1) := by decide +kernel
theorem dX6_put_26 : decode cX6_put 26 = .ok (.if_icmp .ne 11, 3) := by decide +kernel
theorem dX6_put_29 : decode cX6_put 29 = .ok (.aload_n 0, 1) := by decide +kernel
theorem dX6_put_30 : decode cX6_put 30 = .ok (.iload_n 2, 1) := by decide +kernel
theorem dX6_put_31 : decode cX6_put 31 = .ok (.invokevirtual 186, 3) := by decide +kernel
theorem dX6_put_34 : decode cX6_put 34 = .ok (.ifCond .ne 6, 3) := by decide +kernel
theorem dX6_put_37 : decode cX6_put 37 = .ok (.bipush (-103), 2) := by decide +kernel
theorem dX6_put_39 : decode cX6_put 39 = .ok (.ireturn, 1) := by decide +kernel
theorem dX6_put_40 : decode cX6_put 40 = .ok (.aload_n 0, 1) := by decide +kernel
theorem dX6_put_41 : decode cX6_put 41 = .ok (.getfield 13, 3) := by decide +kernel
theorem dX6_put_44 : decode cX6_put 44 = .ok (.iload_n 1, 1) := by decide +kernel
theorem dX6_put_45 : decode cX6_put 45 = .ok (.iload_n 2, 1) := by decide +kernel
theorem dX6_put_46 : decode cX6_put 46 = .ok (.iastore, 1) := by decide +kernel
theorem dX6_put_47 : decode cX6_put 47 = .ok (.aload_n 0, 1) := by decide +kernel
theorem dX6_put_48 : decode cX6_put 48 = .ok (.invokevirtual 157, 3) := by decide +kernel
theorem dX6_put_51 : decode cX6_put 51 = .ok (.aload_n 0, 1) := by decide +kernel
theorem dX6_put_52 : decode cX6_put 52 = .ok (.iconst 0, 1) := by decide +kernel
theorem dX6_put_53 : decode cX6_put 53 = .ok (.invokevirtual 183, 3) := by decide +kernel
theorem dX6_put_56 : decode cX6_put 56 = .ok (.ireturn, 1) := by decide +kernel
set_option maxRecDepth 20000 in
theorem ggX6_plug_X6_isPlace : GoodIn wsX6_plug wsX6_isPlace := goodIn_r _ [6, 7, 8, 9, 5, 10, 11, 12, 13, 14, 15, 37, 38, 39, 40, 41, 42, 43, 44, 45, 46, 47, 48, 49, 50, 51, 52, 53, 54, 55, 56, 57, 58, 59, 60, 61, 62, 63, 64, 65, 66, 67, 68, 69, 70, 71, 72, 73, 74, 75, 76] (by decide +kernel) (by decide +kernel)
set_option maxRecDepth 20000 in
theorem gX6_plug_X6_isPlace : GoodIn wsX6_plug (wsV RX6 173 RX6 yX6_isPlace wsX6_isPlace) := goodIn_app (goodIn_of _ (by decide +kernel)) ggX6_plug_X6_isPlace
set_option maxRecDepth 20000 in
theorem ggX6_plug_X6_isEmpty : GoodIn wsX6_plug wsX6_isEmpty := goodIn_r _ [19, 1, 20, 21, 22, 5, 23, 24, 25, 26, 27, 28, 29, 30, 31, 32, 33, 37, 38, 39, 40, 41, 42, 43, 44, 45, 46, 47, 48, 49, 50, 51, 52, 53, 54, 55, 56, 57, 58, 59, 60, 61, 62, 63, 64, 65, 66, 67, 68, 69, 70, 71, 72, 73, 74, 75, 76] (by decide +kernel) (by decide +kernel)
set_option maxRecDepth 20000 in
theorem gX6_plug_X6_isEmpty : GoodIn wsX6_plug (wsV RX6 186 RX6 yX6_isEmpty wsX6_isEmpty) := goodIn_app (goodIn_of _ (by decide +kernel)) ggX6_plug_X6_isEmpty
set_option maxRecDepth 20000 in
theorem ggX6_plug_X6_size : GoodIn wsX6_plug wsX6_size := goodIn_r _ [36] (by decide +kernel) (by decide +kernel)
set_option maxRecDepth 20000 in
theorem gX6_plug_X6_size : GoodIn wsX6_plug (va_wsS RX6 154 yX6_size wsX6_size) := goodIn_app (goodIn_of _ (by decide +kernel)) ggX6_plug_X6_size
theorem dX6_plug_0 : decode cX6_plug 0 = .ok (.aload_n 0, 1) := by decide +kernel
theorem dX6_plug_1 : decode cX6_plug 1 = .ok (.iload_n 1, 1) := by decide +kernel
theorem dX6_plug_2 : decode cX6_plug 2 = .ok (.invokevirtual 173, 3) := by decide +kernel
theorem dX6_plug_5 : decode cX6_plug 5 = .ok (.ifCond .ne 6, 3) := by decide +kernel
theorem dX6_plug_8 : decode cX6_plug 8 = .ok (.bipush (-101), 2) := by decide +kernel
theorem dX6_plug_10 : decode cX6_plug 10 = .ok (.ireturn, 1) := by decide +kernel
theorem dX6_plug_11 : decode cX6_plug 11 = .ok (.aload_n 0, 1) := by decide +kernel
theorem dX6_plug_12 : decode cX6_plug 12 = .ok (.iload_n 1, 1) := by decide +kernel
theorem dX6_plug_13 : decode cX6_plug 13 = .ok (.invokevirtual 186, 3) := by decide +kernel
theorem dX6_plug_16 : decode cX6_plug 16 = .ok (.ifCond .ne 6, 3) := by decide +kernel
theorem dX6_plug_19 : decode cX6_plug 19 = .ok (.bipush (-103), 2) := by decide +kernel
theorem dX6_plug_21 : decode cX6_plug 21 = .ok (.ireturn, 1) := by decide +kernel
theorem dX6_plug_22 : decode cX6_plug 22 = .ok (.aload_n 0, 1) := by decide +kernel
theorem dX6_plug_23 : decode cX6_plug 23 = .ok (.dup, 1) := by decide +kernel
theorem dX6_plug_24 : decode cX6_plug 24 = .ok (.getfield 112, 3) := by decide +kernel
theorem dX6_plug_27 : decode cX6_plug 27 = .ok (.iconst 1, 1) := by decide +kernel
theorem dX6_plug_28 : decode cX6_plug 28 = .ok (.iload_n 1, 1) := by decide +kernel
theorem dX6_plug_29 : decode cX6_plug 29 = .ok (.ishl, 1) := by decide +kernel
theorem dX6_plug_30 : decode cX6_plug 30 = .ok (.iconst (-1), 1) := by decide +kernel
theorem dX6_plug_31 : decode cX6_plug 31 = .ok (.ixor, 1) := by decide +kernel
theorem dX6_plug_32 : decode cX6_plug 32 = .ok (.iand, 1) := by decide +kernel
theorem dX6_plug_33 : decode cX6_plug 33 = .ok (.putfield 112, 3) := by decide +kernel
theorem dX6_plug_36 : decode cX6_plug 36 = .ok (.aload_n 0, 1) := by decide +kernel
theorem dX6_plug_37 : decode cX6_plug 37 = .ok (.getfield 112, 3) := by decide +kernel
theorem dX6_plug_40 : decode cX6_plug 40 = .ok (.invokestatic 154, 3) := by decide +kernel
theorem dX6_plug_43 : decode cX6_plug 43 = .ok (.ireturn, 1) := by decide +kernel
set_option maxRecDepth 20000 in
theorem ggX6_bore_X6_isPlace : GoodIn wsX6_bore wsX6_isPlace := goodIn_r _ [6, 7, 8, 9, 5, 10, 11, 12, 13, 14, 15, 22, 23, 24, 25, 26, 27, 28, 29, 30, 31, 32, 33, 34, 35, 36, 37, 38, 39, 40, 41, 42, 43, 44, 45, 46, 47, 48, 49, 50, 51, 52, 53, 54, 55, 56, 57, 58, 59, 60, 61] (by decide +kernel) (by decide +kernel)
set_option maxRecDepth 20000 in
theorem gX6_bore_X6_isPlace : GoodIn wsX6_bore (wsV RX6 173 RX6 yX6_isPlace wsX6_isPlace) := goodIn_app (goodIn_of _ (by decide +kernel)) ggX6_bore_X6_isPlace
set_option maxRecDepth 20000 in
theorem ggX6_bore_X6_isIn : GoodIn wsX6_bore wsX6_isIn := goodIn_r _ [18] (by decide +kernel) (by decide +kernel)
set_option maxRecDepth 20000 in
theorem gX6_bore_X6_isIn : GoodIn wsX6_bore (va_wsS RX6 130 yX6_isIn wsX6_isIn) := goodIn_app (goodIn_of _ (by decide +kernel)) ggX6_bore_X6_isIn
set_option maxRecDepth 20000 in
theorem ggX6_bore_X6_size : GoodIn wsX6_bore wsX6_size := goodIn_r _ [21] (by decide +kernel) (by decide +kernel)
set_option maxRecDepth 20000 in
theorem gX6_bore_X6_size : GoodIn wsX6_bore (va_wsS RX6 154 yX6_size wsX6_size) := goodIn_app (goodIn_of _ (by decide +kernel)) ggX6_bore_X6_size
theorem dX6_bore_0 : decode cX6_bore 0 = .ok (.aload_n 0, 1) := by decide +kernel
theorem dX6_bore_1 : decode cX6_bore 1 = .ok (.iload_n 1, 1) := by decide +kernel
theorem dX6_bore_2 : decode cX6_bore 2 = .ok (.invokevirtual 173, 3) := by decide +kernel
theorem dX6_bore_5 : decode cX6_bore 5 = .ok (.ifCond .ne 6, 3) := by decide +kernel
theorem dX6_bore_8 : decode cX6_bore 8 = .ok (.bipush (-101), 2) := by decide +kernel
theorem dX6_bore_10 : decode cX6_bore 10 = .ok (.ireturn, 1) := by decide +kernel
theorem dX6_bore_11 : decode cX6_bore 11 = .ok (.aload_n 0, 1) := by decide +kernel
theorem dX6_bore_12 : decode cX6_bore 12 = .ok (.getfield 112, 3) := by decide +kernel
theorem dX6_bore_15 : decode cX6_bore 15 = .ok (.iload_n 1, 1) := by decide +kernel
theorem dX6_bore_16 : decode cX6_bore 16 = .ok (.invokestatic 130, 3) := by decide +kernel
theorem dX6_bore_19 : decode cX6_bore 19 = .ok (.ifCond .eq 6, 3) := by decide +kernel
theorem dX6_bore_22 : decode cX6_bore 22 = .ok (.bipush (-103), 2) := by decide +kernel
theorem dX6_bore_24 : decode cX6_bore 24 = .ok (.ireturn, 1) := by decide +kernel
theorem dX6_bore_25 : decode cX6_bore 25 = .ok (.aload_n 0, 1) := by decide +kernel
theorem dX6_bore_26 : decode cX6_bore 26 = .ok (.dup, 1) := by decide +kernel
theorem dX6_bore_27 : decode cX6_bore 27 = .ok (.getfield 112, 3) := by decide +kernel
theorem dX6_bore_30 : decode cX6_bore 30 = .ok (.iconst 1, 1) := by decide +kernel
theorem dX6_bore_31 : decode cX6_bore 31 = .ok (.iload_n 1, 1) := by decide +kernel
theorem dX6_bore_32 : decode cX6_bore 32 = .ok (.ishl, 1) := by decide +kernel
theorem dX6_bore_33 : decode cX6_bore 33 = .ok (.ior, 1) := by decide +kernel
theorem dX6_bore_34 : decode cX6_bore 34 = .ok (.putfield 112, 3) := by decide +kernel
theorem dX6_bore_37 : decode cX6_bore 37 = .ok (.aload_n 0, 1) := by decide +kernel
theorem dX6_bore_38 : decode cX6_bore 38 = .ok (.getfield 112, 3) := by decide +kernel
theorem dX6_bore_41 : decode cX6_bore 41 = .ok (.invokestatic 154, 3) := by decide +kernel
theorem dX6_bore_44 : decode cX6_bore 44 = .ok (.ireturn, 1) := by decide +kernel
set_option maxRecDepth 20000 in
theorem ggX6_be_X6_isPeg : GoodIn wsX6_be wsX6_isPeg := goodIn_r _ [6, 7, 8, 9, 5, 10, 11, 12, 13, 14, 15, 16, 17, 18, 19, 20, 21, 22, 23, 24, 25, 26, 27, 28, 29, 30, 31, 32, 33, 34, 35, 36, 37, 38, 39, 40, 41, 42, 43, 44, 45, 46, 47, 48, 49, 50] (by decide +kernel) (by decide +kernel)
set_option maxRecDepth 20000 in
theorem gX6_be_X6_isPeg : GoodIn wsX6_be (wsV RX6 166 RX6 yX6_isPeg wsX6_isPeg) := goodIn_app (goodIn_of _ (by decide +kernel)) ggX6_be_X6_isPeg
set_option maxRecDepth 20000 in
theorem ggX6_be_X6_within : GoodIn wsX6_be wsX6_within := goodIn_r _ [10] (by decide +kernel) (by decide +kernel)
set_option maxRecDepth 20000 in
theorem gX6_be_X6_within : GoodIn wsX6_be (va_wsS RX6 77 yX6_within wsX6_within) := goodIn_app (goodIn_of _ (by decide +kernel)) ggX6_be_X6_within
theorem dX6_be_0 : decode cX6_be 0 = .ok (.aload_n 0, 1) := by decide +kernel
theorem dX6_be_1 : decode cX6_be 1 = .ok (.iload_n 1, 1) := by decide +kernel
theorem dX6_be_2 : decode cX6_be 2 = .ok (.invokevirtual 166, 3) := by decide +kernel
theorem dX6_be_5 : decode cX6_be 5 = .ok (.ifCond .ne 6, 3) := by decide +kernel
theorem dX6_be_8 : decode cX6_be 8 = .ok (.bipush (-101), 2) := by decide +kernel
theorem dX6_be_10 : decode cX6_be 10 = .ok (.ireturn, 1) := by decide +kernel
theorem dX6_be_11 : decode cX6_be 11 = .ok (.iload_n 2, 1) := by decide +kernel
theorem dX6_be_12 : decode cX6_be 12 = .ok (.iconst 0, 1) := by decide +kernel
theorem dX6_be_13 : decode cX6_be 13 = .ok (.iconst 4, 1) := by decide +kernel
theorem dX6_be_14 : decode cX6_be 14 = .ok (.invokestatic 77, 3) := by decide +kernel
theorem dX6_be_17 : decode cX6_be 17 = .ok (.ifCond .ne 6, 3) := by decide +kernel
theorem dX6_be_20 : decode cX6_be 20 = .ok (.bipush (-102), 2) := by decide +kernel
theorem dX6_be_22 : decode cX6_be 22 = .ok (.ireturn, 1) := by decide +kernel
theorem dX6_be_23 : decode cX6_be 23 = .ok (.aload_n 0, 1) := by decide +kernel
theorem dX6_be_24 : decode cX6_be 24 = .ok (.getfield 7, 3) := by decide +kernel
theorem dX6_be_27 : decode cX6_be 27 = .ok (.iload_n 1, 1) := by decide +kernel
theorem dX6_be_28 : decode cX6_be 28 = .ok (.iaload, 1) := by decide +kernel
theorem dX6_be_29 : decode cX6_be 29 = .ok (.istore_n 3, 1) := by decide +kernel
theorem dX6_be_30 : decode cX6_be 30 = .ok (.aload_n 0, 1) := by decide +kernel
theorem dX6_be_31 : decode cX6_be 31 = .ok (.getfield 7, 3) := by decide +kernel
theorem dX6_be_34 : decode cX6_be 34 = .ok (.iload_n 1, 1) := by decide +kernel
theorem dX6_be_35 : decode cX6_be 35 = .ok (.iload_n 2, 1) := by decide +kernel
theorem dX6_be_36 : decode cX6_be 36 = .ok (.iastore, 1) := by decide +kernel
theorem dX6_be_37 : decode cX6_be 37 = .ok (.iload_n 3, 1) := by decide +kernel
theorem dX6_be_38 : decode cX6_be 38 = .ok (.ireturn, 1) := by decide +kernel
theorem dX6_begin_0 : decode cX6_begin 0 = .ok (.aload_n 0, 1) := by decide +kernel
theorem dX6_begin_1 : decode cX6_begin 1 = .ok (.getfield 32, 3) := by decide +kernel
theorem dX6_begin_4 : decode cX6_begin 4 = .ok (.iload_n 1, 1) := by decide +kernel
theorem dX6_begin_5 : decode cX6_begin 5 = .ok (.iconst 0, 1) := by decide +kernel
theorem dX6_begin_6 : decode cX6_begin 6 = .ok (.iastore, 1) := by decide +kernel
theorem dX6_begin_7 : decode cX6_begin 7 = .ok (.aload_n 0, 1) := by decide +kernel
theorem dX6_begin_8 : decode cX6_begin 8 = .ok (.getfield 35, 3) := by decide +kernel
theorem dX6_begin_11 : decode cX6_begin 11 = .ok (.iload_n 1, 1) := by decide +kernel
theorem dX6_begin_12 : decode cX6_begin 12 = .ok (.iconst 0, 1) := by decide +kernel
theorem dX6_begin_13 : decode cX6_begin 13 = .ok (.iastore, 1) := by decide +kernel
theorem dX6_begin_14 : decode cX6_begin 14 = .ok (.aload_n 0, 1) := by decide +kernel
theorem dX6_begin_15 : decode cX6_begin 15 = .ok (.getfield 38, 3) := by decide +kernel
theorem dX6_begin_18 : decode cX6_begin 18 = .ok (.iload_n 1, 1) := by decide +kernel
theorem dX6_begin_19 : decode cX6_begin 19 = .ok (.iconst 0, 1) := by decide +kernel
theorem dX6_begin_20 : decode cX6_begin 20 = .ok (.iastore, 1) := by decide +kernel
theorem dX6_begin_21 : decode cX6_begin 21 = .ok (.aload_n 0, 1) := by decide +kernel
theorem dX6_begin_22 : decode cX6_begin 22 = .ok (.getfield 41, 3) := by decide +kernel
theorem dX6_begin_25 : decode cX6_begin 25 = .ok (.iload_n 1, 1) := by decide +kernel
theorem dX6_begin_26 : decode cX6_begin 26 = .ok (.ldc 189, 2) := by decide +kernel
theorem dX6_begin_28 : decode cX6_begin 28 = .ok (.iastore, 1) := by decide +kernel
theorem dX6_begin_29 : decode cX6_begin 29 = .ok (.aload_n 0, 1) := by decide +kernel
theorem dX6_begin_30 : decode cX6_begin 30 = .ok (.getfield 44, 3) := by decide +kernel
theorem dX6_begin_33 : decode cX6_begin 33 = .ok (.iload_n 1, 1) := by decide +kernel
theorem dX6_begin_34 : decode cX6_begin 34 = .ok (.iconst (-1), 1) := by decide +kernel
theorem dX6_begin_35 : decode cX6_begin 35 = .ok (.iastore, 1) := by decide +kernel
theorem dX6_begin_36 : decode cX6_begin 36 = .ok (.aload_n 0, 1) := by decide +kernel
theorem dX6_begin_37 : decode cX6_begin 37 = .ok (.getfield 47, 3) := by decide +kernel
theorem dX6_begin_40 : decode cX6_begin 40 = .ok (.iload_n 1, 1) := by decide +kernel
theorem dX6_begin_41 : decode cX6_begin 41 = .ok (.iconst (-1), 1) := by decide +kernel
theorem dX6_begin_42 : decode cX6_begin 42 = .ok (.iastore, 1) := by decide +kernel
theorem dX6_begin_43 : decode cX6_begin 43 = .ok (.aload_n 0, 1) := by decide +kernel
theorem dX6_begin_44 : decode cX6_begin 44 = .ok (.getfield 50, 3) := by decide +kernel
theorem dX6_begin_47 : decode cX6_begin 47 = .ok (.iload_n 1, 1) := by decide +kernel
theorem dX6_begin_48 : decode cX6_begin 48 = .ok (.ldc 189, 2) := by decide +kernel
theorem dX6_begin_50 : decode cX6_begin 50 = .ok (.iastore, 1) := by decide +kernel
theorem dX6_begin_51 : decode cX6_begin 51 = .ok (.aload_n 0, 1) := by decide +kernel
theorem dX6_begin_52 : decode cX6_begin 52 = .ok (.getfield 53, 3) := by decide +kernel
theorem dX6_begin_55 : decode cX6_begin 55 = .ok (.iload_n 1, 1) := by decide +kernel
theorem dX6_begin_56 : decode cX6_begin 56 = .ok (.iconst 0, 1) := by decide +kernel
theorem dX6_begin_57 : decode cX6_begin 57 = .ok (.iastore, 1) := by decide +kernel
theorem dX6_begin_58 : decode cX6_begin 58 = .ok (.aload_n 0, 1) := by decide +kernel
theorem dX6_begin_59 : decode cX6_begin 59 = .ok (.getfield 56, 3) := by decide +kernel
theorem dX6_begin_62 : decode cX6_begin 62 = .ok (.iload_n 1, 1) := by decide +kernel
theorem dX6_begin_63 : decode cX6_begin 63 = .ok (.iconst (-1), 1) := by decide +kernel
theorem dX6_begin_64 : decode cX6_begin 64 = .ok (.iastore, 1) := by decide +kernel
theorem dX6_begin_65 : decode cX6_begin 65 = .ok (.aload_n 0, 1) := by decide +kernel
theorem dX6_begin_66 : decode cX6_begin 66 = .ok (.getfield 59, 3) := by decide +kernel
theorem dX6_begin_69 : decode cX6_begin 69 = .ok (.iload_n 1, 1) := by decide +kernel
theorem dX6_begin_70 : decode cX6_begin 70 = .ok (.iconst 0, 1) := by decide +kernel
theorem dX6_begin_71 : decode cX6_begin 71 = .ok (.iastore, 1) := by decide +kernel
theorem dX6_begin_72 : decode cX6_begin 72 = .ok (.return_, 1) := by decide +kernel
set_option maxRecDepth 20000 in
theorem ggX6_nextCode_X6_places : GoodIn wsX6_nextCode wsX6_places := goodIn_r _ [7, 8, 9, 35, 36, 37, 38, 39, 40, 41, 42, 43, 44, 45, 46, 47, 48, 49, 50, 51, 52, 53, 54, 55, 56, 57, 58, 59, 60, 61, 62, 63, 64, 65, 66, 67, 68, 69, 70, 71, 72, 73, 74] (by decide +kernel) (by decide +kernel)
set_option maxRecDepth 20000 in
theorem gX6_nextCode_X6_places : GoodIn wsX6_nextCode (wsV RX6 118 RX6 yX6_places wsX6_places) := goodIn_app (goodIn_of _ (by decide +kernel)) ggX6_nextCode_X6_places
set_option maxRecDepth 20000 in
theorem ggX6_nextCode_X6_isJump : GoodIn wsX6_nextCode wsX6_isJump := goodIn_r _ [13, 14, 15, 16, 6, 17, 18, 19, 20, 9, 21, 22, 23, 24, 25, 26, 27, 2, 28, 29, 30, 31, 32, 33, 34, 35, 36, 37, 38, 39, 40, 41, 42, 43, 44, 45, 46, 47, 48, 49, 50, 51, 52, 53, 54, 55, 56, 57, 58, 59, 60, 61, 62, 63, 64, 65, 66, 67, 68, 69, 70, 71, 72, 73, 74] (by decide +kernel) (by decide +kernel)
set_option maxRecDepth 20000 in
theorem gX6_nextCode_X6_isJump : GoodIn wsX6_nextCode (wsV RX6 148 RX6 yX6_isJump wsX6_isJump) := goodIn_app (goodIn_of _ (by decide +kernel)) ggX6_nextCode_X6_isJump
theorem dX6_nextCode_0 : decode cX6_nextCode 0 = .ok (.aload_n 0, 1) := by decide +kernel
theorem dX6_nextCode_1 : decode cX6_nextCode 1 = .ok (.getfield 32, 3) := by decide +kernel
theorem dX6_nextCode_4 : decode cX6_nextCode 4 = .ok (.iload_n 1, 1) := by decide +kernel
theorem dX6_nextCode_5 : decode cX6_nextCode 5 = .ok (.iaload, 1) := by decide +kernel
theorem dX6_nextCode_6 : decode cX6_nextCode 6 = .ok (.istore_n 2, 1) := by decide +kernel
theorem dX6_nextCode_7 : decode cX6_nextCode 7 = .ok (.iload_n 2, 1) := by decide +kernel
theorem dX6_nextCode_8 : decode cX6_nextCode 8 = .ok (.bipush 96, 2) := by decide +kernel
theorem dX6_nextCode_10 : decode cX6_nextCode 10 = .ok (.if_icmp .ge 47, 3) := by decide +kernel
theorem dX6_nextCode_13 : decode cX6_nextCode 13 = .ok (.iload_n 2, 1) := by decide +kernel
theorem dX6_nextCode_14 : decode cX6_nextCode 14 = .ok (.bipush 12, 2) := by decide +kernel
theorem dX6_nextCode_16 : decode cX6_nextCode 16 = .ok (.irem, 1) := by decide +kernel
theorem dX6_nextCode_17 : decode cX6_nextCode 17 = .ok (.aload_n 0, 1) := by decide +kernel
theorem dX6_nextCode_18 : decode cX6_nextCode 18 = .ok (.invokevirtual 118, 3) := by decide +kernel
theorem dX6_nextCode_21 : decode cX6_nextCode 21 = .ok (.if_icmp .ge 30, 3) := by decide +kernel
theorem dX6_nextCode_24 : decode cX6_nextCode 24 = .ok (.iload_n 2, 1) := by decide +kernel
theorem dX6_nextCode_25 : decode cX6_nextCode 25 = .ok (.bipush 12, 2) := by decide +kernel
theorem dX6_nextCode_27 : decode cX6_nextCode 27 = .ok (.idiv, 1) := by decide +kernel
theorem dX6_nextCode_28 : decode cX6_nextCode 28 = .ok (.aload_n 0, 1) := by decide +kernel
theorem dX6_nextCode_29 : decode cX6_nextCode 29 = .ok (.getfield 115, 3) := by decide +kernel
theorem dX6_nextCode_32 : decode cX6_nextCode 32 = .ok (.if_icmp .ge 19, 3) := by decide +kernel
theorem dX6_nextCode_35 : decode cX6_nextCode 35 = .ok (.aload_n 0, 1) := by decide +kernel
theorem dX6_nextCode_36 : decode cX6_nextCode 36 = .ok (.iload_n 1, 1) := by decide +kernel
theorem dX6_nextCode_37 : decode cX6_nextCode 37 = .ok (.iload_n 2, 1) := by decide +kernel
theorem dX6_nextCode_38 : decode cX6_nextCode 38 = .ok (.bipush 12, 2) := by decide +kernel
theorem dX6_nextCode_40 : decode cX6_nextCode 40 = .ok (.idiv, 1) := by decide +kernel
theorem dX6_nextCode_41 : decode cX6_nextCode 41 = .ok (.iload_n 2, 1) := by decide +kernel
theorem dX6_nextCode_42 : decode cX6_nextCode 42 = .ok (.bipush 12, 2) := by decide +kernel
theorem dX6_nextCode_44 : decode cX6_nextCode 44 = .ok (.irem, 1) := by decide +kernel
theorem dX6_nextCode_45 : decode cX6_nextCode 45 = .ok (.invokevirtual 148, 3) := by decide +kernel
theorem dX6_nextCode_48 : decode cX6_nextCode 48 = .ok (.ifCond .ne 9, 3) := by decide +kernel
theorem dX6_nextCode_51 : decode cX6_nextCode 51 = .ok (.iinc 2 1, 3) := by decide +kernel
theorem dX6_nextCode_54 : decode cX6_nextCode 54 = .ok (.goto (-47), 3) := by decide +kernel
theorem dX6_nextCode_57 : decode cX6_nextCode 57 = .ok (.aload_n 0, 1) := by decide +kernel
theorem dX6_nextCode_58 : decode cX6_nextCode 58 = .ok (.getfield 32, 3) := by decide +kernel
theorem dX6_nextCode_61 : decode cX6_nextCode 61 = .ok (.iload_n 1, 1) := by decide +kernel
theorem dX6_nextCode_62 : decode cX6_nextCode 62 = .ok (.iload_n 2, 1) := by decide +kernel
theorem dX6_nextCode_63 : decode cX6_nextCode 63 = .ok (.iconst 1, 1) := by decide +kernel
theorem dX6_nextCode_64 : decode cX6_nextCode 64 = .ok (.iadd, 1) := by decide +kernel
theorem dX6_nextCode_65 : decode cX6_nextCode 65 = .ok (.iastore, 1) := by decide +kernel
theorem dX6_nextCode_66 : decode cX6_nextCode 66 = .ok (.iload_n 2, 1) := by decide +kernel
theorem dX6_nextCode_67 : decode cX6_nextCode 67 = .ok (.bipush 96, 2) := by decide +kernel
theorem dX6_nextCode_69 : decode cX6_nextCode 69 = .ok (.if_icmp .ge 7, 3) := by decide +kernel
theorem dX6_nextCode_72 : decode cX6_nextCode 72 = .ok (.iload_n 2, 1) := by decide +kernel
theorem dX6_nextCode_73 : decode cX6_nextCode 73 = .ok (.goto 4, 3) := by decide +kernel
theorem dX6_nextCode_76 : decode cX6_nextCode 76 = .ok (.iconst (-1), 1) := by decide +kernel
theorem dX6_nextCode_77 : decode cX6_nextCode 77 = .ok (.ireturn, 1) := by decide +kernel
theorem dX6_lastPlace_0 : decode cX6_lastPlace 0 = .ok (.iconst 0, 1) := by decide +kernel
theorem dX6_lastPlace_1 : decode cX6_lastPlace 1 = .ok (.istore_n 2, 1) := by decide +kernel
theorem dX6_lastPlace_2 : decode cX6_lastPlace 2 = .ok (.iconst 0, 1) := by decide +kernel
theorem dX6_lastPlace_3 : decode cX6_lastPlace 3 = .ok (.istore_n 3, 1) := by decide +kernel
theorem dX6_lastPlace_4 : decode cX6_lastPlace 4 = .ok (.iload_n 3, 1) := by decide +kernel
theorem dX6_lastPlace_5 : decode cX6_lastPlace 5 = .ok (.aload_n 0, 1) := by decide +kernel
theorem dX6_lastPlace_6 : decode cX6_lastPlace 6 = .ok (.getfield 115, 3) := by decide +kernel
theorem dX6_lastPlace_9 : decode cX6_lastPlace 9 = .ok (.if_icmp .ge 44, 3) := by decide +kernel
theorem dX6_lastPlace_12 : decode cX6_lastPlace 12 = .ok (.iload_n 2, 1) := by decide +kernel
theorem dX6_lastPlace_13 : decode cX6_lastPlace 13 = .ok (.aload_n 0, 1) := by decide +kernel
theorem dX6_lastPlace_14 : decode cX6_lastPlace 14 = .ok (.getfield 29, 3) := by decide +kernel
theorem dX6_lastPlace_17 : decode cX6_lastPlace 17 = .ok (.bipush 8, 2) := by decide +kernel
theorem dX6_lastPlace_19 : decode cX6_lastPlace 19 = .ok (.iload_n 1, 1) := by decide +kernel
theorem dX6_lastPlace_20 : decode cX6_lastPlace 20 = .ok (.imul, 1) := by decide +kernel
theorem dX6_lastPlace_21 : decode cX6_lastPlace 21 = .ok (.iload_n 3, 1) := by decide +kernel
theorem dX6_lastPlace_22 : decode cX6_lastPlace 22 = .ok (.iadd, 1) := by decide +kernel
theorem dX6_lastPlace_23 : decode cX6_lastPlace 23 = .ok (.iaload, 1) := by decide +kernel
theorem dX6_lastPlace_24 : decode cX6_lastPlace 24 = .ok (.iconst (-1), 1) := by decide +kernel
theorem dX6_lastPlace_25 : decode cX6_lastPlace 25 = .ok (.if_icmp .ne 7, 3) := by decide +kernel
theorem dX6_lastPlace_28 : decode cX6_lastPlace 28 = .ok (.iconst 0, 1) := by decide +kernel
theorem dX6_lastPlace_29 : decode cX6_lastPlace 29 = .ok (.goto 16, 3) := by decide +kernel
theorem dX6_lastPlace_32 : decode cX6_lastPlace 32 = .ok (.iconst 1, 1) := by decide +kernel
theorem dX6_lastPlace_33 : decode cX6_lastPlace 33 = .ok (.aload_n 0, 1) := by decide +kernel
theorem dX6_lastPlace_34 : decode cX6_lastPlace 34 = .ok (.getfield 29, 3) := by decide +kernel
theorem dX6_lastPlace_37 : decode cX6_lastPlace 37 = .ok (.bipush 8, 2) := by decide +kernel
theorem dX6_lastPlace_39 : decode cX6_lastPlace 39 = .ok (.iload_n 1, 1) := by decide +kernel
theorem dX6_lastPlace_40 : decode cX6_lastPlace 40 = .ok (.imul, 1) := by decide +kernel
theorem dX6_lastPlace_41 : decode cX6_lastPlace 41 = .ok (.iload_n 3, 1) := by decide +kernel
theorem dX6_lastPlace_42 : decode cX6_lastPlace 42 = .ok (.iadd, 1) := by decide +kernel
theorem dX6_lastPlace_43 : decode cX6_lastPlace 43 = .ok (.iaload, 1) := by decide +kernel
theorem dX6_lastPlace_44 : decode cX6_lastPlace 44 = .ok (.ishl, 1) := by decide +kernel
theorem dX6_lastPlace_45 : decode cX6_lastPlace 45 = .ok (.ior, 1) := by decide +kernel
theorem dX6_lastPlace_46 : decode cX6_lastPlace 46 = .ok (.istore_n 2, 1) := by decide +kernel
theorem dX6_lastPlace_47 : decode cX6_lastPlace 47 = .ok (.iinc 3 1, 3) := by decide +kernel
theorem dX6_lastPlace_50 : decode cX6_lastPlace 50 = .ok (.goto (-46), 3) := by decide +kernel
theorem dX6_lastPlace_53 : decode cX6_lastPlace 53 = .ok (.iload_n 2, 1) := by decide +kernel
theorem dX6_lastPlace_54 : decode cX6_lastPlace 54 = .ok (.ireturn, 1) := by decide +kernel
set_option maxRecDepth 20000 in
theorem ggX6_end_X6_onBoard : GoodIn wsX6_end wsX6_onBoard := goodIn_r _ [12, 13, 14, 19, 20, 21, 22, 23, 24, 25, 26, 27, 28, 29, 30, 31, 32, 33, 34, 35, 36, 37, 38, 39, 40, 41, 42, 43, 44, 45, 46, 47, 48, 49, 50, 51, 52, 53, 54, 55, 56, 57, 58] (by decide +kernel) (by decide +kernel)
set_option maxRecDepth 20000 in
theorem gX6_end_X6_onBoard : GoodIn wsX6_end (wsV RX6 183 RX6 yX6_onBoard wsX6_onBoard) := goodIn_app (goodIn_of _ (by decide +kernel)) ggX6_end_X6_onBoard
set_option maxRecDepth 20000 in
theorem ggX6_end_X6_lastPlace : GoodIn wsX6_end wsX6_lastPlace := goodIn_r _ [18, 13, 14, 19, 20, 21, 22, 23, 24, 25, 26, 27, 28, 29, 30, 31, 32, 33, 34, 35, 36, 37, 38, 39, 40, 41, 42, 43, 44, 45, 46, 47, 48, 49, 50, 51, 52, 53, 54, 55, 56, 57, 58] (by decide +kernel) (by decide +kernel)
set_option maxRecDepth 20000 in
theorem gX6_end_X6_lastPlace : GoodIn wsX6_end (wsV RX6 190 RX6 yX6_lastPlace wsX6_lastPlace) := goodIn_app (goodIn_of _ (by decide +kernel)) ggX6_end_X6_lastPlace
theorem dX6_end_0 : decode cX6_end 0 = .ok (.aload_n 0, 1) := by decide +kernel
theorem dX6_end_1 : decode cX6_end 1 = .ok (.iload_n 1, 1) := by decide +kernel
theorem dX6_end_2 : decode cX6_end 2 = .ok (.invokevirtual 183, 3) := by decide +kernel
theorem dX6_end_5 : decode cX6_end 5 = .ok (.istore_n 2, 1) := by decide +kernel
theorem dX6_end_6 : decode cX6_end 6 = .ok (.aload_n 0, 1) := by decide +kernel
theorem dX6_end_7 : decode cX6_end 7 = .ok (.getfield 38, 3) := by decide +kernel
theorem dX6_end_10 : decode cX6_end 10 = .ok (.iload_n 1, 1) := by decide +kernel
theorem dX6_end_11 : decode cX6_end 11 = .ok (.iconst 1, 1) := by decide +kernel
theorem dX6_end_12 : decode cX6_end 12 = .ok (.iastore, 1) := by decide +kernel
theorem dX6_end_13 : decode cX6_end 13 = .ok (.aload_n 0, 1) := by decide +kernel
theorem dX6_end_14 : decode cX6_end 14 = .ok (.getfield 41, 3) := by decide +kernel
theorem dX6_end_17 : decode cX6_end 17 = .ok (.iload_n 1, 1) := by decide +kernel
theorem dX6_end_18 : decode cX6_end 18 = .ok (.iload_n 2, 1) := by decide +kernel
theorem dX6_end_19 : decode cX6_end 19 = .ok (.iastore, 1) := by decide +kernel
theorem dX6_end_20 : decode cX6_end 20 = .ok (.aload_n 0, 1) := by decide +kernel
theorem dX6_end_21 : decode cX6_end 21 = .ok (.getfield 47, 3) := by decide +kernel
theorem dX6_end_24 : decode cX6_end 24 = .ok (.iload_n 1, 1) := by decide +kernel
theorem dX6_end_25 : decode cX6_end 25 = .ok (.iconst 0, 1) := by decide +kernel
theorem dX6_end_26 : decode cX6_end 26 = .ok (.iastore, 1) := by decide +kernel
theorem dX6_end_27 : decode cX6_end 27 = .ok (.aload_n 0, 1) := by decide +kernel
theorem dX6_end_28 : decode cX6_end 28 = .ok (.getfield 50, 3) := by decide +kernel
theorem dX6_end_31 : decode cX6_end 31 = .ok (.iload_n 1, 1) := by decide +kernel
theorem dX6_end_32 : decode cX6_end 32 = .ok (.iconst 0, 1) := by decide +kernel
theorem dX6_end_33 : decode cX6_end 33 = .ok (.iastore, 1) := by decide +kernel
theorem dX6_end_34 : decode cX6_end 34 = .ok (.aload_n 0, 1) := by decide +kernel
theorem dX6_end_35 : decode cX6_end 35 = .ok (.getfield 53, 3) := by decide +kernel
theorem dX6_end_38 : decode cX6_end 38 = .ok (.iload_n 1, 1) := by decide +kernel
theorem dX6_end_39 : decode cX6_end 39 = .ok (.iload_n 2, 1) := by decide +kernel
theorem dX6_end_40 : decode cX6_end 40 = .ok (.iconst 1, 1) := by decide +kernel
theorem dX6_end_41 : decode cX6_end 41 = .ok (.if_icmp .ne 11, 3) := by decide +kernel
theorem dX6_end_44 : decode cX6_end 44 = .ok (.aload_n 0, 1) := by decide +kernel
theorem dX6_end_45 : decode cX6_end 45 = .ok (.iload_n 1, 1) := by decide +kernel
theorem dX6_end_46 : decode cX6_end 46 = .ok (.invokevirtual 190, 3) := by decide +kernel
theorem dX6_end_49 : decode cX6_end 49 = .ok (.goto 4, 3) := by decide +kernel
theorem dX6_end_52 : decode cX6_end 52 = .ok (.iconst 0, 1) := by decide +kernel
theorem dX6_end_53 : decode cX6_end 53 = .ok (.iastore, 1) := by decide +kernel
theorem dX6_end_54 : decode cX6_end 54 = .ok (.aload_n 0, 1) := by decide +kernel
theorem dX6_end_55 : decode cX6_end 55 = .ok (.getfield 59, 3) := by decide +kernel
theorem dX6_end_58 : decode cX6_end 58 = .ok (.iload_n 1, 1) := by decide +kernel
theorem dX6_end_59 : decode cX6_end 59 = .ok (.sipush 1000, 3) := by decide +kernel
theorem dX6_end_62 : decode cX6_end 62 = .ok (.iload_n 2, 1) := by decide +kernel
theorem dX6_end_63 : decode cX6_end 63 = .ok (.imul, 1) := by decide +kernel
theorem dX6_end_64 : decode cX6_end 64 = .ok (.iastore, 1) := by decide +kernel
theorem dX6_end_65 : decode cX6_end 65 = .ok (.aload_n 0, 1) := by decide +kernel
theorem dX6_end_66 : decode cX6_end 66 = .ok (.getfield 35, 3) := by decide +kernel
theorem dX6_end_69 : decode cX6_end 69 = .ok (.iload_n 1, 1) := by decide +kernel
theorem dX6_end_70 : decode cX6_end 70 = .ok (.iconst 1, 1) := by decide +kernel
theorem dX6_end_71 : decode cX6_end 71 = .ok (.iastore, 1) := by decide +kernel
theorem dX6_end_72 : decode cX6_end 72 = .ok (.return_, 1) := by decide +kernel
theorem dX6_takeUp_0 : decode cX6_takeUp 0 = .ok (.iload_n 1, 1) := by decide +kernel
theorem dX6_takeUp_1 : decode cX6_takeUp 1 = .ok (.iconst 1, 1) := by decide +kernel
theorem dX6_takeUp_2 : decode cX6_takeUp 2 = .ok (.iadd, 1) := by decide +kernel
theorem dX6_takeUp_3 : decode cX6_takeUp 3 = .ok (.istore_n 3, 1) := by decide +kernel
theorem dX6_takeUp_4 : decode cX6_takeUp 4 = .ok (.bipush 100, 2) := by decide +kernel
theorem dX6_takeUp_6 : decode cX6_takeUp 6 = .ok (.iload_n 2, 1) := by decide +kernel
theorem dX6_takeUp_7 : decode cX6_takeUp 7 = .ok (.bipush 12, 2) := by decide +kernel
theorem dX6_takeUp_9 : decode cX6_takeUp 9 = .ok (.idiv, 1) := by decide +kernel
theorem dX6_takeUp_10 : decode cX6_takeUp 10 = .ok (.imul, 1) := by decide +kernel
theorem dX6_takeUp_11 : decode cX6_takeUp 11 = .ok (.iload_n 2, 1) := by decide +kernel
theorem dX6_takeUp_12 : decode cX6_takeUp 12 = .ok (.bipush 12, 2) := by decide +kernel
theorem dX6_takeUp_14 : decode cX6_takeUp 14 = .ok (.irem, 1) := by decide +kernel
theorem dX6_takeUp_15 : decode cX6_takeUp 15 = .ok (.iadd, 1) := by decide +kernel
theorem dX6_takeUp_16 : decode cX6_takeUp 16 = .ok (.istore 4, 2) := by decide +kernel
theorem dX6_takeUp_18 : decode cX6_takeUp 18 = .ok (.aload_n 0, 1) := by decide +kernel
theorem dX6_takeUp_19 : decode cX6_takeUp 19 = .ok (.getfield 35, 3) := by decide +kernel
theorem dX6_takeUp_22 : decode cX6_takeUp 22 = .ok (.iload_n 1, 1) := by decide +kernel
theorem dX6_takeUp_23 : decode cX6_takeUp 23 = .ok (.dup2, 1) := by decide +kernel
theorem dX6_takeUp_24 : decode cX6_takeUp 24 = .ok (.iaload, 1) := by decide +kernel
theorem dX6_takeUp_25 : decode cX6_takeUp 25 = .ok (.iconst 1, 1) := by decide +kernel
theorem dX6_takeUp_26 : decode cX6_takeUp 26 = .ok (.iadd, 1) := by decide +kernel
theorem dX6_takeUp_27 : decode cX6_takeUp 27 = .ok (.iastore, 1) := by decide +kernel
theorem dX6_takeUp_28 : decode cX6_takeUp 28 = .ok (.aload_n 0, 1) := by decide +kernel
theorem dX6_takeUp_29 : decode cX6_takeUp 29 = .ok (.getfield 38, 3) := by decide +kernel
theorem dX6_takeUp_32 : decode cX6_takeUp 32 = .ok (.iload_n 1, 1) := by decide +kernel
theorem dX6_takeUp_33 : decode cX6_takeUp 33 = .ok (.dup2, 1) := by decide +kernel
theorem dX6_takeUp_34 : decode cX6_takeUp 34 = .ok (.iaload, 1) := by decide +kernel
theorem dX6_takeUp_35 : decode cX6_takeUp 35 = .ok (.aload_n 0, 1) := by decide +kernel
theorem dX6_takeUp_36 : decode cX6_takeUp 36 = .ok (.getfield 38, 3) := by decide +kernel
theorem dX6_takeUp_39 : decode cX6_takeUp 39 = .ok (.iload_n 3, 1) := by decide +kernel
theorem dX6_takeUp_40 : decode cX6_takeUp 40 = .ok (.iaload, 1) := by decide +kernel
theorem dX6_takeUp_41 : decode cX6_takeUp 41 = .ok (.iadd, 1) := by decide +kernel
theorem dX6_takeUp_42 : decode cX6_takeUp 42 = .ok (.iastore, 1) := by decide +kernel
theorem dX6_takeUp_43 : decode cX6_takeUp 43 = .ok (.aload_n 0, 1) := by decide +kernel
theorem dX6_takeUp_44 : decode cX6_takeUp 44 = .ok (.getfield 44, 3) := by decide +kernel
theorem dX6_takeUp_47 : decode cX6_takeUp 47 = .ok (.iload_n 1, 1) := by decide +kernel
theorem dX6_takeUp_48 : decode cX6_takeUp 48 = .ok (.aload_n 0, 1) := by decide +kernel
theorem dX6_takeUp_49 : decode cX6_takeUp 49 = .ok (.getfield 41, 3) := by decide +kernel
theorem dX6_takeUp_52 : decode cX6_takeUp 52 = .ok (.iload_n 3, 1) := by decide +kernel
theorem dX6_takeUp_53 : decode cX6_takeUp 53 = .ok (.iaload, 1) := by decide +kernel
theorem dX6_takeUp_54 : decode cX6_takeUp 54 = .ok (.aload_n 0, 1) := by decide +kernel
theorem dX6_takeUp_55 : decode cX6_takeUp 55 = .ok (.getfield 41, 3) := by decide +kernel
theorem dX6_takeUp_58 : decode cX6_takeUp 58 = .ok (.iload_n 1, 1) := by decide +kernel
theorem dX6_takeUp_59 : decode cX6_takeUp 59 = .ok (.iaload, 1) := by decide +kernel
theorem dX6_takeUp_60 : decode cX6_takeUp 60 = .ok (.if_icmp .ge 8, 3) := by decide +kernel
theorem dX6_takeUp_63 : decode cX6_takeUp 63 = .ok (.iload 4, 2) := by decide +kernel
theorem dX6_takeUp_65 : decode cX6_takeUp 65 = .ok (.goto 9, 3) := by decide +kernel
theorem dX6_takeUp_68 : decode cX6_takeUp 68 = .ok (.aload_n 0, 1) := by decide +kernel
theorem dX6_takeUp_69 : decode cX6_takeUp 69 = .ok (.getfield 44, 3) := by decide +kernel
theorem dX6_takeUp_72 : decode cX6_takeUp 72 = .ok (.iload_n 1, 1) := by decide +kernel
theorem dX6_takeUp_73 : decode cX6_takeUp 73 = .ok (.iaload, 1) := by decide +kernel
theorem dX6_takeUp_74 : decode cX6_takeUp 74 = .ok (.iastore, 1) := by decide +kernel
theorem dX6_takeUp_75 : decode cX6_takeUp 75 = .ok (.aload_n 0, 1) := by decide +kernel
theorem dX6_takeUp_76 : decode cX6_takeUp 76 = .ok (.getfield 41, 3) := by decide +kernel
theorem dX6_takeUp_79 : decode cX6_takeUp 79 = .ok (.iload_n 1, 1) := by decide +kernel
theorem dX6_takeUp_80 : decode cX6_takeUp 80 = .ok (.aload_n 0, 1) := by decide +kernel
theorem dX6_takeUp_81 : decode cX6_takeUp 81 = .ok (.getfield 41, 3) := by decide +kernel
theorem dX6_takeUp_84 : decode cX6_takeUp 84 = .ok (.iload_n 3, 1) := by decide +kernel
theorem dX6_takeUp_85 : decode cX6_takeUp 85 = .ok (.iaload, 1) := by decide +kernel
theorem dX6_takeUp_86 : decode cX6_takeUp 86 = .ok (.aload_n 0, 1) := by decide +kernel
theorem dX6_takeUp_87 : decode cX6_takeUp 87 = .ok (.getfield 41, 3) := by decide +kernel
theorem dX6_takeUp_90 : decode cX6_takeUp 90 = .ok (.iload_n 1, 1) := by decide +kernel
theorem dX6_takeUp_91 : decode cX6_takeUp 91 = .ok (.iaload, 1) := by decide +kernel
theorem dX6_takeUp_92 : decode cX6_takeUp 92 = .ok (.if_icmp .ge 12, 3) := by decide +kernel
theorem dX6_takeUp_95 : decode cX6_takeUp 95 = .ok (.aload_n 0, 1) := by decide +kernel
theorem dX6_takeUp_96 : decode cX6_takeUp 96 = .ok (.getfield 41, 3) := by decide +kernel
theorem dX6_takeUp_99 : decode cX6_takeUp 99 = .ok (.iload_n 3, 1) := by decide +kernel
theorem dX6_takeUp_100 : decode cX6_takeUp 100 = .ok (.iaload, 1) := by decide +kernel
theorem dX6_takeUp_101 : decode cX6_takeUp 101 = .ok (.goto 9, 3) := by decide +kernel
theorem dX6_takeUp_104 : decode cX6_takeUp 104 = .ok (.aload_n 0, 1) := by decide +kernel
theorem dX6_takeUp_105 : decode cX6_takeUp 105 = .ok (.getfield 41, 3) := by decide +kernel
theorem dX6_takeUp_108 : decode cX6_takeUp 108 = .ok (.iload_n 1, 1) := by decide +kernel
theorem dX6_takeUp_109 : decode cX6_takeUp 109 = .ok (.iaload, 1) := by decide +kernel
theorem dX6_takeUp_110 : decode cX6_takeUp 110 = .ok (.iastore, 1) := by decide +kernel
theorem dX6_takeUp_111 : decode cX6_takeUp 111 = .ok (.aload_n 0, 1) := by decide +kernel
theorem dX6_takeUp_112 : decode cX6_takeUp 112 = .ok (.getfield 47, 3) := by decide +kernel
theorem dX6_takeUp_115 : decode cX6_takeUp 115 = .ok (.iload_n 1, 1) := by decide +kernel
theorem dX6_takeUp_116 : decode cX6_takeUp 116 = .ok (.aload_n 0, 1) := by decide +kernel
theorem dX6_takeUp_117 : decode cX6_takeUp 117 = .ok (.getfield 47, 3) := by decide +kernel
theorem dX6_takeUp_120 : decode cX6_takeUp 120 = .ok (.iload_n 3, 1) := by decide +kernel
theorem dX6_takeUp_121 : decode cX6_takeUp 121 = .ok (.iaload, 1) := by decide +kernel
theorem dX6_takeUp_122 : decode cX6_takeUp 122 = .ok (.iconst 1, 1) := by decide +kernel
theorem dX6_takeUp_123 : decode cX6_takeUp 123 = .ok (.iadd, 1) := by decide +kernel
theorem dX6_takeUp_124 : decode cX6_takeUp 124 = .ok (.aload_n 0, 1) := by decide +kernel
theorem dX6_takeUp_125 : decode cX6_takeUp 125 = .ok (.getfield 47, 3) := by decide +kernel
theorem dX6_takeUp_128 : decode cX6_takeUp 128 = .ok (.iload_n 1, 1) := by decide +kernel
theorem dX6_takeUp_129 : decode cX6_takeUp 129 = .ok (.iaload, 1) := by decide +kernel
theorem dX6_takeUp_130 : decode cX6_takeUp 130 = .ok (.if_icmp .le 14, 3) := by decide +kernel
theorem dX6_takeUp_133 : decode cX6_takeUp 133 = .ok (.aload_n 0, 1) := by decide +kernel
theorem dX6_takeUp_134 : decode cX6_takeUp 134 = .ok (.getfield 47, 3) := by decide +kernel
theorem dX6_takeUp_137 : decode cX6_takeUp 137 = .ok (.iload_n 3, 1) := by decide +kernel
theorem dX6_takeUp_138 : decode cX6_takeUp 138 = .ok (.iaload, 1) := by decide +kernel
theorem dX6_takeUp_139 : decode cX6_takeUp 139 = .ok (.iconst 1, 1) := by decide +kernel
theorem dX6_takeUp_140 : decode cX6_takeUp 140 = .ok (.iadd, 1) := by decide +kernel
theorem dX6_takeUp_141 : decode cX6_takeUp 141 = .ok (.goto 9, 3) := by decide +kernel
theorem dX6_takeUp_144 : decode cX6_takeUp 144 = .ok (.aload_n 0, 1) := by decide +kernel
theorem dX6_takeUp_145 : decode cX6_takeUp 145 = .ok (.getfield 47, 3) := by decide +kernel
theorem dX6_takeUp_148 : decode cX6_takeUp 148 = .ok (.iload_n 1, 1) := by decide +kernel
theorem dX6_takeUp_149 : decode cX6_takeUp 149 = .ok (.iaload, 1) := by decide +kernel
theorem dX6_takeUp_150 : decode cX6_takeUp 150 = .ok (.iastore, 1) := by decide +kernel
theorem dX6_takeUp_151 : decode cX6_takeUp 151 = .ok (.aload_n 0, 1) := by decide +kernel
theorem dX6_takeUp_152 : decode cX6_takeUp 152 = .ok (.getfield 50, 3) := by decide +kernel
theorem dX6_takeUp_155 : decode cX6_takeUp 155 = .ok (.iload_n 1, 1) := by decide +kernel
theorem dX6_takeUp_156 : decode cX6_takeUp 156 = .ok (.aload_n 0, 1) := by decide +kernel
theorem dX6_takeUp_157 : decode cX6_takeUp 157 = .ok (.getfield 50, 3) := by decide +kernel
theorem dX6_takeUp_160 : decode cX6_takeUp 160 = .ok (.iload_n 3, 1) := by decide +kernel
theorem dX6_takeUp_161 : decode cX6_takeUp 161 = .ok (.iaload, 1) := by decide +kernel
theorem dX6_takeUp_162 : decode cX6_takeUp 162 = .ok (.iconst 1, 1) := by decide +kernel
theorem dX6_takeUp_163 : decode cX6_takeUp 163 = .ok (.iadd, 1) := by decide +kernel
theorem dX6_takeUp_164 : decode cX6_takeUp 164 = .ok (.aload_n 0, 1) := by decide +kernel
theorem dX6_takeUp_165 : decode cX6_takeUp 165 = .ok (.getfield 50, 3) := by decide +kernel
theorem dX6_takeUp_168 : decode cX6_takeUp 168 = .ok (.iload_n 1, 1) := by decide +kernel
theorem dX6_takeUp_169 : decode cX6_takeUp 169 = .ok (.iaload, 1) := by decide +kernel
theorem dX6_takeUp_170 : decode cX6_takeUp 170 = .ok (.if_icmp .ge 14, 3) := by decide +kernel
theorem dX6_takeUp_173 : decode cX6_takeUp 173 = .ok (.aload_n 0, 1) := by decide +kernel
theorem dX6_takeUp_174 : decode cX6_takeUp 174 = .ok (.getfield 50, 3) := by decide +kernel
theorem dX6_takeUp_177 : decode cX6_takeUp 177 = .ok (.iload_n 3, 1) := by decide +kernel
theorem dX6_takeUp_178 : decode cX6_takeUp 178 = .ok (.iaload, 1) := by decide +kernel
theorem dX6_takeUp_179 : decode cX6_takeUp 179 = .ok (.iconst 1, 1) := by decide +kernel
theorem dX6_takeUp_180 : decode cX6_takeUp 180 = .ok (.iadd, 1) := by decide +kernel
theorem dX6_takeUp_181 : decode cX6_takeUp 181 = .ok (.goto 9, 3) := by decide +kernel
theorem dX6_takeUp_184 : decode cX6_takeUp 184 = .ok (.aload_n 0, 1) := by decide +kernel
theorem dX6_takeUp_185 : decode cX6_takeUp 185 = .ok (.getfield 50, 3) := by decide +kernel
theorem dX6_takeUp_188 : decode cX6_takeUp 188 = .ok (.iload_n 1, 1) := by decide +kernel
theorem dX6_takeUp_189 : decode cX6_takeUp 189 = .ok (.iaload, 1) := by decide +kernel
theorem dX6_takeUp_190 : decode cX6_takeUp 190 = .ok (.iastore, 1) := by decide +kernel
theorem dX6_takeUp_191 : decode cX6_takeUp 191 = .ok (.aload_n 0, 1) := by decide +kernel
theorem dX6_takeUp_192 : decode cX6_takeUp 192 = .ok (.getfield 53, 3) := by decide +kernel
theorem dX6_takeUp_195 : decode cX6_takeUp 195 = .ok (.iload_n 1, 1) := by decide +kernel
theorem dX6_takeUp_196 : decode cX6_takeUp 196 = .ok (.dup2, 1) := by decide +kernel
theorem dX6_takeUp_197 : decode cX6_takeUp 197 = .ok (.iaload, 1) := by decide +kernel
theorem dX6_takeUp_198 : decode cX6_takeUp 198 = .ok (.aload_n 0, 1) := by decide +kernel
theorem dX6_takeUp_199 : decode cX6_takeUp 199 = .ok (.getfield 53, 3) := by decide +kernel
theorem dX6_takeUp_202 : decode cX6_takeUp 202 = .ok (.iload_n 3, 1) := by decide +kernel
theorem dX6_takeUp_203 : decode cX6_takeUp 203 = .ok (.iaload, 1) := by decide +kernel
theorem dX6_takeUp_204 : decode cX6_takeUp 204 = .ok (.ior, 1) := by decide +kernel
theorem dX6_takeUp_205 : decode cX6_takeUp 205 = .ok (.iastore, 1) := by decide +kernel
theorem dX6_takeUp_206 : decode cX6_takeUp 206 = .ok (.aload_n 0, 1) := by decide +kernel
theorem dX6_takeUp_207 : decode cX6_takeUp 207 = .ok (.getfield 56, 3) := by decide +kernel
theorem dX6_takeUp_210 : decode cX6_takeUp 210 = .ok (.iload_n 1, 1) := by decide +kernel
theorem dX6_takeUp_211 : decode cX6_takeUp 211 = .ok (.aload_n 0, 1) := by decide +kernel
theorem dX6_takeUp_212 : decode cX6_takeUp 212 = .ok (.getfield 56, 3) := by decide +kernel
theorem dX6_takeUp_215 : decode cX6_takeUp 215 = .ok (.iload_n 3, 1) := by decide +kernel
theorem dX6_takeUp_216 : decode cX6_takeUp 216 = .ok (.iaload, 1) := by decide +kernel
theorem dX6_takeUp_217 : decode cX6_takeUp 217 = .ok (.iconst (-1), 1) := by decide +kernel
theorem dX6_takeUp_218 : decode cX6_takeUp 218 = .ok (.if_icmp .ne 18, 3) := by decide +kernel
theorem dX6_takeUp_221 : decode cX6_takeUp 221 = .ok (.aload_n 0, 1) := by decide +kernel
theorem dX6_takeUp_222 : decode cX6_takeUp 222 = .ok (.getfield 56, 3) := by decide +kernel
theorem dX6_takeUp_225 : decode cX6_takeUp 225 = .ok (.iload_n 1, 1) := by decide +kernel
theorem dX6_takeUp_226 : decode cX6_takeUp 226 = .ok (.iaload, 1) := by decide +kernel
theorem dX6_takeUp_227 : decode cX6_takeUp 227 = .ok (.iconst (-1), 1) := by decide +kernel
theorem dX6_takeUp_228 : decode cX6_takeUp 228 = .ok (.if_icmp .ne 8, 3) := by decide +kernel
theorem dX6_takeUp_231 : decode cX6_takeUp 231 = .ok (.iload 4, 2) := by decide +kernel
theorem dX6_takeUp_233 : decode cX6_takeUp 233 = .ok (.goto 9, 3) := by decide +kernel
theorem dX6_takeUp_236 : decode cX6_takeUp 236 = .ok (.aload_n 0, 1) := by decide +kernel
theorem dX6_takeUp_237 : decode cX6_takeUp 237 = .ok (.getfield 56, 3) := by decide +kernel
theorem dX6_takeUp_240 : decode cX6_takeUp 240 = .ok (.iload_n 1, 1) := by decide +kernel
theorem dX6_takeUp_241 : decode cX6_takeUp 241 = .ok (.iaload, 1) := by decide +kernel
theorem dX6_takeUp_242 : decode cX6_takeUp 242 = .ok (.iastore, 1) := by decide +kernel
theorem dX6_takeUp_243 : decode cX6_takeUp 243 = .ok (.aload_n 0, 1) := by decide +kernel
theorem dX6_takeUp_244 : decode cX6_takeUp 244 = .ok (.getfield 59, 3) := by decide +kernel
theorem dX6_takeUp_247 : decode cX6_takeUp 247 = .ok (.iload_n 1, 1) := by decide +kernel
theorem dX6_takeUp_248 : decode cX6_takeUp 248 = .ok (.dup2, 1) := by decide +kernel
theorem dX6_takeUp_249 : decode cX6_takeUp 249 = .ok (.iaload, 1) := by decide +kernel
theorem dX6_takeUp_250 : decode cX6_takeUp 250 = .ok (.aload_n 0, 1) := by decide +kernel
theorem dX6_takeUp_251 : decode cX6_takeUp 251 = .ok (.getfield 59, 3) := by decide +kernel
theorem dX6_takeUp_254 : decode cX6_takeUp 254 = .ok (.iload_n 3, 1) := by decide +kernel
theorem dX6_takeUp_255 : decode cX6_takeUp 255 = .ok (.iaload, 1) := by decide +kernel
theorem dX6_takeUp_256 : decode cX6_takeUp 256 = .ok (.aload_n 0, 1) := by decide +kernel
theorem dX6_takeUp_257 : decode cX6_takeUp 257 = .ok (.getfield 35, 3) := by decide +kernel
theorem dX6_takeUp_260 : decode cX6_takeUp 260 = .ok (.iload_n 3, 1) := by decide +kernel
theorem dX6_takeUp_261 : decode cX6_takeUp 261 = .ok (.iaload, 1) := by decide +kernel
theorem dX6_takeUp_262 : decode cX6_takeUp 262 = .ok (.idiv, 1) := by decide +kernel
theorem dX6_takeUp_263 : decode cX6_takeUp 263 = .ok (.iadd, 1) := by decide +kernel
theorem dX6_takeUp_264 : decode cX6_takeUp 264 = .ok (.iastore, 1) := by decide +kernel
theorem dX6_takeUp_265 : decode cX6_takeUp 265 = .ok (.return_, 1) := by decide +kernel
set_option maxRecDepth 20000 in
theorem ggX6_layCourses_X6_begin : GoodIn wsX6_layCourses wsX6_begin := goodIn_r _ [7, 2, 1, 8, 9, 10, 11, 12, 13, 14, 15, 16, 73, 74, 75, 76, 77, 78, 79, 80, 81, 82, 83, 84, 85, 86, 87, 88, 89, 90, 91, 92, 93, 94, 95, 96, 97, 98, 99, 100, 101, 102, 103, 104, 105, 106, 107, 108, 109, 110, 111, 112] (by decide +kernel) (by decide +kernel)
set_option maxRecDepth 20000 in
theorem gX6_layCourses_X6_begin : GoodIn wsX6_layCourses (wsV RX6 193 RX6 yX6_begin wsX6_begin) := goodIn_app (goodIn_of _ (by decide +kernel)) ggX6_layCourses_X6_begin
set_option maxRecDepth 20000 in
theorem ggX6_layCourses_X6_nextCode : GoodIn wsX6_layCourses wsX6_nextCode := goodIn_r _ [20, 2, 21, 22, 23, 24, 6, 25, 26, 27, 28, 29, 30, 31, 32, 33, 34, 35, 36, 37, 38, 39, 40, 41, 42, 43, 44, 45, 46, 47, 48, 49, 50, 51, 52, 73, 74, 75, 76, 77, 78, 79, 80, 81, 82, 83, 84, 85, 86, 87, 88, 89, 90, 91, 92, 93, 94, 95, 96, 97, 98, 99, 100, 101, 102, 103, 104, 105, 106, 107, 108, 109, 110, 111, 112] (by decide +kernel) (by decide +kernel)
set_option maxRecDepth 20000 in
theorem gX6_layCourses_X6_nextCode : GoodIn wsX6_layCourses (wsV RX6 197 RX6 yX6_nextCode wsX6_nextCode) := goodIn_app (goodIn_of _ (by decide +kernel)) ggX6_layCourses_X6_nextCode
set_option maxRecDepth 20000 in
theorem ggX6_layCourses_X6_goDeep : GoodIn wsX6_layCourses wsX6_goDeep := goodIn_r _ [56, 36, 38, 32, 33, 34, 6, 35, 37, 27, 39, 40, 41, 42, 43, 44, 45, 21, 46, 47, 48, 49, 50, 51, 52, 73, 74, 75, 76, 77, 78, 79, 80, 81, 82, 83, 84, 85, 86, 87, 88, 89, 90, 91, 92, 93, 94, 95, 96, 97, 98, 99, 100, 101, 102, 103, 104, 105, 106, 107, 108, 109, 110, 111, 112] (by decide +kernel) (by decide +kernel)
set_option maxRecDepth 20000 in
theorem gX6_layCourses_X6_goDeep : GoodIn wsX6_layCourses (wsV RX6 179 RX6 yX6_goDeep wsX6_goDeep) := goodIn_app (goodIn_of _ (by decide +kernel)) ggX6_layCourses_X6_goDeep
set_option maxRecDepth 20000 in
theorem ggX6_layCourses_X6_end : GoodIn wsX6_layCourses wsX6_end := goodIn_r _ [60, 8, 9, 12, 13, 14, 16, 1, 61, 62, 63, 6, 64, 21, 36, 65, 66, 67, 68, 73, 74, 75, 76, 77, 78, 79, 80, 81, 82, 83, 84, 85, 86, 87, 88, 89, 90, 91, 92, 93, 94, 95, 96, 97, 98, 99, 100, 101, 102, 103, 104, 105, 106, 107, 108, 109, 110, 111, 112] (by decide +kernel) (by decide +kernel)
set_option maxRecDepth 20000 in
theorem gX6_layCourses_X6_end : GoodIn wsX6_layCourses (wsV RX6 200 RX6 yX6_end wsX6_end) := goodIn_app (goodIn_of _ (by decide +kernel)) ggX6_layCourses_X6_end
set_option maxRecDepth 20000 in
theorem ggX6_layCourses_X6_takeUp : GoodIn wsX6_layCourses wsX6_takeUp := goodIn_r _ [72, 1, 8, 11, 9, 12, 13, 14, 15, 16, 73, 74, 75, 76, 77, 78, 79, 80, 81, 82, 83, 84, 85, 86, 87, 88, 89, 90, 91, 92, 93, 94, 95, 96, 97, 98, 99, 100, 101, 102, 103, 104, 105, 106, 107, 108, 109, 110, 111, 112] (by decide +kernel) (by decide +kernel)
set_option maxRecDepth 20000 in
theorem gX6_layCourses_X6_takeUp : GoodIn wsX6_layCourses (wsV RX6 203 RX6 yX6_takeUp wsX6_takeUp) := goodIn_app (goodIn_of _ (by decide +kernel)) ggX6_layCourses_X6_takeUp
theorem dX6_layCourses_0 : decode cX6_layCourses 0 = .ok (.iconst 0, 1) := by decide +kernel
theorem dX6_layCourses_1 : decode cX6_layCourses 1 = .ok (.istore_n 1, 1) := by decide +kernel
theorem dX6_layCourses_2 : decode cX6_layCourses 2 = .ok (.aload_n 0, 1) := by decide +kernel
theorem dX6_layCourses_3 : decode cX6_layCourses 3 = .ok (.iconst 0, 1) := by decide +kernel
theorem dX6_layCourses_4 : decode cX6_layCourses 4 = .ok (.invokevirtual 193, 3) := by decide +kernel
theorem dX6_layCourses_7 : decode cX6_layCourses 7 = .ok (.iload_n 1, 1) := by decide +kernel
theorem dX6_layCourses_8 : decode cX6_layCourses 8 = .ok (.ifCond .lt 75, 3) := by decide +kernel
theorem dX6_layCourses_11 : decode cX6_layCourses 11 = .ok (.aload_n 0, 1) := by decide +kernel
theorem dX6_layCourses_12 : decode cX6_layCourses 12 = .ok (.iload_n 1, 1) := by decide +kernel
theorem dX6_layCourses_13 : decode cX6_layCourses 13 = .ok (.invokevirtual 197, 3) := by decide +kernel
theorem dX6_layCourses_16 : decode cX6_layCourses 16 = .ok (.istore_n 2, 1) := by decide +kernel
theorem dX6_layCourses_17 : decode cX6_layCourses 17 = .ok (.iload_n 2, 1) := by decide +kernel
theorem dX6_layCourses_18 : decode cX6_layCourses 18 = .ok (.iconst (-1), 1) := by decide +kernel
theorem dX6_layCourses_19 : decode cX6_layCourses 19 = .ok (.if_icmp .eq 27, 3) := by decide +kernel
theorem dX6_layCourses_22 : decode cX6_layCourses 22 = .ok (.aload_n 0, 1) := by decide +kernel
theorem dX6_layCourses_23 : decode cX6_layCourses 23 = .ok (.iload_n 1, 1) := by decide +kernel
theorem dX6_layCourses_24 : decode cX6_layCourses 24 = .ok (.iload_n 2, 1) := by decide +kernel
theorem dX6_layCourses_25 : decode cX6_layCourses 25 = .ok (.bipush 12, 2) := by decide +kernel
theorem dX6_layCourses_27 : decode cX6_layCourses 27 = .ok (.idiv, 1) := by decide +kernel
theorem dX6_layCourses_28 : decode cX6_layCourses 28 = .ok (.iload_n 2, 1) := by decide +kernel
theorem dX6_layCourses_29 : decode cX6_layCourses 29 = .ok (.bipush 12, 2) := by decide +kernel
theorem dX6_layCourses_31 : decode cX6_layCourses 31 = .ok (.irem, 1) := by decide +kernel
theorem dX6_layCourses_32 : decode cX6_layCourses 32 = .ok (.invokevirtual 179, 3) := by decide +kernel
theorem dX6_layCourses_35 : decode cX6_layCourses 35 = .ok (.iinc 1 1, 3) := by decide +kernel
theorem dX6_layCourses_38 : decode cX6_layCourses 38 = .ok (.aload_n 0, 1) := by decide +kernel
theorem dX6_layCourses_39 : decode cX6_layCourses 39 = .ok (.iload_n 1, 1) := by decide +kernel
theorem dX6_layCourses_40 : decode cX6_layCourses 40 = .ok (.invokevirtual 193, 3) := by decide +kernel
theorem dX6_layCourses_43 : decode cX6_layCourses 43 = .ok (.goto 37, 3) := by decide +kernel
theorem dX6_layCourses_46 : decode cX6_layCourses 46 = .ok (.aload_n 0, 1) := by decide +kernel
theorem dX6_layCourses_47 : decode cX6_layCourses 47 = .ok (.getfield 35, 3) := by decide +kernel
theorem dX6_layCourses_50 : decode cX6_layCourses 50 = .ok (.iload_n 1, 1) := by decide +kernel
theorem dX6_layCourses_51 : decode cX6_layCourses 51 = .ok (.iaload, 1) := by decide +kernel
theorem dX6_layCourses_52 : decode cX6_layCourses 52 = .ok (.ifCond .ne 8, 3) := by decide +kernel
theorem dX6_layCourses_55 : decode cX6_layCourses 55 = .ok (.aload_n 0, 1) := by decide +kernel
theorem dX6_layCourses_56 : decode cX6_layCourses 56 = .ok (.iload_n 1, 1) := by decide +kernel
theorem dX6_layCourses_57 : decode cX6_layCourses 57 = .ok (.invokevirtual 200, 3) := by decide +kernel
theorem dX6_layCourses_60 : decode cX6_layCourses 60 = .ok (.iinc 1 (-1), 3) := by decide +kernel
theorem dX6_layCourses_63 : decode cX6_layCourses 63 = .ok (.iload_n 1, 1) := by decide +kernel
theorem dX6_layCourses_64 : decode cX6_layCourses 64 = .ok (.ifCond .lt 16, 3) := by decide +kernel
theorem dX6_layCourses_67 : decode cX6_layCourses 67 = .ok (.aload_n 0, 1) := by decide +kernel
theorem dX6_layCourses_68 : decode cX6_layCourses 68 = .ok (.iload_n 1, 1) := by decide +kernel
theorem dX6_layCourses_69 : decode cX6_layCourses 69 = .ok (.aload_n 0, 1) := by decide +kernel
theorem dX6_layCourses_70 : decode cX6_layCourses 70 = .ok (.getfield 32, 3) := by decide +kernel
theorem dX6_layCourses_73 : decode cX6_layCourses 73 = .ok (.iload_n 1, 1) := by decide +kernel
theorem dX6_layCourses_74 : decode cX6_layCourses 74 = .ok (.iaload, 1) := by decide +kernel
theorem dX6_layCourses_75 : decode cX6_layCourses 75 = .ok (.iconst 1, 1) := by decide +kernel
theorem dX6_layCourses_76 : decode cX6_layCourses 76 = .ok (.isub, 1) := by decide +kernel
theorem dX6_layCourses_77 : decode cX6_layCourses 77 = .ok (.invokevirtual 203, 3) := by decide +kernel
theorem dX6_layCourses_80 : decode cX6_layCourses 80 = .ok (.goto (-73), 3) := by decide +kernel
theorem dX6_layCourses_83 : decode cX6_layCourses 83 = .ok (.return_, 1) := by decide +kernel
set_option maxRecDepth 20000 in
theorem ggX6_coursesNow_X6_putDeep : GoodIn wsX6_coursesNow wsX6_putDeep := goodIn_r _ [11, 12, 13, 14, 82, 83, 84, 85, 86, 87, 88, 89, 90, 91, 92, 93, 94, 95, 96, 97, 98, 99, 100, 101, 102, 103, 104, 105, 106, 107, 108, 109, 110, 111, 112, 113, 114, 115, 116, 117, 118, 119, 120, 121] (by decide +kernel) (by decide +kernel)
set_option maxRecDepth 20000 in
theorem gX6_coursesNow_X6_putDeep : GoodIn wsX6_coursesNow (wsV RX6 157 RX6 yX6_putDeep wsX6_putDeep) := goodIn_app (goodIn_of _ (by decide +kernel)) ggX6_coursesNow_X6_putDeep
set_option maxRecDepth 20000 in
theorem ggX6_coursesNow_X6_layCourses : GoodIn wsX6_coursesNow wsX6_layCourses := goodIn_r _ [18, 19, 20, 21, 22, 23, 10, 24, 3, 1, 25, 2, 4, 5, 6, 26, 27, 28, 29, 30, 31, 13, 32, 33, 34, 35, 36, 37, 38, 39, 40, 41, 42, 43, 44, 45, 12, 46, 47, 48, 49, 50, 51, 52, 53, 54, 55, 56, 57, 58, 59, 60, 61, 62, 63, 64, 65, 66, 67, 68, 69, 70, 71, 72, 73, 74, 75, 76, 77, 78, 79, 80, 81, 82, 83, 84, 85, 86, 87, 88, 89, 90, 91, 92, 93, 94, 95, 96, 97, 98, 99, 100, 101, 102, 103, 104, 105, 106, 107, 108, 109, 110, 111, 112, 113, 114, 115, 116, 117, 118, 119, 120, 121] (by decide +kernel) (by decide +kernel)
set_option maxRecDepth 20000 in
theorem gX6_coursesNow_X6_layCourses : GoodIn wsX6_coursesNow (wsV RX6 207 RX6 yX6_layCourses wsX6_layCourses) := goodIn_app (goodIn_of _ (by decide +kernel)) ggX6_coursesNow_X6_layCourses
theorem dX6_coursesNow_0 : decode cX6_coursesNow 0 = .ok (.aload_n 0, 1) := by decide +kernel
theorem dX6_coursesNow_1 : decode cX6_coursesNow 1 = .ok (.invokevirtual 157, 3) := by decide +kernel
theorem dX6_coursesNow_4 : decode cX6_coursesNow 4 = .ok (.aload_n 0, 1) := by decide +kernel
theorem dX6_coursesNow_5 : decode cX6_coursesNow 5 = .ok (.invokevirtual 207, 3) := by decide +kernel
theorem dX6_coursesNow_8 : decode cX6_coursesNow 8 = .ok (.iload_n 1, 1) := by decide +kernel
theorem dX6_coursesNow_9 : decode cX6_coursesNow 9 = .ok (.tableswitch 70 0 4 #[35, 42, 49, 56, 63], 35) := by decide +kernel
theorem dX6_coursesNow_44 : decode cX6_coursesNow 44 = .ok (.aload_n 0, 1) := by decide +kernel
theorem dX6_coursesNow_45 : decode cX6_coursesNow 45 = .ok (.getfield 41, 3) := by decide +kernel
theorem dX6_coursesNow_48 : decode cX6_coursesNow 48 = .ok (.iconst 0, 1) := by decide +kernel
theorem dX6_coursesNow_49 : decode cX6_coursesNow 49 = .ok (.iaload, 1) := by decide +kernel
theorem dX6_coursesNow_50 : decode cX6_coursesNow 50 = .ok (.ireturn, 1) := by decide +kernel
theorem dX6_coursesNow_51 : decode cX6_coursesNow 51 = .ok (.aload_n 0, 1) := by decide +kernel
theorem dX6_coursesNow_52 : decode cX6_coursesNow 52 = .ok (.getfield 44, 3) := by decide +kernel
theorem dX6_coursesNow_55 : decode cX6_coursesNow 55 = .ok (.iconst 0, 1) := by decide +kernel
theorem dX6_coursesNow_56 : decode cX6_coursesNow 56 = .ok (.iaload, 1) := by decide +kernel
theorem dX6_coursesNow_57 : decode cX6_coursesNow 57 = .ok (.ireturn, 1) := by decide +kernel
theorem dX6_coursesNow_58 : decode cX6_coursesNow 58 = .ok (.aload_n 0, 1) := by decide +kernel
theorem dX6_coursesNow_59 : decode cX6_coursesNow 59 = .ok (.getfield 38, 3) := by decide +kernel
theorem dX6_coursesNow_62 : decode cX6_coursesNow 62 = .ok (.iconst 0, 1) := by decide +kernel
theorem dX6_coursesNow_63 : decode cX6_coursesNow 63 = .ok (.iaload, 1) := by decide +kernel
theorem dX6_coursesNow_64 : decode cX6_coursesNow 64 = .ok (.ireturn, 1) := by decide +kernel
theorem dX6_coursesNow_65 : decode cX6_coursesNow 65 = .ok (.aload_n 0, 1) := by decide +kernel
theorem dX6_coursesNow_66 : decode cX6_coursesNow 66 = .ok (.getfield 47, 3) := by decide +kernel
theorem dX6_coursesNow_69 : decode cX6_coursesNow 69 = .ok (.iconst 0, 1) := by decide +kernel
theorem dX6_coursesNow_70 : decode cX6_coursesNow 70 = .ok (.iaload, 1) := by decide +kernel
theorem dX6_coursesNow_71 : decode cX6_coursesNow 71 = .ok (.ireturn, 1) := by decide +kernel
theorem dX6_coursesNow_72 : decode cX6_coursesNow 72 = .ok (.aload_n 0, 1) := by decide +kernel
theorem dX6_coursesNow_73 : decode cX6_coursesNow 73 = .ok (.getfield 50, 3) := by decide +kernel
theorem dX6_coursesNow_76 : decode cX6_coursesNow 76 = .ok (.iconst 0, 1) := by decide +kernel
theorem dX6_coursesNow_77 : decode cX6_coursesNow 77 = .ok (.iaload, 1) := by decide +kernel
theorem dX6_coursesNow_78 : decode cX6_coursesNow 78 = .ok (.ireturn, 1) := by decide +kernel
theorem dX6_coursesNow_79 : decode cX6_coursesNow 79 = .ok (.aload_n 0, 1) := by decide +kernel
theorem dX6_coursesNow_80 : decode cX6_coursesNow 80 = .ok (.getfield 53, 3) := by decide +kernel
theorem dX6_coursesNow_83 : decode cX6_coursesNow 83 = .ok (.iconst 0, 1) := by decide +kernel
theorem dX6_coursesNow_84 : decode cX6_coursesNow 84 = .ok (.iaload, 1) := by decide +kernel
theorem dX6_coursesNow_85 : decode cX6_coursesNow 85 = .ok (.ireturn, 1) := by decide +kernel
set_option maxRecDepth 20000 in
theorem ggX6_courses_X6_within : GoodIn wsX6_courses wsX6_within := goodIn_r _ [5] (by decide +kernel) (by decide +kernel)
set_option maxRecDepth 20000 in
theorem gX6_courses_X6_within : GoodIn wsX6_courses (va_wsS RX6 77 yX6_within wsX6_within) := goodIn_app (goodIn_of _ (by decide +kernel)) ggX6_courses_X6_within
set_option maxRecDepth 20000 in
theorem ggX6_courses_X6_coursesNow : GoodIn wsX6_courses wsX6_coursesNow := goodIn_r _ [9, 10, 11, 12, 13, 14, 15, 16, 17, 18, 4, 19, 20, 1, 21, 22, 23, 24, 25, 26, 27, 28, 29, 30, 31, 32, 33, 34, 35, 36, 37, 38, 39, 40, 41, 42, 43, 44, 45, 46, 47, 48, 49, 50, 51, 52, 53, 54, 55, 56, 57, 58, 59, 60, 61, 62, 63, 64, 65, 66, 67, 68, 69, 70, 71, 72, 73, 74, 75, 76, 77, 78, 79, 80, 81, 82, 83, 84, 85, 86, 87, 88, 89, 90, 91, 92, 93, 94, 95, 96, 97, 98, 99, 100, 101, 102, 103, 104, 105, 106, 107, 108, 109, 110, 111, 112, 113, 114, 115, 116, 117, 118, 119, 120, 121, 122, 123, 124, 125, 126, 127, 128] (by decide +kernel) (by decide +kernel)
set_option maxRecDepth 20000 in
theorem gX6_courses_X6_coursesNow : GoodIn wsX6_courses (wsV RX6 210 RX6 yX6_coursesNow wsX6_coursesNow) := goodIn_app (goodIn_of _ (by decide +kernel)) ggX6_courses_X6_coursesNow
theorem dX6_courses_0 : decode cX6_courses 0 = .ok (.iload_n 1, 1) := by decide +kernel
theorem dX6_courses_1 : decode cX6_courses 1 = .ok (.iconst 0, 1) := by decide +kernel
theorem dX6_courses_2 : decode cX6_courses 2 = .ok (.iconst 5, 1) := by decide +kernel
theorem dX6_courses_3 : decode cX6_courses 3 = .ok (.invokestatic 77, 3) := by decide +kernel
theorem dX6_courses_6 : decode cX6_courses 6 = .ok (.ifCond .ne 6, 3) := by decide +kernel
theorem dX6_courses_9 : decode cX6_courses 9 = .ok (.bipush (-102), 2) := by decide +kernel
theorem dX6_courses_11 : decode cX6_courses 11 = .ok (.ireturn, 1) := by decide +kernel
theorem dX6_courses_12 : decode cX6_courses 12 = .ok (.aload_n 0, 1) := by decide +kernel
theorem dX6_courses_13 : decode cX6_courses 13 = .ok (.getfield 115, 3) := by decide +kernel
theorem dX6_courses_16 : decode cX6_courses 16 = .ok (.ifCond .ne 8, 3) := by decide +kernel
theorem dX6_courses_19 : decode cX6_courses 19 = .ok (.bipush (-103), 2) := by decide +kernel
theorem dX6_courses_21 : decode cX6_courses 21 = .ok (.goto 8, 3) := by decide +kernel
theorem dX6_courses_24 : decode cX6_courses 24 = .ok (.aload_n 0, 1) := by decide +kernel
theorem dX6_courses_25 : decode cX6_courses 25 = .ok (.iload_n 1, 1) := by decide +kernel
theorem dX6_courses_26 : decode cX6_courses 26 = .ok (.invokevirtual 210, 3) := by decide +kernel
theorem dX6_courses_29 : decode cX6_courses 29 = .ok (.ireturn, 1) := by decide +kernel
set_option maxRecDepth 20000 in
theorem ggX6_winsNow_X6_putDeep : GoodIn wsX6_winsNow wsX6_putDeep := goodIn_r _ [6, 7, 8, 9, 82, 83, 84, 85, 86, 87, 88, 89, 90, 91, 92, 93, 94, 95, 96, 97, 98, 99, 100, 101, 102, 103, 104, 105, 106, 107, 108, 109, 110, 111, 112, 113, 114, 115, 116, 117, 118, 119, 120, 121] (by decide +kernel) (by decide +kernel)
set_option maxRecDepth 20000 in
theorem gX6_winsNow_X6_putDeep : GoodIn wsX6_winsNow (wsV RX6 157 RX6 yX6_putDeep wsX6_putDeep) := goodIn_app (goodIn_of _ (by decide +kernel)) ggX6_winsNow_X6_putDeep
set_option maxRecDepth 20000 in
theorem ggX6_winsNow_X6_layCourses : GoodIn wsX6_winsNow wsX6_layCourses := goodIn_r _ [13, 14, 15, 16, 17, 18, 5, 19, 20, 21, 22, 23, 24, 25, 26, 1, 27, 28, 29, 30, 31, 8, 32, 33, 34, 35, 36, 37, 38, 39, 40, 41, 42, 43, 44, 45, 7, 46, 47, 48, 49, 50, 51, 52, 53, 54, 55, 56, 57, 58, 59, 60, 61, 62, 63, 64, 65, 66, 67, 68, 69, 70, 71, 72, 73, 74, 75, 76, 77, 78, 79, 80, 81, 82, 83, 84, 85, 86, 87, 88, 89, 90, 91, 92, 93, 94, 95, 96, 97, 98, 99, 100, 101, 102, 103, 104, 105, 106, 107, 108, 109, 110, 111, 112, 113, 114, 115, 116, 117, 118, 119, 120, 121] (by decide +kernel) (by decide +kernel)
set_option maxRecDepth 20000 in
theorem gX6_winsNow_X6_layCourses : GoodIn wsX6_winsNow (wsV RX6 207 RX6 yX6_layCourses wsX6_layCourses) := goodIn_app (goodIn_of _ (by decide +kernel)) ggX6_winsNow_X6_layCourses
theorem dX6_winsNow_0 : decode cX6_winsNow 0 = .ok (.aload_n 0, 1) := by decide +kernel
theorem dX6_winsNow_1 : decode cX6_winsNow 1 = .ok (.invokevirtual 157, 3) := by decide +kernel
theorem dX6_winsNow_4 : decode cX6_winsNow 4 = .ok (.aload_n 0, 1) := by decide +kernel
theorem dX6_winsNow_5 : decode cX6_winsNow 5 = .ok (.invokevirtual 207, 3) := by decide +kernel
theorem dX6_winsNow_8 : decode cX6_winsNow 8 = .ok (.iload_n 1, 1) := by decide +kernel
theorem dX6_winsNow_9 : decode cX6_winsNow 9 = .ok (.iconst 1, 1) := by decide +kernel
theorem dX6_winsNow_10 : decode cX6_winsNow 10 = .ok (.if_icmp .ne 12, 3) := by decide +kernel
theorem dX6_winsNow_13 : decode cX6_winsNow 13 = .ok (.aload_n 0, 1) := by decide +kernel
theorem dX6_winsNow_14 : decode cX6_winsNow 14 = .ok (.getfield 56, 3) := by decide +kernel
theorem dX6_winsNow_17 : decode cX6_winsNow 17 = .ok (.iconst 0, 1) := by decide +kernel
theorem dX6_winsNow_18 : decode cX6_winsNow 18 = .ok (.iaload, 1) := by decide +kernel
theorem dX6_winsNow_19 : decode cX6_winsNow 19 = .ok (.goto 18, 3) := by decide +kernel
theorem dX6_winsNow_22 : decode cX6_winsNow 22 = .ok (.aload_n 0, 1) := by decide +kernel
theorem dX6_winsNow_23 : decode cX6_winsNow 23 = .ok (.getfield 56, 3) := by decide +kernel
theorem dX6_winsNow_26 : decode cX6_winsNow 26 = .ok (.iconst 0, 1) := by decide +kernel
theorem dX6_winsNow_27 : decode cX6_winsNow 27 = .ok (.iaload, 1) := by decide +kernel
theorem dX6_winsNow_28 : decode cX6_winsNow 28 = .ok (.iconst (-1), 1) := by decide +kernel
theorem dX6_winsNow_29 : decode cX6_winsNow 29 = .ok (.if_icmp .ne 7, 3) := by decide +kernel
theorem dX6_winsNow_32 : decode cX6_winsNow 32 = .ok (.iconst 0, 1) := by decide +kernel
theorem dX6_winsNow_33 : decode cX6_winsNow 33 = .ok (.goto 4, 3) := by decide +kernel
theorem dX6_winsNow_36 : decode cX6_winsNow 36 = .ok (.iconst 1, 1) := by decide +kernel
theorem dX6_winsNow_37 : decode cX6_winsNow 37 = .ok (.ireturn, 1) := by decide +kernel
set_option maxRecDepth 20000 in
theorem ggX6_wins_X6_within : GoodIn wsX6_wins wsX6_within := goodIn_r _ [5] (by decide +kernel) (by decide +kernel)
set_option maxRecDepth 20000 in
theorem gX6_wins_X6_within : GoodIn wsX6_wins (va_wsS RX6 77 yX6_within wsX6_within) := goodIn_app (goodIn_of _ (by decide +kernel)) ggX6_wins_X6_within
set_option maxRecDepth 20000 in
theorem ggX6_wins_X6_winsNow : GoodIn wsX6_wins wsX6_winsNow := goodIn_r _ [9, 10, 11, 12, 13, 4, 14, 15, 1, 16, 17, 18, 19, 20, 21, 22, 23, 24, 25, 26, 27, 28, 29, 30, 31, 32, 33, 34, 35, 36, 37, 38, 39, 40, 41, 42, 43, 44, 45, 46, 47, 48, 49, 50, 51, 52, 53, 54, 55, 56, 57, 58, 59, 60, 61, 62, 63, 64, 65, 66, 67, 68, 69, 70, 71, 72, 73, 74, 75, 76, 77, 78, 79, 80, 81, 82, 83, 84, 85, 86, 87, 88, 89, 90, 91, 92, 93, 94, 95, 96, 97, 98, 99, 100, 101, 102, 103, 104, 105, 106, 107, 108, 109, 110, 111, 112, 113, 114, 115, 116, 117, 118, 119, 120, 121, 122, 123, 124, 125, 126, 127, 128] (by decide +kernel) (by decide +kernel)
set_option maxRecDepth 20000 in
theorem gX6_wins_X6_winsNow : GoodIn wsX6_wins (wsV RX6 213 RX6 yX6_winsNow wsX6_winsNow) := goodIn_app (goodIn_of _ (by decide +kernel)) ggX6_wins_X6_winsNow
theorem dX6_wins_0 : decode cX6_wins 0 = .ok (.iload_n 1, 1) := by decide +kernel
theorem dX6_wins_1 : decode cX6_wins 1 = .ok (.iconst 0, 1) := by decide +kernel
theorem dX6_wins_2 : decode cX6_wins 2 = .ok (.iconst 1, 1) := by decide +kernel
theorem dX6_wins_3 : decode cX6_wins 3 = .ok (.invokestatic 77, 3) := by decide +kernel
theorem dX6_wins_6 : decode cX6_wins 6 = .ok (.ifCond .ne 6, 3) := by decide +kernel
theorem dX6_wins_9 : decode cX6_wins 9 = .ok (.bipush (-102), 2) := by decide +kernel
theorem dX6_wins_11 : decode cX6_wins 11 = .ok (.ireturn, 1) := by decide +kernel
theorem dX6_wins_12 : decode cX6_wins 12 = .ok (.aload_n 0, 1) := by decide +kernel
theorem dX6_wins_13 : decode cX6_wins 13 = .ok (.getfield 115, 3) := by decide +kernel
theorem dX6_wins_16 : decode cX6_wins 16 = .ok (.ifCond .ne 8, 3) := by decide +kernel
theorem dX6_wins_19 : decode cX6_wins 19 = .ok (.bipush (-103), 2) := by decide +kernel
theorem dX6_wins_21 : decode cX6_wins 21 = .ok (.goto 8, 3) := by decide +kernel
theorem dX6_wins_24 : decode cX6_wins 24 = .ok (.aload_n 0, 1) := by decide +kernel
theorem dX6_wins_25 : decode cX6_wins 25 = .ok (.iload_n 1, 1) := by decide +kernel
theorem dX6_wins_26 : decode cX6_wins 26 = .ok (.invokevirtual 213, 3) := by decide +kernel
theorem dX6_wins_29 : decode cX6_wins 29 = .ok (.ireturn, 1) := by decide +kernel
set_option maxRecDepth 20000 in
theorem ggX6_addNow_X6_places : GoodIn wsX6_addNow wsX6_places := goodIn_r _ [8, 9, 10, 90, 91, 92, 93, 94, 95, 96, 97, 98, 99, 100, 101, 102, 103, 104, 105, 106, 107, 108, 109, 110, 111, 112, 113, 114, 115, 116, 117, 118, 119, 120, 121, 122, 123, 124, 125, 126, 127, 128, 129] (by decide +kernel) (by decide +kernel)
set_option maxRecDepth 20000 in
theorem gX6_addNow_X6_places : GoodIn wsX6_addNow (wsV RX6 118 RX6 yX6_places wsX6_places) := goodIn_app (goodIn_of _ (by decide +kernel)) ggX6_addNow_X6_places
set_option maxRecDepth 20000 in
theorem ggX6_addNow_X6_isEmpty : GoodIn wsX6_addNow wsX6_isEmpty := goodIn_r _ [14, 15, 16, 17, 18, 7, 19, 20, 2, 3, 21, 22, 23, 24, 25, 26, 27, 90, 91, 92, 93, 94, 95, 96, 97, 98, 99, 100, 101, 102, 103, 104, 105, 106, 107, 108, 109, 110, 111, 112, 113, 114, 115, 116, 117, 118, 119, 120, 121, 122, 123, 124, 125, 126, 127, 128, 129] (by decide +kernel) (by decide +kernel)
set_option maxRecDepth 20000 in
theorem gX6_addNow_X6_isEmpty : GoodIn wsX6_addNow (wsV RX6 186 RX6 yX6_isEmpty wsX6_isEmpty) := goodIn_app (goodIn_of _ (by decide +kernel)) ggX6_addNow_X6_isEmpty
set_option maxRecDepth 20000 in
theorem ggX6_addNow_X6_coursesNow : GoodIn wsX6_addNow wsX6_coursesNow := goodIn_r _ [31, 32, 33, 34, 35, 36, 37, 16, 17, 18, 7, 19, 20, 2, 3, 38, 39, 40, 41, 42, 43, 44, 45, 46, 47, 48, 49, 50, 51, 52, 53, 54, 4, 5, 6, 8, 9, 10, 55, 56, 57, 58, 59, 60, 61, 62, 15, 1, 21, 22, 23, 24, 25, 26, 27, 63, 64, 65, 66, 67, 68, 69, 70, 71, 72, 73, 74, 75, 76, 77, 78, 79, 80, 81, 82, 83, 84, 85, 86, 87, 88, 89, 90, 91, 92, 93, 94, 95, 96, 97, 98, 99, 100, 101, 102, 103, 104, 105, 106, 107, 108, 109, 110, 111, 112, 113, 114, 115, 116, 117, 118, 119, 120, 121, 122, 123, 124, 125, 126, 127, 128, 129] (by decide +kernel) (by decide +kernel)
set_option maxRecDepth 20000 in
theorem gX6_addNow_X6_coursesNow : GoodIn wsX6_addNow (wsV RX6 210 RX6 yX6_coursesNow wsX6_coursesNow) := goodIn_app (goodIn_of _ (by decide +kernel)) ggX6_addNow_X6_coursesNow
theorem dX6_addNow_0 : decode cX6_addNow 0 = .ok (.iconst (-1), 1) := by decide +kernel
theorem dX6_addNow_1 : decode cX6_addNow 1 = .ok (.istore_n 1, 1) := by decide +kernel
theorem dX6_addNow_2 : decode cX6_addNow 2 = .ok (.iconst 0, 1) := by decide +kernel
theorem dX6_addNow_3 : decode cX6_addNow 3 = .ok (.istore_n 2, 1) := by decide +kernel
theorem dX6_addNow_4 : decode cX6_addNow 4 = .ok (.iload_n 2, 1) := by decide +kernel
theorem dX6_addNow_5 : decode cX6_addNow 5 = .ok (.aload_n 0, 1) := by decide +kernel
theorem dX6_addNow_6 : decode cX6_addNow 6 = .ok (.invokevirtual 118, 3) := by decide +kernel
theorem dX6_addNow_9 : decode cX6_addNow 9 = .ok (.if_icmp .ge 77, 3) := by decide +kernel
theorem dX6_addNow_12 : decode cX6_addNow 12 = .ok (.iload_n 1, 1) := by decide +kernel
theorem dX6_addNow_13 : decode cX6_addNow 13 = .ok (.iconst (-1), 1) := by decide +kernel
theorem dX6_addNow_14 : decode cX6_addNow 14 = .ok (.if_icmp .ne 72, 3) := by decide +kernel
theorem dX6_addNow_17 : decode cX6_addNow 17 = .ok (.aload_n 0, 1) := by decide +kernel
theorem dX6_addNow_18 : decode cX6_addNow 18 = .ok (.iload_n 2, 1) := by decide +kernel
theorem dX6_addNow_19 : decode cX6_addNow 19 = .ok (.invokevirtual 186, 3) := by decide +kernel
theorem dX6_addNow_22 : decode cX6_addNow 22 = .ok (.ifCond .eq 58, 3) := by decide +kernel
theorem dX6_addNow_25 : decode cX6_addNow 25 = .ok (.aload_n 0, 1) := by decide +kernel
theorem dX6_addNow_26 : decode cX6_addNow 26 = .ok (.getfield 7, 3) := by decide +kernel
theorem dX6_addNow_29 : decode cX6_addNow 29 = .ok (.aload_n 0, 1) := by decide +kernel
theorem dX6_addNow_30 : decode cX6_addNow 30 = .ok (.getfield 115, 3) := by decide +kernel
theorem dX6_addNow_33 : decode cX6_addNow 33 = .ok (.iconst 0, 1) := by decide +kernel
theorem dX6_addNow_34 : decode cX6_addNow 34 = .ok (.iastore, 1) := by decide +kernel
theorem dX6_addNow_35 : decode cX6_addNow 35 = .ok (.aload_n 0, 1) := by decide +kernel
theorem dX6_addNow_36 : decode cX6_addNow 36 = .ok (.getfield 13, 3) := by decide +kernel
theorem dX6_addNow_39 : decode cX6_addNow 39 = .ok (.aload_n 0, 1) := by decide +kernel
theorem dX6_addNow_40 : decode cX6_addNow 40 = .ok (.getfield 115, 3) := by decide +kernel
theorem dX6_addNow_43 : decode cX6_addNow 43 = .ok (.iload_n 2, 1) := by decide +kernel
theorem dX6_addNow_44 : decode cX6_addNow 44 = .ok (.iastore, 1) := by decide +kernel
theorem dX6_addNow_45 : decode cX6_addNow 45 = .ok (.aload_n 0, 1) := by decide +kernel
theorem dX6_addNow_46 : decode cX6_addNow 46 = .ok (.dup, 1) := by decide +kernel
theorem dX6_addNow_47 : decode cX6_addNow 47 = .ok (.getfield 115, 3) := by decide +kernel
theorem dX6_addNow_50 : decode cX6_addNow 50 = .ok (.iconst 1, 1) := by decide +kernel
theorem dX6_addNow_51 : decode cX6_addNow 51 = .ok (.iadd, 1) := by decide +kernel
theorem dX6_addNow_52 : decode cX6_addNow 52 = .ok (.putfield 115, 3) := by decide +kernel
theorem dX6_addNow_55 : decode cX6_addNow 55 = .ok (.aload_n 0, 1) := by decide +kernel
theorem dX6_addNow_56 : decode cX6_addNow 56 = .ok (.iconst 0, 1) := by decide +kernel
theorem dX6_addNow_57 : decode cX6_addNow 57 = .ok (.invokevirtual 210, 3) := by decide +kernel
theorem dX6_addNow_60 : decode cX6_addNow 60 = .ok (.iconst 1, 1) := by decide +kernel
theorem dX6_addNow_61 : decode cX6_addNow 61 = .ok (.if_icmp .ne 7, 3) := by decide +kernel
theorem dX6_addNow_64 : decode cX6_addNow 64 = .ok (.iload_n 2, 1) := by decide +kernel
theorem dX6_addNow_65 : decode cX6_addNow 65 = .ok (.goto 4, 3) := by decide +kernel
theorem dX6_addNow_68 : decode cX6_addNow 68 = .ok (.iconst (-1), 1) := by decide +kernel
theorem dX6_addNow_69 : decode cX6_addNow 69 = .ok (.istore_n 1, 1) := by decide +kernel
theorem dX6_addNow_70 : decode cX6_addNow 70 = .ok (.aload_n 0, 1) := by decide +kernel
theorem dX6_addNow_71 : decode cX6_addNow 71 = .ok (.dup, 1) := by decide +kernel
theorem dX6_addNow_72 : decode cX6_addNow 72 = .ok (.getfield 115, 3) := by decide +kernel
theorem dX6_addNow_75 : decode cX6_addNow 75 = .ok (.iconst 1, 1) := by decide +kernel
theorem dX6_addNow_76 : decode cX6_addNow 76 = .ok (.isub, 1) := by decide +kernel
theorem dX6_addNow_77 : decode cX6_addNow 77 = .ok (.putfield 115, 3) := by decide +kernel
theorem dX6_addNow_80 : decode cX6_addNow 80 = .ok (.iinc 2 1, 3) := by decide +kernel
theorem dX6_addNow_83 : decode cX6_addNow 83 = .ok (.goto (-79), 3) := by decide +kernel
theorem dX6_addNow_86 : decode cX6_addNow 86 = .ok (.iload_n 1, 1) := by decide +kernel
theorem dX6_addNow_87 : decode cX6_addNow 87 = .ok (.ireturn, 1) := by decide +kernel
set_option maxRecDepth 20000 in
theorem ggX6_add_X6_addNow : GoodIn wsX6_add wsX6_addNow := goodIn_r _ [7, 8, 1, 9, 10, 11, 12, 6, 13, 14, 15, 16, 17, 18, 19, 20, 21, 22, 23, 24, 25, 26, 27, 28, 29, 30, 31, 32, 33, 34, 35, 36, 37, 38, 39, 40, 41, 42, 43, 44, 45, 46, 47, 48, 49, 50, 51, 52, 53, 54, 55, 56, 57, 58, 59, 60, 61, 62, 63, 64, 65, 66, 67, 68, 69, 70, 71, 72, 73, 74, 75, 76, 77, 78, 79, 80, 81, 82, 83, 84, 85, 86, 87, 88, 89, 90, 91, 92, 93, 94, 95, 96, 97, 98, 99, 100, 101, 102, 103, 104, 105, 106, 107, 108, 109, 110, 111, 112, 113, 114, 115, 116, 117, 118, 119, 120, 121, 122, 123, 124, 125, 126, 127, 128, 129, 130, 131, 132, 133, 134] (by decide +kernel) (by decide +kernel)
set_option maxRecDepth 20000 in
theorem gX6_add_X6_addNow : GoodIn wsX6_add (wsV RX6 219 RX6 yX6_addNow wsX6_addNow) := goodIn_app (goodIn_of _ (by decide +kernel)) ggX6_add_X6_addNow
theorem dX6_add_0 : decode cX6_add 0 = .ok (.aload_n 0, 1) := by decide +kernel
theorem dX6_add_1 : decode cX6_add 1 = .ok (.getfield 115, 3) := by decide +kernel
theorem dX6_add_4 : decode cX6_add 4 = .ok (.ifCond .eq 12, 3) := by decide +kernel
theorem dX6_add_7 : decode cX6_add 7 = .ok (.aload_n 0, 1) := by decide +kernel
theorem dX6_add_8 : decode cX6_add 8 = .ok (.getfield 216, 3) := by decide +kernel
theorem dX6_add_11 : decode cX6_add 11 = .ok (.bipush 12, 2) := by decide +kernel
theorem dX6_add_13 : decode cX6_add 13 = .ok (.if_icmp .ne 6, 3) := by decide +kernel
theorem dX6_add_16 : decode cX6_add 16 = .ok (.bipush (-103), 2) := by decide +kernel
theorem dX6_add_18 : decode cX6_add 18 = .ok (.ireturn, 1) := by decide +kernel
theorem dX6_add_19 : decode cX6_add 19 = .ok (.aload_n 0, 1) := by decide +kernel
theorem dX6_add_20 : decode cX6_add 20 = .ok (.dup, 1) := by decide +kernel
theorem dX6_add_21 : decode cX6_add 21 = .ok (.getfield 216, 3) := by decide +kernel
theorem dX6_add_24 : decode cX6_add 24 = .ok (.iconst 1, 1) := by decide +kernel
theorem dX6_add_25 : decode cX6_add 25 = .ok (.iadd, 1) := by decide +kernel
theorem dX6_add_26 : decode cX6_add 26 = .ok (.putfield 216, 3) := by decide +kernel
theorem dX6_add_29 : decode cX6_add 29 = .ok (.aload_n 0, 1) := by decide +kernel
theorem dX6_add_30 : decode cX6_add 30 = .ok (.invokevirtual 219, 3) := by decide +kernel
theorem dX6_add_33 : decode cX6_add 33 = .ok (.ireturn, 1) := by decide +kernel
set_option maxRecDepth 20000 in
theorem ggX6_meanNow_X6_putDeep : GoodIn wsX6_meanNow wsX6_putDeep := goodIn_r _ [7, 8, 9, 10, 82, 83, 84, 85, 86, 87, 88, 89, 90, 91, 92, 93, 94, 95, 96, 97, 98, 99, 100, 101, 102, 103, 104, 105, 106, 107, 108, 109, 110, 111, 112, 113, 114, 115, 116, 117, 118, 119, 120, 121] (by decide +kernel) (by decide +kernel)
set_option maxRecDepth 20000 in
theorem gX6_meanNow_X6_putDeep : GoodIn wsX6_meanNow (wsV RX6 157 RX6 yX6_putDeep wsX6_putDeep) := goodIn_app (goodIn_of _ (by decide +kernel)) ggX6_meanNow_X6_putDeep
set_option maxRecDepth 20000 in
theorem ggX6_meanNow_X6_layCourses : GoodIn wsX6_meanNow wsX6_layCourses := goodIn_r _ [14, 2, 15, 16, 17, 18, 6, 19, 20, 21, 22, 23, 24, 25, 26, 27, 1, 28, 29, 30, 31, 9, 32, 33, 34, 35, 36, 37, 38, 39, 40, 41, 42, 43, 44, 45, 8, 46, 47, 48, 49, 50, 51, 52, 53, 54, 55, 56, 57, 58, 59, 60, 61, 62, 63, 64, 65, 66, 67, 68, 69, 70, 71, 72, 73, 74, 75, 76, 77, 78, 79, 80, 81, 82, 83, 84, 85, 86, 87, 88, 89, 90, 91, 92, 93, 94, 95, 96, 97, 98, 99, 100, 101, 102, 103, 104, 105, 106, 107, 108, 109, 110, 111, 112, 113, 114, 115, 116, 117, 118, 119, 120, 121] (by decide +kernel) (by decide +kernel)
set_option maxRecDepth 20000 in
theorem gX6_meanNow_X6_layCourses : GoodIn wsX6_meanNow (wsV RX6 207 RX6 yX6_layCourses wsX6_layCourses) := goodIn_app (goodIn_of _ (by decide +kernel)) ggX6_meanNow_X6_layCourses
theorem dX6_meanNow_0 : decode cX6_meanNow 0 = .ok (.aload_n 0, 1) := by decide +kernel
theorem dX6_meanNow_1 : decode cX6_meanNow 1 = .ok (.invokevirtual 157, 3) := by decide +kernel
theorem dX6_meanNow_4 : decode cX6_meanNow 4 = .ok (.aload_n 0, 1) := by decide +kernel
theorem dX6_meanNow_5 : decode cX6_meanNow 5 = .ok (.invokevirtual 207, 3) := by decide +kernel
theorem dX6_meanNow_8 : decode cX6_meanNow 8 = .ok (.aload_n 0, 1) := by decide +kernel
theorem dX6_meanNow_9 : decode cX6_meanNow 9 = .ok (.getfield 59, 3) := by decide +kernel
theorem dX6_meanNow_12 : decode cX6_meanNow 12 = .ok (.iconst 0, 1) := by decide +kernel
theorem dX6_meanNow_13 : decode cX6_meanNow 13 = .ok (.iaload, 1) := by decide +kernel
theorem dX6_meanNow_14 : decode cX6_meanNow 14 = .ok (.aload_n 0, 1) := by decide +kernel
theorem dX6_meanNow_15 : decode cX6_meanNow 15 = .ok (.getfield 35, 3) := by decide +kernel
theorem dX6_meanNow_18 : decode cX6_meanNow 18 = .ok (.iconst 0, 1) := by decide +kernel
theorem dX6_meanNow_19 : decode cX6_meanNow 19 = .ok (.iaload, 1) := by decide +kernel
theorem dX6_meanNow_20 : decode cX6_meanNow 20 = .ok (.idiv, 1) := by decide +kernel
theorem dX6_meanNow_21 : decode cX6_meanNow 21 = .ok (.ireturn, 1) := by decide +kernel
set_option maxRecDepth 20000 in
theorem ggX6_mean_X6_meanNow : GoodIn wsX6_mean wsX6_meanNow := goodIn_r _ [6, 7, 8, 9, 10, 11, 5, 12, 13, 1, 14, 15, 16, 17, 18, 19, 20, 21, 22, 23, 24, 25, 26, 27, 28, 29, 30, 31, 32, 33, 34, 35, 36, 37, 38, 39, 40, 41, 42, 43, 44, 45, 46, 47, 48, 49, 50, 51, 52, 53, 54, 55, 56, 57, 58, 59, 60, 61, 62, 63, 64, 65, 66, 67, 68, 69, 70, 71, 72, 73, 74, 75, 76, 77, 78, 79, 80, 81, 82, 83, 84, 85, 86, 87, 88, 89, 90, 91, 92, 93, 94, 95, 96, 97, 98, 99, 100, 101, 102, 103, 104, 105, 106, 107, 108, 109, 110, 111, 112, 113, 114, 115, 116, 117, 118, 119, 120, 121, 122, 123, 124, 125] (by decide +kernel) (by decide +kernel)
set_option maxRecDepth 20000 in
theorem gX6_mean_X6_meanNow : GoodIn wsX6_mean (wsV RX6 222 RX6 yX6_meanNow wsX6_meanNow) := goodIn_app (goodIn_of _ (by decide +kernel)) ggX6_mean_X6_meanNow
theorem dX6_mean_0 : decode cX6_mean 0 = .ok (.aload_n 0, 1) := by decide +kernel
theorem dX6_mean_1 : decode cX6_mean 1 = .ok (.getfield 115, 3) := by decide +kernel
theorem dX6_mean_4 : decode cX6_mean 4 = .ok (.ifCond .ne 8, 3) := by decide +kernel
theorem dX6_mean_7 : decode cX6_mean 7 = .ok (.bipush (-103), 2) := by decide +kernel
theorem dX6_mean_9 : decode cX6_mean 9 = .ok (.goto 7, 3) := by decide +kernel
theorem dX6_mean_12 : decode cX6_mean 12 = .ok (.aload_n 0, 1) := by decide +kernel
theorem dX6_mean_13 : decode cX6_mean 13 = .ok (.invokevirtual 222, 3) := by decide +kernel
theorem dX6_mean_16 : decode cX6_mean 16 = .ok (.ireturn, 1) := by decide +kernel
theorem dX6_could_0 : decode cX6_could 0 = .ok (.iload_n 1, 1) := by decide +kernel
theorem dX6_could_1 : decode cX6_could 1 = .ok (.tableswitch 65 0 2 #[27, 38, 54], 27) := by decide +kernel
theorem dX6_could_28 : decode cX6_could 28 = .ok (.iload_n 0, 1) := by decide +kernel
theorem dX6_could_29 : decode cX6_could 29 = .ok (.iconst 1, 1) := by decide +kernel
theorem dX6_could_30 : decode cX6_could 30 = .ok (.if_icmp .eq 7, 3) := by decide +kernel
theorem dX6_could_33 : decode cX6_could 33 = .ok (.iconst 1, 1) := by decide +kernel
theorem dX6_could_34 : decode cX6_could 34 = .ok (.goto 4, 3) := by decide +kernel
theorem dX6_could_37 : decode cX6_could 37 = .ok (.iconst 0, 1) := by decide +kernel
theorem dX6_could_38 : decode cX6_could 38 = .ok (.ireturn, 1) := by decide +kernel
theorem dX6_could_39 : decode cX6_could 39 = .ok (.iload_n 0, 1) := by decide +kernel
theorem dX6_could_40 : decode cX6_could 40 = .ok (.iconst 1, 1) := by decide +kernel
theorem dX6_could_41 : decode cX6_could 41 = .ok (.if_icmp .eq 8, 3) := by decide +kernel
theorem dX6_could_44 : decode cX6_could 44 = .ok (.iload_n 0, 1) := by decide +kernel
theorem dX6_could_45 : decode cX6_could 45 = .ok (.iconst 4, 1) := by decide +kernel
theorem dX6_could_46 : decode cX6_could 46 = .ok (.if_icmp .ne 7, 3) := by decide +kernel
theorem dX6_could_49 : decode cX6_could 49 = .ok (.iconst 1, 1) := by decide +kernel
theorem dX6_could_50 : decode cX6_could 50 = .ok (.goto 4, 3) := by decide +kernel
theorem dX6_could_53 : decode cX6_could 53 = .ok (.iconst 0, 1) := by decide +kernel
theorem dX6_could_54 : decode cX6_could 54 = .ok (.ireturn, 1) := by decide +kernel
theorem dX6_could_55 : decode cX6_could 55 = .ok (.iload_n 0, 1) := by decide +kernel
theorem dX6_could_56 : decode cX6_could 56 = .ok (.iconst 2, 1) := by decide +kernel
theorem dX6_could_57 : decode cX6_could 57 = .ok (.if_icmp .eq 7, 3) := by decide +kernel
theorem dX6_could_60 : decode cX6_could 60 = .ok (.iconst 1, 1) := by decide +kernel
theorem dX6_could_61 : decode cX6_could 61 = .ok (.goto 4, 3) := by decide +kernel
theorem dX6_could_64 : decode cX6_could 64 = .ok (.iconst 0, 1) := by decide +kernel
theorem dX6_could_65 : decode cX6_could 65 = .ok (.ireturn, 1) := by decide +kernel
theorem dX6_could_66 : decode cX6_could 66 = .ok (.iload_n 0, 1) := by decide +kernel
theorem dX6_could_67 : decode cX6_could 67 = .ok (.iconst 3, 1) := by decide +kernel
theorem dX6_could_68 : decode cX6_could 68 = .ok (.if_icmp .eq 7, 3) := by decide +kernel
theorem dX6_could_71 : decode cX6_could 71 = .ok (.iconst 1, 1) := by decide +kernel
theorem dX6_could_72 : decode cX6_could 72 = .ok (.goto 4, 3) := by decide +kernel
theorem dX6_could_75 : decode cX6_could 75 = .ok (.iconst 0, 1) := by decide +kernel
theorem dX6_could_76 : decode cX6_could 76 = .ok (.ireturn, 1) := by decide +kernel
set_option maxRecDepth 20000 in
theorem ggX6_see_X6_isPeg : GoodIn wsX6_see wsX6_isPeg := goodIn_r _ [9, 10, 11, 12, 8, 13, 14, 15, 16, 17, 18, 19, 20, 21, 22, 23, 24, 25, 26, 27, 28, 29, 30, 31, 32, 33, 34, 35, 36, 37, 38, 39, 40, 41, 42, 43, 44, 45, 46, 47, 48, 49, 50, 51, 52, 53] (by decide +kernel) (by decide +kernel)
set_option maxRecDepth 20000 in
theorem gX6_see_X6_isPeg : GoodIn wsX6_see (wsV RX6 166 RX6 yX6_isPeg wsX6_isPeg) := goodIn_app (goodIn_of _ (by decide +kernel)) ggX6_see_X6_isPeg
set_option maxRecDepth 20000 in
theorem ggX6_see_X6_within : GoodIn wsX6_see wsX6_within := goodIn_r _ [13] (by decide +kernel) (by decide +kernel)
set_option maxRecDepth 20000 in
theorem gX6_see_X6_within : GoodIn wsX6_see (va_wsS RX6 77 yX6_within wsX6_within) := goodIn_app (goodIn_of _ (by decide +kernel)) ggX6_see_X6_within
theorem dX6_see_0 : decode cX6_see 0 = .ok (.aload_n 0, 1) := by decide +kernel
theorem dX6_see_1 : decode cX6_see 1 = .ok (.iload_n 1, 1) := by decide +kernel
theorem dX6_see_2 : decode cX6_see 2 = .ok (.invokevirtual 166, 3) := by decide +kernel
theorem dX6_see_5 : decode cX6_see 5 = .ok (.ifCond .ne 6, 3) := by decide +kernel
theorem dX6_see_8 : decode cX6_see 8 = .ok (.bipush (-101), 2) := by decide +kernel
theorem dX6_see_10 : decode cX6_see 10 = .ok (.ireturn, 1) := by decide +kernel
theorem dX6_see_11 : decode cX6_see 11 = .ok (.iload_n 2, 1) := by decide +kernel
theorem dX6_see_12 : decode cX6_see 12 = .ok (.iconst 0, 1) := by decide +kernel
theorem dX6_see_13 : decode cX6_see 13 = .ok (.iconst 3, 1) := by decide +kernel
theorem dX6_see_14 : decode cX6_see 14 = .ok (.invokestatic 77, 3) := by decide +kernel
theorem dX6_see_17 : decode cX6_see 17 = .ok (.ifCond .ne 6, 3) := by decide +kernel
theorem dX6_see_20 : decode cX6_see 20 = .ok (.bipush (-102), 2) := by decide +kernel
theorem dX6_see_22 : decode cX6_see 22 = .ok (.ireturn, 1) := by decide +kernel
theorem dX6_see_23 : decode cX6_see 23 = .ok (.aload_n 0, 1) := by decide +kernel
theorem dX6_see_24 : decode cX6_see 24 = .ok (.getfield 127, 3) := by decide +kernel
theorem dX6_see_27 : decode cX6_see 27 = .ok (.bipush 6, 2) := by decide +kernel
theorem dX6_see_29 : decode cX6_see 29 = .ok (.if_icmp .ne 6, 3) := by decide +kernel
theorem dX6_see_32 : decode cX6_see 32 = .ok (.bipush (-104), 2) := by decide +kernel
theorem dX6_see_34 : decode cX6_see 34 = .ok (.ireturn, 1) := by decide +kernel
theorem dX6_see_35 : decode cX6_see 35 = .ok (.aload_n 0, 1) := by decide +kernel
theorem dX6_see_36 : decode cX6_see 36 = .ok (.getfield 16, 3) := by decide +kernel
theorem dX6_see_39 : decode cX6_see 39 = .ok (.aload_n 0, 1) := by decide +kernel
theorem dX6_see_40 : decode cX6_see 40 = .ok (.getfield 127, 3) := by decide +kernel
theorem dX6_see_43 : decode cX6_see 43 = .ok (.iload_n 1, 1) := by decide +kernel
theorem dX6_see_44 : decode cX6_see 44 = .ok (.iastore, 1) := by decide +kernel
theorem dX6_see_45 : decode cX6_see 45 = .ok (.aload_n 0, 1) := by decide +kernel
theorem dX6_see_46 : decode cX6_see 46 = .ok (.getfield 19, 3) := by decide +kernel
theorem dX6_see_49 : decode cX6_see 49 = .ok (.aload_n 0, 1) := by decide +kernel
theorem dX6_see_50 : decode cX6_see 50 = .ok (.getfield 127, 3) := by decide +kernel
theorem dX6_see_53 : decode cX6_see 53 = .ok (.iload_n 2, 1) := by decide +kernel
theorem dX6_see_54 : decode cX6_see 54 = .ok (.iastore, 1) := by decide +kernel
theorem dX6_see_55 : decode cX6_see 55 = .ok (.aload_n 0, 1) := by decide +kernel
theorem dX6_see_56 : decode cX6_see 56 = .ok (.getfield 22, 3) := by decide +kernel
theorem dX6_see_59 : decode cX6_see 59 = .ok (.aload_n 0, 1) := by decide +kernel
theorem dX6_see_60 : decode cX6_see 60 = .ok (.getfield 127, 3) := by decide +kernel
theorem dX6_see_63 : decode cX6_see 63 = .ok (.iload_n 3, 1) := by decide +kernel
theorem dX6_see_64 : decode cX6_see 64 = .ok (.ifCond .eq 7, 3) := by decide +kernel
theorem dX6_see_67 : decode cX6_see 67 = .ok (.iconst 1, 1) := by decide +kernel
theorem dX6_see_68 : decode cX6_see 68 = .ok (.goto 4, 3) := by decide +kernel
theorem dX6_see_71 : decode cX6_see 71 = .ok (.iconst 0, 1) := by decide +kernel
theorem dX6_see_72 : decode cX6_see 72 = .ok (.iastore, 1) := by decide +kernel
theorem dX6_see_73 : decode cX6_see 73 = .ok (.aload_n 0, 1) := by decide +kernel
theorem dX6_see_74 : decode cX6_see 74 = .ok (.dup, 1) := by decide +kernel
theorem dX6_see_75 : decode cX6_see 75 = .ok (.getfield 127, 3) := by decide +kernel
theorem dX6_see_78 : decode cX6_see 78 = .ok (.iconst 1, 1) := by decide +kernel
theorem dX6_see_79 : decode cX6_see 79 = .ok (.iadd, 1) := by decide +kernel
theorem dX6_see_80 : decode cX6_see 80 = .ok (.putfield 127, 3) := by decide +kernel
theorem dX6_see_83 : decode cX6_see 83 = .ok (.aload_n 0, 1) := by decide +kernel
theorem dX6_see_84 : decode cX6_see 84 = .ok (.getfield 127, 3) := by decide +kernel
theorem dX6_see_87 : decode cX6_see 87 = .ok (.ireturn, 1) := by decide +kernel
theorem dX6_forget_0 : decode cX6_forget 0 = .ok (.aload_n 0, 1) := by decide +kernel
theorem dX6_forget_1 : decode cX6_forget 1 = .ok (.getfield 127, 3) := by decide +kernel
theorem dX6_forget_4 : decode cX6_forget 4 = .ok (.istore_n 1, 1) := by decide +kernel
theorem dX6_forget_5 : decode cX6_forget 5 = .ok (.aload_n 0, 1) := by decide +kernel
theorem dX6_forget_6 : decode cX6_forget 6 = .ok (.iconst 0, 1) := by decide +kernel
theorem dX6_forget_7 : decode cX6_forget 7 = .ok (.putfield 127, 3) := by decide +kernel
theorem dX6_forget_10 : decode cX6_forget 10 = .ok (.iload_n 1, 1) := by decide +kernel
theorem dX6_forget_11 : decode cX6_forget 11 = .ok (.ireturn, 1) := by decide +kernel
set_option maxRecDepth 20000 in
theorem ggX6_sortsOf_X6_could : GoodIn wsX6_sortsOf wsX6_could := goodIn_r _ [8] (by decide +kernel) (by decide +kernel)
set_option maxRecDepth 20000 in
theorem gX6_sortsOf_X6_could : GoodIn wsX6_sortsOf (va_wsS RX6 225 yX6_could wsX6_could) := goodIn_app (goodIn_of _ (by decide +kernel)) ggX6_sortsOf_X6_could
theorem dX6_sortsOf_0 : decode cX6_sortsOf 0 = .ok (.iconst 0, 1) := by decide +kernel
theorem dX6_sortsOf_1 : decode cX6_sortsOf 1 = .ok (.istore_n 2, 1) := by decide +kernel
theorem dX6_sortsOf_2 : decode cX6_sortsOf 2 = .ok (.iconst 0, 1) := by decide +kernel
theorem dX6_sortsOf_3 : decode cX6_sortsOf 3 = .ok (.istore_n 3, 1) := by decide +kernel
theorem dX6_sortsOf_4 : decode cX6_sortsOf 4 = .ok (.iload_n 3, 1) := by decide +kernel
theorem dX6_sortsOf_5 : decode cX6_sortsOf 5 = .ok (.iconst 4, 1) := by decide +kernel
theorem dX6_sortsOf_6 : decode cX6_sortsOf 6 = .ok (.if_icmp .gt 98, 3) := by decide +kernel
theorem dX6_sortsOf_9 : decode cX6_sortsOf 9 = .ok (.iconst 1, 1) := by decide +kernel
theorem dX6_sortsOf_10 : decode cX6_sortsOf 10 = .ok (.istore 4, 2) := by decide +kernel
theorem dX6_sortsOf_12 : decode cX6_sortsOf 12 = .ok (.iconst 0, 1) := by decide +kernel
theorem dX6_sortsOf_13 : decode cX6_sortsOf 13 = .ok (.istore 5, 2) := by decide +kernel
theorem dX6_sortsOf_15 : decode cX6_sortsOf 15 = .ok (.iload 5, 2) := by decide +kernel
theorem dX6_sortsOf_17 : decode cX6_sortsOf 17 = .ok (.aload_n 0, 1) := by decide +kernel
theorem dX6_sortsOf_18 : decode cX6_sortsOf 18 = .ok (.getfield 127, 3) := by decide +kernel
theorem dX6_sortsOf_21 : decode cX6_sortsOf 21 = .ok (.if_icmp .ge 62, 3) := by decide +kernel
theorem dX6_sortsOf_24 : decode cX6_sortsOf 24 = .ok (.iload 4, 2) := by decide +kernel
theorem dX6_sortsOf_26 : decode cX6_sortsOf 26 = .ok (.ifCond .eq 48, 3) := by decide +kernel
theorem dX6_sortsOf_29 : decode cX6_sortsOf 29 = .ok (.aload_n 0, 1) := by decide +kernel
theorem dX6_sortsOf_30 : decode cX6_sortsOf 30 = .ok (.getfield 16, 3) := by decide +kernel
theorem dX6_sortsOf_33 : decode cX6_sortsOf 33 = .ok (.iload 5, 2) := by decide +kernel
theorem dX6_sortsOf_35 : decode cX6_sortsOf 35 = .ok (.iaload, 1) := by decide +kernel
theorem dX6_sortsOf_36 : decode cX6_sortsOf 36 = .ok (.iload_n 1, 1) := by decide +kernel
theorem dX6_sortsOf_37 : decode cX6_sortsOf 37 = .ok (.if_icmp .ne 33, 3) := by decide +kernel
theorem dX6_sortsOf_40 : decode cX6_sortsOf 40 = .ok (.iload_n 3, 1) := by decide +kernel
theorem dX6_sortsOf_41 : decode cX6_sortsOf 41 = .ok (.aload_n 0, 1) := by decide +kernel
theorem dX6_sortsOf_42 : decode cX6_sortsOf 42 = .ok (.getfield 19, 3) := by decide +kernel
theorem dX6_sortsOf_45 : decode cX6_sortsOf 45 = .ok (.iload 5, 2) := by decide +kernel
theorem dX6_sortsOf_47 : decode cX6_sortsOf 47 = .ok (.iaload, 1) := by decide +kernel
theorem dX6_sortsOf_48 : decode cX6_sortsOf 48 = .ok (.invokestatic 225, 3) := by decide +kernel
theorem dX6_sortsOf_51 : decode cX6_sortsOf 51 = .ok (.aload_n 0, 1) := by decide +kernel
theorem dX6_sortsOf_52 : decode cX6_sortsOf 52 = .ok (.getfield 22, 3) := by decide +kernel
theorem dX6_sortsOf_55 : decode cX6_sortsOf 55 = .ok (.iload 5, 2) := by decide +kernel
theorem dX6_sortsOf_57 : decode cX6_sortsOf 57 = .ok (.iaload, 1) := by decide +kernel
theorem dX6_sortsOf_58 : decode cX6_sortsOf 58 = .ok (.iconst 1, 1) := by decide +kernel
theorem dX6_sortsOf_59 : decode cX6_sortsOf 59 = .ok (.if_icmp .ne 7, 3) := by decide +kernel
theorem dX6_sortsOf_62 : decode cX6_sortsOf 62 = .ok (.iconst 1, 1) := by decide +kernel
theorem dX6_sortsOf_63 : decode cX6_sortsOf 63 = .ok (.goto 4, 3) := by decide +kernel
theorem dX6_sortsOf_66 : decode cX6_sortsOf 66 = .ok (.iconst 0, 1) := by decide +kernel
theorem dX6_sortsOf_67 : decode cX6_sortsOf 67 = .ok (.if_icmp .ne 7, 3) := by decide +kernel
theorem dX6_sortsOf_70 : decode cX6_sortsOf 70 = .ok (.iconst 1, 1) := by decide +kernel
theorem dX6_sortsOf_71 : decode cX6_sortsOf 71 = .ok (.goto 4, 3) := by decide +kernel
theorem dX6_sortsOf_74 : decode cX6_sortsOf 74 = .ok (.iconst 0, 1) := by decide +kernel
theorem dX6_sortsOf_75 : decode cX6_sortsOf 75 = .ok (.istore 4, 2) := by decide +kernel
theorem dX6_sortsOf_77 : decode cX6_sortsOf 77 = .ok (.iinc 5 1, 3) := by decide +kernel
theorem dX6_sortsOf_80 : decode cX6_sortsOf 80 = .ok (.goto (-65), 3) := by decide +kernel
theorem dX6_sortsOf_83 : decode cX6_sortsOf 83 = .ok (.iload_n 2, 1) := by decide +kernel
theorem dX6_sortsOf_84 : decode cX6_sortsOf 84 = .ok (.iload 4, 2) := by decide +kernel
theorem dX6_sortsOf_86 : decode cX6_sortsOf 86 = .ok (.ifCond .eq 9, 3) := by decide +kernel
theorem dX6_sortsOf_89 : decode cX6_sortsOf 89 = .ok (.iconst 1, 1) := by decide +kernel
theorem dX6_sortsOf_90 : decode cX6_sortsOf 90 = .ok (.iload_n 3, 1) := by decide +kernel
theorem dX6_sortsOf_91 : decode cX6_sortsOf 91 = .ok (.ishl, 1) := by decide +kernel
theorem dX6_sortsOf_92 : decode cX6_sortsOf 92 = .ok (.goto 4, 3) := by decide +kernel
theorem dX6_sortsOf_95 : decode cX6_sortsOf 95 = .ok (.iconst 0, 1) := by decide +kernel
theorem dX6_sortsOf_96 : decode cX6_sortsOf 96 = .ok (.ior, 1) := by decide +kernel
theorem dX6_sortsOf_97 : decode cX6_sortsOf 97 = .ok (.istore_n 2, 1) := by decide +kernel
theorem dX6_sortsOf_98 : decode cX6_sortsOf 98 = .ok (.iinc 3 1, 3) := by decide +kernel
theorem dX6_sortsOf_101 : decode cX6_sortsOf 101 = .ok (.goto (-97), 3) := by decide +kernel
theorem dX6_sortsOf_104 : decode cX6_sortsOf 104 = .ok (.iload_n 2, 1) := by decide +kernel
theorem dX6_sortsOf_105 : decode cX6_sortsOf 105 = .ok (.ireturn, 1) := by decide +kernel
set_option maxRecDepth 20000 in
theorem ggX6_askOf_X6_sortsOf : GoodIn wsX6_askOf wsX6_sortsOf := goodIn_r _ [6, 7, 8, 9, 10, 11, 12, 5, 13, 20, 21, 22, 23, 24, 25, 26, 27, 28, 29, 30, 31, 32, 33, 34, 35, 36, 37, 38, 39, 40, 41, 42, 43, 44, 45, 46, 47, 48, 49, 50, 51, 52, 53, 54, 55, 56, 57, 58, 59] (by decide +kernel) (by decide +kernel)
set_option maxRecDepth 20000 in
theorem gX6_askOf_X6_sortsOf : GoodIn wsX6_askOf (wsV RX6 160 RX6 yX6_sortsOf wsX6_sortsOf) := goodIn_app (goodIn_of _ (by decide +kernel)) ggX6_askOf_X6_sortsOf
set_option maxRecDepth 20000 in
theorem ggX6_askOf_X6_isIn : GoodIn wsX6_askOf wsX6_isIn := goodIn_r _ [16] (by decide +kernel) (by decide +kernel)
set_option maxRecDepth 20000 in
theorem gX6_askOf_X6_isIn : GoodIn wsX6_askOf (va_wsS RX6 130 yX6_isIn wsX6_isIn) := goodIn_app (goodIn_of _ (by decide +kernel)) ggX6_askOf_X6_isIn
set_option maxRecDepth 20000 in
theorem ggX6_askOf_X6_could : GoodIn wsX6_askOf wsX6_could := goodIn_r _ [13] (by decide +kernel) (by decide +kernel)
set_option maxRecDepth 20000 in
theorem gX6_askOf_X6_could : GoodIn wsX6_askOf (va_wsS RX6 225 yX6_could wsX6_could) := goodIn_app (goodIn_of _ (by decide +kernel)) ggX6_askOf_X6_could
set_option maxRecDepth 20000 in
theorem ggX6_askOf_X6_size : GoodIn wsX6_askOf wsX6_size := goodIn_r _ [19] (by decide +kernel) (by decide +kernel)
set_option maxRecDepth 20000 in
theorem gX6_askOf_X6_size : GoodIn wsX6_askOf (va_wsS RX6 154 yX6_size wsX6_size) := goodIn_app (goodIn_of _ (by decide +kernel)) ggX6_askOf_X6_size
theorem dX6_askOf_0 : decode cX6_askOf 0 = .ok (.aload_n 0, 1) := by decide +kernel
theorem dX6_askOf_1 : decode cX6_askOf 1 = .ok (.iload_n 1, 1) := by decide +kernel
theorem dX6_askOf_2 : decode cX6_askOf 2 = .ok (.invokevirtual 160, 3) := by decide +kernel
theorem dX6_askOf_5 : decode cX6_askOf 5 = .ok (.istore_n 2, 1) := by decide +kernel
theorem dX6_askOf_6 : decode cX6_askOf 6 = .ok (.iconst (-1), 1) := by decide +kernel
theorem dX6_askOf_7 : decode cX6_askOf 7 = .ok (.istore_n 3, 1) := by decide +kernel
theorem dX6_askOf_8 : decode cX6_askOf 8 = .ok (.ldc 189, 2) := by decide +kernel
theorem dX6_askOf_10 : decode cX6_askOf 10 = .ok (.istore 4, 2) := by decide +kernel
theorem dX6_askOf_12 : decode cX6_askOf 12 = .ok (.iconst 0, 1) := by decide +kernel
theorem dX6_askOf_13 : decode cX6_askOf 13 = .ok (.istore 5, 2) := by decide +kernel
theorem dX6_askOf_15 : decode cX6_askOf 15 = .ok (.iload 5, 2) := by decide +kernel
theorem dX6_askOf_17 : decode cX6_askOf 17 = .ok (.iconst 4, 1) := by decide +kernel
theorem dX6_askOf_18 : decode cX6_askOf 18 = .ok (.if_icmp .ge 115, 3) := by decide +kernel
theorem dX6_askOf_21 : decode cX6_askOf 21 = .ok (.iload_n 2, 1) := by decide +kernel
theorem dX6_askOf_22 : decode cX6_askOf 22 = .ok (.ifCond .eq 111, 3) := by decide +kernel
theorem dX6_askOf_25 : decode cX6_askOf 25 = .ok (.iconst 0, 1) := by decide +kernel
theorem dX6_askOf_26 : decode cX6_askOf 26 = .ok (.istore 6, 2) := by decide +kernel
theorem dX6_askOf_28 : decode cX6_askOf 28 = .ok (.iconst 0, 1) := by decide +kernel
theorem dX6_askOf_29 : decode cX6_askOf 29 = .ok (.istore 7, 2) := by decide +kernel
theorem dX6_askOf_31 : decode cX6_askOf 31 = .ok (.iload 7, 2) := by decide +kernel
theorem dX6_askOf_33 : decode cX6_askOf 33 = .ok (.iconst 4, 1) := by decide +kernel
theorem dX6_askOf_34 : decode cX6_askOf 34 = .ok (.if_icmp .gt 38, 3) := by decide +kernel
theorem dX6_askOf_37 : decode cX6_askOf 37 = .ok (.iload 6, 2) := by decide +kernel
theorem dX6_askOf_39 : decode cX6_askOf 39 = .ok (.iload_n 2, 1) := by decide +kernel
theorem dX6_askOf_40 : decode cX6_askOf 40 = .ok (.iload 7, 2) := by decide +kernel
theorem dX6_askOf_42 : decode cX6_askOf 42 = .ok (.invokestatic 130, 3) := by decide +kernel
theorem dX6_askOf_45 : decode cX6_askOf 45 = .ok (.ifCond .eq 17, 3) := by decide +kernel
theorem dX6_askOf_48 : decode cX6_askOf 48 = .ok (.iload 7, 2) := by decide +kernel
theorem dX6_askOf_50 : decode cX6_askOf 50 = .ok (.iload 5, 2) := by decide +kernel
theorem dX6_askOf_52 : decode cX6_askOf 52 = .ok (.invokestatic 225, 3) := by decide +kernel
theorem dX6_askOf_55 : decode cX6_askOf 55 = .ok (.ifCond .eq 7, 3) := by decide +kernel
theorem dX6_askOf_58 : decode cX6_askOf 58 = .ok (.iconst 1, 1) := by decide +kernel
theorem dX6_askOf_59 : decode cX6_askOf 59 = .ok (.goto 4, 3) := by decide +kernel
theorem dX6_askOf_62 : decode cX6_askOf 62 = .ok (.iconst 0, 1) := by decide +kernel
theorem dX6_askOf_63 : decode cX6_askOf 63 = .ok (.iadd, 1) := by decide +kernel
theorem dX6_askOf_64 : decode cX6_askOf 64 = .ok (.istore 6, 2) := by decide +kernel
theorem dX6_askOf_66 : decode cX6_askOf 66 = .ok (.iinc 7 1, 3) := by decide +kernel
theorem dX6_askOf_69 : decode cX6_askOf 69 = .ok (.goto (-38), 3) := by decide +kernel
theorem dX6_askOf_72 : decode cX6_askOf 72 = .ok (.iload_n 2, 1) := by decide +kernel
theorem dX6_askOf_73 : decode cX6_askOf 73 = .ok (.invokestatic 154, 3) := by decide +kernel
theorem dX6_askOf_76 : decode cX6_askOf 76 = .ok (.iload 6, 2) := by decide +kernel
theorem dX6_askOf_78 : decode cX6_askOf 78 = .ok (.isub, 1) := by decide +kernel
theorem dX6_askOf_79 : decode cX6_askOf 79 = .ok (.istore 7, 2) := by decide +kernel
theorem dX6_askOf_81 : decode cX6_askOf 81 = .ok (.iload 6, 2) := by decide +kernel
theorem dX6_askOf_83 : decode cX6_askOf 83 = .ok (.iload 7, 2) := by decide +kernel
theorem dX6_askOf_85 : decode cX6_askOf 85 = .ok (.if_icmp .le 8, 3) := by decide +kernel
theorem dX6_askOf_88 : decode cX6_askOf 88 = .ok (.iload 6, 2) := by decide +kernel
theorem dX6_askOf_90 : decode cX6_askOf 90 = .ok (.goto 5, 3) := by decide +kernel
theorem dX6_askOf_93 : decode cX6_askOf 93 = .ok (.iload 7, 2) := by decide +kernel
theorem dX6_askOf_95 : decode cX6_askOf 95 = .ok (.istore 8, 2) := by decide +kernel
theorem dX6_askOf_97 : decode cX6_askOf 97 = .ok (.iload 8, 2) := by decide +kernel
theorem dX6_askOf_99 : decode cX6_askOf 99 = .ok (.iload 4, 2) := by decide +kernel
theorem dX6_askOf_101 : decode cX6_askOf 101 = .ok (.if_icmp .ge 8, 3) := by decide +kernel
theorem dX6_askOf_104 : decode cX6_askOf 104 = .ok (.iload 5, 2) := by decide +kernel
theorem dX6_askOf_106 : decode cX6_askOf 106 = .ok (.goto 4, 3) := by decide +kernel
theorem dX6_askOf_109 : decode cX6_askOf 109 = .ok (.iload_n 3, 1) := by decide +kernel
theorem dX6_askOf_110 : decode cX6_askOf 110 = .ok (.istore_n 3, 1) := by decide +kernel
theorem dX6_askOf_111 : decode cX6_askOf 111 = .ok (.iload 8, 2) := by decide +kernel
theorem dX6_askOf_113 : decode cX6_askOf 113 = .ok (.iload 4, 2) := by decide +kernel
theorem dX6_askOf_115 : decode cX6_askOf 115 = .ok (.if_icmp .ge 8, 3) := by decide +kernel
theorem dX6_askOf_118 : decode cX6_askOf 118 = .ok (.iload 8, 2) := by decide +kernel
theorem dX6_askOf_120 : decode cX6_askOf 120 = .ok (.goto 5, 3) := by decide +kernel
theorem dX6_askOf_123 : decode cX6_askOf 123 = .ok (.iload 4, 2) := by decide +kernel
theorem dX6_askOf_125 : decode cX6_askOf 125 = .ok (.istore 4, 2) := by decide +kernel
theorem dX6_askOf_127 : decode cX6_askOf 127 = .ok (.iinc 5 1, 3) := by decide +kernel
theorem dX6_askOf_130 : decode cX6_askOf 130 = .ok (.goto (-115), 3) := by decide +kernel
theorem dX6_askOf_133 : decode cX6_askOf 133 = .ok (.iload_n 3, 1) := by decide +kernel
theorem dX6_askOf_134 : decode cX6_askOf 134 = .ok (.ireturn, 1) := by decide +kernel
theorem dX6_draw_0 : decode cX6_draw 0 = .ok (.aload_n 0, 1) := by decide +kernel
theorem dX6_draw_1 : decode cX6_draw 1 = .ok (.ldc2_w 228, 3) := by decide +kernel
theorem dX6_draw_4 : decode cX6_draw 4 = .ok (.aload_n 0, 1) := by decide +kernel
theorem dX6_draw_5 : decode cX6_draw 5 = .ok (.getfield 230, 3) := by decide +kernel
theorem dX6_draw_8 : decode cX6_draw 8 = .ok (.lmul, 1) := by decide +kernel
theorem dX6_draw_9 : decode cX6_draw 9 = .ok (.ldc2_w 234, 3) := by decide +kernel
theorem dX6_draw_12 : decode cX6_draw 12 = .ok (.ladd, 1) := by decide +kernel
theorem dX6_draw_13 : decode cX6_draw 13 = .ok (.ldc2_w 236, 3) := by decide +kernel
theorem dX6_draw_16 : decode cX6_draw 16 = .ok (.land, 1) := by decide +kernel
theorem dX6_draw_17 : decode cX6_draw 17 = .ok (.putfield 230, 3) := by decide +kernel
theorem dX6_draw_20 : decode cX6_draw 20 = .ok (.aload_n 0, 1) := by decide +kernel
theorem dX6_draw_21 : decode cX6_draw 21 = .ok (.getfield 230, 3) := by decide +kernel
theorem dX6_draw_24 : decode cX6_draw 24 = .ok (.ldc2_w 238, 3) := by decide +kernel
theorem dX6_draw_27 : decode cX6_draw 27 = .ok (.ldiv, 1) := by decide +kernel
theorem dX6_draw_28 : decode cX6_draw 28 = .ok (.iload_n 1, 1) := by decide +kernel
theorem dX6_draw_29 : decode cX6_draw 29 = .ok (.i2l, 1) := by decide +kernel
theorem dX6_draw_30 : decode cX6_draw 30 = .ok (.lrem, 1) := by decide +kernel
theorem dX6_draw_31 : decode cX6_draw 31 = .ok (.l2i, 1) := by decide +kernel
theorem dX6_draw_32 : decode cX6_draw 32 = .ok (.ireturn, 1) := by decide +kernel
set_option maxRecDepth 20000 in
theorem ggX6_codeBy_X6_nextCode : GoodIn wsX6_codeBy wsX6_nextCode := goodIn_r _ [6, 1, 7, 8, 9, 10, 5, 11, 12, 13, 14, 15, 16, 17, 18, 19, 20, 21, 22, 23, 24, 25, 26, 27, 28, 29, 30, 31, 32, 33, 34, 35, 36, 37, 38, 39, 40, 41, 42, 43, 44, 45, 46, 47, 48, 49, 50, 51, 52, 53, 54, 55, 56, 57, 58, 59, 60, 61, 62, 63, 64, 65, 66, 67, 68, 69, 70, 71, 72, 73, 74, 75, 76, 77, 78] (by decide +kernel) (by decide +kernel)
set_option maxRecDepth 20000 in
theorem gX6_codeBy_X6_nextCode : GoodIn wsX6_codeBy (wsV RX6 197 RX6 yX6_nextCode wsX6_nextCode) := goodIn_app (goodIn_of _ (by decide +kernel)) ggX6_codeBy_X6_nextCode
theorem dX6_codeBy_0 : decode cX6_codeBy 0 = .ok (.aload_n 0, 1) := by decide +kernel
theorem dX6_codeBy_1 : decode cX6_codeBy 1 = .ok (.getfield 32, 3) := by decide +kernel
theorem dX6_codeBy_4 : decode cX6_codeBy 4 = .ok (.iload_n 1, 1) := by decide +kernel
theorem dX6_codeBy_5 : decode cX6_codeBy 5 = .ok (.iconst 0, 1) := by decide +kernel
theorem dX6_codeBy_6 : decode cX6_codeBy 6 = .ok (.iastore, 1) := by decide +kernel
theorem dX6_codeBy_7 : decode cX6_codeBy 7 = .ok (.aload_n 0, 1) := by decide +kernel
theorem dX6_codeBy_8 : decode cX6_codeBy 8 = .ok (.iload_n 1, 1) := by decide +kernel
theorem dX6_codeBy_9 : decode cX6_codeBy 9 = .ok (.invokevirtual 197, 3) := by decide +kernel
theorem dX6_codeBy_12 : decode cX6_codeBy 12 = .ok (.istore_n 3, 1) := by decide +kernel
theorem dX6_codeBy_13 : decode cX6_codeBy 13 = .ok (.iconst 0, 1) := by decide +kernel
theorem dX6_codeBy_14 : decode cX6_codeBy 14 = .ok (.istore 4, 2) := by decide +kernel
theorem dX6_codeBy_16 : decode cX6_codeBy 16 = .ok (.iload 4, 2) := by decide +kernel
theorem dX6_codeBy_18 : decode cX6_codeBy 18 = .ok (.iload_n 2, 1) := by decide +kernel
theorem dX6_codeBy_19 : decode cX6_codeBy 19 = .ok (.if_icmp .ge 15, 3) := by decide +kernel
theorem dX6_codeBy_22 : decode cX6_codeBy 22 = .ok (.aload_n 0, 1) := by decide +kernel
theorem dX6_codeBy_23 : decode cX6_codeBy 23 = .ok (.iload_n 1, 1) := by decide +kernel
theorem dX6_codeBy_24 : decode cX6_codeBy 24 = .ok (.invokevirtual 197, 3) := by decide +kernel
theorem dX6_codeBy_27 : decode cX6_codeBy 27 = .ok (.istore_n 3, 1) := by decide +kernel
theorem dX6_codeBy_28 : decode cX6_codeBy 28 = .ok (.iinc 4 1, 3) := by decide +kernel
theorem dX6_codeBy_31 : decode cX6_codeBy 31 = .ok (.goto (-15), 3) := by decide +kernel
theorem dX6_codeBy_34 : decode cX6_codeBy 34 = .ok (.iload_n 3, 1) := by decide +kernel
theorem dX6_codeBy_35 : decode cX6_codeBy 35 = .ok (.ireturn, 1) := by decide +kernel
set_option maxRecDepth 20000 in
theorem ggX6_runsNow_X6_putDeep : GoodIn wsX6_runsNow wsX6_putDeep := goodIn_r _ [6, 7, 8, 9, 76, 77, 78, 79, 80, 81, 82, 83, 84, 85, 86, 87, 88, 89, 90, 91, 92, 93, 94, 95, 96, 97, 98, 99, 100, 101, 102, 103, 104, 105, 106, 107, 108, 109, 110, 111, 112, 113, 114, 115] (by decide +kernel) (by decide +kernel)
set_option maxRecDepth 20000 in
theorem gX6_runsNow_X6_putDeep : GoodIn wsX6_runsNow (wsV RX6 157 RX6 yX6_putDeep wsX6_putDeep) := goodIn_app (goodIn_of _ (by decide +kernel)) ggX6_runsNow_X6_putDeep
set_option maxRecDepth 20000 in
theorem ggX6_runsNow_X6_jumpsNow : GoodIn wsX6_runsNow wsX6_jumpsNow := goodIn_r _ [13, 8, 14, 15, 16, 5, 17, 18, 19, 20, 21, 22, 23, 24, 25, 26, 27, 28, 29, 30, 31, 7, 32, 33, 34, 35, 36, 37, 38, 39, 40, 41, 42, 43, 44, 45, 46, 47, 48, 49, 50, 76, 77, 78, 79, 80, 81, 82, 83, 84, 85, 86, 87, 88, 89, 90, 91, 92, 93, 94, 95, 96, 97, 98, 99, 100, 101, 102, 103, 104, 105, 106, 107, 108, 109, 110, 111, 112, 113, 114, 115] (by decide +kernel) (by decide +kernel)
set_option maxRecDepth 20000 in
theorem gX6_runsNow_X6_jumpsNow : GoodIn wsX6_runsNow (wsV RX6 240 RX6 yX6_jumpsNow wsX6_jumpsNow) := goodIn_app (goodIn_of _ (by decide +kernel)) ggX6_runsNow_X6_jumpsNow
set_option maxRecDepth 20000 in
theorem ggX6_runsNow_X6_draw : GoodIn wsX6_runsNow wsX6_draw := goodIn_r _ [54, 55, 1, 56, 57, 58, 76, 77, 78, 79, 80, 81, 82, 83, 84, 85, 86, 87, 88, 89, 90, 91, 92, 93, 94, 95, 96, 97, 98, 99, 100, 101, 102, 103, 104, 105, 106, 107, 108, 109, 110, 111, 112, 113, 114, 115] (by decide +kernel) (by decide +kernel)
set_option maxRecDepth 20000 in
theorem gX6_runsNow_X6_draw : GoodIn wsX6_runsNow (wsV RX6 243 RX6 yX6_draw wsX6_draw) := goodIn_app (goodIn_of _ (by decide +kernel)) ggX6_runsNow_X6_draw
set_option maxRecDepth 20000 in
theorem ggX6_runsNow_X6_codeBy : GoodIn wsX6_runsNow wsX6_codeBy := goodIn_r _ [62, 63, 64, 65, 66, 5, 67, 8, 18, 19, 20, 21, 22, 23, 24, 25, 26, 27, 28, 29, 30, 31, 7, 32, 33, 34, 35, 36, 37, 38, 39, 40, 41, 42, 43, 44, 45, 46, 47, 76, 77, 78, 79, 80, 81, 82, 83, 84, 85, 86, 87, 88, 89, 90, 91, 92, 93, 94, 95, 96, 97, 98, 99, 100, 101, 102, 103, 104, 105, 106, 107, 108, 109, 110, 111, 112, 113, 114, 115] (by decide +kernel) (by decide +kernel)
set_option maxRecDepth 20000 in
theorem gX6_runsNow_X6_codeBy : GoodIn wsX6_runsNow (wsV RX6 246 RX6 yX6_codeBy wsX6_codeBy) := goodIn_app (goodIn_of _ (by decide +kernel)) ggX6_runsNow_X6_codeBy
set_option maxRecDepth 20000 in
theorem ggX6_runsNow_X6_goDeep : GoodIn wsX6_runsNow wsX6_goDeep := goodIn_r _ [71, 7, 33, 28, 29, 30, 5, 31, 32, 23, 34, 35, 36, 37, 38, 39, 40, 8, 41, 42, 43, 44, 45, 46, 47, 76, 77, 78, 79, 80, 81, 82, 83, 84, 85, 86, 87, 88, 89, 90, 91, 92, 93, 94, 95, 96, 97, 98, 99, 100, 101, 102, 103, 104, 105, 106, 107, 108, 109, 110, 111, 112, 113, 114, 115] (by decide +kernel) (by decide +kernel)
set_option maxRecDepth 20000 in
theorem gX6_runsNow_X6_goDeep : GoodIn wsX6_runsNow (wsV RX6 179 RX6 yX6_goDeep wsX6_goDeep) := goodIn_app (goodIn_of _ (by decide +kernel)) ggX6_runsNow_X6_goDeep
set_option maxRecDepth 20000 in
theorem ggX6_runsNow_X6_onBoard : GoodIn wsX6_runsNow wsX6_onBoard := goodIn_r _ [75, 8, 7, 76, 77, 78, 79, 80, 81, 82, 83, 84, 85, 86, 87, 88, 89, 90, 91, 92, 93, 94, 95, 96, 97, 98, 99, 100, 101, 102, 103, 104, 105, 106, 107, 108, 109, 110, 111, 112, 113, 114, 115] (by decide +kernel) (by decide +kernel)
set_option maxRecDepth 20000 in
theorem gX6_runsNow_X6_onBoard : GoodIn wsX6_runsNow (wsV RX6 183 RX6 yX6_onBoard wsX6_onBoard) := goodIn_app (goodIn_of _ (by decide +kernel)) ggX6_runsNow_X6_onBoard
theorem dX6_runsNow_0 : decode cX6_runsNow 0 = .ok (.aload_n 0, 1) := by decide +kernel
theorem dX6_runsNow_1 : decode cX6_runsNow 1 = .ok (.iload_n 2, 1) := by decide +kernel
theorem dX6_runsNow_2 : decode cX6_runsNow 2 = .ok (.i2l, 1) := by decide +kernel
theorem dX6_runsNow_3 : decode cX6_runsNow 3 = .ok (.putfield 230, 3) := by decide +kernel
theorem dX6_runsNow_6 : decode cX6_runsNow 6 = .ok (.iconst 0, 1) := by decide +kernel
theorem dX6_runsNow_7 : decode cX6_runsNow 7 = .ok (.istore 4, 2) := by decide +kernel
theorem dX6_runsNow_9 : decode cX6_runsNow 9 = .ok (.iconst 0, 1) := by decide +kernel
theorem dX6_runsNow_10 : decode cX6_runsNow 10 = .ok (.istore 5, 2) := by decide +kernel
theorem dX6_runsNow_12 : decode cX6_runsNow 12 = .ok (.iconst 0, 1) := by decide +kernel
theorem dX6_runsNow_13 : decode cX6_runsNow 13 = .ok (.istore 6, 2) := by decide +kernel
theorem dX6_runsNow_15 : decode cX6_runsNow 15 = .ok (.iload 6, 2) := by decide +kernel
theorem dX6_runsNow_17 : decode cX6_runsNow 17 = .ok (.iload_n 1, 1) := by decide +kernel
theorem dX6_runsNow_18 : decode cX6_runsNow 18 = .ok (.if_icmp .ge 95, 3) := by decide +kernel
theorem dX6_runsNow_21 : decode cX6_runsNow 21 = .ok (.aload_n 0, 1) := by decide +kernel
theorem dX6_runsNow_22 : decode cX6_runsNow 22 = .ok (.invokevirtual 157, 3) := by decide +kernel
theorem dX6_runsNow_25 : decode cX6_runsNow 25 = .ok (.iconst 0, 1) := by decide +kernel
theorem dX6_runsNow_26 : decode cX6_runsNow 26 = .ok (.istore 7, 2) := by decide +kernel
theorem dX6_runsNow_28 : decode cX6_runsNow 28 = .ok (.aload_n 0, 1) := by decide +kernel
theorem dX6_runsNow_29 : decode cX6_runsNow 29 = .ok (.iconst 0, 1) := by decide +kernel
theorem dX6_runsNow_30 : decode cX6_runsNow 30 = .ok (.invokevirtual 240, 3) := by decide +kernel
theorem dX6_runsNow_33 : decode cX6_runsNow 33 = .ok (.istore 8, 2) := by decide +kernel
theorem dX6_runsNow_35 : decode cX6_runsNow 35 = .ok (.iload 8, 2) := by decide +kernel
theorem dX6_runsNow_37 : decode cX6_runsNow 37 = .ok (.ifCond .le 50, 3) := by decide +kernel
theorem dX6_runsNow_40 : decode cX6_runsNow 40 = .ok (.aload_n 0, 1) := by decide +kernel
theorem dX6_runsNow_41 : decode cX6_runsNow 41 = .ok (.iload 7, 2) := by decide +kernel
theorem dX6_runsNow_43 : decode cX6_runsNow 43 = .ok (.aload_n 0, 1) := by decide +kernel
theorem dX6_runsNow_44 : decode cX6_runsNow 44 = .ok (.iload 8, 2) := by decide +kernel
theorem dX6_runsNow_46 : decode cX6_runsNow 46 = .ok (.invokevirtual 243, 3) := by decide +kernel
theorem dX6_runsNow_49 : decode cX6_runsNow 49 = .ok (.invokevirtual 246, 3) := by decide +kernel
theorem dX6_runsNow_52 : decode cX6_runsNow 52 = .ok (.istore 9, 2) := by decide +kernel
theorem dX6_runsNow_54 : decode cX6_runsNow 54 = .ok (.aload_n 0, 1) := by decide +kernel
theorem dX6_runsNow_55 : decode cX6_runsNow 55 = .ok (.iload 7, 2) := by decide +kernel
theorem dX6_runsNow_57 : decode cX6_runsNow 57 = .ok (.iload 9, 2) := by decide +kernel
theorem dX6_runsNow_59 : decode cX6_runsNow 59 = .ok (.bipush 12, 2) := by decide +kernel
theorem dX6_runsNow_61 : decode cX6_runsNow 61 = .ok (.idiv, 1) := by decide +kernel
theorem dX6_runsNow_62 : decode cX6_runsNow 62 = .ok (.iload 9, 2) := by decide +kernel
theorem dX6_runsNow_64 : decode cX6_runsNow 64 = .ok (.bipush 12, 2) := by decide +kernel
theorem dX6_runsNow_66 : decode cX6_runsNow 66 = .ok (.irem, 1) := by decide +kernel
theorem dX6_runsNow_67 : decode cX6_runsNow 67 = .ok (.invokevirtual 179, 3) := by decide +kernel
theorem dX6_runsNow_70 : decode cX6_runsNow 70 = .ok (.iinc 7 1, 3) := by decide +kernel
theorem dX6_runsNow_73 : decode cX6_runsNow 73 = .ok (.iinc 4 1, 3) := by decide +kernel
theorem dX6_runsNow_76 : decode cX6_runsNow 76 = .ok (.aload_n 0, 1) := by decide +kernel
theorem dX6_runsNow_77 : decode cX6_runsNow 77 = .ok (.iload 7, 2) := by decide +kernel
theorem dX6_runsNow_79 : decode cX6_runsNow 79 = .ok (.invokevirtual 240, 3) := by decide +kernel
theorem dX6_runsNow_82 : decode cX6_runsNow 82 = .ok (.istore 8, 2) := by decide +kernel
theorem dX6_runsNow_84 : decode cX6_runsNow 84 = .ok (.goto (-49), 3) := by decide +kernel
theorem dX6_runsNow_87 : decode cX6_runsNow 87 = .ok (.iload 5, 2) := by decide +kernel
theorem dX6_runsNow_89 : decode cX6_runsNow 89 = .ok (.aload_n 0, 1) := by decide +kernel
theorem dX6_runsNow_90 : decode cX6_runsNow 90 = .ok (.iload 7, 2) := by decide +kernel
theorem dX6_runsNow_92 : decode cX6_runsNow 92 = .ok (.invokevirtual 183, 3) := by decide +kernel
theorem dX6_runsNow_95 : decode cX6_runsNow 95 = .ok (.iconst 1, 1) := by decide +kernel
theorem dX6_runsNow_96 : decode cX6_runsNow 96 = .ok (.if_icmp .ne 7, 3) := by decide +kernel
theorem dX6_runsNow_99 : decode cX6_runsNow 99 = .ok (.iconst 1, 1) := by decide +kernel
theorem dX6_runsNow_100 : decode cX6_runsNow 100 = .ok (.goto 4, 3) := by decide +kernel
theorem dX6_runsNow_103 : decode cX6_runsNow 103 = .ok (.iconst 0, 1) := by decide +kernel
theorem dX6_runsNow_104 : decode cX6_runsNow 104 = .ok (.iadd, 1) := by decide +kernel
theorem dX6_runsNow_105 : decode cX6_runsNow 105 = .ok (.istore 5, 2) := by decide +kernel
theorem dX6_runsNow_107 : decode cX6_runsNow 107 = .ok (.iinc 6 1, 3) := by decide +kernel
theorem dX6_runsNow_110 : decode cX6_runsNow 110 = .ok (.goto (-95), 3) := by decide +kernel
theorem dX6_runsNow_113 : decode cX6_runsNow 113 = .ok (.iload_n 3, 1) := by decide +kernel
theorem dX6_runsNow_114 : decode cX6_runsNow 114 = .ok (.ifCond .ne 8, 3) := by decide +kernel
theorem dX6_runsNow_117 : decode cX6_runsNow 117 = .ok (.iload 4, 2) := by decide +kernel
theorem dX6_runsNow_119 : decode cX6_runsNow 119 = .ok (.goto 18, 3) := by decide +kernel
theorem dX6_runsNow_122 : decode cX6_runsNow 122 = .ok (.iload_n 3, 1) := by decide +kernel
theorem dX6_runsNow_123 : decode cX6_runsNow 123 = .ok (.iconst 1, 1) := by decide +kernel
theorem dX6_runsNow_124 : decode cX6_runsNow 124 = .ok (.if_icmp .ne 8, 3) := by decide +kernel
theorem dX6_runsNow_127 : decode cX6_runsNow 127 = .ok (.iload 5, 2) := by decide +kernel
theorem dX6_runsNow_129 : decode cX6_runsNow 129 = .ok (.goto 8, 3) := by decide +kernel
theorem dX6_runsNow_132 : decode cX6_runsNow 132 = .ok (.aload_n 0, 1) := by decide +kernel
theorem dX6_runsNow_133 : decode cX6_runsNow 133 = .ok (.getfield 230, 3) := by decide +kernel
theorem dX6_runsNow_136 : decode cX6_runsNow 136 = .ok (.l2i, 1) := by decide +kernel
theorem dX6_runsNow_137 : decode cX6_runsNow 137 = .ok (.ireturn, 1) := by decide +kernel
set_option maxRecDepth 20000 in
theorem ggX6_runs_X6_within : GoodIn wsX6_runs wsX6_within := goodIn_r _ [5] (by decide +kernel) (by decide +kernel)
set_option maxRecDepth 20000 in
theorem gX6_runs_X6_within : GoodIn wsX6_runs (va_wsS RX6 77 yX6_within wsX6_within) := goodIn_app (goodIn_of _ (by decide +kernel)) ggX6_runs_X6_within
set_option maxRecDepth 20000 in
theorem ggX6_runs_X6_runsNow : GoodIn wsX6_runs wsX6_runsNow := goodIn_r _ [9, 10, 11, 12, 13, 4, 14, 15, 1, 16, 17, 18, 19, 20, 21, 22, 23, 24, 25, 26, 27, 28, 29, 30, 31, 32, 33, 34, 35, 36, 37, 38, 39, 40, 41, 42, 43, 44, 45, 46, 47, 48, 49, 50, 51, 52, 53, 54, 55, 56, 57, 58, 59, 60, 61, 62, 63, 64, 65, 66, 67, 68, 69, 70, 71, 72, 73, 74, 75, 76, 77, 78, 79, 80, 81, 82, 83, 84, 85, 86, 87, 88, 89, 90, 91, 92, 93, 94, 95, 96, 97, 98, 99, 100, 101, 102, 103, 104, 105, 106, 107, 108, 109, 110, 111, 112, 113, 114, 115, 116, 117, 118, 119, 120, 121, 122] (by decide +kernel) (by decide +kernel)
set_option maxRecDepth 20000 in
theorem gX6_runs_X6_runsNow : GoodIn wsX6_runs (wsV RX6 249 RX6 yX6_runsNow wsX6_runsNow) := goodIn_app (goodIn_of _ (by decide +kernel)) ggX6_runs_X6_runsNow
theorem dX6_runs_0 : decode cX6_runs 0 = .ok (.iload_n 1, 1) := by decide +kernel
theorem dX6_runs_1 : decode cX6_runs 1 = .ok (.iconst 1, 1) := by decide +kernel
theorem dX6_runs_2 : decode cX6_runs 2 = .ok (.bipush 40, 2) := by decide +kernel
theorem dX6_runs_4 : decode cX6_runs 4 = .ok (.invokestatic 77, 3) := by decide +kernel
theorem dX6_runs_7 : decode cX6_runs 7 = .ok (.ifCond .eq 16, 3) := by decide +kernel
theorem dX6_runs_10 : decode cX6_runs 10 = .ok (.iload_n 2, 1) := by decide +kernel
theorem dX6_runs_11 : decode cX6_runs 11 = .ok (.ifCond .lt 12, 3) := by decide +kernel
theorem dX6_runs_14 : decode cX6_runs 14 = .ok (.iload_n 3, 1) := by decide +kernel
theorem dX6_runs_15 : decode cX6_runs 15 = .ok (.iconst 0, 1) := by decide +kernel
theorem dX6_runs_16 : decode cX6_runs 16 = .ok (.iconst 2, 1) := by decide +kernel
theorem dX6_runs_17 : decode cX6_runs 17 = .ok (.invokestatic 77, 3) := by decide +kernel
theorem dX6_runs_20 : decode cX6_runs 20 = .ok (.ifCond .ne 6, 3) := by decide +kernel
theorem dX6_runs_23 : decode cX6_runs 23 = .ok (.bipush (-102), 2) := by decide +kernel
theorem dX6_runs_25 : decode cX6_runs 25 = .ok (.ireturn, 1) := by decide +kernel
theorem dX6_runs_26 : decode cX6_runs 26 = .ok (.aload_n 0, 1) := by decide +kernel
theorem dX6_runs_27 : decode cX6_runs 27 = .ok (.getfield 115, 3) := by decide +kernel
theorem dX6_runs_30 : decode cX6_runs 30 = .ok (.ifCond .ne 8, 3) := by decide +kernel
theorem dX6_runs_33 : decode cX6_runs 33 = .ok (.bipush (-103), 2) := by decide +kernel
theorem dX6_runs_35 : decode cX6_runs 35 = .ok (.goto 10, 3) := by decide +kernel
theorem dX6_runs_38 : decode cX6_runs 38 = .ok (.aload_n 0, 1) := by decide +kernel
theorem dX6_runs_39 : decode cX6_runs 39 = .ok (.iload_n 1, 1) := by decide +kernel
theorem dX6_runs_40 : decode cX6_runs 40 = .ok (.iload_n 2, 1) := by decide +kernel
theorem dX6_runs_41 : decode cX6_runs 41 = .ok (.iload_n 3, 1) := by decide +kernel
theorem dX6_runs_42 : decode cX6_runs 42 = .ok (.invokevirtual 249, 3) := by decide +kernel
theorem dX6_runs_45 : decode cX6_runs 45 = .ok (.ireturn, 1) := by decide +kernel
theorem dX6_image_0 : decode cX6_image 0 = .ok (.aload_n 0, 1) := by decide +kernel
theorem dX6_image_1 : decode cX6_image 1 = .ok (.getfield 115, 3) := by decide +kernel
theorem dX6_image_4 : decode cX6_image 4 = .ok (.ifCond .ne 6, 3) := by decide +kernel
theorem dX6_image_7 : decode cX6_image 7 = .ok (.bipush (-103), 2) := by decide +kernel
theorem dX6_image_9 : decode cX6_image 9 = .ok (.ireturn, 1) := by decide +kernel
theorem dX6_image_10 : decode cX6_image 10 = .ok (.aload_n 0, 1) := by decide +kernel
theorem dX6_image_11 : decode cX6_image 11 = .ok (.iconst 1, 1) := by decide +kernel
theorem dX6_image_12 : decode cX6_image 12 = .ok (.putfield 252, 3) := by decide +kernel
theorem dX6_image_15 : decode cX6_image 15 = .ok (.aload_n 0, 1) := by decide +kernel
theorem dX6_image_16 : decode cX6_image 16 = .ok (.aload_n 0, 1) := by decide +kernel
theorem dX6_image_17 : decode cX6_image 17 = .ok (.getfield 124, 3) := by decide +kernel
theorem dX6_image_20 : decode cX6_image 20 = .ok (.putfield 255, 3) := by decide +kernel
theorem dX6_image_23 : decode cX6_image 23 = .ok (.aload_n 0, 1) := by decide +kernel
theorem dX6_image_24 : decode cX6_image 24 = .ok (.aload_n 0, 1) := by decide +kernel
theorem dX6_image_25 : decode cX6_image 25 = .ok (.getfield 112, 3) := by decide +kernel
theorem dX6_image_28 : decode cX6_image 28 = .ok (.putfield 258, 3) := by decide +kernel
theorem dX6_image_31 : decode cX6_image 31 = .ok (.aload_n 0, 1) := by decide +kernel
theorem dX6_image_32 : decode cX6_image 32 = .ok (.aload_n 0, 1) := by decide +kernel
theorem dX6_image_33 : decode cX6_image 33 = .ok (.getfield 121, 3) := by decide +kernel
theorem dX6_image_36 : decode cX6_image 36 = .ok (.putfield 261, 3) := by decide +kernel
theorem dX6_image_39 : decode cX6_image 39 = .ok (.aload_n 0, 1) := by decide +kernel
theorem dX6_image_40 : decode cX6_image 40 = .ok (.aload_n 0, 1) := by decide +kernel
theorem dX6_image_41 : decode cX6_image 41 = .ok (.getfield 127, 3) := by decide +kernel
theorem dX6_image_44 : decode cX6_image 44 = .ok (.putfield 264, 3) := by decide +kernel
theorem dX6_image_47 : decode cX6_image 47 = .ok (.iconst 0, 1) := by decide +kernel
theorem dX6_image_48 : decode cX6_image 48 = .ok (.istore_n 1, 1) := by decide +kernel
theorem dX6_image_49 : decode cX6_image 49 = .ok (.iload_n 1, 1) := by decide +kernel
theorem dX6_image_50 : decode cX6_image 50 = .ok (.bipush 7, 2) := by decide +kernel
theorem dX6_image_52 : decode cX6_image 52 = .ok (.if_icmp .ge 33, 3) := by decide +kernel
theorem dX6_image_55 : decode cX6_image 55 = .ok (.aload_n 0, 1) := by decide +kernel
theorem dX6_image_56 : decode cX6_image 56 = .ok (.getfield 62, 3) := by decide +kernel
theorem dX6_image_59 : decode cX6_image 59 = .ok (.iload_n 1, 1) := by decide +kernel
theorem dX6_image_60 : decode cX6_image 60 = .ok (.aload_n 0, 1) := by decide +kernel
theorem dX6_image_61 : decode cX6_image 61 = .ok (.getfield 7, 3) := by decide +kernel
theorem dX6_image_64 : decode cX6_image 64 = .ok (.iload_n 1, 1) := by decide +kernel
theorem dX6_image_65 : decode cX6_image 65 = .ok (.iaload, 1) := by decide +kernel
theorem dX6_image_66 : decode cX6_image 66 = .ok (.iastore, 1) := by decide +kernel
theorem dX6_image_67 : decode cX6_image 67 = .ok (.aload_n 0, 1) := by decide +kernel
theorem dX6_image_68 : decode cX6_image 68 = .ok (.getfield 65, 3) := by decide +kernel
theorem dX6_image_71 : decode cX6_image 71 = .ok (.iload_n 1, 1) := by decide +kernel
theorem dX6_image_72 : decode cX6_image 72 = .ok (.aload_n 0, 1) := by decide +kernel
theorem dX6_image_73 : decode cX6_image 73 = .ok (.getfield 13, 3) := by decide +kernel
theorem dX6_image_76 : decode cX6_image 76 = .ok (.iload_n 1, 1) := by decide +kernel
theorem dX6_image_77 : decode cX6_image 77 = .ok (.iaload, 1) := by decide +kernel
theorem dX6_image_78 : decode cX6_image 78 = .ok (.iastore, 1) := by decide +kernel
theorem dX6_image_79 : decode cX6_image 79 = .ok (.iinc 1 1, 3) := by decide +kernel
theorem dX6_image_82 : decode cX6_image 82 = .ok (.goto (-33), 3) := by decide +kernel
theorem dX6_image_85 : decode cX6_image 85 = .ok (.iconst 0, 1) := by decide +kernel
theorem dX6_image_86 : decode cX6_image 86 = .ok (.istore_n 1, 1) := by decide +kernel
theorem dX6_image_87 : decode cX6_image 87 = .ok (.iload_n 1, 1) := by decide +kernel
theorem dX6_image_88 : decode cX6_image 88 = .ok (.bipush 6, 2) := by decide +kernel
theorem dX6_image_90 : decode cX6_image 90 = .ok (.if_icmp .ge 45, 3) := by decide +kernel
theorem dX6_image_93 : decode cX6_image 93 = .ok (.aload_n 0, 1) := by decide +kernel
theorem dX6_image_94 : decode cX6_image 94 = .ok (.getfield 68, 3) := by decide +kernel
theorem dX6_image_97 : decode cX6_image 97 = .ok (.iload_n 1, 1) := by decide +kernel
theorem dX6_image_98 : decode cX6_image 98 = .ok (.aload_n 0, 1) := by decide +kernel
theorem dX6_image_99 : decode cX6_image 99 = .ok (.getfield 16, 3) := by decide +kernel
theorem dX6_image_102 : decode cX6_image 102 = .ok (.iload_n 1, 1) := by decide +kernel
theorem dX6_image_103 : decode cX6_image 103 = .ok (.iaload, 1) := by decide +kernel
theorem dX6_image_104 : decode cX6_image 104 = .ok (.iastore, 1) := by decide +kernel
theorem dX6_image_105 : decode cX6_image 105 = .ok (.aload_n 0, 1) := by decide +kernel
theorem dX6_image_106 : decode cX6_image 106 = .ok (.getfield 71, 3) := by decide +kernel
theorem dX6_image_109 : decode cX6_image 109 = .ok (.iload_n 1, 1) := by decide +kernel
theorem dX6_image_110 : decode cX6_image 110 = .ok (.aload_n 0, 1) := by decide +kernel
theorem dX6_image_111 : decode cX6_image 111 = .ok (.getfield 19, 3) := by decide +kernel
theorem dX6_image_114 : decode cX6_image 114 = .ok (.iload_n 1, 1) := by decide +kernel
theorem dX6_image_115 : decode cX6_image 115 = .ok (.iaload, 1) := by decide +kernel
theorem dX6_image_116 : decode cX6_image 116 = .ok (.iastore, 1) := by decide +kernel
theorem dX6_image_117 : decode cX6_image 117 = .ok (.aload_n 0, 1) := by decide +kernel
theorem dX6_image_118 : decode cX6_image 118 = .ok (.getfield 74, 3) := by decide +kernel
theorem dX6_image_121 : decode cX6_image 121 = .ok (.iload_n 1, 1) := by decide +kernel
theorem dX6_image_122 : decode cX6_image 122 = .ok (.aload_n 0, 1) := by decide +kernel
theorem dX6_image_123 : decode cX6_image 123 = .ok (.getfield 22, 3) := by decide +kernel
theorem dX6_image_126 : decode cX6_image 126 = .ok (.iload_n 1, 1) := by decide +kernel
theorem dX6_image_127 : decode cX6_image 127 = .ok (.iaload, 1) := by decide +kernel
theorem dX6_image_128 : decode cX6_image 128 = .ok (.iastore, 1) := by decide +kernel
theorem dX6_image_129 : decode cX6_image 129 = .ok (.iinc 1 1, 3) := by decide +kernel
theorem dX6_image_132 : decode cX6_image 132 = .ok (.goto (-45), 3) := by decide +kernel
theorem dX6_image_135 : decode cX6_image 135 = .ok (.aload_n 0, 1) := by decide +kernel
theorem dX6_image_136 : decode cX6_image 136 = .ok (.getfield 121, 3) := by decide +kernel
theorem dX6_image_139 : decode cX6_image 139 = .ok (.ireturn, 1) := by decide +kernel
theorem dX6_restore_0 : decode cX6_restore 0 = .ok (.aload_n 0, 1) := by decide +kernel
theorem dX6_restore_1 : decode cX6_restore 1 = .ok (.getfield 252, 3) := by decide +kernel
theorem dX6_restore_4 : decode cX6_restore 4 = .ok (.ifCond .eq 14, 3) := by decide +kernel
theorem dX6_restore_7 : decode cX6_restore 7 = .ok (.aload_n 0, 1) := by decide +kernel
theorem dX6_restore_8 : decode cX6_restore 8 = .ok (.getfield 255, 3) := by decide +kernel
theorem dX6_restore_11 : decode cX6_restore 11 = .ok (.aload_n 0, 1) := by decide +kernel
theorem dX6_restore_12 : decode cX6_restore 12 = .ok (.getfield 124, 3) := by decide +kernel
theorem dX6_restore_15 : decode cX6_restore 15 = .ok (.if_icmp .eq 6, 3) := by decide +kernel
theorem dX6_restore_18 : decode cX6_restore 18 = .ok (.bipush (-103), 2) := by decide +kernel
theorem dX6_restore_20 : decode cX6_restore 20 = .ok (.ireturn, 1) := by decide +kernel
theorem dX6_restore_21 : decode cX6_restore 21 = .ok (.aload_n 0, 1) := by decide +kernel
theorem dX6_restore_22 : decode cX6_restore 22 = .ok (.aload_n 0, 1) := by decide +kernel
theorem dX6_restore_23 : decode cX6_restore 23 = .ok (.getfield 258, 3) := by decide +kernel
theorem dX6_restore_26 : decode cX6_restore 26 = .ok (.putfield 112, 3) := by decide +kernel
theorem dX6_restore_29 : decode cX6_restore 29 = .ok (.aload_n 0, 1) := by decide +kernel
theorem dX6_restore_30 : decode cX6_restore 30 = .ok (.aload_n 0, 1) := by decide +kernel
theorem dX6_restore_31 : decode cX6_restore 31 = .ok (.getfield 261, 3) := by decide +kernel
theorem dX6_restore_34 : decode cX6_restore 34 = .ok (.putfield 121, 3) := by decide +kernel
theorem dX6_restore_37 : decode cX6_restore 37 = .ok (.aload_n 0, 1) := by decide +kernel
theorem dX6_restore_38 : decode cX6_restore 38 = .ok (.aload_n 0, 1) := by decide +kernel
theorem dX6_restore_39 : decode cX6_restore 39 = .ok (.getfield 264, 3) := by decide +kernel
theorem dX6_restore_42 : decode cX6_restore 42 = .ok (.putfield 127, 3) := by decide +kernel
theorem dX6_restore_45 : decode cX6_restore 45 = .ok (.iconst 0, 1) := by decide +kernel
theorem dX6_restore_46 : decode cX6_restore 46 = .ok (.istore_n 1, 1) := by decide +kernel
theorem dX6_restore_47 : decode cX6_restore 47 = .ok (.iload_n 1, 1) := by decide +kernel
theorem dX6_restore_48 : decode cX6_restore 48 = .ok (.bipush 7, 2) := by decide +kernel
theorem dX6_restore_50 : decode cX6_restore 50 = .ok (.if_icmp .ge 33, 3) := by decide +kernel
theorem dX6_restore_53 : decode cX6_restore 53 = .ok (.aload_n 0, 1) := by decide +kernel
theorem dX6_restore_54 : decode cX6_restore 54 = .ok (.getfield 7, 3) := by decide +kernel
theorem dX6_restore_57 : decode cX6_restore 57 = .ok (.iload_n 1, 1) := by decide +kernel
theorem dX6_restore_58 : decode cX6_restore 58 = .ok (.aload_n 0, 1) := by decide +kernel
theorem dX6_restore_59 : decode cX6_restore 59 = .ok (.getfield 62, 3) := by decide +kernel
theorem dX6_restore_62 : decode cX6_restore 62 = .ok (.iload_n 1, 1) := by decide +kernel
theorem dX6_restore_63 : decode cX6_restore 63 = .ok (.iaload, 1) := by decide +kernel
theorem dX6_restore_64 : decode cX6_restore 64 = .ok (.iastore, 1) := by decide +kernel
theorem dX6_restore_65 : decode cX6_restore 65 = .ok (.aload_n 0, 1) := by decide +kernel
theorem dX6_restore_66 : decode cX6_restore 66 = .ok (.getfield 13, 3) := by decide +kernel
theorem dX6_restore_69 : decode cX6_restore 69 = .ok (.iload_n 1, 1) := by decide +kernel
theorem dX6_restore_70 : decode cX6_restore 70 = .ok (.aload_n 0, 1) := by decide +kernel
theorem dX6_restore_71 : decode cX6_restore 71 = .ok (.getfield 65, 3) := by decide +kernel
theorem dX6_restore_74 : decode cX6_restore 74 = .ok (.iload_n 1, 1) := by decide +kernel
theorem dX6_restore_75 : decode cX6_restore 75 = .ok (.iaload, 1) := by decide +kernel
theorem dX6_restore_76 : decode cX6_restore 76 = .ok (.iastore, 1) := by decide +kernel
theorem dX6_restore_77 : decode cX6_restore 77 = .ok (.iinc 1 1, 3) := by decide +kernel
theorem dX6_restore_80 : decode cX6_restore 80 = .ok (.goto (-33), 3) := by decide +kernel
theorem dX6_restore_83 : decode cX6_restore 83 = .ok (.iconst 0, 1) := by decide +kernel
theorem dX6_restore_84 : decode cX6_restore 84 = .ok (.istore_n 1, 1) := by decide +kernel
theorem dX6_restore_85 : decode cX6_restore 85 = .ok (.iload_n 1, 1) := by decide +kernel
theorem dX6_restore_86 : decode cX6_restore 86 = .ok (.bipush 6, 2) := by decide +kernel
theorem dX6_restore_88 : decode cX6_restore 88 = .ok (.if_icmp .ge 45, 3) := by decide +kernel
theorem dX6_restore_91 : decode cX6_restore 91 = .ok (.aload_n 0, 1) := by decide +kernel
theorem dX6_restore_92 : decode cX6_restore 92 = .ok (.getfield 16, 3) := by decide +kernel
theorem dX6_restore_95 : decode cX6_restore 95 = .ok (.iload_n 1, 1) := by decide +kernel
theorem dX6_restore_96 : decode cX6_restore 96 = .ok (.aload_n 0, 1) := by decide +kernel
theorem dX6_restore_97 : decode cX6_restore 97 = .ok (.getfield 68, 3) := by decide +kernel
theorem dX6_restore_100 : decode cX6_restore 100 = .ok (.iload_n 1, 1) := by decide +kernel
theorem dX6_restore_101 : decode cX6_restore 101 = .ok (.iaload, 1) := by decide +kernel
theorem dX6_restore_102 : decode cX6_restore 102 = .ok (.iastore, 1) := by decide +kernel
theorem dX6_restore_103 : decode cX6_restore 103 = .ok (.aload_n 0, 1) := by decide +kernel
theorem dX6_restore_104 : decode cX6_restore 104 = .ok (.getfield 19, 3) := by decide +kernel
theorem dX6_restore_107 : decode cX6_restore 107 = .ok (.iload_n 1, 1) := by decide +kernel
theorem dX6_restore_108 : decode cX6_restore 108 = .ok (.aload_n 0, 1) := by decide +kernel
theorem dX6_restore_109 : decode cX6_restore 109 = .ok (.getfield 71, 3) := by decide +kernel
theorem dX6_restore_112 : decode cX6_restore 112 = .ok (.iload_n 1, 1) := by decide +kernel
theorem dX6_restore_113 : decode cX6_restore 113 = .ok (.iaload, 1) := by decide +kernel
theorem dX6_restore_114 : decode cX6_restore 114 = .ok (.iastore, 1) := by decide +kernel
theorem dX6_restore_115 : decode cX6_restore 115 = .ok (.aload_n 0, 1) := by decide +kernel
theorem dX6_restore_116 : decode cX6_restore 116 = .ok (.getfield 22, 3) := by decide +kernel
theorem dX6_restore_119 : decode cX6_restore 119 = .ok (.iload_n 1, 1) := by decide +kernel
theorem dX6_restore_120 : decode cX6_restore 120 = .ok (.aload_n 0, 1) := by decide +kernel
theorem dX6_restore_121 : decode cX6_restore 121 = .ok (.getfield 74, 3) := by decide +kernel
theorem dX6_restore_124 : decode cX6_restore 124 = .ok (.iload_n 1, 1) := by decide +kernel
theorem dX6_restore_125 : decode cX6_restore 125 = .ok (.iaload, 1) := by decide +kernel
theorem dX6_restore_126 : decode cX6_restore 126 = .ok (.iastore, 1) := by decide +kernel
theorem dX6_restore_127 : decode cX6_restore 127 = .ok (.iinc 1 1, 3) := by decide +kernel
theorem dX6_restore_130 : decode cX6_restore 130 = .ok (.goto (-45), 3) := by decide +kernel
theorem dX6_restore_133 : decode cX6_restore 133 = .ok (.aload_n 0, 1) := by decide +kernel
theorem dX6_restore_134 : decode cX6_restore 134 = .ok (.getfield 121, 3) := by decide +kernel
theorem dX6_restore_137 : decode cX6_restore 137 = .ok (.ireturn, 1) := by decide +kernel
set_option maxRecDepth 20000 in
theorem ggX6_ofBoard_X6_putDeep : GoodIn wsX6_ofBoard wsX6_putDeep := goodIn_r _ [9, 10, 4, 11, 54, 55, 56, 57, 58, 59, 60, 61, 62, 63, 64, 65, 66, 67, 68, 69, 70, 71, 72, 73, 74, 75, 76, 77, 78, 79, 80, 81, 82, 83, 84, 85, 86, 87, 88, 89, 90, 91, 92, 93] (by decide +kernel) (by decide +kernel)
set_option maxRecDepth 20000 in
theorem gX6_ofBoard_X6_putDeep : GoodIn wsX6_ofBoard (wsV RX6 157 RX6 yX6_putDeep wsX6_putDeep) := goodIn_app (goodIn_of _ (by decide +kernel)) ggX6_ofBoard_X6_putDeep
set_option maxRecDepth 20000 in
theorem ggX6_ofBoard_X6_size : GoodIn wsX6_ofBoard wsX6_size := goodIn_r _ [14] (by decide +kernel) (by decide +kernel)
set_option maxRecDepth 20000 in
theorem gX6_ofBoard_X6_size : GoodIn wsX6_ofBoard (va_wsS RX6 154 yX6_size wsX6_size) := goodIn_app (goodIn_of _ (by decide +kernel)) ggX6_ofBoard_X6_size
set_option maxRecDepth 20000 in
theorem ggX6_ofBoard_X6_onBoard : GoodIn wsX6_ofBoard wsX6_onBoard := goodIn_r _ [18, 4, 10, 54, 55, 56, 57, 58, 59, 60, 61, 62, 63, 64, 65, 66, 67, 68, 69, 70, 71, 72, 73, 74, 75, 76, 77, 78, 79, 80, 81, 82, 83, 84, 85, 86, 87, 88, 89, 90, 91, 92, 93] (by decide +kernel) (by decide +kernel)
set_option maxRecDepth 20000 in
theorem gX6_ofBoard_X6_onBoard : GoodIn wsX6_ofBoard (wsV RX6 183 RX6 yX6_onBoard wsX6_onBoard) := goodIn_app (goodIn_of _ (by decide +kernel)) ggX6_ofBoard_X6_onBoard
set_option maxRecDepth 20000 in
theorem ggX6_ofBoard_X6_jumpsNow : GoodIn wsX6_ofBoard wsX6_jumpsNow := goodIn_r _ [22, 4, 23, 24, 25, 8, 26, 27, 28, 29, 30, 1, 2, 31, 32, 33, 34, 35, 36, 37, 38, 10, 3, 39, 40, 41, 42, 43, 44, 45, 46, 47, 48, 49, 50, 51, 52, 53, 12, 13, 14, 54, 55, 56, 57, 58, 59, 60, 61, 62, 63, 64, 65, 66, 67, 68, 69, 70, 71, 72, 73, 74, 75, 76, 77, 78, 79, 80, 81, 82, 83, 84, 85, 86, 87, 88, 89, 90, 91, 92, 93] (by decide +kernel) (by decide +kernel)
set_option maxRecDepth 20000 in
theorem gX6_ofBoard_X6_jumpsNow : GoodIn wsX6_ofBoard (wsV RX6 240 RX6 yX6_jumpsNow wsX6_jumpsNow) := goodIn_app (goodIn_of _ (by decide +kernel)) ggX6_ofBoard_X6_jumpsNow
theorem dX6_ofBoard_0 : decode cX6_ofBoard 0 = .ok (.aload_n 0, 1) := by decide +kernel
theorem dX6_ofBoard_1 : decode cX6_ofBoard 1 = .ok (.invokevirtual 157, 3) := by decide +kernel
theorem dX6_ofBoard_4 : decode cX6_ofBoard 4 = .ok (.iload_n 1, 1) := by decide +kernel
theorem dX6_ofBoard_5 : decode cX6_ofBoard 5 = .ok (.tableswitch 64 0 4 #[35, 40, 45, 53, 58], 35) := by decide +kernel
theorem dX6_ofBoard_40 : decode cX6_ofBoard 40 = .ok (.aload_n 0, 1) := by decide +kernel
theorem dX6_ofBoard_41 : decode cX6_ofBoard 41 = .ok (.getfield 106, 3) := by decide +kernel
theorem dX6_ofBoard_44 : decode cX6_ofBoard 44 = .ok (.ireturn, 1) := by decide +kernel
theorem dX6_ofBoard_45 : decode cX6_ofBoard 45 = .ok (.aload_n 0, 1) := by decide +kernel
theorem dX6_ofBoard_46 : decode cX6_ofBoard 46 = .ok (.getfield 109, 3) := by decide +kernel
theorem dX6_ofBoard_49 : decode cX6_ofBoard 49 = .ok (.ireturn, 1) := by decide +kernel
theorem dX6_ofBoard_50 : decode cX6_ofBoard 50 = .ok (.aload_n 0, 1) := by decide +kernel
theorem dX6_ofBoard_51 : decode cX6_ofBoard 51 = .ok (.getfield 112, 3) := by decide +kernel
theorem dX6_ofBoard_54 : decode cX6_ofBoard 54 = .ok (.invokestatic 154, 3) := by decide +kernel
theorem dX6_ofBoard_57 : decode cX6_ofBoard 57 = .ok (.ireturn, 1) := by decide +kernel
theorem dX6_ofBoard_58 : decode cX6_ofBoard 58 = .ok (.aload_n 0, 1) := by decide +kernel
theorem dX6_ofBoard_59 : decode cX6_ofBoard 59 = .ok (.getfield 115, 3) := by decide +kernel
theorem dX6_ofBoard_62 : decode cX6_ofBoard 62 = .ok (.ireturn, 1) := by decide +kernel
theorem dX6_ofBoard_63 : decode cX6_ofBoard 63 = .ok (.aload_n 0, 1) := by decide +kernel
theorem dX6_ofBoard_64 : decode cX6_ofBoard 64 = .ok (.iconst 0, 1) := by decide +kernel
theorem dX6_ofBoard_65 : decode cX6_ofBoard 65 = .ok (.invokevirtual 183, 3) := by decide +kernel
theorem dX6_ofBoard_68 : decode cX6_ofBoard 68 = .ok (.ireturn, 1) := by decide +kernel
theorem dX6_ofBoard_69 : decode cX6_ofBoard 69 = .ok (.aload_n 0, 1) := by decide +kernel
theorem dX6_ofBoard_70 : decode cX6_ofBoard 70 = .ok (.iconst 0, 1) := by decide +kernel
theorem dX6_ofBoard_71 : decode cX6_ofBoard 71 = .ok (.invokevirtual 240, 3) := by decide +kernel
theorem dX6_ofBoard_74 : decode cX6_ofBoard 74 = .ok (.ireturn, 1) := by decide +kernel
set_option maxRecDepth 20000 in
theorem ggX6_howMany_X6_within : GoodIn wsX6_howMany wsX6_within := goodIn_r _ [9] (by decide +kernel) (by decide +kernel)
set_option maxRecDepth 20000 in
theorem gX6_howMany_X6_within : GoodIn wsX6_howMany (va_wsS RX6 77 yX6_within wsX6_within) := goodIn_app (goodIn_of _ (by decide +kernel)) ggX6_howMany_X6_within
set_option maxRecDepth 20000 in
theorem ggX6_howMany_X6_ofBoard : GoodIn wsX6_howMany wsX6_ofBoard := goodIn_r _ [13, 14, 15, 16, 17, 18, 19, 20, 8, 21, 22, 23, 24, 25, 26, 27, 28, 29, 30, 31, 32, 33, 34, 35, 36, 37, 38, 39, 40, 41, 42, 43, 44, 45, 46, 47, 48, 49, 50, 51, 52, 53, 54, 55, 56, 57, 58, 59, 60, 61, 62, 63, 64, 65, 66, 67, 68, 69, 70, 71, 72, 73, 74, 75, 76, 77, 78, 79, 80, 81, 82, 83, 84, 85, 86, 87, 88, 89, 90, 91, 92, 93, 94, 95, 96, 97, 98, 99, 100, 101, 102, 103, 104, 105] (by decide +kernel) (by decide +kernel)
set_option maxRecDepth 20000 in
theorem gX6_howMany_X6_ofBoard : GoodIn wsX6_howMany (wsV RX6 267 RX6 yX6_ofBoard wsX6_ofBoard) := goodIn_app (goodIn_of _ (by decide +kernel)) ggX6_howMany_X6_ofBoard
theorem dX6_howMany_0 : decode cX6_howMany 0 = .ok (.iload_n 1, 1) := by decide +kernel
theorem dX6_howMany_1 : decode cX6_howMany 1 = .ok (.tableswitch 60 6 10 #[35, 40, 45, 50, 55], 35) := by decide +kernel
theorem dX6_howMany_36 : decode cX6_howMany 36 = .ok (.aload_n 0, 1) := by decide +kernel
theorem dX6_howMany_37 : decode cX6_howMany 37 = .ok (.getfield 121, 3) := by decide +kernel
theorem dX6_howMany_40 : decode cX6_howMany 40 = .ok (.ireturn, 1) := by decide +kernel
theorem dX6_howMany_41 : decode cX6_howMany 41 = .ok (.aload_n 0, 1) := by decide +kernel
theorem dX6_howMany_42 : decode cX6_howMany 42 = .ok (.getfield 127, 3) := by decide +kernel
theorem dX6_howMany_45 : decode cX6_howMany 45 = .ok (.ireturn, 1) := by decide +kernel
theorem dX6_howMany_46 : decode cX6_howMany 46 = .ok (.aload_n 0, 1) := by decide +kernel
theorem dX6_howMany_47 : decode cX6_howMany 47 = .ok (.getfield 81, 3) := by decide +kernel
theorem dX6_howMany_50 : decode cX6_howMany 50 = .ok (.ireturn, 1) := by decide +kernel
theorem dX6_howMany_51 : decode cX6_howMany 51 = .ok (.aload_n 0, 1) := by decide +kernel
theorem dX6_howMany_52 : decode cX6_howMany 52 = .ok (.getfield 124, 3) := by decide +kernel
theorem dX6_howMany_55 : decode cX6_howMany 55 = .ok (.ireturn, 1) := by decide +kernel
theorem dX6_howMany_56 : decode cX6_howMany 56 = .ok (.aload_n 0, 1) := by decide +kernel
theorem dX6_howMany_57 : decode cX6_howMany 57 = .ok (.getfield 216, 3) := by decide +kernel
theorem dX6_howMany_60 : decode cX6_howMany 60 = .ok (.ireturn, 1) := by decide +kernel
theorem dX6_howMany_61 : decode cX6_howMany 61 = .ok (.iload_n 1, 1) := by decide +kernel
theorem dX6_howMany_62 : decode cX6_howMany 62 = .ok (.iconst 0, 1) := by decide +kernel
theorem dX6_howMany_63 : decode cX6_howMany 63 = .ok (.iconst 5, 1) := by decide +kernel
theorem dX6_howMany_64 : decode cX6_howMany 64 = .ok (.invokestatic 77, 3) := by decide +kernel
theorem dX6_howMany_67 : decode cX6_howMany 67 = .ok (.ifCond .eq 11, 3) := by decide +kernel
theorem dX6_howMany_70 : decode cX6_howMany 70 = .ok (.aload_n 0, 1) := by decide +kernel
theorem dX6_howMany_71 : decode cX6_howMany 71 = .ok (.iload_n 1, 1) := by decide +kernel
theorem dX6_howMany_72 : decode cX6_howMany 72 = .ok (.invokevirtual 267, 3) := by decide +kernel
theorem dX6_howMany_75 : decode cX6_howMany 75 = .ok (.goto 5, 3) := by decide +kernel
theorem dX6_howMany_78 : decode cX6_howMany 78 = .ok (.bipush (-102), 2) := by decide +kernel
theorem dX6_howMany_80 : decode cX6_howMany 80 = .ok (.ireturn, 1) := by decide +kernel
set_option maxRecDepth 20000 in
theorem ggX6_count_X6_howMany : GoodIn wsX6_count wsX6_howMany := goodIn_r _ [5, 6, 7, 8, 9, 10, 11, 12, 4, 13, 14, 15, 16, 17, 18, 19, 20, 21, 22, 23, 24, 25, 26, 27, 28, 29, 30, 31, 32, 33, 34, 35, 36, 37, 38, 39, 40, 41, 42, 43, 44, 45, 46, 47, 48, 49, 50, 51, 52, 53, 54, 55, 56, 57, 58, 59, 60, 61, 62, 63, 64, 65, 66, 67, 68, 69, 70, 71, 72, 73, 74, 75, 76, 77, 78, 79, 80, 81, 82, 83, 84, 85, 86, 87, 88, 89, 90, 91, 92, 93, 94, 95, 96, 97, 98, 99, 100, 101, 102, 103, 104, 105, 106, 107, 108, 109] (by decide +kernel) (by decide +kernel)
set_option maxRecDepth 20000 in
theorem gX6_count_X6_howMany : GoodIn wsX6_count (wsV RX6 270 RX6 yX6_howMany wsX6_howMany) := goodIn_app (goodIn_of _ (by decide +kernel)) ggX6_count_X6_howMany
theorem dX6_count_0 : decode cX6_count 0 = .ok (.aload_n 0, 1) := by decide +kernel
theorem dX6_count_1 : decode cX6_count 1 = .ok (.iload_n 1, 1) := by decide +kernel
theorem dX6_count_2 : decode cX6_count 2 = .ok (.invokevirtual 270, 3) := by decide +kernel
theorem dX6_count_5 : decode cX6_count 5 = .ok (.ireturn, 1) := by decide +kernel
theorem dX6_mix_0 : decode cX6_mix 0 = .ok (.aload_n 0, 1) := by decide +kernel
theorem dX6_mix_1 : decode cX6_mix 1 = .ok (.ldc2_w 273, 3) := by decide +kernel
theorem dX6_mix_4 : decode cX6_mix 4 = .ok (.aload_n 0, 1) := by decide +kernel
theorem dX6_mix_5 : decode cX6_mix 5 = .ok (.getfield 275, 3) := by decide +kernel
theorem dX6_mix_8 : decode cX6_mix 8 = .ok (.lmul, 1) := by decide +kernel
theorem dX6_mix_9 : decode cX6_mix 9 = .ok (.lload_n 1, 1) := by decide +kernel
theorem dX6_mix_10 : decode cX6_mix 10 = .ok (.ladd, 1) := by decide +kernel
theorem dX6_mix_11 : decode cX6_mix 11 = .ok (.putfield 275, 3) := by decide +kernel
theorem dX6_mix_14 : decode cX6_mix 14 = .ok (.return_, 1) := by decide +kernel
set_option maxRecDepth 20000 in
theorem ggX6_mixBoard_X6_coursesNow : GoodIn wsX6_mixBoard wsX6_coursesNow := goodIn_r _ [5, 6, 7, 8, 9, 10, 11, 12, 13, 14, 4, 15, 16, 17, 18, 19, 20, 21, 22, 23, 24, 25, 26, 27, 28, 29, 30, 31, 32, 33, 34, 35, 36, 37, 38, 39, 40, 41, 42, 43, 44, 45, 46, 47, 48, 49, 50, 51, 52, 53, 54, 55, 56, 57, 58, 59, 60, 61, 62, 63, 64, 65, 66, 67, 68, 69, 70, 71, 72, 73, 74, 75, 76, 77, 78, 79, 80, 81, 82, 83, 84, 85, 100, 101, 102, 103, 104, 105, 106, 107, 108, 109, 110, 111, 112, 113, 114, 115, 116, 117, 118, 119, 120, 121, 122, 123, 124, 125, 126, 127, 128, 129, 130, 131, 132, 133, 134, 135, 136, 137, 138, 139] (by decide +kernel) (by decide +kernel)
set_option maxRecDepth 20000 in
theorem gX6_mixBoard_X6_coursesNow : GoodIn wsX6_mixBoard (wsV RX6 210 RX6 yX6_coursesNow wsX6_coursesNow) := goodIn_app (goodIn_of _ (by decide +kernel)) ggX6_mixBoard_X6_coursesNow
set_option maxRecDepth 20000 in
theorem ggX6_mixBoard_X6_mix : GoodIn wsX6_mixBoard wsX6_mix := goodIn_r _ [89, 90, 91, 100, 101, 102, 103, 104, 105, 106, 107, 108, 109, 110, 111, 112, 113, 114, 115, 116, 117, 118, 119, 120, 121, 122, 123, 124, 125, 126, 127, 128, 129, 130, 131, 132, 133, 134, 135, 136, 137, 138, 139] (by decide +kernel) (by decide +kernel)
set_option maxRecDepth 20000 in
theorem gX6_mixBoard_X6_mix : GoodIn wsX6_mixBoard (wsV RX6 278 RX6 yX6_mix wsX6_mix) := goodIn_app (goodIn_of _ (by decide +kernel)) ggX6_mixBoard_X6_mix
set_option maxRecDepth 20000 in
theorem ggX6_mixBoard_X6_winsNow : GoodIn wsX6_mixBoard wsX6_winsNow := goodIn_r _ [95, 30, 12, 13, 14, 4, 15, 16, 17, 18, 19, 20, 21, 22, 23, 24, 25, 26, 27, 28, 8, 6, 29, 7, 9, 10, 11, 31, 32, 33, 34, 35, 36, 37, 38, 39, 40, 41, 42, 43, 44, 45, 46, 47, 48, 49, 50, 51, 52, 53, 54, 55, 56, 57, 58, 59, 60, 61, 62, 63, 64, 65, 66, 67, 68, 69, 70, 71, 72, 73, 74, 75, 76, 77, 78, 79, 80, 81, 82, 83, 84, 85, 100, 101, 102, 103, 104, 105, 106, 107, 108, 109, 110, 111, 112, 113, 114, 115, 116, 117, 118, 119, 120, 121, 122, 123, 124, 125, 126, 127, 128, 129, 130, 131, 132, 133, 134, 135, 136, 137, 138, 139] (by decide +kernel) (by decide +kernel)
set_option maxRecDepth 20000 in
theorem gX6_mixBoard_X6_winsNow : GoodIn wsX6_mixBoard (wsV RX6 213 RX6 yX6_winsNow wsX6_winsNow) := goodIn_app (goodIn_of _ (by decide +kernel)) ggX6_mixBoard_X6_winsNow
set_option maxRecDepth 20000 in
theorem ggX6_mixBoard_X6_meanNow : GoodIn wsX6_mixBoard wsX6_meanNow := goodIn_r _ [99, 31, 23, 12, 13, 14, 4, 15, 16, 17, 18, 19, 20, 21, 22, 24, 25, 26, 27, 28, 8, 6, 29, 7, 9, 10, 11, 30, 32, 33, 34, 35, 36, 37, 38, 39, 40, 41, 42, 43, 44, 45, 46, 47, 48, 49, 50, 51, 52, 53, 54, 55, 56, 57, 58, 59, 60, 61, 62, 63, 64, 65, 66, 67, 68, 69, 70, 71, 72, 73, 74, 75, 76, 77, 78, 79, 80, 81, 82, 83, 84, 85, 100, 101, 102, 103, 104, 105, 106, 107, 108, 109, 110, 111, 112, 113, 114, 115, 116, 117, 118, 119, 120, 121, 122, 123, 124, 125, 126, 127, 128, 129, 130, 131, 132, 133, 134, 135, 136, 137, 138, 139] (by decide +kernel) (by decide +kernel)
set_option maxRecDepth 20000 in
theorem gX6_mixBoard_X6_meanNow : GoodIn wsX6_mixBoard (wsV RX6 222 RX6 yX6_meanNow wsX6_meanNow) := goodIn_app (goodIn_of _ (by decide +kernel)) ggX6_mixBoard_X6_meanNow
theorem dX6_mixBoard_0 : decode cX6_mixBoard 0 = .ok (.iconst 0, 1) := by decide +kernel
theorem dX6_mixBoard_1 : decode cX6_mixBoard 1 = .ok (.istore_n 1, 1) := by decide +kernel
theorem dX6_mixBoard_2 : decode cX6_mixBoard 2 = .ok (.iload_n 1, 1) := by decide +kernel
theorem dX6_mixBoard_3 : decode cX6_mixBoard 3 = .ok (.bipush 6, 2) := by decide +kernel
theorem dX6_mixBoard_5 : decode cX6_mixBoard 5 = .ok (.if_icmp .ge 19, 3) := by decide +kernel
theorem dX6_mixBoard_8 : decode cX6_mixBoard 8 = .ok (.aload_n 0, 1) := by decide +kernel
theorem dX6_mixBoard_9 : decode cX6_mixBoard 9 = .ok (.aload_n 0, 1) := by decide +kernel
theorem dX6_mixBoard_10 : decode cX6_mixBoard 10 = .ok (.iload_n 1, 1) := by decide +kernel
theorem dX6_mixBoard_11 : decode cX6_mixBoard 11 = .ok (.invokevirtual 210, 3) := by decide +kernel
theorem dX6_mixBoard_14 : decode cX6_mixBoard 14 = .ok (.i2l, 1) := by decide +kernel
theorem dX6_mixBoard_15 : decode cX6_mixBoard 15 = .ok (.invokevirtual 278, 3) := by decide +kernel
theorem dX6_mixBoard_18 : decode cX6_mixBoard 18 = .ok (.iinc 1 1, 3) := by decide +kernel
theorem dX6_mixBoard_21 : decode cX6_mixBoard 21 = .ok (.goto (-19), 3) := by decide +kernel
theorem dX6_mixBoard_24 : decode cX6_mixBoard 24 = .ok (.aload_n 0, 1) := by decide +kernel
theorem dX6_mixBoard_25 : decode cX6_mixBoard 25 = .ok (.aload_n 0, 1) := by decide +kernel
theorem dX6_mixBoard_26 : decode cX6_mixBoard 26 = .ok (.iconst 0, 1) := by decide +kernel
theorem dX6_mixBoard_27 : decode cX6_mixBoard 27 = .ok (.invokevirtual 213, 3) := by decide +kernel
theorem dX6_mixBoard_30 : decode cX6_mixBoard 30 = .ok (.i2l, 1) := by decide +kernel
theorem dX6_mixBoard_31 : decode cX6_mixBoard 31 = .ok (.invokevirtual 278, 3) := by decide +kernel
theorem dX6_mixBoard_34 : decode cX6_mixBoard 34 = .ok (.aload_n 0, 1) := by decide +kernel
theorem dX6_mixBoard_35 : decode cX6_mixBoard 35 = .ok (.aload_n 0, 1) := by decide +kernel
theorem dX6_mixBoard_36 : decode cX6_mixBoard 36 = .ok (.iconst 1, 1) := by decide +kernel
theorem dX6_mixBoard_37 : decode cX6_mixBoard 37 = .ok (.invokevirtual 213, 3) := by decide +kernel
theorem dX6_mixBoard_40 : decode cX6_mixBoard 40 = .ok (.i2l, 1) := by decide +kernel
theorem dX6_mixBoard_41 : decode cX6_mixBoard 41 = .ok (.invokevirtual 278, 3) := by decide +kernel
theorem dX6_mixBoard_44 : decode cX6_mixBoard 44 = .ok (.aload_n 0, 1) := by decide +kernel
theorem dX6_mixBoard_45 : decode cX6_mixBoard 45 = .ok (.aload_n 0, 1) := by decide +kernel
theorem dX6_mixBoard_46 : decode cX6_mixBoard 46 = .ok (.invokevirtual 222, 3) := by decide +kernel
theorem dX6_mixBoard_49 : decode cX6_mixBoard 49 = .ok (.i2l, 1) := by decide +kernel
theorem dX6_mixBoard_50 : decode cX6_mixBoard 50 = .ok (.invokevirtual 278, 3) := by decide +kernel
theorem dX6_mixBoard_53 : decode cX6_mixBoard 53 = .ok (.return_, 1) := by decide +kernel
set_option maxRecDepth 20000 in
theorem ggX6_digest_X6_pegNow : GoodIn wsX6_digest wsX6_pegNow := goodIn_r _ [10, 11, 12, 13, 14, 15, 9, 16, 17, 3, 18, 19, 20, 21, 22, 23, 24, 25, 26, 27, 28, 29, 30, 31, 32, 33, 34, 35, 36, 37, 38, 39, 40, 41, 42, 43, 44, 45, 46, 47, 48, 49, 50, 51, 52, 53, 54, 55, 56, 57, 58, 59, 60, 61, 62, 63, 64, 65, 66, 67, 68, 69, 155, 156, 157, 158, 159, 160, 161, 162, 163, 164, 165, 166, 167, 168, 169, 170, 171, 172, 173, 174, 175, 176, 177, 178, 179, 180, 181, 182, 183, 184, 185, 186, 187, 188, 189, 190, 191, 192, 193, 194] (by decide +kernel) (by decide +kernel)
set_option maxRecDepth 20000 in
theorem gX6_digest_X6_pegNow : GoodIn wsX6_digest (wsV RX6 170 RX6 yX6_pegNow wsX6_pegNow) := goodIn_app (goodIn_of _ (by decide +kernel)) ggX6_digest_X6_pegNow
set_option maxRecDepth 20000 in
theorem ggX6_digest_X6_mix : GoodIn wsX6_digest wsX6_mix := goodIn_r _ [73, 74, 2, 155, 156, 157, 158, 159, 160, 161, 162, 163, 164, 165, 166, 167, 168, 169, 170, 171, 172, 173, 174, 175, 176, 177, 178, 179, 180, 181, 182, 183, 184, 185, 186, 187, 188, 189, 190, 191, 192, 193, 194] (by decide +kernel) (by decide +kernel)
set_option maxRecDepth 20000 in
theorem gX6_digest_X6_mix : GoodIn wsX6_digest (wsV RX6 278 RX6 yX6_mix wsX6_mix) := goodIn_app (goodIn_of _ (by decide +kernel)) ggX6_digest_X6_mix
set_option maxRecDepth 20000 in
theorem ggX6_digest_X6_places : GoodIn wsX6_digest wsX6_places := goodIn_r _ [25, 26, 27, 155, 156, 157, 158, 159, 160, 161, 162, 163, 164, 165, 166, 167, 168, 169, 170, 171, 172, 173, 174, 175, 176, 177, 178, 179, 180, 181, 182, 183, 184, 185, 186, 187, 188, 189, 190, 191, 192, 193, 194] (by decide +kernel) (by decide +kernel)
set_option maxRecDepth 20000 in
theorem gX6_digest_X6_places : GoodIn wsX6_digest (wsV RX6 118 RX6 yX6_places wsX6_places) := goodIn_app (goodIn_of _ (by decide +kernel)) ggX6_digest_X6_places
set_option maxRecDepth 20000 in
theorem ggX6_digest_X6_placeNow : GoodIn wsX6_digest wsX6_placeNow := goodIn_r _ [78, 36, 13, 14, 15, 9, 16, 17, 3, 12, 40, 41, 42, 43, 155, 156, 157, 158, 159, 160, 161, 162, 163, 164, 165, 166, 167, 168, 169, 170, 171, 172, 173, 174, 175, 176, 177, 178, 179, 180, 181, 182, 183, 184, 185, 186, 187, 188, 189, 190, 191, 192, 193, 194] (by decide +kernel) (by decide +kernel)
set_option maxRecDepth 20000 in
theorem gX6_digest_X6_placeNow : GoodIn wsX6_digest (wsV RX6 176 RX6 yX6_placeNow wsX6_placeNow) := goodIn_app (goodIn_of _ (by decide +kernel)) ggX6_digest_X6_placeNow
set_option maxRecDepth 20000 in
theorem ggX6_digest_X6_mixBoard : GoodIn wsX6_digest wsX6_mixBoard := goodIn_r _ [82, 83, 84, 85, 9, 86, 87, 88, 89, 90, 91, 92, 13, 14, 15, 16, 17, 3, 12, 93, 94, 95, 96, 97, 98, 99, 100, 101, 102, 66, 103, 104, 105, 106, 107, 108, 22, 23, 24, 25, 26, 27, 28, 29, 30, 31, 32, 33, 34, 35, 36, 11, 37, 38, 39, 40, 41, 42, 43, 44, 45, 46, 47, 48, 49, 50, 109, 110, 111, 112, 113, 114, 115, 116, 117, 118, 119, 120, 121, 122, 123, 124, 125, 126, 127, 128, 70, 71, 72, 73, 74, 2, 129, 130, 131, 132, 133, 134, 135, 136, 155, 156, 157, 158, 159, 160, 161, 162, 163, 164, 165, 166, 167, 168, 169, 170, 171, 172, 173, 174, 175, 176, 177, 178, 179, 180, 181, 182, 183, 184, 185, 186, 187, 188, 189, 190, 191, 192, 193, 194] (by decide +kernel) (by decide +kernel)
set_option maxRecDepth 20000 in
theorem gX6_digest_X6_mixBoard : GoodIn wsX6_digest (wsV RX6 284 RX6 yX6_mixBoard wsX6_mixBoard) := goodIn_app (goodIn_of _ (by decide +kernel)) ggX6_digest_X6_mixBoard
set_option maxRecDepth 20000 in
theorem ggX6_digest_X6_howMany : GoodIn wsX6_digest wsX6_howMany := goodIn_r _ [140, 141, 55, 4, 142, 143, 144, 145, 9, 146, 147, 148, 149, 150, 26, 27, 36, 3, 13, 14, 15, 16, 17, 12, 67, 68, 69, 117, 118, 119, 120, 151, 152, 153, 154, 18, 19, 20, 21, 22, 23, 24, 25, 28, 29, 30, 31, 32, 33, 34, 35, 11, 37, 38, 39, 40, 41, 42, 43, 44, 45, 46, 47, 48, 49, 50, 155, 156, 157, 158, 159, 160, 161, 162, 163, 164, 165, 166, 167, 168, 169, 170, 171, 172, 173, 174, 175, 176, 177, 178, 179, 180, 181, 182, 183, 184, 185, 186, 187, 188, 189, 190, 191, 192, 193, 194] (by decide +kernel) (by decide +kernel)
set_option maxRecDepth 20000 in
theorem gX6_digest_X6_howMany : GoodIn wsX6_digest (wsV RX6 270 RX6 yX6_howMany wsX6_howMany) := goodIn_app (goodIn_of _ (by decide +kernel)) ggX6_digest_X6_howMany
theorem dX6_digest_0 : decode cX6_digest 0 = .ok (.aload_n 0, 1) := by decide +kernel
theorem dX6_digest_1 : decode cX6_digest 1 = .ok (.ldc2_w 282, 3) := by decide +kernel
theorem dX6_digest_4 : decode cX6_digest 4 = .ok (.putfield 275, 3) := by decide +kernel
theorem dX6_digest_7 : decode cX6_digest 7 = .ok (.iconst 0, 1) := by decide +kernel
theorem dX6_digest_8 : decode cX6_digest 8 = .ok (.istore_n 1, 1) := by decide +kernel
theorem dX6_digest_9 : decode cX6_digest 9 = .ok (.iload_n 1, 1) := by decide +kernel
theorem dX6_digest_10 : decode cX6_digest 10 = .ok (.aload_n 0, 1) := by decide +kernel
theorem dX6_digest_11 : decode cX6_digest 11 = .ok (.getfield 115, 3) := by decide +kernel
theorem dX6_digest_14 : decode cX6_digest 14 = .ok (.if_icmp .ge 33, 3) := by decide +kernel
theorem dX6_digest_17 : decode cX6_digest 17 = .ok (.iconst 0, 1) := by decide +kernel
theorem dX6_digest_18 : decode cX6_digest 18 = .ok (.istore_n 2, 1) := by decide +kernel
theorem dX6_digest_19 : decode cX6_digest 19 = .ok (.iload_n 2, 1) := by decide +kernel
theorem dX6_digest_20 : decode cX6_digest 20 = .ok (.iconst 5, 1) := by decide +kernel
theorem dX6_digest_21 : decode cX6_digest 21 = .ok (.if_icmp .ge 20, 3) := by decide +kernel
theorem dX6_digest_24 : decode cX6_digest 24 = .ok (.aload_n 0, 1) := by decide +kernel
theorem dX6_digest_25 : decode cX6_digest 25 = .ok (.aload_n 0, 1) := by decide +kernel
theorem dX6_digest_26 : decode cX6_digest 26 = .ok (.iload_n 1, 1) := by decide +kernel
theorem dX6_digest_27 : decode cX6_digest 27 = .ok (.iload_n 2, 1) := by decide +kernel
theorem dX6_digest_28 : decode cX6_digest 28 = .ok (.invokevirtual 170, 3) := by decide +kernel
theorem dX6_digest_31 : decode cX6_digest 31 = .ok (.i2l, 1) := by decide +kernel
theorem dX6_digest_32 : decode cX6_digest 32 = .ok (.invokevirtual 278, 3) := by decide +kernel
theorem dX6_digest_35 : decode cX6_digest 35 = .ok (.iinc 2 1, 3) := by decide +kernel
theorem dX6_digest_38 : decode cX6_digest 38 = .ok (.goto (-19), 3) := by decide +kernel
theorem dX6_digest_41 : decode cX6_digest 41 = .ok (.iinc 1 1, 3) := by decide +kernel
theorem dX6_digest_44 : decode cX6_digest 44 = .ok (.goto (-35), 3) := by decide +kernel
theorem dX6_digest_47 : decode cX6_digest 47 = .ok (.iconst 0, 1) := by decide +kernel
theorem dX6_digest_48 : decode cX6_digest 48 = .ok (.istore_n 1, 1) := by decide +kernel
theorem dX6_digest_49 : decode cX6_digest 49 = .ok (.iload_n 1, 1) := by decide +kernel
theorem dX6_digest_50 : decode cX6_digest 50 = .ok (.aload_n 0, 1) := by decide +kernel
theorem dX6_digest_51 : decode cX6_digest 51 = .ok (.invokevirtual 118, 3) := by decide +kernel
theorem dX6_digest_54 : decode cX6_digest 54 = .ok (.if_icmp .ge 33, 3) := by decide +kernel
theorem dX6_digest_57 : decode cX6_digest 57 = .ok (.iconst 0, 1) := by decide +kernel
theorem dX6_digest_58 : decode cX6_digest 58 = .ok (.istore_n 2, 1) := by decide +kernel
theorem dX6_digest_59 : decode cX6_digest 59 = .ok (.iload_n 2, 1) := by decide +kernel
theorem dX6_digest_60 : decode cX6_digest 60 = .ok (.iconst 2, 1) := by decide +kernel
theorem dX6_digest_61 : decode cX6_digest 61 = .ok (.if_icmp .ge 20, 3) := by decide +kernel
theorem dX6_digest_64 : decode cX6_digest 64 = .ok (.aload_n 0, 1) := by decide +kernel
theorem dX6_digest_65 : decode cX6_digest 65 = .ok (.aload_n 0, 1) := by decide +kernel
theorem dX6_digest_66 : decode cX6_digest 66 = .ok (.iload_n 1, 1) := by decide +kernel
theorem dX6_digest_67 : decode cX6_digest 67 = .ok (.iload_n 2, 1) := by decide +kernel
theorem dX6_digest_68 : decode cX6_digest 68 = .ok (.invokevirtual 176, 3) := by decide +kernel
theorem dX6_digest_71 : decode cX6_digest 71 = .ok (.i2l, 1) := by decide +kernel
theorem dX6_digest_72 : decode cX6_digest 72 = .ok (.invokevirtual 278, 3) := by decide +kernel
theorem dX6_digest_75 : decode cX6_digest 75 = .ok (.iinc 2 1, 3) := by decide +kernel
theorem dX6_digest_78 : decode cX6_digest 78 = .ok (.goto (-19), 3) := by decide +kernel
theorem dX6_digest_81 : decode cX6_digest 81 = .ok (.iinc 1 1, 3) := by decide +kernel
theorem dX6_digest_84 : decode cX6_digest 84 = .ok (.goto (-35), 3) := by decide +kernel
theorem dX6_digest_87 : decode cX6_digest 87 = .ok (.aload_n 0, 1) := by decide +kernel
theorem dX6_digest_88 : decode cX6_digest 88 = .ok (.getfield 115, 3) := by decide +kernel
theorem dX6_digest_91 : decode cX6_digest 91 = .ok (.ifCond .le 7, 3) := by decide +kernel
theorem dX6_digest_94 : decode cX6_digest 94 = .ok (.aload_n 0, 1) := by decide +kernel
theorem dX6_digest_95 : decode cX6_digest 95 = .ok (.invokevirtual 284, 3) := by decide +kernel
theorem dX6_digest_98 : decode cX6_digest 98 = .ok (.iconst 0, 1) := by decide +kernel
theorem dX6_digest_99 : decode cX6_digest 99 = .ok (.istore_n 1, 1) := by decide +kernel
theorem dX6_digest_100 : decode cX6_digest 100 = .ok (.iload_n 1, 1) := by decide +kernel
theorem dX6_digest_101 : decode cX6_digest 101 = .ok (.aload_n 0, 1) := by decide +kernel
theorem dX6_digest_102 : decode cX6_digest 102 = .ok (.getfield 81, 3) := by decide +kernel
theorem dX6_digest_105 : decode cX6_digest 105 = .ok (.if_icmp .ge 20, 3) := by decide +kernel
theorem dX6_digest_108 : decode cX6_digest 108 = .ok (.aload_n 0, 1) := by decide +kernel
theorem dX6_digest_109 : decode cX6_digest 109 = .ok (.aload_n 0, 1) := by decide +kernel
theorem dX6_digest_110 : decode cX6_digest 110 = .ok (.getfield 25, 3) := by decide +kernel
theorem dX6_digest_113 : decode cX6_digest 113 = .ok (.iload_n 1, 1) := by decide +kernel
theorem dX6_digest_114 : decode cX6_digest 114 = .ok (.baload, 1) := by decide +kernel
theorem dX6_digest_115 : decode cX6_digest 115 = .ok (.i2l, 1) := by decide +kernel
theorem dX6_digest_116 : decode cX6_digest 116 = .ok (.invokevirtual 278, 3) := by decide +kernel
theorem dX6_digest_119 : decode cX6_digest 119 = .ok (.iinc 1 1, 3) := by decide +kernel
theorem dX6_digest_122 : decode cX6_digest 122 = .ok (.goto (-22), 3) := by decide +kernel
theorem dX6_digest_125 : decode cX6_digest 125 = .ok (.iconst 0, 1) := by decide +kernel
theorem dX6_digest_126 : decode cX6_digest 126 = .ok (.istore_n 1, 1) := by decide +kernel
theorem dX6_digest_127 : decode cX6_digest 127 = .ok (.iload_n 1, 1) := by decide +kernel
theorem dX6_digest_128 : decode cX6_digest 128 = .ok (.bipush 11, 2) := by decide +kernel
theorem dX6_digest_130 : decode cX6_digest 130 = .ok (.if_icmp .ge 19, 3) := by decide +kernel
theorem dX6_digest_133 : decode cX6_digest 133 = .ok (.aload_n 0, 1) := by decide +kernel
theorem dX6_digest_134 : decode cX6_digest 134 = .ok (.aload_n 0, 1) := by decide +kernel
theorem dX6_digest_135 : decode cX6_digest 135 = .ok (.iload_n 1, 1) := by decide +kernel
theorem dX6_digest_136 : decode cX6_digest 136 = .ok (.invokevirtual 270, 3) := by decide +kernel
theorem dX6_digest_139 : decode cX6_digest 139 = .ok (.i2l, 1) := by decide +kernel
theorem dX6_digest_140 : decode cX6_digest 140 = .ok (.invokevirtual 278, 3) := by decide +kernel
theorem dX6_digest_143 : decode cX6_digest 143 = .ok (.iinc 1 1, 3) := by decide +kernel
theorem dX6_digest_146 : decode cX6_digest 146 = .ok (.goto (-19), 3) := by decide +kernel
theorem dX6_digest_149 : decode cX6_digest 149 = .ok (.aload_n 0, 1) := by decide +kernel
theorem dX6_digest_150 : decode cX6_digest 150 = .ok (.getfield 275, 3) := by decide +kernel
theorem dX6_digest_153 : decode cX6_digest 153 = .ok (.lreturn, 1) := by decide +kernel
theorem dJ6_bitCount_0f7a4_0 : decode cJ6_bitCount_0f7a4 0 = .ok (.iload_n 0, 1) := by decide +kernel
theorem dJ6_bitCount_0f7a4_1 : decode cJ6_bitCount_0f7a4 1 = .ok (.iload_n 0, 1) := by decide +kernel
theorem dJ6_bitCount_0f7a4_2 : decode cJ6_bitCount_0f7a4 2 = .ok (.iconst 1, 1) := by decide +kernel
theorem dJ6_bitCount_0f7a4_3 : decode cJ6_bitCount_0f7a4 3 = .ok (.iushr, 1) := by decide +kernel
theorem dJ6_bitCount_0f7a4_4 : decode cJ6_bitCount_0f7a4 4 = .ok (.ldc_w 265, 3) := by decide +kernel
theorem dJ6_bitCount_0f7a4_7 : decode cJ6_bitCount_0f7a4 7 = .ok (.iand, 1) := by decide +kernel
theorem dJ6_bitCount_0f7a4_8 : decode cJ6_bitCount_0f7a4 8 = .ok (.isub, 1) := by decide +kernel
theorem dJ6_bitCount_0f7a4_9 : decode cJ6_bitCount_0f7a4 9 = .ok (.istore_n 0, 1) := by decide +kernel
theorem dJ6_bitCount_0f7a4_10 : decode cJ6_bitCount_0f7a4 10 = .ok (.iload_n 0, 1) := by decide +kernel
theorem dJ6_bitCount_0f7a4_11 : decode cJ6_bitCount_0f7a4 11 = .ok (.ldc_w 266, 3) := by decide +kernel
theorem dJ6_bitCount_0f7a4_14 : decode cJ6_bitCount_0f7a4 14 = .ok (.iand, 1) := by decide +kernel
theorem dJ6_bitCount_0f7a4_15 : decode cJ6_bitCount_0f7a4 15 = .ok (.iload_n 0, 1) := by decide +kernel
theorem dJ6_bitCount_0f7a4_16 : decode cJ6_bitCount_0f7a4 16 = .ok (.iconst 2, 1) := by decide +kernel
theorem dJ6_bitCount_0f7a4_17 : decode cJ6_bitCount_0f7a4 17 = .ok (.iushr, 1) := by decide +kernel
theorem dJ6_bitCount_0f7a4_18 : decode cJ6_bitCount_0f7a4 18 = .ok (.ldc_w 266, 3) := by decide +kernel
theorem dJ6_bitCount_0f7a4_21 : decode cJ6_bitCount_0f7a4 21 = .ok (.iand, 1) := by decide +kernel
theorem dJ6_bitCount_0f7a4_22 : decode cJ6_bitCount_0f7a4 22 = .ok (.iadd, 1) := by decide +kernel
theorem dJ6_bitCount_0f7a4_23 : decode cJ6_bitCount_0f7a4 23 = .ok (.istore_n 0, 1) := by decide +kernel
theorem dJ6_bitCount_0f7a4_24 : decode cJ6_bitCount_0f7a4 24 = .ok (.iload_n 0, 1) := by decide +kernel
theorem dJ6_bitCount_0f7a4_25 : decode cJ6_bitCount_0f7a4 25 = .ok (.iload_n 0, 1) := by decide +kernel
theorem dJ6_bitCount_0f7a4_26 : decode cJ6_bitCount_0f7a4 26 = .ok (.iconst 4, 1) := by decide +kernel
theorem dJ6_bitCount_0f7a4_27 : decode cJ6_bitCount_0f7a4 27 = .ok (.iushr, 1) := by decide +kernel
theorem dJ6_bitCount_0f7a4_28 : decode cJ6_bitCount_0f7a4 28 = .ok (.iadd, 1) := by decide +kernel
theorem dJ6_bitCount_0f7a4_29 : decode cJ6_bitCount_0f7a4 29 = .ok (.ldc_w 267, 3) := by decide +kernel
theorem dJ6_bitCount_0f7a4_32 : decode cJ6_bitCount_0f7a4 32 = .ok (.iand, 1) := by decide +kernel
theorem dJ6_bitCount_0f7a4_33 : decode cJ6_bitCount_0f7a4 33 = .ok (.istore_n 0, 1) := by decide +kernel
theorem dJ6_bitCount_0f7a4_34 : decode cJ6_bitCount_0f7a4 34 = .ok (.iload_n 0, 1) := by decide +kernel
theorem dJ6_bitCount_0f7a4_35 : decode cJ6_bitCount_0f7a4 35 = .ok (.iload_n 0, 1) := by decide +kernel
theorem dJ6_bitCount_0f7a4_36 : decode cJ6_bitCount_0f7a4 36 = .ok (.bipush 8, 2) := by decide +kernel
theorem dJ6_bitCount_0f7a4_38 : decode cJ6_bitCount_0f7a4 38 = .ok (.iushr, 1) := by decide +kernel
theorem dJ6_bitCount_0f7a4_39 : decode cJ6_bitCount_0f7a4 39 = .ok (.iadd, 1) := by decide +kernel
theorem dJ6_bitCount_0f7a4_40 : decode cJ6_bitCount_0f7a4 40 = .ok (.istore_n 0, 1) := by decide +kernel
theorem dJ6_bitCount_0f7a4_41 : decode cJ6_bitCount_0f7a4 41 = .ok (.iload_n 0, 1) := by decide +kernel
theorem dJ6_bitCount_0f7a4_42 : decode cJ6_bitCount_0f7a4 42 = .ok (.iload_n 0, 1) := by decide +kernel
theorem dJ6_bitCount_0f7a4_43 : decode cJ6_bitCount_0f7a4 43 = .ok (.bipush 16, 2) := by decide +kernel
theorem dJ6_bitCount_0f7a4_45 : decode cJ6_bitCount_0f7a4 45 = .ok (.iushr, 1) := by decide +kernel
theorem dJ6_bitCount_0f7a4_46 : decode cJ6_bitCount_0f7a4 46 = .ok (.iadd, 1) := by decide +kernel
theorem dJ6_bitCount_0f7a4_47 : decode cJ6_bitCount_0f7a4 47 = .ok (.istore_n 0, 1) := by decide +kernel
theorem dJ6_bitCount_0f7a4_48 : decode cJ6_bitCount_0f7a4 48 = .ok (.iload_n 0, 1) := by decide +kernel
theorem dJ6_bitCount_0f7a4_49 : decode cJ6_bitCount_0f7a4 49 = .ok (.bipush 63, 2) := by decide +kernel
theorem dJ6_bitCount_0f7a4_51 : decode cJ6_bitCount_0f7a4 51 = .ok (.iand, 1) := by decide +kernel
theorem dJ6_bitCount_0f7a4_52 : decode cJ6_bitCount_0f7a4 52 = .ok (.ireturn, 1) := by decide +kernel
theorem dJ9_max_7cf53_0 : decode cJ9_max_7cf53 0 = .ok (.iload_n 0, 1) := by decide +kernel
theorem dJ9_max_7cf53_1 : decode cJ9_max_7cf53 1 = .ok (.iload_n 1, 1) := by decide +kernel
theorem dJ9_max_7cf53_2 : decode cJ9_max_7cf53 2 = .ok (.if_icmp .lt 7, 3) := by decide +kernel
theorem dJ9_max_7cf53_5 : decode cJ9_max_7cf53 5 = .ok (.iload_n 0, 1) := by decide +kernel
theorem dJ9_max_7cf53_6 : decode cJ9_max_7cf53 6 = .ok (.goto 4, 3) := by decide +kernel
theorem dJ9_max_7cf53_9 : decode cJ9_max_7cf53 9 = .ok (.iload_n 1, 1) := by decide +kernel
theorem dJ9_max_7cf53_10 : decode cJ9_max_7cf53 10 = .ok (.ireturn, 1) := by decide +kernel
set_option maxRecDepth 20000 in
theorem ggL_law_X5_init : GoodIn wsL_law wsX5_init := goodIn_r _ [8, 9, 10, 11, 12, 13, 14, 15, 16, 17, 18, 19, 20, 21, 22, 23, 24, 25, 26, 27, 28, 29, 30, 31, 32, 33, 34, 35, 36, 37, 38, 39, 40, 41, 42, 43, 44, 45, 46, 47, 48, 49, 50, 51, 52, 53, 54, 55, 56, 57, 58, 59, 60, 771, 772, 718, 719, 720, 721, 722, 723, 724, 725, 726, 727, 728, 729, 730, 773, 774, 775, 776, 777, 778, 779, 780, 781, 782, 783, 784, 785, 786, 787, 788, 789, 790, 791, 792, 793, 794, 795, 796] (by decide +kernel) (by decide +kernel)
set_option maxRecDepth 20000 in
theorem gL_law_X5_init : GoodIn wsL_law (wsX5_init) := ggL_law_X5_init
set_option maxRecDepth 20000 in
theorem ggL_law_X6_init : GoodIn wsL_law wsX6_init := goodIn_r _ [63, 64, 10, 11, 39, 65, 66, 67, 68, 69, 70, 71, 72, 73, 74, 75, 76, 77, 78, 79, 80, 81, 82, 83, 84, 85, 86, 87, 731, 732, 733, 734, 735, 736, 737, 738, 739, 740, 741, 742, 743, 744, 745, 746, 747, 748, 749, 750, 751, 752, 753, 754, 755, 756, 757, 758, 759, 760, 761, 762, 763, 764, 765, 766, 767, 768, 769, 770] (by decide +kernel) (by decide +kernel)
set_option maxRecDepth 20000 in
theorem gL_law_X6_init : GoodIn wsL_law (wsX6_init) := ggL_law_X6_init
set_option maxRecDepth 20000 in
theorem ggL_law_X5_letter : GoodIn wsL_law wsX5_letter := goodIn_r _ [91, 15, 92, 93, 94, 14, 95, 96, 40, 718, 719, 720, 721, 722, 723, 724, 725, 726, 727, 728, 729, 730, 771, 772] (by decide +kernel) (by decide +kernel)
set_option maxRecDepth 20000 in
theorem gL_law_X5_letter : GoodIn wsL_law (wsV RL 13 RX5 yX5_letter wsX5_letter) := goodIn_app (goodIn_of _ (by decide +kernel)) ggL_law_X5_letter
set_option maxRecDepth 20000 in
theorem ggL_law_X6_letter : GoodIn wsL_law wsX6_letter := goodIn_r _ [100, 101, 71, 102, 103, 5, 104, 731, 732, 733, 734, 735, 736, 737, 738, 739, 740, 741, 742, 743, 744, 745, 746, 747, 748, 749, 750, 751, 752, 753, 754, 755, 756, 757, 758, 759, 760, 761, 762, 763, 764, 765, 766, 767, 768, 769, 770] (by decide +kernel) (by decide +kernel)
set_option maxRecDepth 20000 in
theorem gL_law_X6_letter : GoodIn wsL_law (wsV RL 17 RX6 yX6_letter wsX6_letter) := goodIn_app (goodIn_of _ (by decide +kernel)) ggL_law_X6_letter
set_option maxRecDepth 20000 in
theorem ggL_law_X5_blank : GoodIn wsL_law wsX5_blank := goodIn_r _ [108, 15, 718, 719, 720, 721, 722, 723, 724, 725, 726, 727, 728, 729, 730, 771, 772] (by decide +kernel) (by decide +kernel)
set_option maxRecDepth 20000 in
theorem gL_law_X5_blank : GoodIn wsL_law (wsV RL 18 RX5 yX5_blank wsX5_blank) := goodIn_app (goodIn_of _ (by decide +kernel)) ggL_law_X5_blank
set_option maxRecDepth 20000 in
theorem ggL_law_X6_blank : GoodIn wsL_law wsX6_blank := goodIn_r _ [112, 101, 731, 732, 733, 734, 735, 736, 737, 738, 739, 740, 741, 742, 743, 744, 745, 746, 747, 748, 749, 750, 751, 752, 753, 754, 755, 756, 757, 758, 759, 760, 761, 762, 763, 764, 765, 766, 767, 768, 769, 770] (by decide +kernel) (by decide +kernel)
set_option maxRecDepth 20000 in
theorem gL_law_X6_blank : GoodIn wsL_law (wsV RL 22 RX6 yX6_blank wsX6_blank) := goodIn_app (goodIn_of _ (by decide +kernel)) ggL_law_X6_blank
set_option maxRecDepth 20000 in
theorem ggL_law_X5_fault : GoodIn wsL_law wsX5_fault := goodIn_r _ [116, 15, 117, 118, 119, 14, 120, 96, 121, 122, 123, 124, 125, 126, 127, 128, 129, 130, 131, 132, 40, 133, 134, 135, 136, 137, 138, 139, 140, 141, 142, 143, 144, 718, 719, 720, 721, 722, 723, 724, 725, 726, 727, 728, 729, 730, 771, 772] (by decide +kernel) (by decide +kernel)
set_option maxRecDepth 20000 in
theorem gL_law_X5_fault : GoodIn wsL_law (wsV RL 23 RX5 yX5_fault wsX5_fault) := goodIn_app (goodIn_of _ (by decide +kernel)) ggL_law_X5_fault
set_option maxRecDepth 20000 in
theorem ggL_law_X6_fault : GoodIn wsL_law wsX6_fault := goodIn_r _ [148, 149, 150, 151, 5, 152, 153, 154, 155, 156, 157, 158, 101, 71, 102, 103, 104, 159, 160, 161, 162, 163, 164, 165, 731, 732, 733, 734, 735, 736, 737, 738, 739, 740, 741, 742, 743, 744, 745, 746, 747, 748, 749, 750, 751, 752, 753, 754, 755, 756, 757, 758, 759, 760, 761, 762, 763, 764, 765, 766, 767, 768, 769, 770] (by decide +kernel) (by decide +kernel)
set_option maxRecDepth 20000 in
theorem gL_law_X6_fault : GoodIn wsL_law (wsV RL 26 RX6 yX6_fault wsX6_fault) := goodIn_app (goodIn_of _ (by decide +kernel)) ggL_law_X6_fault
set_option maxRecDepth 20000 in
theorem ggL_law_X5_board : GoodIn wsL_law wsX5_board := goodIn_r _ [169, 15, 19, 23, 27, 170, 171, 172, 173, 174, 175, 14, 176, 96, 133, 134, 135, 136, 125, 126, 127, 128, 129, 130, 131, 132, 40, 177, 118, 119, 120, 121, 122, 123, 124, 137, 138, 139, 140, 141, 142, 143, 144, 178, 179, 180, 181, 18, 182, 183, 184, 185, 44, 186, 187, 188, 189, 190, 191, 192, 22, 193, 194, 195, 196, 197, 51, 52, 198, 199, 200, 201, 202, 203, 49, 50, 204, 205, 206, 207, 208, 209, 210, 211, 212, 213, 214, 215, 718, 719, 720, 721, 722, 723, 724, 725, 726, 727, 728, 729, 730, 785, 786, 787, 771, 772, 777, 778, 779, 780, 781, 782, 783, 784, 773, 774, 775, 776] (by decide +kernel) (by decide +kernel)
set_option maxRecDepth 20000 in
theorem gL_law_X5_board : GoodIn wsL_law (wsV RL 27 RX5 yX5_board wsX5_board) := goodIn_app (goodIn_of _ (by decide +kernel)) ggL_law_X5_board
set_option maxRecDepth 20000 in
theorem ggL_law_X6_board : GoodIn wsL_law wsX6_board := goodIn_r _ [219, 153, 71, 220, 221, 222, 223, 65, 66, 224, 225, 226, 101, 149, 150, 151, 5, 152, 154, 155, 156, 157, 158, 102, 103, 104, 159, 160, 161, 162, 163, 164, 165, 227, 228, 229, 230, 731, 732, 733, 734, 735, 736, 737, 738, 739, 740, 741, 742, 743, 744, 745, 746, 747, 748, 749, 750, 751, 752, 753, 754, 755, 756, 757, 758, 759, 760, 761, 762, 763, 764, 765, 766, 767, 768, 769, 770] (by decide +kernel) (by decide +kernel)
set_option maxRecDepth 20000 in
theorem gL_law_X6_board : GoodIn wsL_law (wsV RL 30 RX6 yX6_board wsX6_board) := goodIn_app (goodIn_of _ (by decide +kernel)) ggL_law_X6_board
set_option maxRecDepth 20000 in
theorem ggL_law_X5_peg : GoodIn wsL_law wsX5_peg := goodIn_r _ [234, 23, 27, 235, 209, 210, 22, 211, 195, 236, 237, 238, 239, 49, 208, 240, 241, 242, 243, 50, 244, 245, 246, 247, 248, 249, 250, 251, 52, 252, 253, 254, 255, 18, 256, 44, 257, 213, 214, 215, 185, 258, 259, 260, 261, 51, 212, 262, 263, 2, 264, 265, 266, 267, 268, 269, 270, 271, 272, 273, 274, 275, 194, 276, 277, 278, 26, 279, 280, 56, 57, 281, 282, 283, 284, 285, 286, 287, 288, 289, 290, 291, 292, 293, 294, 718, 719, 720, 721, 722, 723, 724, 725, 726, 727, 728, 729, 730, 777, 778, 779, 780, 781, 782, 783, 784, 773, 774, 775, 776, 785, 786, 787] (by decide +kernel) (by decide +kernel)
set_option maxRecDepth 20000 in
theorem gL_law_X5_peg : GoodIn wsL_law (wsV RL 31 RX5 yX5_peg wsX5_peg) := goodIn_app (goodIn_of _ (by decide +kernel)) ggL_law_X5_peg
set_option maxRecDepth 20000 in
theorem ggL_law_X6_peg : GoodIn wsL_law wsX6_peg := goodIn_r _ [298, 299, 300, 301, 5, 302, 223, 102, 103, 104, 303, 304, 305, 306, 65, 66, 307, 308, 309, 310, 72, 311, 312, 313, 314, 227, 228, 229, 230, 220, 221, 315, 316, 317, 318, 319, 320, 321, 322, 222, 323, 324, 325, 326, 327, 328, 329, 330, 331, 332, 333, 334, 335, 336, 337, 338, 339, 340, 226, 67, 68, 69, 341, 342, 343, 344, 345, 346, 347, 348, 349, 350, 351, 731, 732, 733, 734, 735, 736, 737, 738, 739, 740, 741, 742, 743, 744, 745, 746, 747, 748, 749, 750, 751, 752, 753, 754, 755, 756, 757, 758, 759, 760, 761, 762, 763, 764, 765, 766, 767, 768, 769, 770] (by decide +kernel) (by decide +kernel)
set_option maxRecDepth 20000 in
theorem gL_law_X6_peg : GoodIn wsL_law (wsV RL 35 RX6 yX6_peg wsX6_peg) := goodIn_app (goodIn_of _ (by decide +kernel)) ggL_law_X6_peg
set_option maxRecDepth 20000 in
theorem ggL_law_X5_as : GoodIn wsL_law wsX5_as := goodIn_r _ [355, 23, 356, 235, 209, 210, 22, 211, 195, 236, 237, 238, 239, 49, 208, 266, 267, 2, 268, 718, 719, 720, 721, 722, 723, 724, 725, 726, 727, 728, 729, 730, 777, 778, 779, 780, 781, 782, 783, 784] (by decide +kernel) (by decide +kernel)
set_option maxRecDepth 20000 in
theorem gL_law_X5_as : GoodIn wsL_law (wsV RL 36 RX5 yX5_as wsX5_as) := goodIn_app (goodIn_of _ (by decide +kernel)) ggL_law_X5_as
set_option maxRecDepth 20000 in
theorem ggL_law_X6_as : GoodIn wsL_law wsX6_as := goodIn_r _ [360, 65, 299, 300, 301, 5, 302, 223, 102, 103, 104, 731, 732, 733, 734, 735, 736, 737, 738, 739, 740, 741, 742, 743, 744, 745, 746, 747, 748, 749, 750, 751, 752, 753, 754, 755, 756, 757, 758, 759, 760, 761, 762, 763, 764, 765, 766, 767, 768, 769, 770] (by decide +kernel) (by decide +kernel)
set_option maxRecDepth 20000 in
theorem gL_law_X6_as : GoodIn wsL_law (wsV RL 39 RX6 yX6_as wsX6_as) := goodIn_app (goodIn_of _ (by decide +kernel)) ggL_law_X6_as
set_option maxRecDepth 20000 in
theorem ggL_law_X5_place : GoodIn wsL_law wsX5_place := goodIn_r _ [364, 19, 23, 365, 213, 214, 18, 215, 185, 366, 367, 368, 22, 369, 52, 194, 212, 267, 2, 268, 370, 259, 260, 261, 51, 718, 719, 720, 721, 722, 723, 724, 725, 726, 727, 728, 729, 730, 773, 774, 775, 776, 777, 778, 779, 780, 781, 782, 783, 784] (by decide +kernel) (by decide +kernel)
set_option maxRecDepth 20000 in
theorem gL_law_X5_place : GoodIn wsL_law (wsV RL 40 RX5 yX5_place wsX5_place) := goodIn_app (goodIn_of _ (by decide +kernel)) ggL_law_X5_place
set_option maxRecDepth 20000 in
theorem ggL_law_X6_place : GoodIn wsL_law wsX6_place := goodIn_r _ [374, 375, 376, 377, 5, 378, 227, 228, 229, 230, 220, 221, 102, 103, 104, 379, 380, 381, 382, 222, 307, 308, 309, 310, 72, 223, 66, 326, 327, 328, 329, 731, 732, 733, 734, 735, 736, 737, 738, 739, 740, 741, 742, 743, 744, 745, 746, 747, 748, 749, 750, 751, 752, 753, 754, 755, 756, 757, 758, 759, 760, 761, 762, 763, 764, 765, 766, 767, 768, 769, 770] (by decide +kernel) (by decide +kernel)
set_option maxRecDepth 20000 in
theorem gL_law_X6_place : GoodIn wsL_law (wsV RL 43 RX6 yX6_place wsX6_place) := goodIn_app (goodIn_of _ (by decide +kernel)) ggL_law_X6_place
set_option maxRecDepth 20000 in
theorem ggL_law_X5_jump : GoodIn wsL_law wsX5_jump := goodIn_r _ [386, 23, 19, 171, 235, 209, 210, 22, 211, 195, 365, 213, 214, 18, 215, 185, 387, 388, 389, 390, 248, 249, 250, 251, 52, 252, 241, 242, 243, 50, 208, 253, 254, 255, 256, 44, 257, 258, 259, 260, 261, 51, 212, 262, 237, 238, 239, 49, 263, 2, 264, 265, 266, 267, 268, 269, 270, 271, 272, 273, 274, 275, 194, 391, 392, 393, 394, 395, 396, 397, 398, 399, 400, 401, 402, 196, 204, 205, 206, 207, 718, 719, 720, 721, 722, 723, 724, 725, 726, 727, 728, 729, 730, 777, 778, 779, 780, 781, 782, 783, 784, 773, 774, 775, 776] (by decide +kernel) (by decide +kernel)
set_option maxRecDepth 20000 in
theorem gL_law_X5_jump : GoodIn wsL_law (wsV RL 44 RX5 yX5_jump wsX5_jump) := goodIn_app (goodIn_of _ (by decide +kernel)) ggL_law_X5_jump
set_option maxRecDepth 20000 in
theorem ggL_law_X6_jump : GoodIn wsL_law wsX6_jump := goodIn_r _ [406, 224, 223, 66, 72, 299, 300, 301, 5, 302, 102, 103, 104, 375, 376, 377, 378, 227, 228, 229, 230, 220, 221, 307, 308, 309, 310, 315, 316, 317, 318, 319, 320, 321, 322, 222, 65, 323, 324, 325, 326, 327, 328, 329, 330, 331, 332, 333, 334, 335, 336, 407, 408, 409, 410, 411, 412, 413, 414, 731, 732, 733, 734, 735, 736, 737, 738, 739, 740, 741, 742, 743, 744, 745, 746, 747, 748, 749, 750, 751, 752, 753, 754, 755, 756, 757, 758, 759, 760, 761, 762, 763, 764, 765, 766, 767, 768, 769, 770] (by decide +kernel) (by decide +kernel)
set_option maxRecDepth 20000 in
theorem gL_law_X6_jump : GoodIn wsL_law (wsV RL 47 RX6 yX6_jump wsX6_jump) := goodIn_app (goodIn_of _ (by decide +kernel)) ggL_law_X6_jump
set_option maxRecDepth 20000 in
theorem ggL_law_X5_put : GoodIn wsL_law wsX5_put := goodIn_r _ [418, 23, 19, 171, 235, 209, 210, 22, 211, 195, 365, 213, 214, 18, 215, 185, 240, 241, 242, 243, 50, 208, 419, 273, 274, 275, 52, 194, 51, 212, 267, 2, 268, 420, 205, 206, 207, 196, 718, 719, 720, 721, 722, 723, 724, 725, 726, 727, 728, 729, 730, 777, 778, 779, 780, 781, 782, 783, 784, 773, 774, 775, 776] (by decide +kernel) (by decide +kernel)
set_option maxRecDepth 20000 in
theorem gL_law_X5_put : GoodIn wsL_law (wsV RL 48 RX5 yX5_put wsX5_put) := goodIn_app (goodIn_of _ (by decide +kernel)) ggL_law_X5_put
set_option maxRecDepth 20000 in
theorem ggL_law_X6_put : GoodIn wsL_law wsX6_put := goodIn_r _ [424, 66, 299, 300, 301, 5, 302, 223, 102, 103, 104, 375, 376, 377, 378, 227, 228, 229, 230, 220, 221, 425, 426, 427, 428, 222, 307, 308, 309, 310, 72, 323, 324, 325, 326, 327, 328, 329, 411, 412, 413, 414, 731, 732, 733, 734, 735, 736, 737, 738, 739, 740, 741, 742, 743, 744, 745, 746, 747, 748, 749, 750, 751, 752, 753, 754, 755, 756, 757, 758, 759, 760, 761, 762, 763, 764, 765, 766, 767, 768, 769, 770] (by decide +kernel) (by decide +kernel)
set_option maxRecDepth 20000 in
theorem gL_law_X6_put : GoodIn wsL_law (wsV RL 51 RX6 yX6_put wsX6_put) := goodIn_app (goodIn_of _ (by decide +kernel)) ggL_law_X6_put
set_option maxRecDepth 20000 in
theorem ggL_law_X5_plug : GoodIn wsL_law wsX5_plug := goodIn_r _ [432, 19, 23, 171, 365, 213, 214, 18, 215, 185, 419, 273, 274, 22, 275, 52, 194, 51, 212, 267, 2, 268, 288, 289, 290, 291, 292, 293, 294, 718, 719, 720, 721, 722, 723, 724, 725, 726, 727, 728, 729, 730, 777, 778, 779, 780, 781, 782, 783, 784, 773, 774, 775, 776] (by decide +kernel) (by decide +kernel)
set_option maxRecDepth 20000 in
theorem gL_law_X5_plug : GoodIn wsL_law (wsV RL 52 RX5 yX5_plug wsX5_plug) := goodIn_app (goodIn_of _ (by decide +kernel)) ggL_law_X5_plug
set_option maxRecDepth 20000 in
theorem ggL_law_X6_plug : GoodIn wsL_law wsX6_plug := goodIn_r _ [436, 222, 375, 376, 377, 5, 378, 227, 228, 229, 230, 220, 221, 102, 103, 104, 425, 426, 427, 428, 307, 308, 309, 310, 72, 223, 66, 323, 324, 325, 326, 327, 328, 329, 349, 350, 351, 731, 732, 733, 734, 735, 736, 737, 738, 739, 740, 741, 742, 743, 744, 745, 746, 747, 748, 749, 750, 751, 752, 753, 754, 755, 756, 757, 758, 759, 760, 761, 762, 763, 764, 765, 766, 767, 768, 769, 770] (by decide +kernel) (by decide +kernel)
set_option maxRecDepth 20000 in
theorem gL_law_X6_plug : GoodIn wsL_law (wsV RL 55 RX6 yX6_plug wsX6_plug) := goodIn_app (goodIn_of _ (by decide +kernel)) ggL_law_X6_plug
set_option maxRecDepth 20000 in
theorem ggL_law_X5_bore : GoodIn wsL_law wsX5_bore := goodIn_r _ [440, 19, 23, 171, 365, 213, 214, 18, 215, 185, 366, 367, 368, 22, 369, 52, 194, 212, 267, 2, 268, 288, 289, 290, 291, 292, 293, 294, 718, 719, 720, 721, 722, 723, 724, 725, 726, 727, 728, 729, 730, 777, 778, 779, 780, 781, 782, 783, 784, 773, 774, 775, 776] (by decide +kernel) (by decide +kernel)
set_option maxRecDepth 20000 in
theorem gL_law_X5_bore : GoodIn wsL_law (wsV RL 56 RX5 yX5_bore wsX5_bore) := goodIn_app (goodIn_of _ (by decide +kernel)) ggL_law_X5_bore
set_option maxRecDepth 20000 in
theorem ggL_law_X6_bore : GoodIn wsL_law wsX6_bore := goodIn_r _ [444, 222, 375, 376, 377, 5, 378, 227, 228, 229, 230, 220, 221, 102, 103, 104, 323, 324, 325, 349, 350, 351, 731, 732, 733, 734, 735, 736, 737, 738, 739, 740, 741, 742, 743, 744, 745, 746, 747, 748, 749, 750, 751, 752, 753, 754, 755, 756, 757, 758, 759, 760, 761, 762, 763, 764, 765, 766, 767, 768, 769, 770] (by decide +kernel) (by decide +kernel)
set_option maxRecDepth 20000 in
theorem gL_law_X6_bore : GoodIn wsL_law (wsV RL 59 RX6 yX6_bore wsX6_bore) := goodIn_app (goodIn_of _ (by decide +kernel)) ggL_law_X6_bore
set_option maxRecDepth 20000 in
theorem ggL_law_X5_be : GoodIn wsL_law wsX5_be := goodIn_r _ [448, 23, 171, 235, 209, 210, 22, 211, 195, 236, 237, 238, 239, 49, 208, 449, 450, 451, 452, 718, 719, 720, 721, 722, 723, 724, 725, 726, 727, 728, 729, 730, 777, 778, 779, 780, 781, 782, 783, 784] (by decide +kernel) (by decide +kernel)
set_option maxRecDepth 20000 in
theorem gL_law_X5_be : GoodIn wsL_law (wsV RL 60 RX5 yX5_be wsX5_be) := goodIn_app (goodIn_of _ (by decide +kernel)) ggL_law_X5_be
set_option maxRecDepth 20000 in
theorem ggL_law_X6_be : GoodIn wsL_law wsX6_be := goodIn_r _ [456, 65, 299, 300, 301, 5, 302, 223, 102, 103, 104, 731, 732, 733, 734, 735, 736, 737, 738, 739, 740, 741, 742, 743, 744, 745, 746, 747, 748, 749, 750, 751, 752, 753, 754, 755, 756, 757, 758, 759, 760, 761, 762, 763, 764, 765, 766, 767, 768, 769, 770] (by decide +kernel) (by decide +kernel)
set_option maxRecDepth 20000 in
theorem gL_law_X6_be : GoodIn wsL_law (wsV RL 63 RX6 yX6_be wsX6_be) := goodIn_app (goodIn_of _ (by decide +kernel)) ggL_law_X6_be
set_option maxRecDepth 20000 in
theorem ggL_law_X5_courses : GoodIn wsL_law wsX5_courses := goodIn_r _ [460, 172, 34, 461, 462, 463, 2, 464, 171, 30, 23, 35, 465, 466, 467, 22, 468, 194, 195, 196, 197, 49, 50, 51, 469, 470, 471, 472, 473, 474, 33, 475, 476, 477, 478, 479, 480, 481, 482, 483, 484, 485, 249, 250, 251, 52, 252, 241, 242, 243, 208, 209, 210, 211, 253, 254, 255, 18, 256, 44, 257, 213, 214, 215, 185, 258, 259, 260, 261, 212, 262, 237, 238, 239, 263, 264, 265, 266, 267, 268, 269, 270, 271, 272, 273, 274, 275, 240, 391, 392, 393, 394, 395, 396, 397, 398, 399, 400, 401, 402, 204, 205, 206, 207, 486, 487, 488, 489, 490, 491, 492, 493, 494, 285, 286, 287, 495, 496, 497, 498, 499, 500, 501, 502, 718, 719, 720, 721, 722, 723, 724, 725, 726, 727, 728, 729, 730, 788, 789, 790, 791, 792, 793, 794, 795, 796, 777, 778, 779, 780, 781, 782, 783, 784, 773, 774, 775, 776] (by decide +kernel) (by decide +kernel)
set_option maxRecDepth 20000 in
theorem gL_law_X5_courses : GoodIn wsL_law (wsV RL 64 RX5 yX5_courses wsX5_courses) := goodIn_app (goodIn_of _ (by decide +kernel)) ggL_law_X5_courses
set_option maxRecDepth 20000 in
theorem ggL_law_X6_courses : GoodIn wsL_law wsX6_courses := goodIn_r _ [506, 223, 102, 103, 5, 104, 507, 508, 509, 510, 76, 77, 75, 78, 79, 80, 307, 308, 309, 310, 72, 66, 511, 512, 513, 514, 74, 73, 515, 516, 517, 518, 348, 81, 82, 519, 520, 521, 522, 227, 228, 229, 230, 220, 221, 315, 316, 317, 318, 319, 320, 321, 322, 222, 65, 323, 324, 325, 326, 327, 328, 329, 330, 331, 332, 333, 334, 335, 336, 407, 408, 409, 410, 523, 524, 525, 526, 411, 412, 413, 414, 527, 528, 529, 530, 531, 532, 533, 534, 731, 732, 733, 734, 735, 736, 737, 738, 739, 740, 741, 742, 743, 744, 745, 746, 747, 748, 749, 750, 751, 752, 753, 754, 755, 756, 757, 758, 759, 760, 761, 762, 763, 764, 765, 766, 767, 768, 769, 770] (by decide +kernel) (by decide +kernel)
set_option maxRecDepth 20000 in
theorem gL_law_X6_courses : GoodIn wsL_law (wsV RL 67 RX6 yX6_courses wsX6_courses) := goodIn_app (goodIn_of _ (by decide +kernel)) ggL_law_X6_courses
set_option maxRecDepth 20000 in
theorem ggL_law_X5_wins : GoodIn wsL_law wsX5_wins := goodIn_r _ [538, 172, 34, 461, 462, 463, 2, 464, 171, 30, 23, 35, 465, 466, 467, 22, 468, 194, 195, 196, 197, 49, 50, 51, 469, 470, 471, 472, 473, 474, 33, 475, 476, 477, 478, 479, 480, 481, 482, 483, 484, 485, 249, 250, 251, 52, 252, 241, 242, 243, 208, 209, 210, 211, 253, 254, 255, 18, 256, 44, 257, 213, 214, 215, 185, 258, 259, 260, 261, 212, 262, 237, 238, 239, 263, 264, 265, 266, 267, 268, 269, 270, 271, 272, 273, 274, 275, 240, 391, 392, 393, 394, 395, 396, 397, 398, 399, 400, 401, 402, 204, 205, 206, 207, 486, 487, 488, 489, 490, 491, 492, 493, 494, 285, 286, 287, 495, 496, 497, 498, 499, 500, 501, 502, 718, 719, 720, 721, 722, 723, 724, 725, 726, 727, 728, 729, 730, 788, 789, 790, 791, 792, 793, 794, 795, 796, 777, 778, 779, 780, 781, 782, 783, 784, 773, 774, 775, 776] (by decide +kernel) (by decide +kernel)
set_option maxRecDepth 20000 in
theorem gL_law_X5_wins : GoodIn wsL_law (wsV RL 68 RX5 yX5_wins wsX5_wins) := goodIn_app (goodIn_of _ (by decide +kernel)) ggL_law_X5_wins
set_option maxRecDepth 20000 in
theorem ggL_law_X6_wins : GoodIn wsL_law wsX6_wins := goodIn_r _ [542, 223, 102, 103, 5, 104, 543, 544, 545, 546, 81, 307, 308, 309, 310, 72, 66, 511, 512, 513, 514, 74, 73, 515, 516, 517, 518, 75, 76, 348, 77, 78, 79, 80, 82, 519, 520, 521, 522, 227, 228, 229, 230, 220, 221, 315, 316, 317, 318, 319, 320, 321, 322, 222, 65, 323, 324, 325, 326, 327, 328, 329, 330, 331, 332, 333, 334, 335, 336, 407, 408, 409, 410, 523, 524, 525, 526, 411, 412, 413, 414, 527, 528, 529, 530, 531, 532, 533, 534, 731, 732, 733, 734, 735, 736, 737, 738, 739, 740, 741, 742, 743, 744, 745, 746, 747, 748, 749, 750, 751, 752, 753, 754, 755, 756, 757, 758, 759, 760, 761, 762, 763, 764, 765, 766, 767, 768, 769, 770] (by decide +kernel) (by decide +kernel)
set_option maxRecDepth 20000 in
theorem gL_law_X6_wins : GoodIn wsL_law (wsV RL 71 RX6 yX6_wins wsX6_wins) := goodIn_app (goodIn_of _ (by decide +kernel)) ggL_law_X6_wins
set_option maxRecDepth 20000 in
theorem ggL_law_X5_add : GoodIn wsL_law wsX5_add := goodIn_r _ [550, 172, 551, 171, 23, 419, 273, 274, 22, 275, 52, 194, 51, 212, 213, 214, 18, 215, 185, 267, 2, 268, 552, 553, 554, 555, 30, 35, 34, 465, 466, 467, 468, 195, 196, 197, 49, 50, 556, 557, 558, 559, 200, 201, 202, 203, 204, 205, 206, 207, 208, 209, 210, 211, 469, 470, 471, 472, 473, 474, 33, 475, 476, 477, 478, 479, 480, 481, 482, 483, 484, 485, 249, 250, 251, 252, 241, 242, 243, 253, 254, 255, 256, 44, 257, 258, 259, 260, 261, 262, 237, 238, 239, 263, 264, 265, 266, 269, 270, 271, 272, 240, 391, 392, 393, 394, 395, 396, 397, 398, 399, 400, 401, 402, 486, 487, 488, 489, 490, 491, 492, 493, 494, 285, 286, 287, 495, 496, 497, 498, 499, 500, 501, 502, 718, 719, 720, 721, 722, 723, 724, 725, 726, 727, 728, 729, 730, 777, 778, 779, 780, 781, 782, 783, 784, 773, 774, 775, 776, 788, 789, 790, 791, 792, 793, 794, 795, 796] (by decide +kernel) (by decide +kernel)
set_option maxRecDepth 20000 in
theorem gL_law_X5_add : GoodIn wsL_law (wsV RL 72 RX5 yX5_add wsX5_add) := goodIn_app (goodIn_of _ (by decide +kernel)) ggL_law_X5_add
set_option maxRecDepth 20000 in
theorem ggL_law_X6_add : GoodIn wsL_law wsX6_add := goodIn_r _ [563, 223, 564, 565, 566, 567, 5, 568, 65, 66, 227, 228, 229, 230, 220, 221, 425, 426, 427, 428, 222, 307, 308, 309, 310, 72, 323, 324, 325, 326, 327, 328, 329, 507, 508, 509, 510, 76, 77, 75, 78, 79, 80, 511, 512, 513, 514, 74, 73, 515, 516, 517, 518, 348, 81, 82, 519, 520, 521, 522, 315, 316, 317, 318, 319, 320, 321, 322, 330, 331, 332, 333, 334, 335, 336, 407, 408, 409, 410, 523, 524, 525, 526, 411, 412, 413, 414, 527, 528, 529, 530, 531, 532, 533, 534, 731, 732, 733, 734, 735, 736, 737, 738, 739, 740, 741, 742, 743, 744, 745, 746, 747, 748, 749, 750, 751, 752, 753, 754, 755, 756, 757, 758, 759, 760, 761, 762, 763, 764, 765, 766, 767, 768, 769, 770] (by decide +kernel) (by decide +kernel)
set_option maxRecDepth 20000 in
theorem gL_law_X6_add : GoodIn wsL_law (wsV RL 75 RX6 yX6_add wsX6_add) := goodIn_app (goodIn_of _ (by decide +kernel)) ggL_law_X6_add
set_option maxRecDepth 20000 in
theorem ggL_law_X5_mean : GoodIn wsL_law wsX5_mean := goodIn_r _ [572, 172, 34, 461, 462, 463, 2, 464, 171, 30, 23, 35, 465, 466, 467, 22, 468, 194, 195, 196, 197, 49, 50, 51, 469, 470, 471, 472, 473, 474, 33, 475, 476, 477, 478, 479, 480, 481, 482, 483, 484, 485, 249, 250, 251, 52, 252, 241, 242, 243, 208, 209, 210, 211, 253, 254, 255, 18, 256, 44, 257, 213, 214, 215, 185, 258, 259, 260, 261, 212, 262, 237, 238, 239, 263, 264, 265, 266, 267, 268, 269, 270, 271, 272, 273, 274, 275, 240, 391, 392, 393, 394, 395, 396, 397, 398, 399, 400, 401, 402, 204, 205, 206, 207, 486, 487, 488, 489, 490, 491, 492, 493, 494, 285, 286, 287, 495, 496, 497, 498, 499, 500, 501, 502, 718, 719, 720, 721, 722, 723, 724, 725, 726, 727, 728, 729, 730, 788, 789, 790, 791, 792, 793, 794, 795, 796, 777, 778, 779, 780, 781, 782, 783, 784, 773, 774, 775, 776] (by decide +kernel) (by decide +kernel)
set_option maxRecDepth 20000 in
theorem gL_law_X5_mean : GoodIn wsL_law (wsV RL 76 RX5 yX5_mean wsX5_mean) := goodIn_app (goodIn_of _ (by decide +kernel)) ggL_law_X5_mean
set_option maxRecDepth 20000 in
theorem ggL_law_X6_mean : GoodIn wsL_law wsX6_mean := goodIn_r _ [576, 223, 577, 578, 579, 5, 580, 82, 74, 307, 308, 309, 310, 72, 66, 511, 512, 513, 514, 73, 515, 516, 517, 518, 75, 76, 348, 77, 78, 79, 80, 81, 519, 520, 521, 522, 227, 228, 229, 230, 220, 221, 315, 316, 317, 318, 319, 320, 321, 322, 222, 65, 323, 324, 325, 326, 327, 328, 329, 330, 331, 332, 333, 334, 335, 336, 407, 408, 409, 410, 523, 524, 525, 526, 411, 412, 413, 414, 527, 528, 529, 530, 531, 532, 533, 534, 731, 732, 733, 734, 735, 736, 737, 738, 739, 740, 741, 742, 743, 744, 745, 746, 747, 748, 749, 750, 751, 752, 753, 754, 755, 756, 757, 758, 759, 760, 761, 762, 763, 764, 765, 766, 767, 768, 769, 770] (by decide +kernel) (by decide +kernel)
set_option maxRecDepth 20000 in
theorem gL_law_X6_mean : GoodIn wsL_law (wsV RL 79 RX6 yX6_mean wsX6_mean) := goodIn_app (goodIn_of _ (by decide +kernel)) ggL_law_X6_mean
set_option maxRecDepth 20000 in
theorem ggL_law_X5_see : GoodIn wsL_law wsX5_see := goodIn_r _ [584, 23, 271, 27, 235, 209, 210, 22, 211, 195, 585, 586, 587, 26, 588, 280, 56, 57, 718, 719, 720, 721, 722, 723, 724, 725, 726, 727, 728, 729, 730, 785, 786, 787, 777, 778, 779, 780, 781, 782, 783, 784] (by decide +kernel) (by decide +kernel)
set_option maxRecDepth 20000 in
theorem gL_law_X5_see : GoodIn wsL_law (wsV RL 80 RX5 yX5_see wsX5_see) := goodIn_app (goodIn_of _ (by decide +kernel)) ggL_law_X5_see
set_option maxRecDepth 20000 in
theorem ggL_law_X6_see : GoodIn wsL_law wsX6_see := goodIn_r _ [592, 226, 67, 68, 69, 299, 300, 301, 5, 302, 223, 102, 103, 104, 731, 732, 733, 734, 735, 736, 737, 738, 739, 740, 741, 742, 743, 744, 745, 746, 747, 748, 749, 750, 751, 752, 753, 754, 755, 756, 757, 758, 759, 760, 761, 762, 763, 764, 765, 766, 767, 768, 769, 770] (by decide +kernel) (by decide +kernel)
set_option maxRecDepth 20000 in
theorem gL_law_X6_see : GoodIn wsL_law (wsV RL 84 RX6 yX6_see wsX6_see) := goodIn_app (goodIn_of _ (by decide +kernel)) ggL_law_X6_see
set_option maxRecDepth 20000 in
theorem ggL_law_X5_forget : GoodIn wsL_law wsX5_forget := goodIn_r _ [596, 27, 718, 719, 720, 721, 722, 723, 724, 725, 726, 727, 728, 729, 730, 785, 786, 787] (by decide +kernel) (by decide +kernel)
set_option maxRecDepth 20000 in
theorem gL_law_X5_forget : GoodIn wsL_law (wsV RL 85 RX5 yX5_forget wsX5_forget) := goodIn_app (goodIn_of _ (by decide +kernel)) ggL_law_X5_forget
set_option maxRecDepth 20000 in
theorem ggL_law_X6_forget : GoodIn wsL_law wsX6_forget := goodIn_r _ [600, 226, 731, 732, 733, 734, 735, 736, 737, 738, 739, 740, 741, 742, 743, 744, 745, 746, 747, 748, 749, 750, 751, 752, 753, 754, 755, 756, 757, 758, 759, 760, 761, 762, 763, 764, 765, 766, 767, 768, 769, 770] (by decide +kernel) (by decide +kernel)
set_option maxRecDepth 20000 in
theorem gL_law_X6_forget : GoodIn wsL_law (wsV RL 88 RX6 yX6_forget wsX6_forget) := goodIn_app (goodIn_of _ (by decide +kernel)) ggL_law_X6_forget
set_option maxRecDepth 20000 in
theorem ggL_law_X5_runs : GoodIn wsL_law wsX5_runs := goodIn_r _ [604, 172, 30, 23, 605, 465, 466, 467, 22, 468, 194, 195, 196, 197, 49, 50, 51, 606, 607, 608, 609, 610, 245, 246, 247, 248, 249, 250, 251, 52, 252, 241, 242, 243, 208, 209, 210, 211, 253, 254, 255, 18, 256, 44, 257, 213, 214, 215, 185, 258, 259, 260, 261, 212, 262, 237, 238, 239, 263, 2, 264, 265, 266, 267, 268, 269, 270, 271, 272, 273, 274, 275, 611, 289, 290, 291, 292, 293, 294, 612, 613, 614, 615, 616, 617, 618, 619, 620, 621, 622, 392, 393, 394, 623, 396, 397, 398, 399, 400, 401, 402, 204, 205, 206, 207, 718, 719, 720, 721, 722, 723, 724, 725, 726, 727, 728, 729, 730, 777, 778, 779, 780, 781, 782, 783, 784, 773, 774, 775, 776] (by decide +kernel) (by decide +kernel)
set_option maxRecDepth 20000 in
theorem gL_law_X5_runs : GoodIn wsL_law (wsV RL 89 RX5 yX5_runs wsX5_runs) := goodIn_app (goodIn_of _ (by decide +kernel)) ggL_law_X5_runs
set_option maxRecDepth 20000 in
theorem ggL_law_X6_runs : GoodIn wsL_law wsX6_runs := goodIn_r _ [627, 223, 102, 103, 5, 104, 628, 629, 630, 631, 632, 307, 308, 309, 310, 72, 66, 633, 634, 635, 636, 311, 312, 313, 314, 227, 228, 229, 230, 220, 221, 315, 316, 317, 318, 319, 320, 321, 322, 222, 65, 323, 324, 325, 326, 327, 328, 329, 330, 331, 332, 333, 334, 335, 336, 349, 350, 351, 637, 638, 639, 640, 641, 642, 643, 644, 645, 646, 647, 648, 73, 519, 520, 521, 522, 407, 408, 409, 410, 411, 412, 413, 414, 731, 732, 733, 734, 735, 736, 737, 738, 739, 740, 741, 742, 743, 744, 745, 746, 747, 748, 749, 750, 751, 752, 753, 754, 755, 756, 757, 758, 759, 760, 761, 762, 763, 764, 765, 766, 767, 768, 769, 770] (by decide +kernel) (by decide +kernel)
set_option maxRecDepth 20000 in
theorem gL_law_X6_runs : GoodIn wsL_law (wsV RL 93 RX6 yX6_runs wsX6_runs) := goodIn_app (goodIn_of _ (by decide +kernel)) ggL_law_X6_runs
set_option maxRecDepth 20000 in
theorem ggL_law_X5_image : GoodIn wsL_law wsX5_image := goodIn_r _ [652, 172, 28, 23, 29, 27, 170, 465, 466, 467, 22, 468, 194, 195, 196, 197, 49, 50, 51, 653, 654, 655, 26, 656, 280, 56, 57, 718, 719, 720, 721, 722, 723, 724, 725, 726, 727, 728, 729, 730, 777, 778, 779, 780, 781, 782, 783, 784, 785, 786, 787] (by decide +kernel) (by decide +kernel)
set_option maxRecDepth 20000 in
theorem gL_law_X5_image : GoodIn wsL_law (wsV RL 94 RX5 yX5_image wsX5_image) := goodIn_app (goodIn_of _ (by decide +kernel)) ggL_law_X5_image
set_option maxRecDepth 20000 in
theorem ggL_law_X6_image : GoodIn wsL_law wsX6_image := goodIn_r _ [660, 223, 661, 225, 662, 222, 663, 224, 664, 226, 665, 83, 65, 84, 66, 85, 67, 86, 68, 87, 69, 731, 732, 733, 734, 735, 736, 737, 738, 739, 740, 741, 742, 743, 744, 745, 746, 747, 748, 749, 750, 751, 752, 753, 754, 755, 756, 757, 758, 759, 760, 761, 762, 763, 764, 765, 766, 767, 768, 769, 770] (by decide +kernel) (by decide +kernel)
set_option maxRecDepth 20000 in
theorem gL_law_X6_image : GoodIn wsL_law (wsV RL 97 RX6 yX6_image wsX6_image) := goodIn_app (goodIn_of _ (by decide +kernel)) ggL_law_X6_image
set_option maxRecDepth 20000 in
theorem ggL_law_X5_restore : GoodIn wsL_law wsX5_restore := goodIn_r _ [669, 170, 23, 28, 27, 29, 171, 465, 466, 467, 22, 468, 194, 195, 196, 197, 49, 50, 51, 653, 654, 655, 26, 656, 280, 56, 57, 718, 719, 720, 721, 722, 723, 724, 725, 726, 727, 728, 729, 730, 777, 778, 779, 780, 781, 782, 783, 784, 785, 786, 787] (by decide +kernel) (by decide +kernel)
set_option maxRecDepth 20000 in
theorem gL_law_X5_restore : GoodIn wsL_law (wsV RL 98 RX5 yX5_restore wsX5_restore) := goodIn_app (goodIn_of _ (by decide +kernel)) ggL_law_X5_restore
set_option maxRecDepth 20000 in
theorem ggL_law_X6_restore : GoodIn wsL_law wsX6_restore := goodIn_r _ [673, 661, 662, 225, 663, 222, 664, 224, 665, 226, 65, 83, 66, 84, 67, 85, 68, 86, 69, 87, 731, 732, 733, 734, 735, 736, 737, 738, 739, 740, 741, 742, 743, 744, 745, 746, 747, 748, 749, 750, 751, 752, 753, 754, 755, 756, 757, 758, 759, 760, 761, 762, 763, 764, 765, 766, 767, 768, 769, 770] (by decide +kernel) (by decide +kernel)
set_option maxRecDepth 20000 in
theorem gL_law_X6_restore : GoodIn wsL_law (wsV RL 101 RX6 yX6_restore wsX6_restore) := goodIn_app (goodIn_of _ (by decide +kernel)) ggL_law_X6_restore
set_option maxRecDepth 20000 in
theorem ggL_law_X5_count : GoodIn wsL_law wsX5_count := goodIn_r _ [677, 19, 23, 27, 15, 172, 551, 288, 289, 290, 291, 292, 293, 294, 606, 607, 608, 22, 609, 195, 610, 245, 246, 247, 248, 249, 250, 251, 52, 252, 241, 242, 243, 50, 208, 209, 210, 211, 253, 254, 255, 18, 256, 44, 257, 213, 214, 215, 185, 258, 259, 260, 261, 51, 212, 262, 237, 238, 239, 49, 263, 2, 264, 265, 266, 267, 268, 269, 270, 271, 272, 273, 274, 275, 194, 611, 718, 719, 720, 721, 722, 723, 724, 725, 726, 727, 728, 729, 730, 773, 774, 775, 776, 777, 778, 779, 780, 781, 782, 783, 784, 785, 786, 787, 771, 772] (by decide +kernel) (by decide +kernel)
set_option maxRecDepth 20000 in
theorem gL_law_X5_count : GoodIn wsL_law (wsV RL 102 RX5 yX5_count wsX5_count) := goodIn_app (goodIn_of _ (by decide +kernel)) ggL_law_X5_count
set_option maxRecDepth 20000 in
theorem ggL_law_X6_count : GoodIn wsL_law wsX6_count := goodIn_r _ [681, 682, 683, 684, 5, 685, 224, 226, 101, 225, 564, 102, 103, 104, 686, 687, 688, 689, 220, 221, 222, 223, 307, 308, 309, 310, 72, 66, 349, 350, 351, 411, 412, 413, 414, 633, 634, 635, 636, 311, 312, 313, 314, 227, 228, 229, 230, 315, 316, 317, 318, 319, 320, 321, 322, 65, 323, 324, 325, 326, 327, 328, 329, 330, 331, 332, 333, 334, 335, 336, 731, 732, 733, 734, 735, 736, 737, 738, 739, 740, 741, 742, 743, 744, 745, 746, 747, 748, 749, 750, 751, 752, 753, 754, 755, 756, 757, 758, 759, 760, 761, 762, 763, 764, 765, 766, 767, 768, 769, 770] (by decide +kernel) (by decide +kernel)
set_option maxRecDepth 20000 in
theorem gL_law_X6_count : GoodIn wsL_law (wsV RL 105 RX6 yX6_count wsX6_count) := goodIn_app (goodIn_of _ (by decide +kernel)) ggL_law_X6_count
set_option maxRecDepth 20000 in
theorem ggL_law_X5_digest : GoodIn wsL_law wsX5_digest := goodIn_r _ [693, 694, 23, 695, 19, 172, 15, 696, 232, 233, 2, 234, 27, 235, 209, 210, 22, 211, 195, 236, 237, 238, 239, 49, 208, 240, 241, 242, 243, 50, 244, 245, 246, 247, 248, 249, 250, 251, 52, 252, 253, 254, 255, 18, 256, 44, 257, 213, 214, 215, 185, 258, 259, 260, 261, 51, 212, 262, 263, 264, 265, 266, 267, 268, 269, 270, 271, 272, 273, 274, 275, 194, 276, 277, 278, 26, 279, 280, 56, 57, 281, 282, 283, 284, 285, 286, 287, 288, 289, 290, 291, 292, 293, 294, 697, 362, 363, 364, 365, 366, 367, 368, 369, 370, 698, 458, 459, 460, 34, 461, 462, 463, 464, 171, 30, 35, 465, 466, 467, 468, 196, 197, 469, 470, 471, 472, 473, 474, 33, 475, 476, 477, 478, 479, 480, 481, 482, 483, 484, 485, 391, 392, 393, 394, 395, 396, 397, 398, 399, 400, 401, 402, 204, 205, 206, 207, 486, 487, 488, 489, 490, 491, 492, 493, 494, 495, 496, 497, 498, 499, 500, 501, 502, 699, 536, 537, 538, 700, 570, 571, 572, 701, 130, 131, 14, 132, 96, 40, 702, 675, 676, 677, 551, 606, 607, 608, 609, 610, 611, 718, 719, 720, 721, 722, 723, 724, 725, 726, 727, 728, 729, 730, 777, 778, 779, 780, 781, 782, 783, 784, 773, 774, 775, 776, 771, 772, 785, 786, 787, 788, 789, 790, 791, 792, 793, 794, 795, 796] (by decide +kernel) (by decide +kernel)
set_option maxRecDepth 20000 in
theorem gL_law_X5_digest : GoodIn wsL_law (wsV RL 106 RX5 yX5_digest wsX5_digest) := goodIn_app (goodIn_of _ (by decide +kernel)) ggL_law_X5_digest
set_option maxRecDepth 20000 in
theorem ggL_law_X6_digest : GoodIn wsL_law wsX6_digest := goodIn_r _ [706, 707, 708, 223, 101, 71, 303, 304, 305, 5, 306, 65, 66, 307, 308, 309, 310, 72, 311, 312, 313, 314, 227, 228, 229, 230, 220, 221, 315, 316, 317, 318, 319, 320, 321, 322, 222, 323, 324, 325, 326, 327, 328, 329, 330, 331, 332, 333, 334, 335, 336, 337, 338, 339, 340, 226, 67, 68, 69, 341, 342, 343, 344, 345, 346, 347, 348, 349, 350, 351, 709, 710, 711, 712, 713, 379, 380, 381, 382, 714, 715, 716, 717, 507, 508, 509, 510, 76, 77, 75, 78, 79, 80, 511, 512, 513, 514, 74, 73, 515, 516, 517, 518, 81, 82, 519, 520, 521, 522, 407, 408, 409, 410, 523, 524, 525, 526, 411, 412, 413, 414, 527, 528, 529, 530, 531, 532, 533, 534, 543, 544, 545, 546, 577, 578, 579, 580, 682, 683, 684, 685, 224, 225, 564, 102, 103, 104, 686, 687, 688, 689, 633, 634, 635, 636, 731, 732, 733, 734, 735, 736, 737, 738, 739, 740, 741, 742, 743, 744, 745, 746, 747, 748, 749, 750, 751, 752, 753, 754, 755, 756, 757, 758, 759, 760, 761, 762, 763, 764, 765, 766, 767, 768, 769, 770] (by decide +kernel) (by decide +kernel)
set_option maxRecDepth 20000 in
theorem gL_law_X6_digest : GoodIn wsL_law (wsV RL 110 RX6 yX6_digest wsX6_digest) := goodIn_app (goodIn_of _ (by decide +kernel)) ggL_law_X6_digest
theorem dL_law_0 : decode cL_law 0 = .ok (.new 7, 3) := by decide +kernel
theorem dL_law_3 : decode cL_law 3 = .ok (.dup, 1) := by decide +kernel
theorem dL_law_4 : decode cL_law 4 = .ok (.invokespecial 9, 3) := by decide +kernel
theorem dL_law_7 : decode cL_law 7 = .ok (.astore_n 1, 1) := by decide +kernel
theorem dL_law_8 : decode cL_law 8 = .ok (.new 10, 3) := by decide +kernel
theorem dL_law_11 : decode cL_law 11 = .ok (.dup, 1) := by decide +kernel
theorem dL_law_12 : decode cL_law 12 = .ok (.invokespecial 12, 3) := by decide +kernel
theorem dL_law_15 : decode cL_law 15 = .ok (.astore_n 2, 1) := by decide +kernel
theorem dL_law_16 : decode cL_law 16 = .ok (.iconst 0, 1) := by decide +kernel
theorem dL_law_17 : decode cL_law 17 = .ok (.istore_n 3, 1) := by decide +kernel
theorem dL_law_18 : decode cL_law 18 = .ok (.iload_n 3, 1) := by decide +kernel
theorem dL_law_19 : decode cL_law 19 = .ok (.aload_n 0, 1) := by decide +kernel
theorem dL_law_20 : decode cL_law 20 = .ok (.arraylength, 1) := by decide +kernel
theorem dL_law_21 : decode cL_law 21 = .ok (.iconst 4, 1) := by decide +kernel
theorem dL_law_22 : decode cL_law 22 = .ok (.isub, 1) := by decide +kernel
theorem dL_law_23 : decode cL_law 23 = .ok (.if_icmp .gt 679, 3) := by decide +kernel
theorem dL_law_26 : decode cL_law 26 = .ok (.aload_n 0, 1) := by decide +kernel
theorem dL_law_27 : decode cL_law 27 = .ok (.iload_n 3, 1) := by decide +kernel
theorem dL_law_28 : decode cL_law 28 = .ok (.iaload, 1) := by decide +kernel
theorem dL_law_29 : decode cL_law 29 = .ok (.bipush 31, 2) := by decide +kernel
theorem dL_law_31 : decode cL_law 31 = .ok (.iand, 1) := by decide +kernel
theorem dL_law_32 : decode cL_law 32 = .ok (.tableswitch 664 0 22 #[108, 131, 144, 157, 170, 203, 236, 269, 302, 335, 358, 381, 414, 437, 460, 473, 486, 545, 558, 601, 614, 627, 650], 108) := by decide +kernel
theorem dL_law_140 : decode cL_law 140 = .ok (.aload_n 1, 1) := by decide +kernel
theorem dL_law_141 : decode cL_law 141 = .ok (.aload_n 0, 1) := by decide +kernel
theorem dL_law_142 : decode cL_law 142 = .ok (.iload_n 3, 1) := by decide +kernel
theorem dL_law_143 : decode cL_law 143 = .ok (.iconst 1, 1) := by decide +kernel
theorem dL_law_144 : decode cL_law 144 = .ok (.iadd, 1) := by decide +kernel
theorem dL_law_145 : decode cL_law 145 = .ok (.iaload, 1) := by decide +kernel
theorem dL_law_146 : decode cL_law 146 = .ok (.invokevirtual 13, 3) := by decide +kernel
theorem dL_law_149 : decode cL_law 149 = .ok (.aload_n 2, 1) := by decide +kernel
theorem dL_law_150 : decode cL_law 150 = .ok (.aload_n 0, 1) := by decide +kernel
theorem dL_law_151 : decode cL_law 151 = .ok (.iload_n 3, 1) := by decide +kernel
theorem dL_law_152 : decode cL_law 152 = .ok (.iconst 1, 1) := by decide +kernel
theorem dL_law_153 : decode cL_law 153 = .ok (.iadd, 1) := by decide +kernel
theorem dL_law_154 : decode cL_law 154 = .ok (.iaload, 1) := by decide +kernel
theorem dL_law_155 : decode cL_law 155 = .ok (.invokevirtual 17, 3) := by decide +kernel
theorem dL_law_158 : decode cL_law 158 = .ok (.if_icmp .eq 538, 3) := by decide +kernel
theorem dL_law_161 : decode cL_law 161 = .ok (.iconst 0, 1) := by decide +kernel
theorem dL_law_162 : decode cL_law 162 = .ok (.ireturn, 1) := by decide +kernel
theorem dL_law_163 : decode cL_law 163 = .ok (.aload_n 1, 1) := by decide +kernel
theorem dL_law_164 : decode cL_law 164 = .ok (.invokevirtual 18, 3) := by decide +kernel
theorem dL_law_167 : decode cL_law 167 = .ok (.aload_n 2, 1) := by decide +kernel
theorem dL_law_168 : decode cL_law 168 = .ok (.invokevirtual 22, 3) := by decide +kernel
theorem dL_law_171 : decode cL_law 171 = .ok (.if_icmp .eq 525, 3) := by decide +kernel
theorem dL_law_174 : decode cL_law 174 = .ok (.iconst 0, 1) := by decide +kernel
theorem dL_law_175 : decode cL_law 175 = .ok (.ireturn, 1) := by decide +kernel
theorem dL_law_176 : decode cL_law 176 = .ok (.aload_n 1, 1) := by decide +kernel
theorem dL_law_177 : decode cL_law 177 = .ok (.invokevirtual 23, 3) := by decide +kernel
theorem dL_law_180 : decode cL_law 180 = .ok (.aload_n 2, 1) := by decide +kernel
theorem dL_law_181 : decode cL_law 181 = .ok (.invokevirtual 26, 3) := by decide +kernel
theorem dL_law_184 : decode cL_law 184 = .ok (.if_icmp .eq 512, 3) := by decide +kernel
theorem dL_law_187 : decode cL_law 187 = .ok (.iconst 0, 1) := by decide +kernel
theorem dL_law_188 : decode cL_law 188 = .ok (.ireturn, 1) := by decide +kernel
theorem dL_law_189 : decode cL_law 189 = .ok (.aload_n 1, 1) := by decide +kernel
theorem dL_law_190 : decode cL_law 190 = .ok (.invokevirtual 27, 3) := by decide +kernel
theorem dL_law_193 : decode cL_law 193 = .ok (.aload_n 2, 1) := by decide +kernel
theorem dL_law_194 : decode cL_law 194 = .ok (.invokevirtual 30, 3) := by decide +kernel
theorem dL_law_197 : decode cL_law 197 = .ok (.if_icmp .eq 499, 3) := by decide +kernel
theorem dL_law_200 : decode cL_law 200 = .ok (.iconst 0, 1) := by decide +kernel
theorem dL_law_201 : decode cL_law 201 = .ok (.ireturn, 1) := by decide +kernel
theorem dL_law_202 : decode cL_law 202 = .ok (.aload_n 1, 1) := by decide +kernel
theorem dL_law_203 : decode cL_law 203 = .ok (.aload_n 0, 1) := by decide +kernel
theorem dL_law_204 : decode cL_law 204 = .ok (.iload_n 3, 1) := by decide +kernel
theorem dL_law_205 : decode cL_law 205 = .ok (.iconst 1, 1) := by decide +kernel
theorem dL_law_206 : decode cL_law 206 = .ok (.iadd, 1) := by decide +kernel
theorem dL_law_207 : decode cL_law 207 = .ok (.iaload, 1) := by decide +kernel
theorem dL_law_208 : decode cL_law 208 = .ok (.aload_n 0, 1) := by decide +kernel
theorem dL_law_209 : decode cL_law 209 = .ok (.iload_n 3, 1) := by decide +kernel
theorem dL_law_210 : decode cL_law 210 = .ok (.iconst 2, 1) := by decide +kernel
theorem dL_law_211 : decode cL_law 211 = .ok (.iadd, 1) := by decide +kernel
theorem dL_law_212 : decode cL_law 212 = .ok (.iaload, 1) := by decide +kernel
theorem dL_law_213 : decode cL_law 213 = .ok (.invokevirtual 31, 3) := by decide +kernel
theorem dL_law_216 : decode cL_law 216 = .ok (.aload_n 2, 1) := by decide +kernel
theorem dL_law_217 : decode cL_law 217 = .ok (.aload_n 0, 1) := by decide +kernel
theorem dL_law_218 : decode cL_law 218 = .ok (.iload_n 3, 1) := by decide +kernel
theorem dL_law_219 : decode cL_law 219 = .ok (.iconst 1, 1) := by decide +kernel
theorem dL_law_220 : decode cL_law 220 = .ok (.iadd, 1) := by decide +kernel
theorem dL_law_221 : decode cL_law 221 = .ok (.iaload, 1) := by decide +kernel
theorem dL_law_222 : decode cL_law 222 = .ok (.aload_n 0, 1) := by decide +kernel
theorem dL_law_223 : decode cL_law 223 = .ok (.iload_n 3, 1) := by decide +kernel
theorem dL_law_224 : decode cL_law 224 = .ok (.iconst 2, 1) := by decide +kernel
theorem dL_law_225 : decode cL_law 225 = .ok (.iadd, 1) := by decide +kernel
theorem dL_law_226 : decode cL_law 226 = .ok (.iaload, 1) := by decide +kernel
theorem dL_law_227 : decode cL_law 227 = .ok (.invokevirtual 35, 3) := by decide +kernel
theorem dL_law_230 : decode cL_law 230 = .ok (.if_icmp .eq 466, 3) := by decide +kernel
theorem dL_law_233 : decode cL_law 233 = .ok (.iconst 0, 1) := by decide +kernel
theorem dL_law_234 : decode cL_law 234 = .ok (.ireturn, 1) := by decide +kernel
theorem dL_law_235 : decode cL_law 235 = .ok (.aload_n 1, 1) := by decide +kernel
theorem dL_law_236 : decode cL_law 236 = .ok (.aload_n 0, 1) := by decide +kernel
theorem dL_law_237 : decode cL_law 237 = .ok (.iload_n 3, 1) := by decide +kernel
theorem dL_law_238 : decode cL_law 238 = .ok (.iconst 1, 1) := by decide +kernel
theorem dL_law_239 : decode cL_law 239 = .ok (.iadd, 1) := by decide +kernel
theorem dL_law_240 : decode cL_law 240 = .ok (.iaload, 1) := by decide +kernel
theorem dL_law_241 : decode cL_law 241 = .ok (.aload_n 0, 1) := by decide +kernel
theorem dL_law_242 : decode cL_law 242 = .ok (.iload_n 3, 1) := by decide +kernel
theorem dL_law_243 : decode cL_law 243 = .ok (.iconst 2, 1) := by decide +kernel
theorem dL_law_244 : decode cL_law 244 = .ok (.iadd, 1) := by decide +kernel
theorem dL_law_245 : decode cL_law 245 = .ok (.iaload, 1) := by decide +kernel
theorem dL_law_246 : decode cL_law 246 = .ok (.invokevirtual 36, 3) := by decide +kernel
theorem dL_law_249 : decode cL_law 249 = .ok (.aload_n 2, 1) := by decide +kernel
theorem dL_law_250 : decode cL_law 250 = .ok (.aload_n 0, 1) := by decide +kernel
theorem dL_law_251 : decode cL_law 251 = .ok (.iload_n 3, 1) := by decide +kernel
theorem dL_law_252 : decode cL_law 252 = .ok (.iconst 1, 1) := by decide +kernel
theorem dL_law_253 : decode cL_law 253 = .ok (.iadd, 1) := by decide +kernel
theorem dL_law_254 : decode cL_law 254 = .ok (.iaload, 1) := by decide +kernel
theorem dL_law_255 : decode cL_law 255 = .ok (.aload_n 0, 1) := by decide +kernel
theorem dL_law_256 : decode cL_law 256 = .ok (.iload_n 3, 1) := by decide +kernel
theorem dL_law_257 : decode cL_law 257 = .ok (.iconst 2, 1) := by decide +kernel
theorem dL_law_258 : decode cL_law 258 = .ok (.iadd, 1) := by decide +kernel
theorem dL_law_259 : decode cL_law 259 = .ok (.iaload, 1) := by decide +kernel
theorem dL_law_260 : decode cL_law 260 = .ok (.invokevirtual 39, 3) := by decide +kernel
theorem dL_law_263 : decode cL_law 263 = .ok (.if_icmp .eq 433, 3) := by decide +kernel
theorem dL_law_266 : decode cL_law 266 = .ok (.iconst 0, 1) := by decide +kernel
theorem dL_law_267 : decode cL_law 267 = .ok (.ireturn, 1) := by decide +kernel
theorem dL_law_268 : decode cL_law 268 = .ok (.aload_n 1, 1) := by decide +kernel
theorem dL_law_269 : decode cL_law 269 = .ok (.aload_n 0, 1) := by decide +kernel
theorem dL_law_270 : decode cL_law 270 = .ok (.iload_n 3, 1) := by decide +kernel
theorem dL_law_271 : decode cL_law 271 = .ok (.iconst 1, 1) := by decide +kernel
theorem dL_law_272 : decode cL_law 272 = .ok (.iadd, 1) := by decide +kernel
theorem dL_law_273 : decode cL_law 273 = .ok (.iaload, 1) := by decide +kernel
theorem dL_law_274 : decode cL_law 274 = .ok (.aload_n 0, 1) := by decide +kernel
theorem dL_law_275 : decode cL_law 275 = .ok (.iload_n 3, 1) := by decide +kernel
theorem dL_law_276 : decode cL_law 276 = .ok (.iconst 2, 1) := by decide +kernel
theorem dL_law_277 : decode cL_law 277 = .ok (.iadd, 1) := by decide +kernel
theorem dL_law_278 : decode cL_law 278 = .ok (.iaload, 1) := by decide +kernel
theorem dL_law_279 : decode cL_law 279 = .ok (.invokevirtual 40, 3) := by decide +kernel
theorem dL_law_282 : decode cL_law 282 = .ok (.aload_n 2, 1) := by decide +kernel
theorem dL_law_283 : decode cL_law 283 = .ok (.aload_n 0, 1) := by decide +kernel
theorem dL_law_284 : decode cL_law 284 = .ok (.iload_n 3, 1) := by decide +kernel
theorem dL_law_285 : decode cL_law 285 = .ok (.iconst 1, 1) := by decide +kernel
theorem dL_law_286 : decode cL_law 286 = .ok (.iadd, 1) := by decide +kernel
theorem dL_law_287 : decode cL_law 287 = .ok (.iaload, 1) := by decide +kernel
theorem dL_law_288 : decode cL_law 288 = .ok (.aload_n 0, 1) := by decide +kernel
theorem dL_law_289 : decode cL_law 289 = .ok (.iload_n 3, 1) := by decide +kernel
theorem dL_law_290 : decode cL_law 290 = .ok (.iconst 2, 1) := by decide +kernel
theorem dL_law_291 : decode cL_law 291 = .ok (.iadd, 1) := by decide +kernel
theorem dL_law_292 : decode cL_law 292 = .ok (.iaload, 1) := by decide +kernel
theorem dL_law_293 : decode cL_law 293 = .ok (.invokevirtual 43, 3) := by decide +kernel
theorem dL_law_296 : decode cL_law 296 = .ok (.if_icmp .eq 400, 3) := by decide +kernel
theorem dL_law_299 : decode cL_law 299 = .ok (.iconst 0, 1) := by decide +kernel
theorem dL_law_300 : decode cL_law 300 = .ok (.ireturn, 1) := by decide +kernel
theorem dL_law_301 : decode cL_law 301 = .ok (.aload_n 1, 1) := by decide +kernel
theorem dL_law_302 : decode cL_law 302 = .ok (.aload_n 0, 1) := by decide +kernel
theorem dL_law_303 : decode cL_law 303 = .ok (.iload_n 3, 1) := by decide +kernel
theorem dL_law_304 : decode cL_law 304 = .ok (.iconst 1, 1) := by decide +kernel
theorem dL_law_305 : decode cL_law 305 = .ok (.iadd, 1) := by decide +kernel
theorem dL_law_306 : decode cL_law 306 = .ok (.iaload, 1) := by decide +kernel
theorem dL_law_307 : decode cL_law 307 = .ok (.aload_n 0, 1) := by decide +kernel
theorem dL_law_308 : decode cL_law 308 = .ok (.iload_n 3, 1) := by decide +kernel
theorem dL_law_309 : decode cL_law 309 = .ok (.iconst 2, 1) := by decide +kernel
theorem dL_law_310 : decode cL_law 310 = .ok (.iadd, 1) := by decide +kernel
theorem dL_law_311 : decode cL_law 311 = .ok (.iaload, 1) := by decide +kernel
theorem dL_law_312 : decode cL_law 312 = .ok (.invokevirtual 44, 3) := by decide +kernel
theorem dL_law_315 : decode cL_law 315 = .ok (.aload_n 2, 1) := by decide +kernel
theorem dL_law_316 : decode cL_law 316 = .ok (.aload_n 0, 1) := by decide +kernel
theorem dL_law_317 : decode cL_law 317 = .ok (.iload_n 3, 1) := by decide +kernel
theorem dL_law_318 : decode cL_law 318 = .ok (.iconst 1, 1) := by decide +kernel
theorem dL_law_319 : decode cL_law 319 = .ok (.iadd, 1) := by decide +kernel
theorem dL_law_320 : decode cL_law 320 = .ok (.iaload, 1) := by decide +kernel
theorem dL_law_321 : decode cL_law 321 = .ok (.aload_n 0, 1) := by decide +kernel
theorem dL_law_322 : decode cL_law 322 = .ok (.iload_n 3, 1) := by decide +kernel
theorem dL_law_323 : decode cL_law 323 = .ok (.iconst 2, 1) := by decide +kernel
theorem dL_law_324 : decode cL_law 324 = .ok (.iadd, 1) := by decide +kernel
theorem dL_law_325 : decode cL_law 325 = .ok (.iaload, 1) := by decide +kernel
theorem dL_law_326 : decode cL_law 326 = .ok (.invokevirtual 47, 3) := by decide +kernel
theorem dL_law_329 : decode cL_law 329 = .ok (.if_icmp .eq 367, 3) := by decide +kernel
theorem dL_law_332 : decode cL_law 332 = .ok (.iconst 0, 1) := by decide +kernel
theorem dL_law_333 : decode cL_law 333 = .ok (.ireturn, 1) := by decide +kernel
theorem dL_law_334 : decode cL_law 334 = .ok (.aload_n 1, 1) := by decide +kernel
theorem dL_law_335 : decode cL_law 335 = .ok (.aload_n 0, 1) := by decide +kernel
theorem dL_law_336 : decode cL_law 336 = .ok (.iload_n 3, 1) := by decide +kernel
theorem dL_law_337 : decode cL_law 337 = .ok (.iconst 1, 1) := by decide +kernel
theorem dL_law_338 : decode cL_law 338 = .ok (.iadd, 1) := by decide +kernel
theorem dL_law_339 : decode cL_law 339 = .ok (.iaload, 1) := by decide +kernel
theorem dL_law_340 : decode cL_law 340 = .ok (.aload_n 0, 1) := by decide +kernel
theorem dL_law_341 : decode cL_law 341 = .ok (.iload_n 3, 1) := by decide +kernel
theorem dL_law_342 : decode cL_law 342 = .ok (.iconst 2, 1) := by decide +kernel
theorem dL_law_343 : decode cL_law 343 = .ok (.iadd, 1) := by decide +kernel
theorem dL_law_344 : decode cL_law 344 = .ok (.iaload, 1) := by decide +kernel
theorem dL_law_345 : decode cL_law 345 = .ok (.invokevirtual 48, 3) := by decide +kernel
theorem dL_law_348 : decode cL_law 348 = .ok (.aload_n 2, 1) := by decide +kernel
theorem dL_law_349 : decode cL_law 349 = .ok (.aload_n 0, 1) := by decide +kernel
theorem dL_law_350 : decode cL_law 350 = .ok (.iload_n 3, 1) := by decide +kernel
theorem dL_law_351 : decode cL_law 351 = .ok (.iconst 1, 1) := by decide +kernel
theorem dL_law_352 : decode cL_law 352 = .ok (.iadd, 1) := by decide +kernel
theorem dL_law_353 : decode cL_law 353 = .ok (.iaload, 1) := by decide +kernel
theorem dL_law_354 : decode cL_law 354 = .ok (.aload_n 0, 1) := by decide +kernel
theorem dL_law_355 : decode cL_law 355 = .ok (.iload_n 3, 1) := by decide +kernel
theorem dL_law_356 : decode cL_law 356 = .ok (.iconst 2, 1) := by decide +kernel
theorem dL_law_357 : decode cL_law 357 = .ok (.iadd, 1) := by decide +kernel
theorem dL_law_358 : decode cL_law 358 = .ok (.iaload, 1) := by decide +kernel
theorem dL_law_359 : decode cL_law 359 = .ok (.invokevirtual 51, 3) := by decide +kernel
theorem dL_law_362 : decode cL_law 362 = .ok (.if_icmp .eq 334, 3) := by decide +kernel
theorem dL_law_365 : decode cL_law 365 = .ok (.iconst 0, 1) := by decide +kernel
theorem dL_law_366 : decode cL_law 366 = .ok (.ireturn, 1) := by decide +kernel
theorem dL_law_367 : decode cL_law 367 = .ok (.aload_n 1, 1) := by decide +kernel
theorem dL_law_368 : decode cL_law 368 = .ok (.aload_n 0, 1) := by decide +kernel
theorem dL_law_369 : decode cL_law 369 = .ok (.iload_n 3, 1) := by decide +kernel
theorem dL_law_370 : decode cL_law 370 = .ok (.iconst 1, 1) := by decide +kernel
theorem dL_law_371 : decode cL_law 371 = .ok (.iadd, 1) := by decide +kernel
theorem dL_law_372 : decode cL_law 372 = .ok (.iaload, 1) := by decide +kernel
theorem dL_law_373 : decode cL_law 373 = .ok (.invokevirtual 52, 3) := by decide +kernel
theorem dL_law_376 : decode cL_law 376 = .ok (.aload_n 2, 1) := by decide +kernel
theorem dL_law_377 : decode cL_law 377 = .ok (.aload_n 0, 1) := by decide +kernel
theorem dL_law_378 : decode cL_law 378 = .ok (.iload_n 3, 1) := by decide +kernel
theorem dL_law_379 : decode cL_law 379 = .ok (.iconst 1, 1) := by decide +kernel
theorem dL_law_380 : decode cL_law 380 = .ok (.iadd, 1) := by decide +kernel
theorem dL_law_381 : decode cL_law 381 = .ok (.iaload, 1) := by decide +kernel
theorem dL_law_382 : decode cL_law 382 = .ok (.invokevirtual 55, 3) := by decide +kernel
theorem dL_law_385 : decode cL_law 385 = .ok (.if_icmp .eq 311, 3) := by decide +kernel
theorem dL_law_388 : decode cL_law 388 = .ok (.iconst 0, 1) := by decide +kernel
theorem dL_law_389 : decode cL_law 389 = .ok (.ireturn, 1) := by decide +kernel
theorem dL_law_390 : decode cL_law 390 = .ok (.aload_n 1, 1) := by decide +kernel
theorem dL_law_391 : decode cL_law 391 = .ok (.aload_n 0, 1) := by decide +kernel
theorem dL_law_392 : decode cL_law 392 = .ok (.iload_n 3, 1) := by decide +kernel
theorem dL_law_393 : decode cL_law 393 = .ok (.iconst 1, 1) := by decide +kernel
theorem dL_law_394 : decode cL_law 394 = .ok (.iadd, 1) := by decide +kernel
theorem dL_law_395 : decode cL_law 395 = .ok (.iaload, 1) := by decide +kernel
theorem dL_law_396 : decode cL_law 396 = .ok (.invokevirtual 56, 3) := by decide +kernel
theorem dL_law_399 : decode cL_law 399 = .ok (.aload_n 2, 1) := by decide +kernel
theorem dL_law_400 : decode cL_law 400 = .ok (.aload_n 0, 1) := by decide +kernel
theorem dL_law_401 : decode cL_law 401 = .ok (.iload_n 3, 1) := by decide +kernel
theorem dL_law_402 : decode cL_law 402 = .ok (.iconst 1, 1) := by decide +kernel
theorem dL_law_403 : decode cL_law 403 = .ok (.iadd, 1) := by decide +kernel
theorem dL_law_404 : decode cL_law 404 = .ok (.iaload, 1) := by decide +kernel
theorem dL_law_405 : decode cL_law 405 = .ok (.invokevirtual 59, 3) := by decide +kernel
theorem dL_law_408 : decode cL_law 408 = .ok (.if_icmp .eq 288, 3) := by decide +kernel
theorem dL_law_411 : decode cL_law 411 = .ok (.iconst 0, 1) := by decide +kernel
theorem dL_law_412 : decode cL_law 412 = .ok (.ireturn, 1) := by decide +kernel
theorem dL_law_413 : decode cL_law 413 = .ok (.aload_n 1, 1) := by decide +kernel
theorem dL_law_414 : decode cL_law 414 = .ok (.aload_n 0, 1) := by decide +kernel
theorem dL_law_415 : decode cL_law 415 = .ok (.iload_n 3, 1) := by decide +kernel
theorem dL_law_416 : decode cL_law 416 = .ok (.iconst 1, 1) := by decide +kernel
theorem dL_law_417 : decode cL_law 417 = .ok (.iadd, 1) := by decide +kernel
theorem dL_law_418 : decode cL_law 418 = .ok (.iaload, 1) := by decide +kernel
theorem dL_law_419 : decode cL_law 419 = .ok (.aload_n 0, 1) := by decide +kernel
theorem dL_law_420 : decode cL_law 420 = .ok (.iload_n 3, 1) := by decide +kernel
theorem dL_law_421 : decode cL_law 421 = .ok (.iconst 2, 1) := by decide +kernel
theorem dL_law_422 : decode cL_law 422 = .ok (.iadd, 1) := by decide +kernel
theorem dL_law_423 : decode cL_law 423 = .ok (.iaload, 1) := by decide +kernel
theorem dL_law_424 : decode cL_law 424 = .ok (.invokevirtual 60, 3) := by decide +kernel
theorem dL_law_427 : decode cL_law 427 = .ok (.aload_n 2, 1) := by decide +kernel
theorem dL_law_428 : decode cL_law 428 = .ok (.aload_n 0, 1) := by decide +kernel
theorem dL_law_429 : decode cL_law 429 = .ok (.iload_n 3, 1) := by decide +kernel
theorem dL_law_430 : decode cL_law 430 = .ok (.iconst 1, 1) := by decide +kernel
theorem dL_law_431 : decode cL_law 431 = .ok (.iadd, 1) := by decide +kernel
theorem dL_law_432 : decode cL_law 432 = .ok (.iaload, 1) := by decide +kernel
theorem dL_law_433 : decode cL_law 433 = .ok (.aload_n 0, 1) := by decide +kernel
theorem dL_law_434 : decode cL_law 434 = .ok (.iload_n 3, 1) := by decide +kernel
theorem dL_law_435 : decode cL_law 435 = .ok (.iconst 2, 1) := by decide +kernel
theorem dL_law_436 : decode cL_law 436 = .ok (.iadd, 1) := by decide +kernel
theorem dL_law_437 : decode cL_law 437 = .ok (.iaload, 1) := by decide +kernel
theorem dL_law_438 : decode cL_law 438 = .ok (.invokevirtual 63, 3) := by decide +kernel
theorem dL_law_441 : decode cL_law 441 = .ok (.if_icmp .eq 255, 3) := by decide +kernel
theorem dL_law_444 : decode cL_law 444 = .ok (.iconst 0, 1) := by decide +kernel
theorem dL_law_445 : decode cL_law 445 = .ok (.ireturn, 1) := by decide +kernel
theorem dL_law_446 : decode cL_law 446 = .ok (.aload_n 1, 1) := by decide +kernel
theorem dL_law_447 : decode cL_law 447 = .ok (.aload_n 0, 1) := by decide +kernel
theorem dL_law_448 : decode cL_law 448 = .ok (.iload_n 3, 1) := by decide +kernel
theorem dL_law_449 : decode cL_law 449 = .ok (.iconst 1, 1) := by decide +kernel
theorem dL_law_450 : decode cL_law 450 = .ok (.iadd, 1) := by decide +kernel
theorem dL_law_451 : decode cL_law 451 = .ok (.iaload, 1) := by decide +kernel
theorem dL_law_452 : decode cL_law 452 = .ok (.invokevirtual 64, 3) := by decide +kernel
theorem dL_law_455 : decode cL_law 455 = .ok (.aload_n 2, 1) := by decide +kernel
theorem dL_law_456 : decode cL_law 456 = .ok (.aload_n 0, 1) := by decide +kernel
theorem dL_law_457 : decode cL_law 457 = .ok (.iload_n 3, 1) := by decide +kernel
theorem dL_law_458 : decode cL_law 458 = .ok (.iconst 1, 1) := by decide +kernel
theorem dL_law_459 : decode cL_law 459 = .ok (.iadd, 1) := by decide +kernel
theorem dL_law_460 : decode cL_law 460 = .ok (.iaload, 1) := by decide +kernel
theorem dL_law_461 : decode cL_law 461 = .ok (.invokevirtual 67, 3) := by decide +kernel
theorem dL_law_464 : decode cL_law 464 = .ok (.if_icmp .eq 232, 3) := by decide +kernel
theorem dL_law_467 : decode cL_law 467 = .ok (.iconst 0, 1) := by decide +kernel
theorem dL_law_468 : decode cL_law 468 = .ok (.ireturn, 1) := by decide +kernel
theorem dL_law_469 : decode cL_law 469 = .ok (.aload_n 1, 1) := by decide +kernel
theorem dL_law_470 : decode cL_law 470 = .ok (.aload_n 0, 1) := by decide +kernel
theorem dL_law_471 : decode cL_law 471 = .ok (.iload_n 3, 1) := by decide +kernel
theorem dL_law_472 : decode cL_law 472 = .ok (.iconst 1, 1) := by decide +kernel
theorem dL_law_473 : decode cL_law 473 = .ok (.iadd, 1) := by decide +kernel
theorem dL_law_474 : decode cL_law 474 = .ok (.iaload, 1) := by decide +kernel
theorem dL_law_475 : decode cL_law 475 = .ok (.invokevirtual 68, 3) := by decide +kernel
theorem dL_law_478 : decode cL_law 478 = .ok (.aload_n 2, 1) := by decide +kernel
theorem dL_law_479 : decode cL_law 479 = .ok (.aload_n 0, 1) := by decide +kernel
theorem dL_law_480 : decode cL_law 480 = .ok (.iload_n 3, 1) := by decide +kernel
theorem dL_law_481 : decode cL_law 481 = .ok (.iconst 1, 1) := by decide +kernel
theorem dL_law_482 : decode cL_law 482 = .ok (.iadd, 1) := by decide +kernel
theorem dL_law_483 : decode cL_law 483 = .ok (.iaload, 1) := by decide +kernel
theorem dL_law_484 : decode cL_law 484 = .ok (.invokevirtual 71, 3) := by decide +kernel
theorem dL_law_487 : decode cL_law 487 = .ok (.if_icmp .eq 209, 3) := by decide +kernel
theorem dL_law_490 : decode cL_law 490 = .ok (.iconst 0, 1) := by decide +kernel
theorem dL_law_491 : decode cL_law 491 = .ok (.ireturn, 1) := by decide +kernel
theorem dL_law_492 : decode cL_law 492 = .ok (.aload_n 1, 1) := by decide +kernel
theorem dL_law_493 : decode cL_law 493 = .ok (.invokevirtual 72, 3) := by decide +kernel
theorem dL_law_496 : decode cL_law 496 = .ok (.aload_n 2, 1) := by decide +kernel
theorem dL_law_497 : decode cL_law 497 = .ok (.invokevirtual 75, 3) := by decide +kernel
theorem dL_law_500 : decode cL_law 500 = .ok (.if_icmp .eq 196, 3) := by decide +kernel
theorem dL_law_503 : decode cL_law 503 = .ok (.iconst 0, 1) := by decide +kernel
theorem dL_law_504 : decode cL_law 504 = .ok (.ireturn, 1) := by decide +kernel
theorem dL_law_505 : decode cL_law 505 = .ok (.aload_n 1, 1) := by decide +kernel
theorem dL_law_506 : decode cL_law 506 = .ok (.invokevirtual 76, 3) := by decide +kernel
theorem dL_law_509 : decode cL_law 509 = .ok (.aload_n 2, 1) := by decide +kernel
theorem dL_law_510 : decode cL_law 510 = .ok (.invokevirtual 79, 3) := by decide +kernel
theorem dL_law_513 : decode cL_law 513 = .ok (.if_icmp .eq 183, 3) := by decide +kernel
theorem dL_law_516 : decode cL_law 516 = .ok (.iconst 0, 1) := by decide +kernel
theorem dL_law_517 : decode cL_law 517 = .ok (.ireturn, 1) := by decide +kernel
theorem dL_law_518 : decode cL_law 518 = .ok (.aload_n 1, 1) := by decide +kernel
theorem dL_law_519 : decode cL_law 519 = .ok (.aload_n 0, 1) := by decide +kernel
theorem dL_law_520 : decode cL_law 520 = .ok (.iload_n 3, 1) := by decide +kernel
theorem dL_law_521 : decode cL_law 521 = .ok (.iconst 1, 1) := by decide +kernel
theorem dL_law_522 : decode cL_law 522 = .ok (.iadd, 1) := by decide +kernel
theorem dL_law_523 : decode cL_law 523 = .ok (.iaload, 1) := by decide +kernel
theorem dL_law_524 : decode cL_law 524 = .ok (.aload_n 0, 1) := by decide +kernel
theorem dL_law_525 : decode cL_law 525 = .ok (.iload_n 3, 1) := by decide +kernel
theorem dL_law_526 : decode cL_law 526 = .ok (.iconst 2, 1) := by decide +kernel
theorem dL_law_527 : decode cL_law 527 = .ok (.iadd, 1) := by decide +kernel
theorem dL_law_528 : decode cL_law 528 = .ok (.iaload, 1) := by decide +kernel
theorem dL_law_529 : decode cL_law 529 = .ok (.aload_n 0, 1) := by decide +kernel
theorem dL_law_530 : decode cL_law 530 = .ok (.iload_n 3, 1) := by decide +kernel
theorem dL_law_531 : decode cL_law 531 = .ok (.iconst 3, 1) := by decide +kernel
theorem dL_law_532 : decode cL_law 532 = .ok (.iadd, 1) := by decide +kernel
theorem dL_law_533 : decode cL_law 533 = .ok (.iaload, 1) := by decide +kernel
theorem dL_law_534 : decode cL_law 534 = .ok (.ifCond .eq 7, 3) := by decide +kernel
theorem dL_law_537 : decode cL_law 537 = .ok (.iconst 1, 1) := by decide +kernel
theorem dL_law_538 : decode cL_law 538 = .ok (.goto 4, 3) := by decide +kernel
theorem dL_law_541 : decode cL_law 541 = .ok (.iconst 0, 1) := by decide +kernel
theorem dL_law_542 : decode cL_law 542 = .ok (.invokevirtual 80, 3) := by decide +kernel
theorem dL_law_545 : decode cL_law 545 = .ok (.aload_n 2, 1) := by decide +kernel
theorem dL_law_546 : decode cL_law 546 = .ok (.aload_n 0, 1) := by decide +kernel
theorem dL_law_547 : decode cL_law 547 = .ok (.iload_n 3, 1) := by decide +kernel
theorem dL_law_548 : decode cL_law 548 = .ok (.iconst 1, 1) := by decide +kernel
theorem dL_law_549 : decode cL_law 549 = .ok (.iadd, 1) := by decide +kernel
theorem dL_law_550 : decode cL_law 550 = .ok (.iaload, 1) := by decide +kernel
theorem dL_law_551 : decode cL_law 551 = .ok (.aload_n 0, 1) := by decide +kernel
theorem dL_law_552 : decode cL_law 552 = .ok (.iload_n 3, 1) := by decide +kernel
theorem dL_law_553 : decode cL_law 553 = .ok (.iconst 2, 1) := by decide +kernel
theorem dL_law_554 : decode cL_law 554 = .ok (.iadd, 1) := by decide +kernel
theorem dL_law_555 : decode cL_law 555 = .ok (.iaload, 1) := by decide +kernel
theorem dL_law_556 : decode cL_law 556 = .ok (.aload_n 0, 1) := by decide +kernel
theorem dL_law_557 : decode cL_law 557 = .ok (.iload_n 3, 1) := by decide +kernel
theorem dL_law_558 : decode cL_law 558 = .ok (.iconst 3, 1) := by decide +kernel
theorem dL_law_559 : decode cL_law 559 = .ok (.iadd, 1) := by decide +kernel
theorem dL_law_560 : decode cL_law 560 = .ok (.iaload, 1) := by decide +kernel
theorem dL_law_561 : decode cL_law 561 = .ok (.ifCond .eq 7, 3) := by decide +kernel
theorem dL_law_564 : decode cL_law 564 = .ok (.iconst 1, 1) := by decide +kernel
theorem dL_law_565 : decode cL_law 565 = .ok (.goto 4, 3) := by decide +kernel
theorem dL_law_568 : decode cL_law 568 = .ok (.iconst 0, 1) := by decide +kernel
theorem dL_law_569 : decode cL_law 569 = .ok (.invokevirtual 84, 3) := by decide +kernel
theorem dL_law_572 : decode cL_law 572 = .ok (.if_icmp .eq 124, 3) := by decide +kernel
theorem dL_law_575 : decode cL_law 575 = .ok (.iconst 0, 1) := by decide +kernel
theorem dL_law_576 : decode cL_law 576 = .ok (.ireturn, 1) := by decide +kernel
theorem dL_law_577 : decode cL_law 577 = .ok (.aload_n 1, 1) := by decide +kernel
theorem dL_law_578 : decode cL_law 578 = .ok (.invokevirtual 85, 3) := by decide +kernel
theorem dL_law_581 : decode cL_law 581 = .ok (.aload_n 2, 1) := by decide +kernel
theorem dL_law_582 : decode cL_law 582 = .ok (.invokevirtual 88, 3) := by decide +kernel
theorem dL_law_585 : decode cL_law 585 = .ok (.if_icmp .eq 111, 3) := by decide +kernel
theorem dL_law_588 : decode cL_law 588 = .ok (.iconst 0, 1) := by decide +kernel
theorem dL_law_589 : decode cL_law 589 = .ok (.ireturn, 1) := by decide +kernel
theorem dL_law_590 : decode cL_law 590 = .ok (.aload_n 1, 1) := by decide +kernel
theorem dL_law_591 : decode cL_law 591 = .ok (.aload_n 0, 1) := by decide +kernel
theorem dL_law_592 : decode cL_law 592 = .ok (.iload_n 3, 1) := by decide +kernel
theorem dL_law_593 : decode cL_law 593 = .ok (.iconst 1, 1) := by decide +kernel
theorem dL_law_594 : decode cL_law 594 = .ok (.iadd, 1) := by decide +kernel
theorem dL_law_595 : decode cL_law 595 = .ok (.iaload, 1) := by decide +kernel
theorem dL_law_596 : decode cL_law 596 = .ok (.aload_n 0, 1) := by decide +kernel
theorem dL_law_597 : decode cL_law 597 = .ok (.iload_n 3, 1) := by decide +kernel
theorem dL_law_598 : decode cL_law 598 = .ok (.iconst 2, 1) := by decide +kernel
theorem dL_law_599 : decode cL_law 599 = .ok (.iadd, 1) := by decide +kernel
theorem dL_law_600 : decode cL_law 600 = .ok (.iaload, 1) := by decide +kernel
theorem dL_law_601 : decode cL_law 601 = .ok (.aload_n 0, 1) := by decide +kernel
theorem dL_law_602 : decode cL_law 602 = .ok (.iload_n 3, 1) := by decide +kernel
theorem dL_law_603 : decode cL_law 603 = .ok (.iconst 3, 1) := by decide +kernel
theorem dL_law_604 : decode cL_law 604 = .ok (.iadd, 1) := by decide +kernel
theorem dL_law_605 : decode cL_law 605 = .ok (.iaload, 1) := by decide +kernel
theorem dL_law_606 : decode cL_law 606 = .ok (.invokevirtual 89, 3) := by decide +kernel
theorem dL_law_609 : decode cL_law 609 = .ok (.aload_n 2, 1) := by decide +kernel
theorem dL_law_610 : decode cL_law 610 = .ok (.aload_n 0, 1) := by decide +kernel
theorem dL_law_611 : decode cL_law 611 = .ok (.iload_n 3, 1) := by decide +kernel
theorem dL_law_612 : decode cL_law 612 = .ok (.iconst 1, 1) := by decide +kernel
theorem dL_law_613 : decode cL_law 613 = .ok (.iadd, 1) := by decide +kernel
theorem dL_law_614 : decode cL_law 614 = .ok (.iaload, 1) := by decide +kernel
theorem dL_law_615 : decode cL_law 615 = .ok (.aload_n 0, 1) := by decide +kernel
theorem dL_law_616 : decode cL_law 616 = .ok (.iload_n 3, 1) := by decide +kernel
theorem dL_law_617 : decode cL_law 617 = .ok (.iconst 2, 1) := by decide +kernel
theorem dL_law_618 : decode cL_law 618 = .ok (.iadd, 1) := by decide +kernel
theorem dL_law_619 : decode cL_law 619 = .ok (.iaload, 1) := by decide +kernel
theorem dL_law_620 : decode cL_law 620 = .ok (.aload_n 0, 1) := by decide +kernel
theorem dL_law_621 : decode cL_law 621 = .ok (.iload_n 3, 1) := by decide +kernel
theorem dL_law_622 : decode cL_law 622 = .ok (.iconst 3, 1) := by decide +kernel
theorem dL_law_623 : decode cL_law 623 = .ok (.iadd, 1) := by decide +kernel
theorem dL_law_624 : decode cL_law 624 = .ok (.iaload, 1) := by decide +kernel
theorem dL_law_625 : decode cL_law 625 = .ok (.invokevirtual 93, 3) := by decide +kernel
theorem dL_law_628 : decode cL_law 628 = .ok (.if_icmp .eq 68, 3) := by decide +kernel
theorem dL_law_631 : decode cL_law 631 = .ok (.iconst 0, 1) := by decide +kernel
theorem dL_law_632 : decode cL_law 632 = .ok (.ireturn, 1) := by decide +kernel
theorem dL_law_633 : decode cL_law 633 = .ok (.aload_n 1, 1) := by decide +kernel
theorem dL_law_634 : decode cL_law 634 = .ok (.invokevirtual 94, 3) := by decide +kernel
theorem dL_law_637 : decode cL_law 637 = .ok (.aload_n 2, 1) := by decide +kernel
theorem dL_law_638 : decode cL_law 638 = .ok (.invokevirtual 97, 3) := by decide +kernel
theorem dL_law_641 : decode cL_law 641 = .ok (.if_icmp .eq 55, 3) := by decide +kernel
theorem dL_law_644 : decode cL_law 644 = .ok (.iconst 0, 1) := by decide +kernel
theorem dL_law_645 : decode cL_law 645 = .ok (.ireturn, 1) := by decide +kernel
theorem dL_law_646 : decode cL_law 646 = .ok (.aload_n 1, 1) := by decide +kernel
theorem dL_law_647 : decode cL_law 647 = .ok (.invokevirtual 98, 3) := by decide +kernel
theorem dL_law_650 : decode cL_law 650 = .ok (.aload_n 2, 1) := by decide +kernel
theorem dL_law_651 : decode cL_law 651 = .ok (.invokevirtual 101, 3) := by decide +kernel
theorem dL_law_654 : decode cL_law 654 = .ok (.if_icmp .eq 42, 3) := by decide +kernel
theorem dL_law_657 : decode cL_law 657 = .ok (.iconst 0, 1) := by decide +kernel
theorem dL_law_658 : decode cL_law 658 = .ok (.ireturn, 1) := by decide +kernel
theorem dL_law_659 : decode cL_law 659 = .ok (.aload_n 1, 1) := by decide +kernel
theorem dL_law_660 : decode cL_law 660 = .ok (.aload_n 0, 1) := by decide +kernel
theorem dL_law_661 : decode cL_law 661 = .ok (.iload_n 3, 1) := by decide +kernel
theorem dL_law_662 : decode cL_law 662 = .ok (.iconst 1, 1) := by decide +kernel
theorem dL_law_663 : decode cL_law 663 = .ok (.iadd, 1) := by decide +kernel
theorem dL_law_664 : decode cL_law 664 = .ok (.iaload, 1) := by decide +kernel
theorem dL_law_665 : decode cL_law 665 = .ok (.invokevirtual 102, 3) := by decide +kernel
theorem dL_law_668 : decode cL_law 668 = .ok (.aload_n 2, 1) := by decide +kernel
theorem dL_law_669 : decode cL_law 669 = .ok (.aload_n 0, 1) := by decide +kernel
theorem dL_law_670 : decode cL_law 670 = .ok (.iload_n 3, 1) := by decide +kernel
theorem dL_law_671 : decode cL_law 671 = .ok (.iconst 1, 1) := by decide +kernel
theorem dL_law_672 : decode cL_law 672 = .ok (.iadd, 1) := by decide +kernel
theorem dL_law_673 : decode cL_law 673 = .ok (.iaload, 1) := by decide +kernel
theorem dL_law_674 : decode cL_law 674 = .ok (.invokevirtual 105, 3) := by decide +kernel
theorem dL_law_677 : decode cL_law 677 = .ok (.if_icmp .eq 19, 3) := by decide +kernel
theorem dL_law_680 : decode cL_law 680 = .ok (.iconst 0, 1) := by decide +kernel
theorem dL_law_681 : decode cL_law 681 = .ok (.ireturn, 1) := by decide +kernel
theorem dL_law_682 : decode cL_law 682 = .ok (.aload_n 1, 1) := by decide +kernel
theorem dL_law_683 : decode cL_law 683 = .ok (.invokevirtual 106, 3) := by decide +kernel
theorem dL_law_686 : decode cL_law 686 = .ok (.aload_n 2, 1) := by decide +kernel
theorem dL_law_687 : decode cL_law 687 = .ok (.invokevirtual 110, 3) := by decide +kernel
theorem dL_law_690 : decode cL_law 690 = .ok (.lcmp, 1) := by decide +kernel
theorem dL_law_691 : decode cL_law 691 = .ok (.ifCond .eq 5, 3) := by decide +kernel
theorem dL_law_694 : decode cL_law 694 = .ok (.iconst 0, 1) := by decide +kernel
theorem dL_law_695 : decode cL_law 695 = .ok (.ireturn, 1) := by decide +kernel
theorem dL_law_696 : decode cL_law 696 = .ok (.iinc 3 4, 3) := by decide +kernel
theorem dL_law_699 : decode cL_law 699 = .ok (.goto (-681), 3) := by decide +kernel
theorem dL_law_702 : decode cL_law 702 = .ok (.iconst 1, 1) := by decide +kernel
theorem dL_law_703 : decode cL_law 703 = .ok (.ireturn, 1) := by decide +kernel
abbrev vwCl : List vw_C := [(RX0, TX0, 4), (RX1, TX1, 9), (RX2, TX2, 2), (RX3, TX3, 3), (RX4, TX4, 8), (RX5, TX5, 13), (RX6, TX6, 40)]
