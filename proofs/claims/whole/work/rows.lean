section
-- ===== PART A: goes FIRST, ahead of the names: the tables' words, and 'selects' of the private methods out of them =====
/-- a private method of a class that the tables say can be made, by its rows of tables_1 -/
def lw_okq (q : MethodName × Nat) : Prop := (q.1.cls ≠ "java/lang/invoke/MethodHandle" ∧ q.1.cls ≠ "java/lang/invoke/VarHandle") ∧ Cond.instantiable q.1.cls q.2 ∈ tables_1 ∧ Cond.privateMethod q.1 ∈ tables_1 ∧ Cond.instanceMethod q.1 ∈ tables_1
theorem lw_p0 : lw_okq (⟨"PegField$Page", "fits", "(I)Z"⟩, 2) := ⟨⟨by decide +kernel, by decide +kernel⟩, List.mem_of_getElem? (i := 19) (by decide +kernel), List.mem_of_getElem? (i := 212) (by decide +kernel), List.mem_of_getElem? (i := 213) (by decide +kernel)⟩
theorem lw_p1 : lw_okq (⟨"PegField$Page", "pegsBefore", "(I)I"⟩, 2) := ⟨⟨by decide +kernel, by decide +kernel⟩, List.mem_of_getElem? (i := 19) (by decide +kernel), List.mem_of_getElem? (i := 234) (by decide +kernel), List.mem_of_getElem? (i := 235) (by decide +kernel)⟩
theorem lw_p2 : lw_okq (⟨"PegField$Grid", "placeAt", "(II)I"⟩, 4) := ⟨⟨by decide +kernel, by decide +kernel⟩, List.mem_of_getElem? (i := 34) (by decide +kernel), List.mem_of_getElem? (i := 256) (by decide +kernel), List.mem_of_getElem? (i := 257) (by decide +kernel)⟩
theorem lw_p3 : lw_okq (⟨"PegField$State", "addPeg", "(II)V"⟩, 8) := ⟨⟨by decide +kernel, by decide +kernel⟩, List.mem_of_getElem? (i := 57) (by decide +kernel), List.mem_of_getElem? (i := 266) (by decide +kernel), List.mem_of_getElem? (i := 267) (by decide +kernel)⟩
theorem lw_p4 : lw_okq (⟨"PegField$State", "lift", "(I)V"⟩, 8) := ⟨⟨by decide +kernel, by decide +kernel⟩, List.mem_of_getElem? (i := 57) (by decide +kernel), List.mem_of_getElem? (i := 380) (by decide +kernel), List.mem_of_getElem? (i := 381) (by decide +kernel)⟩
theorem lw_p5 : lw_okq (⟨"PegField", "lookAhead", "()V"⟩, 13) := ⟨⟨by decide +kernel, by decide +kernel⟩, List.mem_of_getElem? (i := 11) (by decide +kernel), List.mem_of_getElem? (i := 410) (by decide +kernel), List.mem_of_getElem? (i := 411) (by decide +kernel)⟩
theorem lw_p6 : lw_okq (⟨"PegField", "fewestWithOneMore", "(I)I"⟩, 13) := ⟨⟨by decide +kernel, by decide +kernel⟩, List.mem_of_getElem? (i := 11) (by decide +kernel), List.mem_of_getElem? (i := 451) (by decide +kernel), List.mem_of_getElem? (i := 452) (by decide +kernel)⟩
theorem lw_p7 : lw_okq (⟨"PegFieldModel", "read", "()I"⟩, 40) := ⟨⟨by decide +kernel, by decide +kernel⟩, List.mem_of_getElem? (i := 527) (by decide +kernel), List.mem_of_getElem? (i := 670) (by decide +kernel), List.mem_of_getElem? (i := 671) (by decide +kernel)⟩
theorem lw_p8 : lw_okq (⟨"PegFieldModel", "at", "(I)I"⟩, 40) := ⟨⟨by decide +kernel, by decide +kernel⟩, List.mem_of_getElem? (i := 527) (by decide +kernel), List.mem_of_getElem? (i := 674) (by decide +kernel), List.mem_of_getElem? (i := 675) (by decide +kernel)⟩
theorem lw_p9 : lw_okq (⟨"PegFieldModel", "readPlaces", "(I)I"⟩, 40) := ⟨⟨by decide +kernel, by decide +kernel⟩, List.mem_of_getElem? (i := 527) (by decide +kernel), List.mem_of_getElem? (i := 678) (by decide +kernel), List.mem_of_getElem? (i := 679) (by decide +kernel)⟩
theorem lw_p10 : lw_okq (⟨"PegFieldModel", "places", "()I"⟩, 40) := ⟨⟨by decide +kernel, by decide +kernel⟩, List.mem_of_getElem? (i := 527) (by decide +kernel), List.mem_of_getElem? (i := 689) (by decide +kernel), List.mem_of_getElem? (i := 690) (by decide +kernel)⟩
theorem lw_p11 : lw_okq (⟨"PegFieldModel", "isPeg", "(I)Z"⟩, 40) := ⟨⟨by decide +kernel, by decide +kernel⟩, List.mem_of_getElem? (i := 527) (by decide +kernel), List.mem_of_getElem? (i := 697) (by decide +kernel), List.mem_of_getElem? (i := 698) (by decide +kernel)⟩
theorem lw_p12 : lw_okq (⟨"PegFieldModel", "pegNow", "(II)I"⟩, 40) := ⟨⟨by decide +kernel, by decide +kernel⟩, List.mem_of_getElem? (i := 527) (by decide +kernel), List.mem_of_getElem? (i := 701) (by decide +kernel), List.mem_of_getElem? (i := 702) (by decide +kernel)⟩
theorem lw_p13 : lw_okq (⟨"PegFieldModel", "putDeep", "()V"⟩, 40) := ⟨⟨by decide +kernel, by decide +kernel⟩, List.mem_of_getElem? (i := 527) (by decide +kernel), List.mem_of_getElem? (i := 705) (by decide +kernel), List.mem_of_getElem? (i := 706) (by decide +kernel)⟩
theorem lw_p14 : lw_okq (⟨"PegFieldModel", "goes", "(II)I"⟩, 40) := ⟨⟨by decide +kernel, by decide +kernel⟩, List.mem_of_getElem? (i := 527) (by decide +kernel), List.mem_of_getElem? (i := 709) (by decide +kernel), List.mem_of_getElem? (i := 710) (by decide +kernel)⟩
theorem lw_p15 : lw_okq (⟨"PegFieldModel", "isJump", "(III)Z"⟩, 40) := ⟨⟨by decide +kernel, by decide +kernel⟩, List.mem_of_getElem? (i := 527) (by decide +kernel), List.mem_of_getElem? (i := 713) (by decide +kernel), List.mem_of_getElem? (i := 714) (by decide +kernel)⟩
def lw_privs_1 : List (MethodName × Nat) := [(⟨"PegField$Page", "fits", "(I)Z"⟩, 2), (⟨"PegField$Page", "pegsBefore", "(I)I"⟩, 2), (⟨"PegField$Grid", "placeAt", "(II)I"⟩, 4), (⟨"PegField$State", "addPeg", "(II)V"⟩, 8), (⟨"PegField$State", "lift", "(I)V"⟩, 8), (⟨"PegField", "lookAhead", "()V"⟩, 13), (⟨"PegField", "fewestWithOneMore", "(I)I"⟩, 13), (⟨"PegFieldModel", "read", "()I"⟩, 40), (⟨"PegFieldModel", "at", "(I)I"⟩, 40), (⟨"PegFieldModel", "readPlaces", "(I)I"⟩, 40), (⟨"PegFieldModel", "places", "()I"⟩, 40), (⟨"PegFieldModel", "isPeg", "(I)Z"⟩, 40), (⟨"PegFieldModel", "pegNow", "(II)I"⟩, 40), (⟨"PegFieldModel", "putDeep", "()V"⟩, 40), (⟨"PegFieldModel", "goes", "(II)I"⟩, 40), (⟨"PegFieldModel", "isJump", "(III)Z"⟩, 40)]
theorem lw_r1 : ∀ q ∈ lw_privs_1, lw_okq q := List.forall_mem_cons.mpr ⟨lw_p0, List.forall_mem_cons.mpr ⟨lw_p1, List.forall_mem_cons.mpr ⟨lw_p2, List.forall_mem_cons.mpr ⟨lw_p3, List.forall_mem_cons.mpr ⟨lw_p4, List.forall_mem_cons.mpr ⟨lw_p5, List.forall_mem_cons.mpr ⟨lw_p6, List.forall_mem_cons.mpr ⟨lw_p7, List.forall_mem_cons.mpr ⟨lw_p8, List.forall_mem_cons.mpr ⟨lw_p9, List.forall_mem_cons.mpr ⟨lw_p10, List.forall_mem_cons.mpr ⟨lw_p11, List.forall_mem_cons.mpr ⟨lw_p12, List.forall_mem_cons.mpr ⟨lw_p13, List.forall_mem_cons.mpr ⟨lw_p14, List.forall_mem_cons.mpr ⟨lw_p15, fun _ h => absurd h List.not_mem_nil⟩⟩⟩⟩⟩⟩⟩⟩⟩⟩⟩⟩⟩⟩⟩⟩
theorem lw_p16 : lw_okq (⟨"PegFieldModel", "overBy", "(III)I"⟩, 40) := ⟨⟨by decide +kernel, by decide +kernel⟩, List.mem_of_getElem? (i := 527) (by decide +kernel), List.mem_of_getElem? (i := 717) (by decide +kernel), List.mem_of_getElem? (i := 718) (by decide +kernel)⟩
theorem lw_p17 : lw_okq (⟨"PegFieldModel", "whoAt", "(II)I"⟩, 40) := ⟨⟨by decide +kernel, by decide +kernel⟩, List.mem_of_getElem? (i := 527) (by decide +kernel), List.mem_of_getElem? (i := 724) (by decide +kernel), List.mem_of_getElem? (i := 725) (by decide +kernel)⟩
theorem lw_p18 : lw_okq (⟨"PegFieldModel", "goesBy", "(III)Z"⟩, 40) := ⟨⟨by decide +kernel, by decide +kernel⟩, List.mem_of_getElem? (i := 527) (by decide +kernel), List.mem_of_getElem? (i := 731) (by decide +kernel), List.mem_of_getElem? (i := 732) (by decide +kernel)⟩
theorem lw_p19 : lw_okq (⟨"PegFieldModel", "sortsOf", "(I)I"⟩, 40) := ⟨⟨by decide +kernel, by decide +kernel⟩, List.mem_of_getElem? (i := 527) (by decide +kernel), List.mem_of_getElem? (i := 735) (by decide +kernel), List.mem_of_getElem? (i := 736) (by decide +kernel)⟩
theorem lw_p20 : lw_okq (⟨"PegFieldModel", "askOf", "(I)I"⟩, 40) := ⟨⟨by decide +kernel, by decide +kernel⟩, List.mem_of_getElem? (i := 527) (by decide +kernel), List.mem_of_getElem? (i := 742) (by decide +kernel), List.mem_of_getElem? (i := 743) (by decide +kernel)⟩
theorem lw_p21 : lw_okq (⟨"PegFieldModel", "isPlace", "(I)Z"⟩, 40) := ⟨⟨by decide +kernel, by decide +kernel⟩, List.mem_of_getElem? (i := 527) (by decide +kernel), List.mem_of_getElem? (i := 758) (by decide +kernel), List.mem_of_getElem? (i := 759) (by decide +kernel)⟩
theorem lw_p22 : lw_okq (⟨"PegFieldModel", "placeNow", "(II)I"⟩, 40) := ⟨⟨by decide +kernel, by decide +kernel⟩, List.mem_of_getElem? (i := 527) (by decide +kernel), List.mem_of_getElem? (i := 762) (by decide +kernel), List.mem_of_getElem? (i := 763) (by decide +kernel)⟩
theorem lw_p23 : lw_okq (⟨"PegFieldModel", "goDeep", "(III)V"⟩, 40) := ⟨⟨by decide +kernel, by decide +kernel⟩, List.mem_of_getElem? (i := 527) (by decide +kernel), List.mem_of_getElem? (i := 770) (by decide +kernel), List.mem_of_getElem? (i := 771) (by decide +kernel)⟩
theorem lw_p24 : lw_okq (⟨"PegFieldModel", "onBoard", "(I)I"⟩, 40) := ⟨⟨by decide +kernel, by decide +kernel⟩, List.mem_of_getElem? (i := 527) (by decide +kernel), List.mem_of_getElem? (i := 774) (by decide +kernel), List.mem_of_getElem? (i := 775) (by decide +kernel)⟩
theorem lw_p25 : lw_okq (⟨"PegFieldModel", "isEmpty", "(I)Z"⟩, 40) := ⟨⟨by decide +kernel, by decide +kernel⟩, List.mem_of_getElem? (i := 527) (by decide +kernel), List.mem_of_getElem? (i := 782) (by decide +kernel), List.mem_of_getElem? (i := 783) (by decide +kernel)⟩
theorem lw_p26 : lw_okq (⟨"PegFieldModel", "coursesNow", "(I)I"⟩, 40) := ⟨⟨by decide +kernel, by decide +kernel⟩, List.mem_of_getElem? (i := 527) (by decide +kernel), List.mem_of_getElem? (i := 802) (by decide +kernel), List.mem_of_getElem? (i := 803) (by decide +kernel)⟩
theorem lw_p27 : lw_okq (⟨"PegFieldModel", "layCourses", "()V"⟩, 40) := ⟨⟨by decide +kernel, by decide +kernel⟩, List.mem_of_getElem? (i := 527) (by decide +kernel), List.mem_of_getElem? (i := 806) (by decide +kernel), List.mem_of_getElem? (i := 807) (by decide +kernel)⟩
theorem lw_p28 : lw_okq (⟨"PegFieldModel", "begin", "(I)V"⟩, 40) := ⟨⟨by decide +kernel, by decide +kernel⟩, List.mem_of_getElem? (i := 527) (by decide +kernel), List.mem_of_getElem? (i := 810) (by decide +kernel), List.mem_of_getElem? (i := 811) (by decide +kernel)⟩
theorem lw_p29 : lw_okq (⟨"PegFieldModel", "nextCode", "(I)I"⟩, 40) := ⟨⟨by decide +kernel, by decide +kernel⟩, List.mem_of_getElem? (i := 527) (by decide +kernel), List.mem_of_getElem? (i := 814) (by decide +kernel), List.mem_of_getElem? (i := 815) (by decide +kernel)⟩
theorem lw_p30 : lw_okq (⟨"PegFieldModel", "end", "(I)V"⟩, 40) := ⟨⟨by decide +kernel, by decide +kernel⟩, List.mem_of_getElem? (i := 527) (by decide +kernel), List.mem_of_getElem? (i := 818) (by decide +kernel), List.mem_of_getElem? (i := 819) (by decide +kernel)⟩
theorem lw_p31 : lw_okq (⟨"PegFieldModel", "lastPlace", "(I)I"⟩, 40) := ⟨⟨by decide +kernel, by decide +kernel⟩, List.mem_of_getElem? (i := 527) (by decide +kernel), List.mem_of_getElem? (i := 822) (by decide +kernel), List.mem_of_getElem? (i := 823) (by decide +kernel)⟩
def lw_privs_2 : List (MethodName × Nat) := [(⟨"PegFieldModel", "overBy", "(III)I"⟩, 40), (⟨"PegFieldModel", "whoAt", "(II)I"⟩, 40), (⟨"PegFieldModel", "goesBy", "(III)Z"⟩, 40), (⟨"PegFieldModel", "sortsOf", "(I)I"⟩, 40), (⟨"PegFieldModel", "askOf", "(I)I"⟩, 40), (⟨"PegFieldModel", "isPlace", "(I)Z"⟩, 40), (⟨"PegFieldModel", "placeNow", "(II)I"⟩, 40), (⟨"PegFieldModel", "goDeep", "(III)V"⟩, 40), (⟨"PegFieldModel", "onBoard", "(I)I"⟩, 40), (⟨"PegFieldModel", "isEmpty", "(I)Z"⟩, 40), (⟨"PegFieldModel", "coursesNow", "(I)I"⟩, 40), (⟨"PegFieldModel", "layCourses", "()V"⟩, 40), (⟨"PegFieldModel", "begin", "(I)V"⟩, 40), (⟨"PegFieldModel", "nextCode", "(I)I"⟩, 40), (⟨"PegFieldModel", "end", "(I)V"⟩, 40), (⟨"PegFieldModel", "lastPlace", "(I)I"⟩, 40)]
theorem lw_r2 : ∀ q ∈ lw_privs_2, lw_okq q := List.forall_mem_cons.mpr ⟨lw_p16, List.forall_mem_cons.mpr ⟨lw_p17, List.forall_mem_cons.mpr ⟨lw_p18, List.forall_mem_cons.mpr ⟨lw_p19, List.forall_mem_cons.mpr ⟨lw_p20, List.forall_mem_cons.mpr ⟨lw_p21, List.forall_mem_cons.mpr ⟨lw_p22, List.forall_mem_cons.mpr ⟨lw_p23, List.forall_mem_cons.mpr ⟨lw_p24, List.forall_mem_cons.mpr ⟨lw_p25, List.forall_mem_cons.mpr ⟨lw_p26, List.forall_mem_cons.mpr ⟨lw_p27, List.forall_mem_cons.mpr ⟨lw_p28, List.forall_mem_cons.mpr ⟨lw_p29, List.forall_mem_cons.mpr ⟨lw_p30, List.forall_mem_cons.mpr ⟨lw_p31, fun _ h => absurd h List.not_mem_nil⟩⟩⟩⟩⟩⟩⟩⟩⟩⟩⟩⟩⟩⟩⟩⟩
theorem lw_p32 : lw_okq (⟨"PegFieldModel", "takeUp", "(II)V"⟩, 40) := ⟨⟨by decide +kernel, by decide +kernel⟩, List.mem_of_getElem? (i := 527) (by decide +kernel), List.mem_of_getElem? (i := 826) (by decide +kernel), List.mem_of_getElem? (i := 827) (by decide +kernel)⟩
theorem lw_p33 : lw_okq (⟨"PegFieldModel", "winsNow", "(I)I"⟩, 40) := ⟨⟨by decide +kernel, by decide +kernel⟩, List.mem_of_getElem? (i := 527) (by decide +kernel), List.mem_of_getElem? (i := 834) (by decide +kernel), List.mem_of_getElem? (i := 835) (by decide +kernel)⟩
theorem lw_p34 : lw_okq (⟨"PegFieldModel", "addNow", "()I"⟩, 40) := ⟨⟨by decide +kernel, by decide +kernel⟩, List.mem_of_getElem? (i := 527) (by decide +kernel), List.mem_of_getElem? (i := 842) (by decide +kernel), List.mem_of_getElem? (i := 843) (by decide +kernel)⟩
theorem lw_p35 : lw_okq (⟨"PegFieldModel", "meanNow", "()I"⟩, 40) := ⟨⟨by decide +kernel, by decide +kernel⟩, List.mem_of_getElem? (i := 527) (by decide +kernel), List.mem_of_getElem? (i := 850) (by decide +kernel), List.mem_of_getElem? (i := 851) (by decide +kernel)⟩
theorem lw_p36 : lw_okq (⟨"PegFieldModel", "runsNow", "(III)I"⟩, 40) := ⟨⟨by decide +kernel, by decide +kernel⟩, List.mem_of_getElem? (i := 527) (by decide +kernel), List.mem_of_getElem? (i := 866) (by decide +kernel), List.mem_of_getElem? (i := 867) (by decide +kernel)⟩
theorem lw_p37 : lw_okq (⟨"PegFieldModel", "jumpsNow", "(I)I"⟩, 40) := ⟨⟨by decide +kernel, by decide +kernel⟩, List.mem_of_getElem? (i := 527) (by decide +kernel), List.mem_of_getElem? (i := 870) (by decide +kernel), List.mem_of_getElem? (i := 871) (by decide +kernel)⟩
theorem lw_p38 : lw_okq (⟨"PegFieldModel", "draw", "(I)I"⟩, 40) := ⟨⟨by decide +kernel, by decide +kernel⟩, List.mem_of_getElem? (i := 527) (by decide +kernel), List.mem_of_getElem? (i := 874) (by decide +kernel), List.mem_of_getElem? (i := 875) (by decide +kernel)⟩
theorem lw_p39 : lw_okq (⟨"PegFieldModel", "codeBy", "(II)I"⟩, 40) := ⟨⟨by decide +kernel, by decide +kernel⟩, List.mem_of_getElem? (i := 527) (by decide +kernel), List.mem_of_getElem? (i := 882) (by decide +kernel), List.mem_of_getElem? (i := 883) (by decide +kernel)⟩
theorem lw_p40 : lw_okq (⟨"PegFieldModel", "howMany", "(I)I"⟩, 40) := ⟨⟨by decide +kernel, by decide +kernel⟩, List.mem_of_getElem? (i := 527) (by decide +kernel), List.mem_of_getElem? (i := 898) (by decide +kernel), List.mem_of_getElem? (i := 899) (by decide +kernel)⟩
theorem lw_p41 : lw_okq (⟨"PegFieldModel", "ofBoard", "(I)I"⟩, 40) := ⟨⟨by decide +kernel, by decide +kernel⟩, List.mem_of_getElem? (i := 527) (by decide +kernel), List.mem_of_getElem? (i := 902) (by decide +kernel), List.mem_of_getElem? (i := 903) (by decide +kernel)⟩
theorem lw_p42 : lw_okq (⟨"PegFieldModel", "mix", "(J)V"⟩, 40) := ⟨⟨by decide +kernel, by decide +kernel⟩, List.mem_of_getElem? (i := 527) (by decide +kernel), List.mem_of_getElem? (i := 911) (by decide +kernel), List.mem_of_getElem? (i := 912) (by decide +kernel)⟩
theorem lw_p43 : lw_okq (⟨"PegFieldModel", "mixBoard", "()V"⟩, 40) := ⟨⟨by decide +kernel, by decide +kernel⟩, List.mem_of_getElem? (i := 527) (by decide +kernel), List.mem_of_getElem? (i := 916) (by decide +kernel), List.mem_of_getElem? (i := 917) (by decide +kernel)⟩
def lw_privs_3 : List (MethodName × Nat) := [(⟨"PegFieldModel", "takeUp", "(II)V"⟩, 40), (⟨"PegFieldModel", "winsNow", "(I)I"⟩, 40), (⟨"PegFieldModel", "addNow", "()I"⟩, 40), (⟨"PegFieldModel", "meanNow", "()I"⟩, 40), (⟨"PegFieldModel", "runsNow", "(III)I"⟩, 40), (⟨"PegFieldModel", "jumpsNow", "(I)I"⟩, 40), (⟨"PegFieldModel", "draw", "(I)I"⟩, 40), (⟨"PegFieldModel", "codeBy", "(II)I"⟩, 40), (⟨"PegFieldModel", "howMany", "(I)I"⟩, 40), (⟨"PegFieldModel", "ofBoard", "(I)I"⟩, 40), (⟨"PegFieldModel", "mix", "(J)V"⟩, 40), (⟨"PegFieldModel", "mixBoard", "()V"⟩, 40)]
theorem lw_r3 : ∀ q ∈ lw_privs_3, lw_okq q := List.forall_mem_cons.mpr ⟨lw_p32, List.forall_mem_cons.mpr ⟨lw_p33, List.forall_mem_cons.mpr ⟨lw_p34, List.forall_mem_cons.mpr ⟨lw_p35, List.forall_mem_cons.mpr ⟨lw_p36, List.forall_mem_cons.mpr ⟨lw_p37, List.forall_mem_cons.mpr ⟨lw_p38, List.forall_mem_cons.mpr ⟨lw_p39, List.forall_mem_cons.mpr ⟨lw_p40, List.forall_mem_cons.mpr ⟨lw_p41, List.forall_mem_cons.mpr ⟨lw_p42, List.forall_mem_cons.mpr ⟨lw_p43, fun _ h => absurd h List.not_mem_nil⟩⟩⟩⟩⟩⟩⟩⟩⟩⟩⟩⟩
def lw_privs : List (MethodName × Nat) := lw_privs_1 ++ (lw_privs_2 ++ (lw_privs_3))
def lw_tbl : List Cond := k2_sels lw_privs ++ tables_1
theorem lw_privs_ok : ∀ q ∈ lw_privs, lw_okq q := by
  show ∀ q ∈ lw_privs_1 ++ (lw_privs_2 ++ (lw_privs_3)), lw_okq q
  exact List.forall_mem_append.mpr ⟨lw_r1, List.forall_mem_append.mpr ⟨lw_r2, lw_r3⟩⟩
-- ===== end of PART A; then your names; then what follows =====
/-! ===== BEGIN words of one list among another's, by their places ===== -/
theorem goodIn_r {big : List Cond} (ws : List Cond) (ps : List Nat) (hp : ws = ps.filterMap (fun i => big[i]?)) (h : ws.all goodWord = true) : GoodIn big ws := by
  intro w hw
  have h1 := List.all_eq_true.mp h w hw
  rw [hp] at hw
  obtain ⟨i, -, hi⟩ := List.mem_filterMap.mp hw
  have hm : w ∈ big := by first | exact List.mem_of_getElem? hi | exact List.getElem?_mem hi
  exact ⟨hm, good_of_word h1⟩
theorem goodIn_app {big a b : List Cond} (ha : GoodIn big a) (hb : GoodIn big b) : GoodIn big (a ++ b) := fun w h => (List.mem_append.mp h).elim (ha w) (hb w)
theorem goodIn_ca {big a b : List Cond} {c : Cond} (ha : GoodIn big (c :: a)) (hb : GoodIn big b) : GoodIn big (c :: (a ++ b)) := fun w h => (List.mem_cons.mp h).elim (fun e => ha w (List.mem_cons.mpr (Or.inl e))) (fun h => (List.mem_append.mp h).elim (fun h => ha w (List.mem_cons.mpr (Or.inr h))) (hb w))
theorem goodIn_sub {big ws : List Cond} (hm : ∀ w ∈ ws, w ∈ big) (h : ws.all goodWord = true) : GoodIn big ws := fun w hw => ⟨hm w hw, good_of_word (List.all_eq_true.mp h w hw)⟩
/-! ===== END ===== -/

/-! ===== BEGIN printed: names, fields, word lists, decode rows ===== -/
def RX0 : String := "PegField$Grid"
def TX0 : u_T := fun k => match k with
  | 0 => ("PegField$Grid", "rows", "I", false)
  | 1 => ("PegField$Grid", "columns", "I", false)
  | 2 => ("PegField$Grid", "places", "I", false)
  | _ => ("PegField$Grid", "beside", "[I", true)
def tyX0 : Nat → FieldType := fun k => match k with
  | 0 => .int
  | 1 => .int
  | 2 => .int
  | _ => .array .int
abbrev wsX00 : List Cond := u_ws RX0 TX0 4
theorem nmX0 : ∀ a, a < 4 → ∀ b, b < 4 → a ≠ b → (TX0 a).2.1 ≠ (TX0 b).2.1 := by decide +kernel
theorem tyX0_ok : ∀ k, k < 4 → parseFieldDescriptor (TX0 k).2.2.1 = some (tyX0 k) := by decide +kernel
abbrev cX0_init : ByteArray := prog_2_method_1_code
def yX0_init : MethodName := ⟨RX0, "<init>", "()V"⟩
abbrev cX0_lay : ByteArray := prog_2_method_2_code
def yX0_lay : MethodName := ⟨RX0, "lay", "(II)V"⟩
abbrev cX0_placeAt : ByteArray := prog_2_method_3_code
def yX0_placeAt : MethodName := ⟨RX0, "placeAt", "(II)I"⟩
abbrev cX0_has : ByteArray := prog_2_method_4_code
def yX0_has : MethodName := ⟨RX0, "has", "(I)Z"⟩
abbrev cX0_next : ByteArray := prog_2_method_5_code
def yX0_next : MethodName := ⟨RX0, "next", "(II)I"⟩
def RX1 : String := "PegField$Outcome"
def TX1 : u_T := fun k => match k with
  | 0 => ("PegField$Outcome", "choices", "I", false)
  | 1 => ("PegField$Outcome", "fewest", "I", false)
  | 2 => ("PegField$Outcome", "first", "I", false)
  | 3 => ("PegField$Outcome", "ways", "I", false)
  | 4 => ("PegField$Outcome", "longest", "I", false)
  | 5 => ("PegField$Outcome", "shortest", "I", false)
  | 6 => ("PegField$Outcome", "alone", "I", false)
  | 7 => ("PegField$Outcome", "winning", "I", false)
  | _ => ("PegField$Outcome", "mean", "I", false)
def tyX1 : Nat → FieldType := fun k => match k with
  | 0 => .int
  | 1 => .int
  | 2 => .int
  | 3 => .int
  | 4 => .int
  | 5 => .int
  | 6 => .int
  | 7 => .int
  | _ => .int
abbrev wsX10 : List Cond := u_ws RX1 TX1 9
theorem nmX1 : ∀ a, a < 9 → ∀ b, b < 9 → a ≠ b → (TX1 a).2.1 ≠ (TX1 b).2.1 := by decide +kernel
theorem tyX1_ok : ∀ k, k < 9 → parseFieldDescriptor (TX1 k).2.2.1 = some (tyX1 k) := by decide +kernel
abbrev cX1_init : ByteArray := prog_3_method_1_code
def yX1_init : MethodName := ⟨RX1, "<init>", "()V"⟩
abbrev cX1_begin : ByteArray := prog_3_method_2_code
def yX1_begin : MethodName := ⟨RX1, "begin", "()V"⟩
abbrev cX1_take : ByteArray := prog_3_method_3_code
def yX1_take : MethodName := ⟨RX1, "take", "(ILPegField$Outcome;)V"⟩
abbrev cX1_end : ByteArray := prog_3_method_4_code
def yX1_end : MethodName := ⟨RX1, "end", "(II)V"⟩
def RX2 : String := "PegField$Page"
def TX2 : u_T := fun k => match k with
  | 0 => ("PegField$Page", "codes", "[I", true)
  | _ => ("PegField$Page", "size", "I", false)
def tyX2 : Nat → FieldType := fun k => match k with
  | 0 => .array .int
  | _ => .int
abbrev wsX20 : List Cond := u_ws RX2 TX2 2
theorem nmX2 : ∀ a, a < 2 → ∀ b, b < 2 → a ≠ b → (TX2 a).2.1 ≠ (TX2 b).2.1 := by decide +kernel
theorem tyX2_ok : ∀ k, k < 2 → parseFieldDescriptor (TX2 k).2.2.1 = some (tyX2 k) := by decide +kernel
abbrev cX2_init : ByteArray := prog_4_method_1_code
def yX2_init : MethodName := ⟨RX2, "<init>", "()V"⟩
abbrev cX2_append : ByteArray := prog_4_method_2_code
def yX2_append : MethodName := ⟨RX2, "append", "(I)Z"⟩
abbrev cX2_codeAt : ByteArray := prog_4_method_3_code
def yX2_codeAt : MethodName := ⟨RX2, "codeAt", "(I)I"⟩
abbrev cX2_digitAt : ByteArray := prog_4_method_4_code
def yX2_digitAt : MethodName := ⟨RX2, "digitAt", "(I)I"⟩
abbrev cX2_kindAt : ByteArray := prog_4_method_5_code
def yX2_kindAt : MethodName := ⟨RX2, "kindAt", "(I)I"⟩
abbrev cX2_placesTold : ByteArray := prog_4_method_6_code
def yX2_placesTold : MethodName := ⟨RX2, "placesTold", "()I"⟩
abbrev cX2_pegsBefore : ByteArray := prog_4_method_7_code
def yX2_pegsBefore : MethodName := ⟨RX2, "pegsBefore", "(I)I"⟩
abbrev cX2_fits : ByteArray := prog_4_method_8_code
def yX2_fits : MethodName := ⟨RX2, "fits", "(I)Z"⟩
abbrev cX2_firstFault : ByteArray := prog_4_method_9_code
def yX2_firstFault : MethodName := ⟨RX2, "firstFault", "()I"⟩
abbrev cX2_isBoard : ByteArray := prog_4_method_10_code
def yX2_isBoard : MethodName := ⟨RX2, "isBoard", "()Z"⟩
def RX3 : String := "PegField$Seen"
def TX3 : u_T := fun k => match k with
  | 0 => ("PegField$Seen", "pegs", "[I", true)
  | 1 => ("PegField$Seen", "sorts", "[I", true)
  | _ => ("PegField$Seen", "size", "I", false)
def tyX3 : Nat → FieldType := fun k => match k with
  | 0 => .array .int
  | 1 => .array .int
  | _ => .int
abbrev wsX30 : List Cond := u_ws RX3 TX3 3
theorem nmX3 : ∀ a, a < 3 → ∀ b, b < 3 → a ≠ b → (TX3 a).2.1 ≠ (TX3 b).2.1 := by decide +kernel
theorem tyX3_ok : ∀ k, k < 3 → parseFieldDescriptor (TX3 k).2.2.1 = some (tyX3 k) := by decide +kernel
abbrev cX3_init : ByteArray := prog_5_method_1_code
def yX3_init : MethodName := ⟨RX3, "<init>", "()V"⟩
abbrev cX3_append : ByteArray := prog_5_method_2_code
def yX3_append : MethodName := ⟨RX3, "append", "(II)Z"⟩
abbrev cX3_sortsOf : ByteArray := prog_5_method_3_code
def yX3_sortsOf : MethodName := ⟨RX3, "sortsOf", "(I)I"⟩
abbrev cX3_copyFrom : ByteArray := prog_5_method_4_code
def yX3_copyFrom : MethodName := ⟨RX3, "copyFrom", "(LPegField$Seen;)V"⟩
def RX4 : String := "PegField$State"
def TX4 : u_T := fun k => match k with
  | 0 => ("PegField$State", "grid", "LPegField$Grid;", true)
  | 1 => ("PegField$State", "holes", "I", false)
  | 2 => ("PegField$State", "pegs", "I", false)
  | 3 => ("PegField$State", "onBoard", "I", false)
  | 4 => ("PegField$State", "jumps", "I", false)
  | 5 => ("PegField$State", "kinds", "[I", true)
  | 6 => ("PegField$State", "homes", "[I", true)
  | _ => ("PegField$State", "tenants", "[I", true)
def tyX4 : Nat → FieldType := fun k => match k with
  | 0 => .object "PegField$Grid"
  | 1 => .int
  | 2 => .int
  | 3 => .int
  | 4 => .int
  | 5 => .array .int
  | 6 => .array .int
  | _ => .array .int
abbrev wsX40 : List Cond := u_ws RX4 TX4 8
theorem nmX4 : ∀ a, a < 8 → ∀ b, b < 8 → a ≠ b → (TX4 a).2.1 ≠ (TX4 b).2.1 := by decide +kernel
theorem tyX4_ok : ∀ k, k < 8 → parseFieldDescriptor (TX4 k).2.2.1 = some (tyX4 k) := by decide +kernel
abbrev cX4_init : ByteArray := prog_6_method_1_code
def yX4_init : MethodName := ⟨RX4, "<init>", "(LPegField$Grid;)V"⟩
abbrev cX4_read : ByteArray := prog_6_method_2_code
def yX4_read : MethodName := ⟨RX4, "read", "(LPegField$Page;)V"⟩
abbrev cX4_addPlain : ByteArray := prog_6_method_3_code
def yX4_addPlain : MethodName := ⟨RX4, "addPlain", "(I)V"⟩
abbrev cX4_addPeg : ByteArray := prog_6_method_4_code
def yX4_addPeg : MethodName := ⟨RX4, "addPeg", "(II)V"⟩
abbrev cX4_copyFrom : ByteArray := prog_6_method_5_code
def yX4_copyFrom : MethodName := ⟨RX4, "copyFrom", "(LPegField$State;)V"⟩
abbrev cX4_isPeg : ByteArray := prog_6_method_6_code
def yX4_isPeg : MethodName := ⟨RX4, "isPeg", "(I)Z"⟩
abbrev cX4_kindOf : ByteArray := prog_6_method_7_code
def yX4_kindOf : MethodName := ⟨RX4, "kindOf", "(I)I"⟩
abbrev cX4_homeOf : ByteArray := prog_6_method_8_code
def yX4_homeOf : MethodName := ⟨RX4, "homeOf", "(I)I"⟩
abbrev cX4_turn : ByteArray := prog_6_method_9_code
def yX4_turn : MethodName := ⟨RX4, "turn", "(II)V"⟩
abbrev cX4_isHole : ByteArray := prog_6_method_10_code
def yX4_isHole : MethodName := ⟨RX4, "isHole", "(I)Z"⟩
abbrev cX4_pegIn : ByteArray := prog_6_method_11_code
def yX4_pegIn : MethodName := ⟨RX4, "pegIn", "(I)I"⟩
abbrev cX4_isEmptyHole : ByteArray := prog_6_method_12_code
def yX4_isEmptyHole : MethodName := ⟨RX4, "isEmptyHole", "(I)Z"⟩
abbrev cX4_set : ByteArray := prog_6_method_13_code
def yX4_set : MethodName := ⟨RX4, "set", "(II)V"⟩
abbrev cX4_lift : ByteArray := prog_6_method_14_code
def yX4_lift : MethodName := ⟨RX4, "lift", "(I)V"⟩
abbrev cX4_neighbourOf : ByteArray := prog_6_method_15_code
def yX4_neighbourOf : MethodName := ⟨RX4, "neighbourOf", "(II)I"⟩
abbrev cX4_targetOf : ByteArray := prog_6_method_16_code
def yX4_targetOf : MethodName := ⟨RX4, "targetOf", "(II)I"⟩
abbrev cX4_targetsOf : ByteArray := prog_6_method_17_code
def yX4_targetsOf : MethodName := ⟨RX4, "targetsOf", "(I)I"⟩
abbrev cX4_directionTo : ByteArray := prog_6_method_18_code
def yX4_directionTo : MethodName := ⟨RX4, "directionTo", "(II)I"⟩
abbrev cX4_choices : ByteArray := prog_6_method_19_code
def yX4_choices : MethodName := ⟨RX4, "choices", "()I"⟩
abbrev cX4_leapByChoice : ByteArray := prog_6_method_20_code
def yX4_leapByChoice : MethodName := ⟨RX4, "leapByChoice", "(I)V"⟩
abbrev cX4_leap : ByteArray := prog_6_method_21_code
def yX4_leap : MethodName := ⟨RX4, "leap", "(III)V"⟩
abbrev cX4_takeBack : ByteArray := prog_6_method_22_code
def yX4_takeBack : MethodName := ⟨RX4, "takeBack", "(IIII)V"⟩
abbrev cX4_aloneBit : ByteArray := prog_6_method_23_code
def yX4_aloneBit : MethodName := ⟨RX4, "aloneBit", "()I"⟩
def RX5 : String := "PegField"
def TX5 : u_T := fun k => match k with
  | 0 => ("PegField", "page", "LPegField$Page;", true)
  | 1 => ("PegField", "grid", "LPegField$Grid;", true)
  | 2 => ("PegField", "now", "LPegField$State;", true)
  | 3 => ("PegField", "seen", "LPegField$Seen;", true)
  | 4 => ("PegField", "keptState", "LPegField$State;", true)
  | 5 => ("PegField", "keptSeen", "LPegField$Seen;", true)
  | 6 => ("PegField", "isKept", "Z", false)
  | 7 => ("PegField", "thought", "LPegField$State;", true)
  | 8 => ("PegField", "outlook", "LPegField$Outcome;", true)
  | 9 => ("PegField", "outcomes", "[LPegField$Outcome;", true)
  | 10 => ("PegField", "isLooked", "Z", false)
  | 11 => ("PegField", "reads", "I", false)
  | _ => ("PegField", "adds", "I", false)
def tyX5 : Nat → FieldType := fun k => match k with
  | 0 => .object "PegField$Page"
  | 1 => .object "PegField$Grid"
  | 2 => .object "PegField$State"
  | 3 => .object "PegField$Seen"
  | 4 => .object "PegField$State"
  | 5 => .object "PegField$Seen"
  | 6 => .boolean
  | 7 => .object "PegField$State"
  | 8 => .object "PegField$Outcome"
  | 9 => .array (.object "PegField$Outcome")
  | 10 => .boolean
  | 11 => .int
  | _ => .int
abbrev wsX50 : List Cond := u_ws RX5 TX5 13
theorem nmX5 : ∀ a, a < 13 → ∀ b, b < 13 → a ≠ b → (TX5 a).2.1 ≠ (TX5 b).2.1 := by decide +kernel
theorem tyX5_ok : ∀ k, k < 13 → parseFieldDescriptor (TX5 k).2.2.1 = some (tyX5 k) := by decide +kernel
abbrev cX5_init : ByteArray := prog_1_method_1_code
def yX5_init : MethodName := ⟨RX5, "<init>", "()V"⟩
abbrev cX5_letter : ByteArray := prog_1_method_2_code
def yX5_letter : MethodName := ⟨RX5, "letter", "(I)I"⟩
abbrev cX5_blank : ByteArray := prog_1_method_3_code
def yX5_blank : MethodName := ⟨RX5, "blank", "()I"⟩
abbrev cX5_fault : ByteArray := prog_1_method_4_code
def yX5_fault : MethodName := ⟨RX5, "fault", "()I"⟩
abbrev cX5_board : ByteArray := prog_1_method_5_code
def yX5_board : MethodName := ⟨RX5, "board", "()I"⟩
abbrev cX5_peg : ByteArray := prog_1_method_6_code
def yX5_peg : MethodName := ⟨RX5, "peg", "(II)I"⟩
abbrev cX5_as : ByteArray := prog_1_method_7_code
def yX5_as : MethodName := ⟨RX5, "as", "(II)I"⟩
abbrev cX5_place : ByteArray := prog_1_method_8_code
def yX5_place : MethodName := ⟨RX5, "place", "(II)I"⟩
abbrev cX5_jump : ByteArray := prog_1_method_9_code
def yX5_jump : MethodName := ⟨RX5, "jump", "(II)I"⟩
abbrev cX5_put : ByteArray := prog_1_method_10_code
def yX5_put : MethodName := ⟨RX5, "put", "(II)I"⟩
abbrev cX5_plug : ByteArray := prog_1_method_11_code
def yX5_plug : MethodName := ⟨RX5, "plug", "(I)I"⟩
abbrev cX5_bore : ByteArray := prog_1_method_12_code
def yX5_bore : MethodName := ⟨RX5, "bore", "(I)I"⟩
abbrev cX5_be : ByteArray := prog_1_method_13_code
def yX5_be : MethodName := ⟨RX5, "be", "(II)I"⟩
abbrev cX5_courses : ByteArray := prog_1_method_14_code
def yX5_courses : MethodName := ⟨RX5, "courses", "(I)I"⟩
abbrev cX5_wins : ByteArray := prog_1_method_15_code
def yX5_wins : MethodName := ⟨RX5, "wins", "(I)I"⟩
abbrev cX5_add : ByteArray := prog_1_method_16_code
def yX5_add : MethodName := ⟨RX5, "add", "()I"⟩
abbrev cX5_mean : ByteArray := prog_1_method_17_code
def yX5_mean : MethodName := ⟨RX5, "mean", "()I"⟩
abbrev cX5_see : ByteArray := prog_1_method_18_code
def yX5_see : MethodName := ⟨RX5, "see", "(IIZ)I"⟩
abbrev cX5_forget : ByteArray := prog_1_method_19_code
def yX5_forget : MethodName := ⟨RX5, "forget", "()I"⟩
abbrev cX5_runs : ByteArray := prog_1_method_20_code
def yX5_runs : MethodName := ⟨RX5, "runs", "(III)I"⟩
abbrev cX5_image : ByteArray := prog_1_method_21_code
def yX5_image : MethodName := ⟨RX5, "image", "()I"⟩
abbrev cX5_restore : ByteArray := prog_1_method_22_code
def yX5_restore : MethodName := ⟨RX5, "restore", "()I"⟩
abbrev cX5_count : ByteArray := prog_1_method_23_code
def yX5_count : MethodName := ⟨RX5, "count", "(I)I"⟩
abbrev cX5_digest : ByteArray := prog_1_method_24_code
def yX5_digest : MethodName := ⟨RX5, "digest", "()J"⟩
abbrev cX5_lookAhead : ByteArray := prog_1_method_25_code
def yX5_lookAhead : MethodName := ⟨RX5, "lookAhead", "()V"⟩
abbrev cX5_fewestWithOneMore : ByteArray := prog_1_method_26_code
def yX5_fewestWithOneMore : MethodName := ⟨RX5, "fewestWithOneMore", "(I)I"⟩
abbrev cX5_look : ByteArray := prog_1_method_27_code
def yX5_look : MethodName := ⟨RX5, "look", "(LPegField$State;[LPegField$Outcome;I)V"⟩
abbrev cX5_nextSeed : ByteArray := prog_1_method_28_code
def yX5_nextSeed : MethodName := ⟨RX5, "nextSeed", "(J)J"⟩
abbrev cX5_hasBit : ByteArray := prog_1_method_29_code
def yX5_hasBit : MethodName := ⟨RX5, "hasBit", "(II)Z"⟩
abbrev cX5_kindCould : ByteArray := prog_1_method_30_code
def yX5_kindCould : MethodName := ⟨RX5, "kindCould", "(II)Z"⟩
abbrev cX5_kindGoes : ByteArray := prog_1_method_31_code
def yX5_kindGoes : MethodName := ⟨RX5, "kindGoes", "(II)Z"⟩
abbrev cX5_bestQuestion : ByteArray := prog_1_method_32_code
def yX5_bestQuestion : MethodName := ⟨RX5, "bestQuestion", "(I)I"⟩
def RX6 : String := "PegFieldModel"
def TX6 : u_T := fun k => match k with
  | 0 => ("PegFieldModel", "boards", "I", false)
  | 1 => ("PegFieldModel", "high", "I", false)
  | 2 => ("PegFieldModel", "wide", "I", false)
  | 3 => ("PegFieldModel", "holes", "I", false)
  | 4 => ("PegFieldModel", "pegs", "I", false)
  | 5 => ("PegFieldModel", "kindOf", "[I", true)
  | 6 => ("PegFieldModel", "placeOf", "[I", true)
  | 7 => ("PegFieldModel", "jumps", "I", false)
  | 8 => ("PegFieldModel", "asks", "I", false)
  | 9 => ("PegFieldModel", "seen", "I", false)
  | 10 => ("PegFieldModel", "seenPeg", "[I", true)
  | 11 => ("PegFieldModel", "seenWhat", "[I", true)
  | 12 => ("PegFieldModel", "seenCould", "[I", true)
  | 13 => ("PegFieldModel", "pageLength", "I", false)
  | 14 => ("PegFieldModel", "page", "[B", true)
  | 15 => ("PegFieldModel", "isWhole", "Z", false)
  | 16 => ("PegFieldModel", "newPegs", "I", false)
  | 17 => ("PegFieldModel", "deepPlace", "[I", true)
  | 18 => ("PegFieldModel", "codeOf", "[I", true)
  | 19 => ("PegFieldModel", "jumpsOf", "[I", true)
  | 20 => ("PegFieldModel", "waysOf", "[I", true)
  | 21 => ("PegFieldModel", "fewestOf", "[I", true)
  | 22 => ("PegFieldModel", "firstOf", "[I", true)
  | 23 => ("PegFieldModel", "longestOf", "[I", true)
  | 24 => ("PegFieldModel", "shortestOf", "[I", true)
  | 25 => ("PegFieldModel", "aloneOf", "[I", true)
  | 26 => ("PegFieldModel", "winOf", "[I", true)
  | 27 => ("PegFieldModel", "sumOf", "[I", true)
  | 28 => ("PegFieldModel", "seedNow", "J", false)
  | 29 => ("PegFieldModel", "isKept", "Z", false)
  | 30 => ("PegFieldModel", "keptBoard", "I", false)
  | 31 => ("PegFieldModel", "keptHoles", "I", false)
  | 32 => ("PegFieldModel", "keptJumps", "I", false)
  | 33 => ("PegFieldModel", "keptSeen", "I", false)
  | 34 => ("PegFieldModel", "keptKind", "[I", true)
  | 35 => ("PegFieldModel", "keptPlace", "[I", true)
  | 36 => ("PegFieldModel", "keptPeg", "[I", true)
  | 37 => ("PegFieldModel", "keptWhat", "[I", true)
  | 38 => ("PegFieldModel", "keptCould", "[I", true)
  | _ => ("PegFieldModel", "h", "J", false)
def tyX6 : Nat → FieldType := fun k => match k with
  | 0 => .int
  | 1 => .int
  | 2 => .int
  | 3 => .int
  | 4 => .int
  | 5 => .array .int
  | 6 => .array .int
  | 7 => .int
  | 8 => .int
  | 9 => .int
  | 10 => .array .int
  | 11 => .array .int
  | 12 => .array .int
  | 13 => .int
  | 14 => .array .byte
  | 15 => .boolean
  | 16 => .int
  | 17 => .array .int
  | 18 => .array .int
  | 19 => .array .int
  | 20 => .array .int
  | 21 => .array .int
  | 22 => .array .int
  | 23 => .array .int
  | 24 => .array .int
  | 25 => .array .int
  | 26 => .array .int
  | 27 => .array .int
  | 28 => .long
  | 29 => .boolean
  | 30 => .int
  | 31 => .int
  | 32 => .int
  | 33 => .int
  | 34 => .array .int
  | 35 => .array .int
  | 36 => .array .int
  | 37 => .array .int
  | 38 => .array .int
  | _ => .long
abbrev wsX60 : List Cond := u_ws RX6 TX6 40
theorem nmX6 : ∀ a, a < 40 → ∀ b, b < 40 → a ≠ b → (TX6 a).2.1 ≠ (TX6 b).2.1 := by decide +kernel
theorem tyX6_ok : ∀ k, k < 40 → parseFieldDescriptor (TX6 k).2.2.1 = some (tyX6 k) := by decide +kernel
abbrev cX6_init : ByteArray := prog_8_method_1_code
def yX6_init : MethodName := ⟨RX6, "<init>", "()V"⟩
abbrev cX6_within : ByteArray := prog_8_method_3_code
def yX6_within : MethodName := ⟨RX6, "within", "(III)Z"⟩
abbrev cX6_isIn : ByteArray := prog_8_method_4_code
def yX6_isIn : MethodName := ⟨RX6, "isIn", "(II)Z"⟩
abbrev cX6_size : ByteArray := prog_8_method_5_code
def yX6_size : MethodName := ⟨RX6, "size", "(I)I"⟩
abbrev cX6_letter : ByteArray := prog_8_method_6_code
def yX6_letter : MethodName := ⟨RX6, "letter", "(I)I"⟩
abbrev cX6_blank : ByteArray := prog_8_method_7_code
def yX6_blank : MethodName := ⟨RX6, "blank", "()I"⟩
abbrev cX6_kindBy : ByteArray := prog_8_method_8_code
def yX6_kindBy : MethodName := ⟨RX6, "kindBy", "(I)I"⟩
abbrev cX6_at : ByteArray := prog_8_method_9_code
def yX6_at : MethodName := ⟨RX6, "at", "(I)I"⟩
abbrev cX6_readPlaces : ByteArray := prog_8_method_10_code
def yX6_readPlaces : MethodName := ⟨RX6, "readPlaces", "(I)I"⟩
abbrev cX6_read : ByteArray := prog_8_method_11_code
def yX6_read : MethodName := ⟨RX6, "read", "()I"⟩
abbrev cX6_fault : ByteArray := prog_8_method_12_code
def yX6_fault : MethodName := ⟨RX6, "fault", "()I"⟩
abbrev cX6_board : ByteArray := prog_8_method_13_code
def yX6_board : MethodName := ⟨RX6, "board", "()I"⟩
abbrev cX6_places : ByteArray := prog_8_method_14_code
def yX6_places : MethodName := ⟨RX6, "places", "()I"⟩
abbrev cX6_isPeg : ByteArray := prog_8_method_15_code
def yX6_isPeg : MethodName := ⟨RX6, "isPeg", "(I)Z"⟩
abbrev cX6_isPlace : ByteArray := prog_8_method_16_code
def yX6_isPlace : MethodName := ⟨RX6, "isPlace", "(I)Z"⟩
abbrev cX6_putDeep : ByteArray := prog_8_method_17_code
def yX6_putDeep : MethodName := ⟨RX6, "putDeep", "()V"⟩
abbrev cX6_whoAt : ByteArray := prog_8_method_18_code
def yX6_whoAt : MethodName := ⟨RX6, "whoAt", "(II)I"⟩
abbrev cX6_apart : ByteArray := prog_8_method_19_code
def yX6_apart : MethodName := ⟨RX6, "apart", "(II)I"⟩
abbrev cX6_goesBy : ByteArray := prog_8_method_20_code
def yX6_goesBy : MethodName := ⟨RX6, "goesBy", "(III)Z"⟩
abbrev cX6_overBy : ByteArray := prog_8_method_21_code
def yX6_overBy : MethodName := ⟨RX6, "overBy", "(III)I"⟩
abbrev cX6_isJump : ByteArray := prog_8_method_22_code
def yX6_isJump : MethodName := ⟨RX6, "isJump", "(III)Z"⟩
abbrev cX6_goDeep : ByteArray := prog_8_method_23_code
def yX6_goDeep : MethodName := ⟨RX6, "goDeep", "(III)V"⟩
abbrev cX6_onBoard : ByteArray := prog_8_method_24_code
def yX6_onBoard : MethodName := ⟨RX6, "onBoard", "(I)I"⟩
abbrev cX6_goes : ByteArray := prog_8_method_25_code
def yX6_goes : MethodName := ⟨RX6, "goes", "(II)I"⟩
abbrev cX6_jumpsNow : ByteArray := prog_8_method_26_code
def yX6_jumpsNow : MethodName := ⟨RX6, "jumpsNow", "(I)I"⟩
abbrev cX6_pegNow : ByteArray := prog_8_method_27_code
def yX6_pegNow : MethodName := ⟨RX6, "pegNow", "(II)I"⟩
abbrev cX6_peg : ByteArray := prog_8_method_28_code
def yX6_peg : MethodName := ⟨RX6, "peg", "(II)I"⟩
abbrev cX6_as : ByteArray := prog_8_method_29_code
def yX6_as : MethodName := ⟨RX6, "as", "(II)I"⟩
abbrev cX6_placeNow : ByteArray := prog_8_method_30_code
def yX6_placeNow : MethodName := ⟨RX6, "placeNow", "(II)I"⟩
abbrev cX6_place : ByteArray := prog_8_method_31_code
def yX6_place : MethodName := ⟨RX6, "place", "(II)I"⟩
abbrev cX6_jump : ByteArray := prog_8_method_32_code
def yX6_jump : MethodName := ⟨RX6, "jump", "(II)I"⟩
abbrev cX6_isEmpty : ByteArray := prog_8_method_33_code
def yX6_isEmpty : MethodName := ⟨RX6, "isEmpty", "(I)Z"⟩
abbrev cX6_put : ByteArray := prog_8_method_34_code
def yX6_put : MethodName := ⟨RX6, "put", "(II)I"⟩
abbrev cX6_plug : ByteArray := prog_8_method_35_code
def yX6_plug : MethodName := ⟨RX6, "plug", "(I)I"⟩
abbrev cX6_bore : ByteArray := prog_8_method_36_code
def yX6_bore : MethodName := ⟨RX6, "bore", "(I)I"⟩
abbrev cX6_be : ByteArray := prog_8_method_37_code
def yX6_be : MethodName := ⟨RX6, "be", "(II)I"⟩
abbrev cX6_begin : ByteArray := prog_8_method_38_code
def yX6_begin : MethodName := ⟨RX6, "begin", "(I)V"⟩
abbrev cX6_nextCode : ByteArray := prog_8_method_39_code
def yX6_nextCode : MethodName := ⟨RX6, "nextCode", "(I)I"⟩
abbrev cX6_lastPlace : ByteArray := prog_8_method_40_code
def yX6_lastPlace : MethodName := ⟨RX6, "lastPlace", "(I)I"⟩
abbrev cX6_end : ByteArray := prog_8_method_41_code
def yX6_end : MethodName := ⟨RX6, "end", "(I)V"⟩
abbrev cX6_takeUp : ByteArray := prog_8_method_42_code
def yX6_takeUp : MethodName := ⟨RX6, "takeUp", "(II)V"⟩
abbrev cX6_layCourses : ByteArray := prog_8_method_43_code
def yX6_layCourses : MethodName := ⟨RX6, "layCourses", "()V"⟩
abbrev cX6_coursesNow : ByteArray := prog_8_method_44_code
def yX6_coursesNow : MethodName := ⟨RX6, "coursesNow", "(I)I"⟩
abbrev cX6_courses : ByteArray := prog_8_method_45_code
def yX6_courses : MethodName := ⟨RX6, "courses", "(I)I"⟩
abbrev cX6_winsNow : ByteArray := prog_8_method_46_code
def yX6_winsNow : MethodName := ⟨RX6, "winsNow", "(I)I"⟩
abbrev cX6_wins : ByteArray := prog_8_method_47_code
def yX6_wins : MethodName := ⟨RX6, "wins", "(I)I"⟩
abbrev cX6_addNow : ByteArray := prog_8_method_48_code
def yX6_addNow : MethodName := ⟨RX6, "addNow", "()I"⟩
abbrev cX6_add : ByteArray := prog_8_method_49_code
def yX6_add : MethodName := ⟨RX6, "add", "()I"⟩
abbrev cX6_meanNow : ByteArray := prog_8_method_50_code
def yX6_meanNow : MethodName := ⟨RX6, "meanNow", "()I"⟩
abbrev cX6_mean : ByteArray := prog_8_method_51_code
def yX6_mean : MethodName := ⟨RX6, "mean", "()I"⟩
abbrev cX6_could : ByteArray := prog_8_method_52_code
def yX6_could : MethodName := ⟨RX6, "could", "(II)Z"⟩
abbrev cX6_see : ByteArray := prog_8_method_53_code
def yX6_see : MethodName := ⟨RX6, "see", "(IIZ)I"⟩
abbrev cX6_forget : ByteArray := prog_8_method_54_code
def yX6_forget : MethodName := ⟨RX6, "forget", "()I"⟩
abbrev cX6_sortsOf : ByteArray := prog_8_method_55_code
def yX6_sortsOf : MethodName := ⟨RX6, "sortsOf", "(I)I"⟩
abbrev cX6_askOf : ByteArray := prog_8_method_56_code
def yX6_askOf : MethodName := ⟨RX6, "askOf", "(I)I"⟩
abbrev cX6_draw : ByteArray := prog_8_method_57_code
def yX6_draw : MethodName := ⟨RX6, "draw", "(I)I"⟩
abbrev cX6_codeBy : ByteArray := prog_8_method_58_code
def yX6_codeBy : MethodName := ⟨RX6, "codeBy", "(II)I"⟩
abbrev cX6_runsNow : ByteArray := prog_8_method_59_code
def yX6_runsNow : MethodName := ⟨RX6, "runsNow", "(III)I"⟩
abbrev cX6_runs : ByteArray := prog_8_method_60_code
def yX6_runs : MethodName := ⟨RX6, "runs", "(III)I"⟩
abbrev cX6_image : ByteArray := prog_8_method_61_code
def yX6_image : MethodName := ⟨RX6, "image", "()I"⟩
abbrev cX6_restore : ByteArray := prog_8_method_62_code
def yX6_restore : MethodName := ⟨RX6, "restore", "()I"⟩
abbrev cX6_ofBoard : ByteArray := prog_8_method_63_code
def yX6_ofBoard : MethodName := ⟨RX6, "ofBoard", "(I)I"⟩
abbrev cX6_howMany : ByteArray := prog_8_method_64_code
def yX6_howMany : MethodName := ⟨RX6, "howMany", "(I)I"⟩
abbrev cX6_count : ByteArray := prog_8_method_65_code
def yX6_count : MethodName := ⟨RX6, "count", "(I)I"⟩
abbrev cX6_mix : ByteArray := prog_8_method_66_code
def yX6_mix : MethodName := ⟨RX6, "mix", "(J)V"⟩
abbrev cX6_mixBoard : ByteArray := prog_8_method_67_code
def yX6_mixBoard : MethodName := ⟨RX6, "mixBoard", "()V"⟩
abbrev cX6_digest : ByteArray := prog_8_method_68_code
def yX6_digest : MethodName := ⟨RX6, "digest", "()J"⟩
def RJ6 : String := "java/lang/Integer"
def TJ6 : u_T := fun k => match k with
  | _ => ("", "", "", false)
def tyJ6 : Nat → FieldType := fun k => match k with
  | _ => .int
abbrev wsJ60 : List Cond := u_ws RJ6 TJ6 0
theorem nmJ6 : ∀ a, a < 0 → ∀ b, b < 0 → a ≠ b → (TJ6 a).2.1 ≠ (TJ6 b).2.1 := by decide +kernel
theorem tyJ6_ok : ∀ k, k < 0 → parseFieldDescriptor (TJ6 k).2.2.1 = some (tyJ6 k) := by decide +kernel
abbrev cJ6_bitCount_0f7a4 : ByteArray := prog_9_method_49_code
def yJ6_bitCount_0f7a4 : MethodName := ⟨RJ6, "bitCount", "(I)I"⟩
def RJ9 : String := "java/lang/Math"
def TJ9 : u_T := fun k => match k with
  | _ => ("", "", "", false)
def tyJ9 : Nat → FieldType := fun k => match k with
  | _ => .int
abbrev wsJ90 : List Cond := u_ws RJ9 TJ9 0
theorem nmJ9 : ∀ a, a < 0 → ∀ b, b < 0 → a ≠ b → (TJ9 a).2.1 ≠ (TJ9 b).2.1 := by decide +kernel
theorem tyJ9_ok : ∀ k, k < 0 → parseFieldDescriptor (TJ9 k).2.2.1 = some (tyJ9 k) := by decide +kernel
abbrev cJ9_max_7cf53 : ByteArray := prog_10_method_65_code
def yJ9_max_7cf53 : MethodName := ⟨RJ9, "max", "(II)I"⟩
def RL : String := "PegFieldLaw"
abbrev cL_law : ByteArray := code
def yL_law : MethodName := ⟨RL, "law", "([I)Z"⟩
def wsX0_init : List Cond := .code yX0_init cX0_init 1 none :: ([.methodLink RX0 3 objectInit, .instanceMethod objectInit, .code objectInit ⟨#[0xb1]⟩ 1 none, .arrayClass .int, .fieldLink RX0 9 "PegField$Grid" "beside" "[I"] ++ wsX00)
def wsX0_placeAt : List Cond := .code yX0_placeAt cX0_placeAt 4 (some .int) :: ([.fieldLink RX0 15 "PegField$Grid" "rows" "I", .fieldLink RX0 19 "PegField$Grid" "columns" "I"] ++ wsX00)
def wsX0_lay : List Cond := .code yX0_lay cX0_lay 7 none :: ([.fieldLink RX0 15 "PegField$Grid" "rows" "I", .fieldLink RX0 19 "PegField$Grid" "columns" "I", .fieldLink RX0 22 "PegField$Grid" "places" "I", .fieldLink RX0 9 "PegField$Grid" "beside" "[I", .methodLink RX0 31 yX0_placeAt, .instanceMethod yX0_placeAt, .selects RX0 yX0_placeAt yX0_placeAt, .initialized RX0, .code yX0_placeAt cX0_placeAt 4 (some .int)] ++ wsX00)
def wsX0_has : List Cond := .code yX0_has cX0_has 2 (some .boolean) :: ([.fieldLink RX0 22 "PegField$Grid" "places" "I"] ++ wsX00)
def wsX0_next : List Cond := .code yX0_next cX0_next 4 (some .int) :: ([.fieldLink RX0 9 "PegField$Grid" "beside" "[I", .methodLink RX0 35 yX0_has, .instanceMethod yX0_has, .selects RX0 yX0_has yX0_has, .initialized RX0, .code yX0_has cX0_has 2 (some .boolean), .fieldLink RX0 22 "PegField$Grid" "places" "I"] ++ wsX00)
def wsX1_init : List Cond := .code yX1_init cX1_init 1 none :: ([.methodLink RX1 3 objectInit, .instanceMethod objectInit, .code objectInit ⟨#[0xb1]⟩ 1 none])
def wsX1_begin : List Cond := .code yX1_begin cX1_begin 1 none :: ([.fieldLink RX1 9 "PegField$Outcome" "choices" "I", .fieldLink RX1 15 "PegField$Outcome" "fewest" "I", .fieldLink RX1 18 "PegField$Outcome" "first" "I", .fieldLink RX1 21 "PegField$Outcome" "ways" "I", .fieldLink RX1 24 "PegField$Outcome" "longest" "I", .fieldLink RX1 27 "PegField$Outcome" "shortest" "I", .fieldLink RX1 30 "PegField$Outcome" "alone" "I", .fieldLink RX1 33 "PegField$Outcome" "winning" "I", .fieldLink RX1 36 "PegField$Outcome" "mean" "I"] ++ wsX10)
def wsX1_take : List Cond := .code yX1_take cX1_take 3 none :: ([.fieldLink RX1 9 "PegField$Outcome" "choices" "I", .fieldLink RX1 15 "PegField$Outcome" "fewest" "I", .fieldLink RX1 18 "PegField$Outcome" "first" "I", .fieldLink RX1 27 "PegField$Outcome" "shortest" "I", .fieldLink RX1 24 "PegField$Outcome" "longest" "I", .methodLink RX1 39 Lib.Math.max.name, .static Lib.Math.max.name, .initialized "java/lang/Math", .code Lib.Math.max.name Lib.Math.max.code 2 (some .int), .fieldLink RX1 21 "PegField$Outcome" "ways" "I", .fieldLink RX1 30 "PegField$Outcome" "alone" "I", .fieldLink RX1 33 "PegField$Outcome" "winning" "I", .fieldLink RX1 36 "PegField$Outcome" "mean" "I"] ++ wsX10)
def wsX1_end : List Cond := .code yX1_end cX1_end 3 none :: ([.fieldLink RX1 9 "PegField$Outcome" "choices" "I", .fieldLink RX1 36 "PegField$Outcome" "mean" "I", .fieldLink RX1 15 "PegField$Outcome" "fewest" "I", .fieldLink RX1 21 "PegField$Outcome" "ways" "I", .fieldLink RX1 30 "PegField$Outcome" "alone" "I"] ++ wsX10)
def wsX2_init : List Cond := .code yX2_init cX2_init 1 none :: ([.methodLink RX2 3 objectInit, .instanceMethod objectInit, .code objectInit ⟨#[0xb1]⟩ 1 none, .arrayClass .int, .fieldLink RX2 9 "PegField$Page" "codes" "[I"] ++ wsX20)
def wsX2_append : List Cond := .code yX2_append cX2_append 2 (some .boolean) :: ([.fieldLink RX2 15 "PegField$Page" "size" "I", .fieldLink RX2 9 "PegField$Page" "codes" "[I"] ++ wsX20)
def wsX2_codeAt : List Cond := .code yX2_codeAt cX2_codeAt 2 (some .int) :: ([.fieldLink RX2 15 "PegField$Page" "size" "I", .fieldLink RX2 9 "PegField$Page" "codes" "[I"] ++ wsX20)
def wsX2_digitAt : List Cond := .code yX2_digitAt cX2_digitAt 3 (some .int) :: ([.methodLink RX2 19 yX2_codeAt, .instanceMethod yX2_codeAt, .selects RX2 yX2_codeAt yX2_codeAt, .initialized RX2, .code yX2_codeAt cX2_codeAt 2 (some .int), .fieldLink RX2 15 "PegField$Page" "size" "I", .fieldLink RX2 9 "PegField$Page" "codes" "[I"] ++ wsX20)
def wsX2_kindAt : List Cond := .code yX2_kindAt cX2_kindAt 4 (some .int) :: ([.methodLink RX2 19 yX2_codeAt, .instanceMethod yX2_codeAt, .selects RX2 yX2_codeAt yX2_codeAt, .initialized RX2, .code yX2_codeAt cX2_codeAt 2 (some .int), .fieldLink RX2 15 "PegField$Page" "size" "I", .fieldLink RX2 9 "PegField$Page" "codes" "[I"] ++ wsX20)
def wsX2_placesTold : List Cond := .code yX2_placesTold cX2_placesTold 1 (some .int) :: ([.methodLink RX2 27 yX2_digitAt, .instanceMethod yX2_digitAt, .selects RX2 yX2_digitAt yX2_digitAt, .initialized RX2, .code yX2_digitAt cX2_digitAt 3 (some .int), .methodLink RX2 19 yX2_codeAt, .instanceMethod yX2_codeAt, .selects RX2 yX2_codeAt yX2_codeAt, .code yX2_codeAt cX2_codeAt 2 (some .int), .fieldLink RX2 15 "PegField$Page" "size" "I", .fieldLink RX2 9 "PegField$Page" "codes" "[I"] ++ wsX20)
def wsX2_pegsBefore : List Cond := .code yX2_pegsBefore cX2_pegsBefore 4 (some .int) :: ([.methodLink RX2 30 yX2_kindAt, .instanceMethod yX2_kindAt, .selects RX2 yX2_kindAt yX2_kindAt, .initialized RX2, .code yX2_kindAt cX2_kindAt 4 (some .int), .methodLink RX2 19 yX2_codeAt, .instanceMethod yX2_codeAt, .selects RX2 yX2_codeAt yX2_codeAt, .code yX2_codeAt cX2_codeAt 2 (some .int), .fieldLink RX2 15 "PegField$Page" "size" "I", .fieldLink RX2 9 "PegField$Page" "codes" "[I"] ++ wsX20)
def wsX2_fits : List Cond := .code yX2_fits cX2_fits 3 (some .boolean) :: ([.methodLink RX2 27 yX2_digitAt, .instanceMethod yX2_digitAt, .selects RX2 yX2_digitAt yX2_digitAt, .initialized RX2, .code yX2_digitAt cX2_digitAt 3 (some .int), .methodLink RX2 19 yX2_codeAt, .instanceMethod yX2_codeAt, .selects RX2 yX2_codeAt yX2_codeAt, .code yX2_codeAt cX2_codeAt 2 (some .int), .fieldLink RX2 15 "PegField$Page" "size" "I", .fieldLink RX2 9 "PegField$Page" "codes" "[I", .methodLink RX2 33 yX2_placesTold, .instanceMethod yX2_placesTold, .selects RX2 yX2_placesTold yX2_placesTold, .code yX2_placesTold cX2_placesTold 1 (some .int), .methodLink RX2 30 yX2_kindAt, .instanceMethod yX2_kindAt, .selects RX2 yX2_kindAt yX2_kindAt, .code yX2_kindAt cX2_kindAt 4 (some .int), .methodLink RX2 37 yX2_pegsBefore, .instanceMethod yX2_pegsBefore, .selects RX2 yX2_pegsBefore yX2_pegsBefore, .code yX2_pegsBefore cX2_pegsBefore 4 (some .int)] ++ wsX20)
def wsX2_firstFault_r1 : List Cond := [Cond.fieldLink RX2 15 "PegField$Page" "size" "I", Cond.methodLink RX2 40 yX2_fits, Cond.instanceMethod yX2_fits, Cond.selects RX2 yX2_fits yX2_fits, Cond.initialized RX2, Cond.code yX2_fits cX2_fits 3 (some .boolean), Cond.methodLink RX2 27 yX2_digitAt, Cond.instanceMethod yX2_digitAt, Cond.selects RX2 yX2_digitAt yX2_digitAt, Cond.code yX2_digitAt cX2_digitAt 3 (some .int), Cond.methodLink RX2 19 yX2_codeAt, Cond.instanceMethod yX2_codeAt, Cond.selects RX2 yX2_codeAt yX2_codeAt, Cond.code yX2_codeAt cX2_codeAt 2 (some .int), Cond.fieldLink RX2 9 "PegField$Page" "codes" "[I", Cond.methodLink RX2 33 yX2_placesTold, Cond.instanceMethod yX2_placesTold, Cond.selects RX2 yX2_placesTold yX2_placesTold, Cond.code yX2_placesTold cX2_placesTold 1 (some .int), Cond.methodLink RX2 30 yX2_kindAt, Cond.instanceMethod yX2_kindAt, Cond.selects RX2 yX2_kindAt yX2_kindAt, Cond.code yX2_kindAt cX2_kindAt 4 (some .int), Cond.methodLink RX2 37 yX2_pegsBefore]
def wsX2_firstFault_r2 : List Cond := [Cond.instanceMethod yX2_pegsBefore, Cond.selects RX2 yX2_pegsBefore yX2_pegsBefore, Cond.code yX2_pegsBefore cX2_pegsBefore 4 (some .int)]
def wsX2_firstFault : List Cond := .code yX2_firstFault cX2_firstFault 2 (some .int) :: ((wsX2_firstFault_r1 ++ wsX2_firstFault_r2) ++ wsX20)
def wsX2_isBoard_r1 : List Cond := [Cond.fieldLink RX2 15 "PegField$Page" "size" "I", Cond.methodLink RX2 33 yX2_placesTold, Cond.instanceMethod yX2_placesTold, Cond.selects RX2 yX2_placesTold yX2_placesTold, Cond.initialized RX2, Cond.code yX2_placesTold cX2_placesTold 1 (some .int), Cond.methodLink RX2 27 yX2_digitAt, Cond.instanceMethod yX2_digitAt, Cond.selects RX2 yX2_digitAt yX2_digitAt, Cond.code yX2_digitAt cX2_digitAt 3 (some .int), Cond.methodLink RX2 19 yX2_codeAt, Cond.instanceMethod yX2_codeAt, Cond.selects RX2 yX2_codeAt yX2_codeAt, Cond.code yX2_codeAt cX2_codeAt 2 (some .int), Cond.fieldLink RX2 9 "PegField$Page" "codes" "[I", Cond.methodLink RX2 44 yX2_firstFault, Cond.instanceMethod yX2_firstFault, Cond.selects RX2 yX2_firstFault yX2_firstFault, Cond.code yX2_firstFault cX2_firstFault 2 (some .int), Cond.methodLink RX2 40 yX2_fits, Cond.instanceMethod yX2_fits, Cond.selects RX2 yX2_fits yX2_fits, Cond.code yX2_fits cX2_fits 3 (some .boolean), Cond.methodLink RX2 30 yX2_kindAt]
def wsX2_isBoard_r2 : List Cond := [Cond.instanceMethod yX2_kindAt, Cond.selects RX2 yX2_kindAt yX2_kindAt, Cond.code yX2_kindAt cX2_kindAt 4 (some .int), Cond.methodLink RX2 37 yX2_pegsBefore, Cond.instanceMethod yX2_pegsBefore, Cond.selects RX2 yX2_pegsBefore yX2_pegsBefore, Cond.code yX2_pegsBefore cX2_pegsBefore 4 (some .int)]
def wsX2_isBoard : List Cond := .code yX2_isBoard cX2_isBoard 1 (some .boolean) :: ((wsX2_isBoard_r1 ++ wsX2_isBoard_r2) ++ wsX20)
def wsX3_init : List Cond := .code yX3_init cX3_init 1 none :: ([.methodLink RX3 3 objectInit, .instanceMethod objectInit, .code objectInit ⟨#[0xb1]⟩ 1 none, .arrayClass .int, .fieldLink RX3 9 "PegField$Seen" "pegs" "[I", .fieldLink RX3 15 "PegField$Seen" "sorts" "[I"] ++ wsX30)
def wsX3_append : List Cond := .code yX3_append cX3_append 3 (some .boolean) :: ([.fieldLink RX3 18 "PegField$Seen" "size" "I", .fieldLink RX3 9 "PegField$Seen" "pegs" "[I", .fieldLink RX3 15 "PegField$Seen" "sorts" "[I"] ++ wsX30)
def wsX3_sortsOf : List Cond := .code yX3_sortsOf cX3_sortsOf 4 (some .int) :: ([.fieldLink RX3 18 "PegField$Seen" "size" "I", .fieldLink RX3 9 "PegField$Seen" "pegs" "[I", .fieldLink RX3 15 "PegField$Seen" "sorts" "[I"] ++ wsX30)
def wsX3_copyFrom : List Cond := .code yX3_copyFrom cX3_copyFrom 3 none :: ([.fieldLink RX3 18 "PegField$Seen" "size" "I", .fieldLink RX3 9 "PegField$Seen" "pegs" "[I", .fieldLink RX3 15 "PegField$Seen" "sorts" "[I"] ++ wsX30)
def wsX4_init : List Cond := .code yX4_init cX4_init 2 none :: ([.methodLink RX4 3 objectInit, .instanceMethod objectInit, .code objectInit ⟨#[0xb1]⟩ 1 none, .arrayClass .int, .fieldLink RX4 9 "PegField$State" "kinds" "[I", .fieldLink RX4 15 "PegField$State" "homes" "[I", .fieldLink RX4 18 "PegField$State" "tenants" "[I", .fieldLink RX4 21 "PegField$State" "grid" "LPegField$Grid;"] ++ wsX40)
def wsX4_isPeg : List Cond := .code yX4_isPeg cX4_isPeg 2 (some .boolean) :: ([.fieldLink RX4 29 "PegField$State" "pegs" "I"] ++ wsX40)
def wsX4_set : List Cond := .code yX4_set cX4_set 3 none :: ([.fieldLink RX4 21 "PegField$State" "grid" "LPegField$Grid;", .fieldLink RX4 15 "PegField$State" "homes" "[I", .fieldLink RX4 18 "PegField$State" "tenants" "[I", .fieldLink RX4 32 "PegField$State" "onBoard" "I", .methodLink RX4 59 yX4_isPeg, .instanceMethod yX4_isPeg, .selects RX4 yX4_isPeg yX4_isPeg, .initialized RX4, .code yX4_isPeg cX4_isPeg 2 (some .boolean), .fieldLink RX4 29 "PegField$State" "pegs" "I", .methodLink RX4 63 yX0_has, .instanceMethod yX0_has, .selects RX0 yX0_has yX0_has, .initialized RX0, .code yX0_has cX0_has 2 (some .boolean), .fieldLink RX0 22 "PegField$Grid" "places" "I"] ++ wsX40 ++ wsX00)
def wsX4_addPeg : List Cond := .code yX4_addPeg cX4_addPeg 4 none :: ([.fieldLink RX4 29 "PegField$State" "pegs" "I", .fieldLink RX4 9 "PegField$State" "kinds" "[I", .fieldLink RX4 15 "PegField$State" "homes" "[I", .methodLink RX4 56 yX4_set, .instanceMethod yX4_set, .selects RX4 yX4_set yX4_set, .initialized RX4, .code yX4_set cX4_set 3 none, .fieldLink RX4 21 "PegField$State" "grid" "LPegField$Grid;", .fieldLink RX4 18 "PegField$State" "tenants" "[I", .fieldLink RX4 32 "PegField$State" "onBoard" "I", .methodLink RX4 59 yX4_isPeg, .instanceMethod yX4_isPeg, .selects RX4 yX4_isPeg yX4_isPeg, .code yX4_isPeg cX4_isPeg 2 (some .boolean), .methodLink RX4 63 yX0_has, .instanceMethod yX0_has, .selects RX0 yX0_has yX0_has, .initialized RX0, .code yX0_has cX0_has 2 (some .boolean), .fieldLink RX0 22 "PegField$Grid" "places" "I"] ++ wsX40 ++ wsX00)
def wsX4_read_r1 : List Cond := [Cond.fieldLink RX4 25 "PegField$State" "holes" "I", Cond.fieldLink RX4 29 "PegField$State" "pegs" "I", Cond.fieldLink RX4 32 "PegField$State" "onBoard" "I", Cond.fieldLink RX4 35 "PegField$State" "jumps" "I", Cond.fieldLink RX4 18 "PegField$State" "tenants" "[I", Cond.fieldLink RX4 21 "PegField$State" "grid" "LPegField$Grid;", Cond.methodLink RX4 43 yX2_codeAt, Cond.instanceMethod yX2_codeAt, Cond.selects RX2 yX2_codeAt yX2_codeAt, Cond.initialized RX2, Cond.code yX2_codeAt cX2_codeAt 2 (some .int), Cond.fieldLink RX2 15 "PegField$Page" "size" "I", Cond.fieldLink RX2 9 "PegField$Page" "codes" "[I", Cond.methodLink RX4 49 yX2_kindAt, Cond.instanceMethod yX2_kindAt, Cond.selects RX2 yX2_kindAt yX2_kindAt, Cond.code yX2_kindAt cX2_kindAt 4 (some .int), Cond.methodLink RX2 19 yX2_codeAt, Cond.methodLink RX4 52 yX4_addPeg, Cond.instanceMethod yX4_addPeg, Cond.selects RX4 yX4_addPeg yX4_addPeg, Cond.initialized RX4, Cond.code yX4_addPeg cX4_addPeg 4 none, Cond.fieldLink RX4 9 "PegField$State" "kinds" "[I"]
def wsX4_read_r2 : List Cond := [Cond.fieldLink RX4 15 "PegField$State" "homes" "[I", Cond.methodLink RX4 56 yX4_set, Cond.instanceMethod yX4_set, Cond.selects RX4 yX4_set yX4_set, Cond.code yX4_set cX4_set 3 none, Cond.methodLink RX4 59 yX4_isPeg, Cond.instanceMethod yX4_isPeg, Cond.selects RX4 yX4_isPeg yX4_isPeg, Cond.code yX4_isPeg cX4_isPeg 2 (some .boolean), Cond.methodLink RX4 63 yX0_has, Cond.instanceMethod yX0_has, Cond.selects RX0 yX0_has yX0_has, Cond.initialized RX0, Cond.code yX0_has cX0_has 2 (some .boolean), Cond.fieldLink RX0 22 "PegField$Grid" "places" "I"]
def wsX4_read : List Cond := .code yX4_read cX4_read 3 none :: ((wsX4_read_r1 ++ wsX4_read_r2) ++ wsX40 ++ wsX00 ++ wsX20)
def wsX4_addPlain_r1 : List Cond := [Cond.methodLink RX4 52 yX4_addPeg, Cond.instanceMethod yX4_addPeg, Cond.selects RX4 yX4_addPeg yX4_addPeg, Cond.initialized RX4, Cond.code yX4_addPeg cX4_addPeg 4 none, Cond.fieldLink RX4 29 "PegField$State" "pegs" "I", Cond.fieldLink RX4 9 "PegField$State" "kinds" "[I", Cond.fieldLink RX4 15 "PegField$State" "homes" "[I", Cond.methodLink RX4 56 yX4_set, Cond.instanceMethod yX4_set, Cond.selects RX4 yX4_set yX4_set, Cond.code yX4_set cX4_set 3 none, Cond.fieldLink RX4 21 "PegField$State" "grid" "LPegField$Grid;", Cond.fieldLink RX4 18 "PegField$State" "tenants" "[I", Cond.fieldLink RX4 32 "PegField$State" "onBoard" "I", Cond.methodLink RX4 59 yX4_isPeg, Cond.instanceMethod yX4_isPeg, Cond.selects RX4 yX4_isPeg yX4_isPeg, Cond.code yX4_isPeg cX4_isPeg 2 (some .boolean), Cond.methodLink RX4 63 yX0_has, Cond.instanceMethod yX0_has, Cond.selects RX0 yX0_has yX0_has, Cond.initialized RX0, Cond.code yX0_has cX0_has 2 (some .boolean)]
def wsX4_addPlain_r2 : List Cond := [Cond.fieldLink RX0 22 "PegField$Grid" "places" "I"]
def wsX4_addPlain : List Cond := .code yX4_addPlain cX4_addPlain 2 none :: ((wsX4_addPlain_r1 ++ wsX4_addPlain_r2) ++ wsX40 ++ wsX00)
def wsX4_copyFrom : List Cond := .code yX4_copyFrom cX4_copyFrom 3 none :: ([.fieldLink RX4 25 "PegField$State" "holes" "I", .fieldLink RX4 29 "PegField$State" "pegs" "I", .fieldLink RX4 32 "PegField$State" "onBoard" "I", .fieldLink RX4 35 "PegField$State" "jumps" "I", .fieldLink RX4 9 "PegField$State" "kinds" "[I", .fieldLink RX4 15 "PegField$State" "homes" "[I", .fieldLink RX4 18 "PegField$State" "tenants" "[I"] ++ wsX40)
def wsX4_kindOf : List Cond := .code yX4_kindOf cX4_kindOf 2 (some .int) :: ([.fieldLink RX4 9 "PegField$State" "kinds" "[I", .methodLink RX4 59 yX4_isPeg, .instanceMethod yX4_isPeg, .selects RX4 yX4_isPeg yX4_isPeg, .initialized RX4, .code yX4_isPeg cX4_isPeg 2 (some .boolean), .fieldLink RX4 29 "PegField$State" "pegs" "I"] ++ wsX40)
def wsX4_homeOf : List Cond := .code yX4_homeOf cX4_homeOf 2 (some .int) :: ([.fieldLink RX4 15 "PegField$State" "homes" "[I", .methodLink RX4 59 yX4_isPeg, .instanceMethod yX4_isPeg, .selects RX4 yX4_isPeg yX4_isPeg, .initialized RX4, .code yX4_isPeg cX4_isPeg 2 (some .boolean), .fieldLink RX4 29 "PegField$State" "pegs" "I"] ++ wsX40)
def wsX4_turn : List Cond := .code yX4_turn cX4_turn 3 none :: ([.fieldLink RX4 9 "PegField$State" "kinds" "[I", .methodLink RX4 59 yX4_isPeg, .instanceMethod yX4_isPeg, .selects RX4 yX4_isPeg yX4_isPeg, .initialized RX4, .code yX4_isPeg cX4_isPeg 2 (some .boolean), .fieldLink RX4 29 "PegField$State" "pegs" "I"] ++ wsX40)
def wsX5_hasBit : List Cond := .code yX5_hasBit cX5_hasBit 2 (some .boolean) :: ([])
def wsX4_isHole : List Cond := .code yX4_isHole cX4_isHole 2 (some .boolean) :: ([.fieldLink RX4 21 "PegField$State" "grid" "LPegField$Grid;", .fieldLink RX4 25 "PegField$State" "holes" "I", .methodLink RX4 63 yX0_has, .instanceMethod yX0_has, .selects RX0 yX0_has yX0_has, .initialized RX0, .code yX0_has cX0_has 2 (some .boolean), .fieldLink RX0 22 "PegField$Grid" "places" "I", .static yX5_hasBit, .initialized RX5, .code yX5_hasBit cX5_hasBit 2 (some .boolean)] ++ wsX40 ++ wsX00)
def wsX4_pegIn : List Cond := .code yX4_pegIn cX4_pegIn 2 (some .int) :: ([.fieldLink RX4 21 "PegField$State" "grid" "LPegField$Grid;", .fieldLink RX4 18 "PegField$State" "tenants" "[I", .methodLink RX4 63 yX0_has, .instanceMethod yX0_has, .selects RX0 yX0_has yX0_has, .initialized RX0, .code yX0_has cX0_has 2 (some .boolean), .fieldLink RX0 22 "PegField$Grid" "places" "I"] ++ wsX40 ++ wsX00)
def wsX4_isEmptyHole : List Cond := .code yX4_isEmptyHole cX4_isEmptyHole 2 (some .boolean) :: ([.fieldLink RX4 21 "PegField$State" "grid" "LPegField$Grid;", .fieldLink RX4 25 "PegField$State" "holes" "I", .fieldLink RX4 18 "PegField$State" "tenants" "[I", .methodLink RX4 63 yX0_has, .instanceMethod yX0_has, .selects RX0 yX0_has yX0_has, .initialized RX0, .code yX0_has cX0_has 2 (some .boolean), .fieldLink RX0 22 "PegField$Grid" "places" "I", .static yX5_hasBit, .initialized RX5, .code yX5_hasBit cX5_hasBit 2 (some .boolean)] ++ wsX40 ++ wsX00)
def wsX4_lift : List Cond := .code yX4_lift cX4_lift 2 none :: ([.fieldLink RX4 21 "PegField$State" "grid" "LPegField$Grid;", .fieldLink RX4 15 "PegField$State" "homes" "[I", .fieldLink RX4 18 "PegField$State" "tenants" "[I", .fieldLink RX4 32 "PegField$State" "onBoard" "I", .methodLink RX4 59 yX4_isPeg, .instanceMethod yX4_isPeg, .selects RX4 yX4_isPeg yX4_isPeg, .initialized RX4, .code yX4_isPeg cX4_isPeg 2 (some .boolean), .fieldLink RX4 29 "PegField$State" "pegs" "I", .methodLink RX4 63 yX0_has, .instanceMethod yX0_has, .selects RX0 yX0_has yX0_has, .initialized RX0, .code yX0_has cX0_has 2 (some .boolean), .fieldLink RX0 22 "PegField$Grid" "places" "I"] ++ wsX40 ++ wsX00)
def wsX4_neighbourOf_r1 : List Cond := [Cond.fieldLink RX4 21 "PegField$State" "grid" "LPegField$Grid;", Cond.methodLink RX4 70 yX4_homeOf, Cond.instanceMethod yX4_homeOf, Cond.selects RX4 yX4_homeOf yX4_homeOf, Cond.initialized RX4, Cond.code yX4_homeOf cX4_homeOf 2 (some .int), Cond.fieldLink RX4 15 "PegField$State" "homes" "[I", Cond.methodLink RX4 59 yX4_isPeg, Cond.instanceMethod yX4_isPeg, Cond.selects RX4 yX4_isPeg yX4_isPeg, Cond.code yX4_isPeg cX4_isPeg 2 (some .boolean), Cond.fieldLink RX4 29 "PegField$State" "pegs" "I", Cond.methodLink RX4 73 yX0_next, Cond.instanceMethod yX0_next, Cond.selects RX0 yX0_next yX0_next, Cond.initialized RX0, Cond.code yX0_next cX0_next 4 (some .int), Cond.fieldLink RX0 9 "PegField$Grid" "beside" "[I", Cond.methodLink RX0 35 yX0_has, Cond.instanceMethod yX0_has, Cond.selects RX0 yX0_has yX0_has, Cond.code yX0_has cX0_has 2 (some .boolean), Cond.fieldLink RX0 22 "PegField$Grid" "places" "I", Cond.methodLink RX4 77 yX4_pegIn]
def wsX4_neighbourOf_r2 : List Cond := [Cond.instanceMethod yX4_pegIn, Cond.selects RX4 yX4_pegIn yX4_pegIn, Cond.code yX4_pegIn cX4_pegIn 2 (some .int), Cond.fieldLink RX4 18 "PegField$State" "tenants" "[I", Cond.methodLink RX4 63 yX0_has]
def wsX4_neighbourOf : List Cond := .code yX4_neighbourOf cX4_neighbourOf 3 (some .int) :: ((wsX4_neighbourOf_r1 ++ wsX4_neighbourOf_r2) ++ wsX40 ++ wsX00)
def wsX5_kindGoes : List Cond := .code yX5_kindGoes cX5_kindGoes 2 (some .boolean) :: ([.fieldLink RX5 294 "PegField" "WHO_GOES" "[I", .methodLink RX5 123 yX5_hasBit, .static yX5_hasBit, .initialized RX5, .code yX5_hasBit cX5_hasBit 2 (some .boolean)])
def wsX5_kindCould : List Cond := .code yX5_kindCould cX5_kindCould 2 (some .boolean) :: ([.fieldLink RX5 203 "PegField" "WHO_COULD" "[I", .methodLink RX5 123 yX5_hasBit, .static yX5_hasBit, .initialized RX5, .code yX5_hasBit cX5_hasBit 2 (some .boolean)])
def wsX4_targetOf_r1 : List Cond := [Cond.fieldLink RX4 21 "PegField$State" "grid" "LPegField$Grid;", Cond.methodLink RX4 70 yX4_homeOf, Cond.instanceMethod yX4_homeOf, Cond.selects RX4 yX4_homeOf yX4_homeOf, Cond.initialized RX4, Cond.code yX4_homeOf cX4_homeOf 2 (some .int), Cond.fieldLink RX4 15 "PegField$State" "homes" "[I", Cond.methodLink RX4 59 yX4_isPeg, Cond.instanceMethod yX4_isPeg, Cond.selects RX4 yX4_isPeg yX4_isPeg, Cond.code yX4_isPeg cX4_isPeg 2 (some .boolean), Cond.fieldLink RX4 29 "PegField$State" "pegs" "I", Cond.methodLink RX4 73 yX0_next, Cond.instanceMethod yX0_next, Cond.selects RX0 yX0_next yX0_next, Cond.initialized RX0, Cond.code yX0_next cX0_next 4 (some .int), Cond.fieldLink RX0 9 "PegField$Grid" "beside" "[I", Cond.methodLink RX0 35 yX0_has, Cond.instanceMethod yX0_has, Cond.selects RX0 yX0_has yX0_has, Cond.code yX0_has cX0_has 2 (some .boolean), Cond.fieldLink RX0 22 "PegField$Grid" "places" "I", Cond.methodLink RX4 77 yX4_pegIn]
def wsX4_targetOf_r2 : List Cond := [Cond.instanceMethod yX4_pegIn, Cond.selects RX4 yX4_pegIn yX4_pegIn, Cond.code yX4_pegIn cX4_pegIn 2 (some .int), Cond.fieldLink RX4 18 "PegField$State" "tenants" "[I", Cond.methodLink RX4 63 yX0_has, Cond.methodLink RX4 80 yX4_kindOf, Cond.instanceMethod yX4_kindOf, Cond.selects RX4 yX4_kindOf yX4_kindOf, Cond.code yX4_kindOf cX4_kindOf 2 (some .int), Cond.fieldLink RX4 9 "PegField$State" "kinds" "[I", Cond.static yX5_kindGoes, Cond.initialized RX5, Cond.code yX5_kindGoes cX5_kindGoes 2 (some .boolean), Cond.fieldLink RX5 294 "PegField" "WHO_GOES" "[I", Cond.methodLink RX5 123 yX5_hasBit, Cond.static yX5_hasBit, Cond.code yX5_hasBit cX5_hasBit 2 (some .boolean), Cond.static yX5_kindCould, Cond.code yX5_kindCould cX5_kindCould 2 (some .boolean), Cond.fieldLink RX5 203 "PegField" "WHO_COULD" "[I", Cond.methodLink RX4 89 yX4_isEmptyHole, Cond.instanceMethod yX4_isEmptyHole, Cond.selects RX4 yX4_isEmptyHole yX4_isEmptyHole, Cond.code yX4_isEmptyHole cX4_isEmptyHole 2 (some .boolean)]
def wsX4_targetOf_r3 : List Cond := [Cond.fieldLink RX4 25 "PegField$State" "holes" "I"]
def wsX4_targetOf : List Cond := .code yX4_targetOf cX4_targetOf 6 (some .int) :: ((wsX4_targetOf_r1 ++ (wsX4_targetOf_r2 ++ wsX4_targetOf_r3)) ++ wsX40 ++ wsX00)
def wsX4_targetsOf_r1 : List Cond := [Cond.methodLink RX4 92 yX4_targetOf, Cond.instanceMethod yX4_targetOf, Cond.selects RX4 yX4_targetOf yX4_targetOf, Cond.initialized RX4, Cond.code yX4_targetOf cX4_targetOf 6 (some .int), Cond.fieldLink RX4 21 "PegField$State" "grid" "LPegField$Grid;", Cond.methodLink RX4 70 yX4_homeOf, Cond.instanceMethod yX4_homeOf, Cond.selects RX4 yX4_homeOf yX4_homeOf, Cond.code yX4_homeOf cX4_homeOf 2 (some .int), Cond.fieldLink RX4 15 "PegField$State" "homes" "[I", Cond.methodLink RX4 59 yX4_isPeg, Cond.instanceMethod yX4_isPeg, Cond.selects RX4 yX4_isPeg yX4_isPeg, Cond.code yX4_isPeg cX4_isPeg 2 (some .boolean), Cond.fieldLink RX4 29 "PegField$State" "pegs" "I", Cond.methodLink RX4 73 yX0_next, Cond.instanceMethod yX0_next, Cond.selects RX0 yX0_next yX0_next, Cond.initialized RX0, Cond.code yX0_next cX0_next 4 (some .int), Cond.fieldLink RX0 9 "PegField$Grid" "beside" "[I", Cond.methodLink RX0 35 yX0_has, Cond.instanceMethod yX0_has]
def wsX4_targetsOf_r2 : List Cond := [Cond.selects RX0 yX0_has yX0_has, Cond.code yX0_has cX0_has 2 (some .boolean), Cond.fieldLink RX0 22 "PegField$Grid" "places" "I", Cond.methodLink RX4 77 yX4_pegIn, Cond.instanceMethod yX4_pegIn, Cond.selects RX4 yX4_pegIn yX4_pegIn, Cond.code yX4_pegIn cX4_pegIn 2 (some .int), Cond.fieldLink RX4 18 "PegField$State" "tenants" "[I", Cond.methodLink RX4 63 yX0_has, Cond.methodLink RX4 80 yX4_kindOf, Cond.instanceMethod yX4_kindOf, Cond.selects RX4 yX4_kindOf yX4_kindOf, Cond.code yX4_kindOf cX4_kindOf 2 (some .int), Cond.fieldLink RX4 9 "PegField$State" "kinds" "[I", Cond.static yX5_kindGoes, Cond.initialized RX5, Cond.code yX5_kindGoes cX5_kindGoes 2 (some .boolean), Cond.fieldLink RX5 294 "PegField" "WHO_GOES" "[I", Cond.methodLink RX5 123 yX5_hasBit, Cond.static yX5_hasBit, Cond.code yX5_hasBit cX5_hasBit 2 (some .boolean), Cond.static yX5_kindCould, Cond.code yX5_kindCould cX5_kindCould 2 (some .boolean), Cond.fieldLink RX5 203 "PegField" "WHO_COULD" "[I"]
def wsX4_targetsOf_r3 : List Cond := [Cond.methodLink RX4 89 yX4_isEmptyHole, Cond.instanceMethod yX4_isEmptyHole, Cond.selects RX4 yX4_isEmptyHole yX4_isEmptyHole, Cond.code yX4_isEmptyHole cX4_isEmptyHole 2 (some .boolean), Cond.fieldLink RX4 25 "PegField$State" "holes" "I"]
def wsX4_targetsOf : List Cond := .code yX4_targetsOf cX4_targetsOf 5 (some .int) :: ((wsX4_targetsOf_r1 ++ (wsX4_targetsOf_r2 ++ wsX4_targetsOf_r3)) ++ wsX40 ++ wsX00)
def wsX4_directionTo_r1 : List Cond := [Cond.methodLink RX4 92 yX4_targetOf, Cond.instanceMethod yX4_targetOf, Cond.selects RX4 yX4_targetOf yX4_targetOf, Cond.initialized RX4, Cond.code yX4_targetOf cX4_targetOf 6 (some .int), Cond.fieldLink RX4 21 "PegField$State" "grid" "LPegField$Grid;", Cond.methodLink RX4 70 yX4_homeOf, Cond.instanceMethod yX4_homeOf, Cond.selects RX4 yX4_homeOf yX4_homeOf, Cond.code yX4_homeOf cX4_homeOf 2 (some .int), Cond.fieldLink RX4 15 "PegField$State" "homes" "[I", Cond.methodLink RX4 59 yX4_isPeg, Cond.instanceMethod yX4_isPeg, Cond.selects RX4 yX4_isPeg yX4_isPeg, Cond.code yX4_isPeg cX4_isPeg 2 (some .boolean), Cond.fieldLink RX4 29 "PegField$State" "pegs" "I", Cond.methodLink RX4 73 yX0_next, Cond.instanceMethod yX0_next, Cond.selects RX0 yX0_next yX0_next, Cond.initialized RX0, Cond.code yX0_next cX0_next 4 (some .int), Cond.fieldLink RX0 9 "PegField$Grid" "beside" "[I", Cond.methodLink RX0 35 yX0_has, Cond.instanceMethod yX0_has]
def wsX4_directionTo_r2 : List Cond := [Cond.selects RX0 yX0_has yX0_has, Cond.code yX0_has cX0_has 2 (some .boolean), Cond.fieldLink RX0 22 "PegField$Grid" "places" "I", Cond.methodLink RX4 77 yX4_pegIn, Cond.instanceMethod yX4_pegIn, Cond.selects RX4 yX4_pegIn yX4_pegIn, Cond.code yX4_pegIn cX4_pegIn 2 (some .int), Cond.fieldLink RX4 18 "PegField$State" "tenants" "[I", Cond.methodLink RX4 63 yX0_has, Cond.methodLink RX4 80 yX4_kindOf, Cond.instanceMethod yX4_kindOf, Cond.selects RX4 yX4_kindOf yX4_kindOf, Cond.code yX4_kindOf cX4_kindOf 2 (some .int), Cond.fieldLink RX4 9 "PegField$State" "kinds" "[I", Cond.static yX5_kindGoes, Cond.initialized RX5, Cond.code yX5_kindGoes cX5_kindGoes 2 (some .boolean), Cond.fieldLink RX5 294 "PegField" "WHO_GOES" "[I", Cond.methodLink RX5 123 yX5_hasBit, Cond.static yX5_hasBit, Cond.code yX5_hasBit cX5_hasBit 2 (some .boolean), Cond.static yX5_kindCould, Cond.code yX5_kindCould cX5_kindCould 2 (some .boolean), Cond.fieldLink RX5 203 "PegField" "WHO_COULD" "[I"]
def wsX4_directionTo_r3 : List Cond := [Cond.methodLink RX4 89 yX4_isEmptyHole, Cond.instanceMethod yX4_isEmptyHole, Cond.selects RX4 yX4_isEmptyHole yX4_isEmptyHole, Cond.code yX4_isEmptyHole cX4_isEmptyHole 2 (some .boolean), Cond.fieldLink RX4 25 "PegField$State" "holes" "I"]
def wsX4_directionTo : List Cond := .code yX4_directionTo cX4_directionTo 4 (some .int) :: ((wsX4_directionTo_r1 ++ (wsX4_directionTo_r2 ++ wsX4_directionTo_r3)) ++ wsX40 ++ wsX00)
def wsJ6_bitCount_0f7a4 : List Cond := .code yJ6_bitCount_0f7a4 cJ6_bitCount_0f7a4 1 (some .int) :: ([.constant RJ6 265 (1431655765), .constant RJ6 266 (858993459), .constant RJ6 267 (252645135)])
def wsX4_choices_r1 : List Cond := [Cond.fieldLink RX4 29 "PegField$State" "pegs" "I", Cond.methodLink RX4 95 yX4_targetsOf, Cond.instanceMethod yX4_targetsOf, Cond.selects RX4 yX4_targetsOf yX4_targetsOf, Cond.initialized RX4, Cond.code yX4_targetsOf cX4_targetsOf 5 (some .int), Cond.methodLink RX4 92 yX4_targetOf, Cond.instanceMethod yX4_targetOf, Cond.selects RX4 yX4_targetOf yX4_targetOf, Cond.code yX4_targetOf cX4_targetOf 6 (some .int), Cond.fieldLink RX4 21 "PegField$State" "grid" "LPegField$Grid;", Cond.methodLink RX4 70 yX4_homeOf, Cond.instanceMethod yX4_homeOf, Cond.selects RX4 yX4_homeOf yX4_homeOf, Cond.code yX4_homeOf cX4_homeOf 2 (some .int), Cond.fieldLink RX4 15 "PegField$State" "homes" "[I", Cond.methodLink RX4 59 yX4_isPeg, Cond.instanceMethod yX4_isPeg, Cond.selects RX4 yX4_isPeg yX4_isPeg, Cond.code yX4_isPeg cX4_isPeg 2 (some .boolean), Cond.methodLink RX4 73 yX0_next, Cond.instanceMethod yX0_next, Cond.selects RX0 yX0_next yX0_next, Cond.initialized RX0]
def wsX4_choices_r2 : List Cond := [Cond.code yX0_next cX0_next 4 (some .int), Cond.fieldLink RX0 9 "PegField$Grid" "beside" "[I", Cond.methodLink RX0 35 yX0_has, Cond.instanceMethod yX0_has, Cond.selects RX0 yX0_has yX0_has, Cond.code yX0_has cX0_has 2 (some .boolean), Cond.fieldLink RX0 22 "PegField$Grid" "places" "I", Cond.methodLink RX4 77 yX4_pegIn, Cond.instanceMethod yX4_pegIn, Cond.selects RX4 yX4_pegIn yX4_pegIn, Cond.code yX4_pegIn cX4_pegIn 2 (some .int), Cond.fieldLink RX4 18 "PegField$State" "tenants" "[I", Cond.methodLink RX4 63 yX0_has, Cond.methodLink RX4 80 yX4_kindOf, Cond.instanceMethod yX4_kindOf, Cond.selects RX4 yX4_kindOf yX4_kindOf, Cond.code yX4_kindOf cX4_kindOf 2 (some .int), Cond.fieldLink RX4 9 "PegField$State" "kinds" "[I", Cond.static yX5_kindGoes, Cond.initialized RX5, Cond.code yX5_kindGoes cX5_kindGoes 2 (some .boolean), Cond.fieldLink RX5 294 "PegField" "WHO_GOES" "[I", Cond.methodLink RX5 123 yX5_hasBit, Cond.static yX5_hasBit]
def wsX4_choices_r3 : List Cond := [Cond.code yX5_hasBit cX5_hasBit 2 (some .boolean), Cond.static yX5_kindCould, Cond.code yX5_kindCould cX5_kindCould 2 (some .boolean), Cond.fieldLink RX5 203 "PegField" "WHO_COULD" "[I", Cond.methodLink RX4 89 yX4_isEmptyHole, Cond.instanceMethod yX4_isEmptyHole, Cond.selects RX4 yX4_isEmptyHole yX4_isEmptyHole, Cond.code yX4_isEmptyHole cX4_isEmptyHole 2 (some .boolean), Cond.fieldLink RX4 25 "PegField$State" "holes" "I", Cond.methodLink RX4 98 yJ6_bitCount_0f7a4, Cond.static yJ6_bitCount_0f7a4, Cond.initialized RJ6, Cond.code yJ6_bitCount_0f7a4 cJ6_bitCount_0f7a4 1 (some .int), Cond.constant RJ6 265 (1431655765), Cond.constant RJ6 266 (858993459), Cond.constant RJ6 267 (252645135)]
def wsX4_choices : List Cond := .code yX4_choices cX4_choices 3 (some .int) :: ((wsX4_choices_r1 ++ (wsX4_choices_r2 ++ wsX4_choices_r3)) ++ wsX40 ++ wsX00)
def wsX4_leap_r1 : List Cond := [Cond.methodLink RX4 110 yX4_lift, Cond.instanceMethod yX4_lift, Cond.selects RX4 yX4_lift yX4_lift, Cond.initialized RX4, Cond.code yX4_lift cX4_lift 2 none, Cond.fieldLink RX4 21 "PegField$State" "grid" "LPegField$Grid;", Cond.fieldLink RX4 15 "PegField$State" "homes" "[I", Cond.fieldLink RX4 18 "PegField$State" "tenants" "[I", Cond.fieldLink RX4 32 "PegField$State" "onBoard" "I", Cond.methodLink RX4 59 yX4_isPeg, Cond.instanceMethod yX4_isPeg, Cond.selects RX4 yX4_isPeg yX4_isPeg, Cond.code yX4_isPeg cX4_isPeg 2 (some .boolean), Cond.fieldLink RX4 29 "PegField$State" "pegs" "I", Cond.methodLink RX4 63 yX0_has, Cond.instanceMethod yX0_has, Cond.selects RX0 yX0_has yX0_has, Cond.initialized RX0, Cond.code yX0_has cX0_has 2 (some .boolean), Cond.fieldLink RX0 22 "PegField$Grid" "places" "I", Cond.methodLink RX4 80 yX4_kindOf, Cond.instanceMethod yX4_kindOf, Cond.selects RX4 yX4_kindOf yX4_kindOf, Cond.code yX4_kindOf cX4_kindOf 2 (some .int)]
def wsX4_leap_r2 : List Cond := [Cond.fieldLink RX4 9 "PegField$State" "kinds" "[I", Cond.static yX5_kindCould, Cond.initialized RX5, Cond.code yX5_kindCould cX5_kindCould 2 (some .boolean), Cond.fieldLink RX5 203 "PegField" "WHO_COULD" "[I", Cond.methodLink RX5 123 yX5_hasBit, Cond.static yX5_hasBit, Cond.code yX5_hasBit cX5_hasBit 2 (some .boolean), Cond.methodLink RX4 56 yX4_set, Cond.instanceMethod yX4_set, Cond.selects RX4 yX4_set yX4_set, Cond.code yX4_set cX4_set 3 none]
def wsX4_leap : List Cond := .code yX4_leap cX4_leap 4 none :: ((wsX4_leap_r1 ++ wsX4_leap_r2) ++ wsX40 ++ wsX00)
def wsX4_leapByChoice_r1 : List Cond := [Cond.fieldLink RX4 29 "PegField$State" "pegs" "I", Cond.methodLink RX4 92 yX4_targetOf, Cond.instanceMethod yX4_targetOf, Cond.selects RX4 yX4_targetOf yX4_targetOf, Cond.initialized RX4, Cond.code yX4_targetOf cX4_targetOf 6 (some .int), Cond.fieldLink RX4 21 "PegField$State" "grid" "LPegField$Grid;", Cond.methodLink RX4 70 yX4_homeOf, Cond.instanceMethod yX4_homeOf, Cond.selects RX4 yX4_homeOf yX4_homeOf, Cond.code yX4_homeOf cX4_homeOf 2 (some .int), Cond.fieldLink RX4 15 "PegField$State" "homes" "[I", Cond.methodLink RX4 59 yX4_isPeg, Cond.instanceMethod yX4_isPeg, Cond.selects RX4 yX4_isPeg yX4_isPeg, Cond.code yX4_isPeg cX4_isPeg 2 (some .boolean), Cond.methodLink RX4 73 yX0_next, Cond.instanceMethod yX0_next, Cond.selects RX0 yX0_next yX0_next, Cond.initialized RX0, Cond.code yX0_next cX0_next 4 (some .int), Cond.fieldLink RX0 9 "PegField$Grid" "beside" "[I", Cond.methodLink RX0 35 yX0_has, Cond.instanceMethod yX0_has]
def wsX4_leapByChoice_r2 : List Cond := [Cond.selects RX0 yX0_has yX0_has, Cond.code yX0_has cX0_has 2 (some .boolean), Cond.fieldLink RX0 22 "PegField$Grid" "places" "I", Cond.methodLink RX4 77 yX4_pegIn, Cond.instanceMethod yX4_pegIn, Cond.selects RX4 yX4_pegIn yX4_pegIn, Cond.code yX4_pegIn cX4_pegIn 2 (some .int), Cond.fieldLink RX4 18 "PegField$State" "tenants" "[I", Cond.methodLink RX4 63 yX0_has, Cond.methodLink RX4 80 yX4_kindOf, Cond.instanceMethod yX4_kindOf, Cond.selects RX4 yX4_kindOf yX4_kindOf, Cond.code yX4_kindOf cX4_kindOf 2 (some .int), Cond.fieldLink RX4 9 "PegField$State" "kinds" "[I", Cond.static yX5_kindGoes, Cond.initialized RX5, Cond.code yX5_kindGoes cX5_kindGoes 2 (some .boolean), Cond.fieldLink RX5 294 "PegField" "WHO_GOES" "[I", Cond.methodLink RX5 123 yX5_hasBit, Cond.static yX5_hasBit, Cond.code yX5_hasBit cX5_hasBit 2 (some .boolean), Cond.static yX5_kindCould, Cond.code yX5_kindCould cX5_kindCould 2 (some .boolean), Cond.fieldLink RX5 203 "PegField" "WHO_COULD" "[I"]
def wsX4_leapByChoice_r3 : List Cond := [Cond.methodLink RX4 89 yX4_isEmptyHole, Cond.instanceMethod yX4_isEmptyHole, Cond.selects RX4 yX4_isEmptyHole yX4_isEmptyHole, Cond.code yX4_isEmptyHole cX4_isEmptyHole 2 (some .boolean), Cond.fieldLink RX4 25 "PegField$State" "holes" "I", Cond.methodLink RX4 103 yX4_neighbourOf, Cond.instanceMethod yX4_neighbourOf, Cond.selects RX4 yX4_neighbourOf yX4_neighbourOf, Cond.code yX4_neighbourOf cX4_neighbourOf 3 (some .int), Cond.methodLink RX4 106 yX4_leap, Cond.instanceMethod yX4_leap, Cond.selects RX4 yX4_leap yX4_leap, Cond.code yX4_leap cX4_leap 4 none, Cond.methodLink RX4 110 yX4_lift, Cond.instanceMethod yX4_lift, Cond.selects RX4 yX4_lift yX4_lift, Cond.code yX4_lift cX4_lift 2 none, Cond.fieldLink RX4 32 "PegField$State" "onBoard" "I", Cond.methodLink RX4 56 yX4_set, Cond.instanceMethod yX4_set, Cond.selects RX4 yX4_set yX4_set, Cond.code yX4_set cX4_set 3 none]
def wsX4_leapByChoice : List Cond := .code yX4_leapByChoice cX4_leapByChoice 6 none :: ((wsX4_leapByChoice_r1 ++ (wsX4_leapByChoice_r2 ++ wsX4_leapByChoice_r3)) ++ wsX40 ++ wsX00)
def wsX4_takeBack_r1 : List Cond := [Cond.fieldLink RX4 21 "PegField$State" "grid" "LPegField$Grid;", Cond.methodLink RX4 110 yX4_lift, Cond.instanceMethod yX4_lift, Cond.selects RX4 yX4_lift yX4_lift, Cond.initialized RX4, Cond.code yX4_lift cX4_lift 2 none, Cond.fieldLink RX4 15 "PegField$State" "homes" "[I", Cond.fieldLink RX4 18 "PegField$State" "tenants" "[I", Cond.fieldLink RX4 32 "PegField$State" "onBoard" "I", Cond.methodLink RX4 59 yX4_isPeg, Cond.instanceMethod yX4_isPeg, Cond.selects RX4 yX4_isPeg yX4_isPeg, Cond.code yX4_isPeg cX4_isPeg 2 (some .boolean), Cond.fieldLink RX4 29 "PegField$State" "pegs" "I", Cond.methodLink RX4 63 yX0_has, Cond.instanceMethod yX0_has, Cond.selects RX0 yX0_has yX0_has, Cond.initialized RX0, Cond.code yX0_has cX0_has 2 (some .boolean), Cond.fieldLink RX0 22 "PegField$Grid" "places" "I", Cond.methodLink RX4 56 yX4_set, Cond.instanceMethod yX4_set, Cond.selects RX4 yX4_set yX4_set, Cond.code yX4_set cX4_set 3 none]
def wsX4_takeBack_r2 : List Cond := [Cond.methodLink RX4 73 yX0_next, Cond.instanceMethod yX0_next, Cond.selects RX0 yX0_next yX0_next, Cond.code yX0_next cX0_next 4 (some .int), Cond.fieldLink RX0 9 "PegField$Grid" "beside" "[I", Cond.methodLink RX0 35 yX0_has]
def wsX4_takeBack : List Cond := .code yX4_takeBack cX4_takeBack 5 none :: ((wsX4_takeBack_r1 ++ wsX4_takeBack_r2) ++ wsX40 ++ wsX00)
def wsX4_aloneBit : List Cond := .code yX4_aloneBit cX4_aloneBit 4 (some .int) :: ([.fieldLink RX4 32 "PegField$State" "onBoard" "I", .fieldLink RX4 29 "PegField$State" "pegs" "I", .methodLink RX4 70 yX4_homeOf, .instanceMethod yX4_homeOf, .selects RX4 yX4_homeOf yX4_homeOf, .initialized RX4, .code yX4_homeOf cX4_homeOf 2 (some .int), .fieldLink RX4 15 "PegField$State" "homes" "[I", .methodLink RX4 59 yX4_isPeg, .instanceMethod yX4_isPeg, .selects RX4 yX4_isPeg yX4_isPeg, .code yX4_isPeg cX4_isPeg 2 (some .boolean)] ++ wsX40)
def wsX5_init_r1 : List Cond := [Cond.methodLink RX5 3 objectInit, Cond.instanceMethod objectInit, Cond.code objectInit ⟨#[0xb1]⟩ 1 none, Cond.classLink RX5 9 RX2, Cond.instantiable RX2 2, Cond.initialized RX2, Cond.fieldLink RX5 12 "PegField" "page" "LPegField$Page;", Cond.classLink RX5 16 RX0, Cond.instantiable RX0 4, Cond.initialized RX0, Cond.fieldLink RX5 19 "PegField" "grid" "LPegField$Grid;", Cond.classLink RX5 23 RX4, Cond.instantiable RX4 8, Cond.initialized RX4, Cond.fieldLink RX5 28 "PegField" "now" "LPegField$State;", Cond.classLink RX5 32 RX3, Cond.instantiable RX3 3, Cond.initialized RX3, Cond.fieldLink RX5 35 "PegField" "seen" "LPegField$Seen;", Cond.fieldLink RX5 39 "PegField" "keptState" "LPegField$State;", Cond.fieldLink RX5 42 "PegField" "keptSeen" "LPegField$Seen;", Cond.fieldLink RX5 45 "PegField" "thought" "LPegField$State;", Cond.classLink RX5 48 RX1, Cond.instantiable RX1 9]
def wsX5_init_r2 : List Cond := [Cond.initialized RX1, Cond.fieldLink RX5 51 "PegField" "outlook" "LPegField$Outcome;", Cond.fieldLink RX5 55 "PegField" "outcomes" "[LPegField$Outcome;", Cond.instanceMethod yX2_init, Cond.code yX2_init cX2_init 1 none, Cond.methodLink RX2 3 objectInit, Cond.arrayClass .int, Cond.fieldLink RX2 9 "PegField$Page" "codes" "[I", Cond.instanceMethod yX0_init, Cond.code yX0_init cX0_init 1 none, Cond.methodLink RX0 3 objectInit, Cond.fieldLink RX0 9 "PegField$Grid" "beside" "[I", Cond.methodLink RX5 25 yX4_init, Cond.instanceMethod yX4_init, Cond.code yX4_init cX4_init 2 none, Cond.methodLink RX4 3 objectInit, Cond.fieldLink RX4 9 "PegField$State" "kinds" "[I", Cond.fieldLink RX4 15 "PegField$State" "homes" "[I", Cond.fieldLink RX4 18 "PegField$State" "tenants" "[I", Cond.fieldLink RX4 21 "PegField$State" "grid" "LPegField$Grid;", Cond.instanceMethod yX3_init, Cond.code yX3_init cX3_init 1 none, Cond.methodLink RX3 3 objectInit, Cond.fieldLink RX3 9 "PegField$Seen" "pegs" "[I"]
def wsX5_init_r3 : List Cond := [Cond.fieldLink RX3 15 "PegField$Seen" "sorts" "[I", Cond.instanceMethod yX1_init, Cond.code yX1_init cX1_init 1 none, Cond.methodLink RX1 3 objectInit]
def wsX5_init : List Cond := .code yX5_init cX5_init 2 none :: ((wsX5_init_r1 ++ (wsX5_init_r2 ++ wsX5_init_r3)) ++ wsX20 ++ wsX50 ++ wsX00 ++ wsX40 ++ wsX30 ++ wsX10)
def wsX5_letter : List Cond := .code yX5_letter cX5_letter 2 (some .int) :: ([.fieldLink RX5 12 "PegField" "page" "LPegField$Page;", .methodLink RX5 59 yX2_append, .instanceMethod yX2_append, .selects RX2 yX2_append yX2_append, .initialized RX2, .code yX2_append cX2_append 2 (some .boolean), .fieldLink RX2 15 "PegField$Page" "size" "I", .fieldLink RX2 9 "PegField$Page" "codes" "[I"] ++ wsX50 ++ wsX20)
def wsX5_blank : List Cond := .code yX5_blank cX5_blank 2 (some .int) :: ([.fieldLink RX5 12 "PegField" "page" "LPegField$Page;"] ++ wsX50 ++ wsX20)
def wsX5_fault_r1 : List Cond := [Cond.fieldLink RX5 12 "PegField" "page" "LPegField$Page;", Cond.methodLink RX5 67 yX2_firstFault, Cond.instanceMethod yX2_firstFault, Cond.selects RX2 yX2_firstFault yX2_firstFault, Cond.initialized RX2, Cond.code yX2_firstFault cX2_firstFault 2 (some .int), Cond.fieldLink RX2 15 "PegField$Page" "size" "I", Cond.methodLink RX2 40 yX2_fits, Cond.instanceMethod yX2_fits, Cond.selects RX2 yX2_fits yX2_fits, Cond.code yX2_fits cX2_fits 3 (some .boolean), Cond.methodLink RX2 27 yX2_digitAt, Cond.instanceMethod yX2_digitAt, Cond.selects RX2 yX2_digitAt yX2_digitAt, Cond.code yX2_digitAt cX2_digitAt 3 (some .int), Cond.methodLink RX2 19 yX2_codeAt, Cond.instanceMethod yX2_codeAt, Cond.selects RX2 yX2_codeAt yX2_codeAt, Cond.code yX2_codeAt cX2_codeAt 2 (some .int), Cond.fieldLink RX2 9 "PegField$Page" "codes" "[I", Cond.methodLink RX2 33 yX2_placesTold, Cond.instanceMethod yX2_placesTold, Cond.selects RX2 yX2_placesTold yX2_placesTold, Cond.code yX2_placesTold cX2_placesTold 1 (some .int)]
def wsX5_fault_r2 : List Cond := [Cond.methodLink RX2 30 yX2_kindAt, Cond.instanceMethod yX2_kindAt, Cond.selects RX2 yX2_kindAt yX2_kindAt, Cond.code yX2_kindAt cX2_kindAt 4 (some .int), Cond.methodLink RX2 37 yX2_pegsBefore, Cond.instanceMethod yX2_pegsBefore, Cond.selects RX2 yX2_pegsBefore yX2_pegsBefore, Cond.code yX2_pegsBefore cX2_pegsBefore 4 (some .int)]
def wsX5_fault : List Cond := .code yX5_fault cX5_fault 1 (some .int) :: ((wsX5_fault_r1 ++ wsX5_fault_r2) ++ wsX50 ++ wsX20)
def wsX5_board_r1 : List Cond := [Cond.fieldLink RX5 12 "PegField" "page" "LPegField$Page;", Cond.fieldLink RX5 19 "PegField" "grid" "LPegField$Grid;", Cond.fieldLink RX5 28 "PegField" "now" "LPegField$State;", Cond.fieldLink RX5 35 "PegField" "seen" "LPegField$Seen;", Cond.fieldLink RX5 88 "PegField" "isKept" "Z", Cond.fieldLink RX5 92 "PegField" "isLooked" "Z", Cond.fieldLink RX5 95 "PegField" "reads" "I", Cond.methodLink RX5 71 yX2_isBoard, Cond.instanceMethod yX2_isBoard, Cond.selects RX2 yX2_isBoard yX2_isBoard, Cond.initialized RX2, Cond.code yX2_isBoard cX2_isBoard 1 (some .boolean), Cond.fieldLink RX2 15 "PegField$Page" "size" "I", Cond.methodLink RX2 33 yX2_placesTold, Cond.instanceMethod yX2_placesTold, Cond.selects RX2 yX2_placesTold yX2_placesTold, Cond.code yX2_placesTold cX2_placesTold 1 (some .int), Cond.methodLink RX2 27 yX2_digitAt, Cond.instanceMethod yX2_digitAt, Cond.selects RX2 yX2_digitAt yX2_digitAt, Cond.code yX2_digitAt cX2_digitAt 3 (some .int), Cond.methodLink RX2 19 yX2_codeAt, Cond.instanceMethod yX2_codeAt, Cond.selects RX2 yX2_codeAt yX2_codeAt]
def wsX5_board_r2 : List Cond := [Cond.code yX2_codeAt cX2_codeAt 2 (some .int), Cond.fieldLink RX2 9 "PegField$Page" "codes" "[I", Cond.methodLink RX2 44 yX2_firstFault, Cond.instanceMethod yX2_firstFault, Cond.selects RX2 yX2_firstFault yX2_firstFault, Cond.code yX2_firstFault cX2_firstFault 2 (some .int), Cond.methodLink RX2 40 yX2_fits, Cond.instanceMethod yX2_fits, Cond.selects RX2 yX2_fits yX2_fits, Cond.code yX2_fits cX2_fits 3 (some .boolean), Cond.methodLink RX2 30 yX2_kindAt, Cond.instanceMethod yX2_kindAt, Cond.selects RX2 yX2_kindAt yX2_kindAt, Cond.code yX2_kindAt cX2_kindAt 4 (some .int), Cond.methodLink RX2 37 yX2_pegsBefore, Cond.instanceMethod yX2_pegsBefore, Cond.selects RX2 yX2_pegsBefore yX2_pegsBefore, Cond.code yX2_pegsBefore cX2_pegsBefore 4 (some .int), Cond.methodLink RX5 75 yX2_digitAt, Cond.methodLink RX5 79 yX0_lay, Cond.instanceMethod yX0_lay, Cond.selects RX0 yX0_lay yX0_lay, Cond.initialized RX0, Cond.code yX0_lay cX0_lay 7 none]
def wsX5_board_r3 : List Cond := [Cond.fieldLink RX0 15 "PegField$Grid" "rows" "I", Cond.fieldLink RX0 19 "PegField$Grid" "columns" "I", Cond.fieldLink RX0 22 "PegField$Grid" "places" "I", Cond.fieldLink RX0 9 "PegField$Grid" "beside" "[I", Cond.methodLink RX0 31 yX0_placeAt, Cond.instanceMethod yX0_placeAt, Cond.selects RX0 yX0_placeAt yX0_placeAt, Cond.code yX0_placeAt cX0_placeAt 4 (some .int), Cond.methodLink RX5 83 yX4_read, Cond.instanceMethod yX4_read, Cond.selects RX4 yX4_read yX4_read, Cond.initialized RX4, Cond.code yX4_read cX4_read 3 none, Cond.fieldLink RX4 25 "PegField$State" "holes" "I", Cond.fieldLink RX4 29 "PegField$State" "pegs" "I", Cond.fieldLink RX4 32 "PegField$State" "onBoard" "I", Cond.fieldLink RX4 35 "PegField$State" "jumps" "I", Cond.fieldLink RX4 18 "PegField$State" "tenants" "[I", Cond.fieldLink RX4 21 "PegField$State" "grid" "LPegField$Grid;", Cond.methodLink RX4 43 yX2_codeAt, Cond.methodLink RX4 49 yX2_kindAt, Cond.methodLink RX4 52 yX4_addPeg, Cond.instanceMethod yX4_addPeg, Cond.selects RX4 yX4_addPeg yX4_addPeg]
def wsX5_board_r4 : List Cond := [Cond.code yX4_addPeg cX4_addPeg 4 none, Cond.fieldLink RX4 9 "PegField$State" "kinds" "[I", Cond.fieldLink RX4 15 "PegField$State" "homes" "[I", Cond.methodLink RX4 56 yX4_set, Cond.instanceMethod yX4_set, Cond.selects RX4 yX4_set yX4_set, Cond.code yX4_set cX4_set 3 none, Cond.methodLink RX4 59 yX4_isPeg, Cond.instanceMethod yX4_isPeg, Cond.selects RX4 yX4_isPeg yX4_isPeg, Cond.code yX4_isPeg cX4_isPeg 2 (some .boolean), Cond.methodLink RX4 63 yX0_has, Cond.instanceMethod yX0_has, Cond.selects RX0 yX0_has yX0_has, Cond.code yX0_has cX0_has 2 (some .boolean)]
def wsX5_board : List Cond := .code yX5_board cX5_board 1 (some .int) :: ((wsX5_board_r1 ++ (wsX5_board_r2 ++ (wsX5_board_r3 ++ wsX5_board_r4))) ++ wsX50 ++ wsX30 ++ wsX20 ++ wsX40 ++ wsX00)
def wsX5_bestQuestion : List Cond := .code yX5_bestQuestion cX5_bestQuestion 5 (some .int) :: ([.fieldLink RX5 203 "PegField" "WHO_COULD" "[I", .methodLink RX5 297 Lib.Math.max.name, .static Lib.Math.max.name, .initialized "java/lang/Math", .code Lib.Math.max.name Lib.Math.max.code 2 (some .int), .methodLink RX5 162 yJ6_bitCount_0f7a4, .static yJ6_bitCount_0f7a4, .initialized RJ6, .code yJ6_bitCount_0f7a4 cJ6_bitCount_0f7a4 1 (some .int), .constant RJ6 265 (1431655765), .constant RJ6 266 (858993459), .constant RJ6 267 (252645135)])
def wsX5_peg_r1 : List Cond := [Cond.fieldLink RX5 28 "PegField" "now" "LPegField$State;", Cond.fieldLink RX5 35 "PegField" "seen" "LPegField$Seen;", Cond.methodLink RX5 101 yX4_isPeg, Cond.instanceMethod yX4_isPeg, Cond.selects RX4 yX4_isPeg yX4_isPeg, Cond.initialized RX4, Cond.code yX4_isPeg cX4_isPeg 2 (some .boolean), Cond.fieldLink RX4 29 "PegField$State" "pegs" "I", Cond.methodLink RX5 104 yX4_kindOf, Cond.instanceMethod yX4_kindOf, Cond.selects RX4 yX4_kindOf yX4_kindOf, Cond.code yX4_kindOf cX4_kindOf 2 (some .int), Cond.fieldLink RX4 9 "PegField$State" "kinds" "[I", Cond.methodLink RX4 59 yX4_isPeg, Cond.methodLink RX5 107 yX4_homeOf, Cond.instanceMethod yX4_homeOf, Cond.selects RX4 yX4_homeOf yX4_homeOf, Cond.code yX4_homeOf cX4_homeOf 2 (some .int), Cond.fieldLink RX4 15 "PegField$State" "homes" "[I", Cond.methodLink RX5 110 yX4_targetsOf, Cond.instanceMethod yX4_targetsOf, Cond.selects RX4 yX4_targetsOf yX4_targetsOf, Cond.code yX4_targetsOf cX4_targetsOf 5 (some .int), Cond.methodLink RX4 92 yX4_targetOf]
def wsX5_peg_r2 : List Cond := [Cond.instanceMethod yX4_targetOf, Cond.selects RX4 yX4_targetOf yX4_targetOf, Cond.code yX4_targetOf cX4_targetOf 6 (some .int), Cond.fieldLink RX4 21 "PegField$State" "grid" "LPegField$Grid;", Cond.methodLink RX4 70 yX4_homeOf, Cond.methodLink RX4 73 yX0_next, Cond.instanceMethod yX0_next, Cond.selects RX0 yX0_next yX0_next, Cond.initialized RX0, Cond.code yX0_next cX0_next 4 (some .int), Cond.fieldLink RX0 9 "PegField$Grid" "beside" "[I", Cond.methodLink RX0 35 yX0_has, Cond.instanceMethod yX0_has, Cond.selects RX0 yX0_has yX0_has, Cond.code yX0_has cX0_has 2 (some .boolean), Cond.fieldLink RX0 22 "PegField$Grid" "places" "I", Cond.methodLink RX4 77 yX4_pegIn, Cond.instanceMethod yX4_pegIn, Cond.selects RX4 yX4_pegIn yX4_pegIn, Cond.code yX4_pegIn cX4_pegIn 2 (some .int), Cond.fieldLink RX4 18 "PegField$State" "tenants" "[I", Cond.methodLink RX4 63 yX0_has, Cond.methodLink RX4 80 yX4_kindOf, Cond.static yX5_kindGoes]
def wsX5_peg_r3 : List Cond := [Cond.initialized RX5, Cond.code yX5_kindGoes cX5_kindGoes 2 (some .boolean), Cond.fieldLink RX5 294 "PegField" "WHO_GOES" "[I", Cond.methodLink RX5 123 yX5_hasBit, Cond.static yX5_hasBit, Cond.code yX5_hasBit cX5_hasBit 2 (some .boolean), Cond.static yX5_kindCould, Cond.code yX5_kindCould cX5_kindCould 2 (some .boolean), Cond.fieldLink RX5 203 "PegField" "WHO_COULD" "[I", Cond.methodLink RX4 89 yX4_isEmptyHole, Cond.instanceMethod yX4_isEmptyHole, Cond.selects RX4 yX4_isEmptyHole yX4_isEmptyHole, Cond.code yX4_isEmptyHole cX4_isEmptyHole 2 (some .boolean), Cond.fieldLink RX4 25 "PegField$State" "holes" "I", Cond.methodLink RX5 113 yX3_sortsOf, Cond.instanceMethod yX3_sortsOf, Cond.selects RX3 yX3_sortsOf yX3_sortsOf, Cond.initialized RX3, Cond.code yX3_sortsOf cX3_sortsOf 4 (some .int), Cond.fieldLink RX3 18 "PegField$Seen" "size" "I", Cond.fieldLink RX3 9 "PegField$Seen" "pegs" "[I", Cond.fieldLink RX3 15 "PegField$Seen" "sorts" "[I", Cond.methodLink RX5 116 yX5_bestQuestion, Cond.static yX5_bestQuestion]
def wsX5_peg_r4 : List Cond := [Cond.code yX5_bestQuestion cX5_bestQuestion 5 (some .int), Cond.methodLink RX5 297 Lib.Math.max.name, Cond.static Lib.Math.max.name, Cond.initialized "java/lang/Math", Cond.code Lib.Math.max.name Lib.Math.max.code 2 (some .int), Cond.methodLink RX5 162 yJ6_bitCount_0f7a4, Cond.static yJ6_bitCount_0f7a4, Cond.initialized RJ6, Cond.code yJ6_bitCount_0f7a4 cJ6_bitCount_0f7a4 1 (some .int), Cond.constant RJ6 265 (1431655765), Cond.constant RJ6 266 (858993459), Cond.constant RJ6 267 (252645135)]
def wsX5_peg : List Cond := .code yX5_peg cX5_peg 3 (some .int) :: ((wsX5_peg_r1 ++ (wsX5_peg_r2 ++ (wsX5_peg_r3 ++ wsX5_peg_r4))) ++ wsX50 ++ wsX40 ++ wsX00 ++ wsX30)
def wsX5_as : List Cond := .code yX5_as cX5_as 3 (some .int) :: ([.fieldLink RX5 28 "PegField" "now" "LPegField$State;", .fieldLink RX5 119 "PegField" "TAKEN_AS" "[I", .methodLink RX5 101 yX4_isPeg, .instanceMethod yX4_isPeg, .selects RX4 yX4_isPeg yX4_isPeg, .initialized RX4, .code yX4_isPeg cX4_isPeg 2 (some .boolean), .fieldLink RX4 29 "PegField$State" "pegs" "I", .methodLink RX5 104 yX4_kindOf, .instanceMethod yX4_kindOf, .selects RX4 yX4_kindOf yX4_kindOf, .code yX4_kindOf cX4_kindOf 2 (some .int), .fieldLink RX4 9 "PegField$State" "kinds" "[I", .methodLink RX4 59 yX4_isPeg, .methodLink RX5 123 yX5_hasBit, .static yX5_hasBit, .initialized RX5, .code yX5_hasBit cX5_hasBit 2 (some .boolean)] ++ wsX50 ++ wsX40)
def wsX5_place : List Cond := .code yX5_place cX5_place 3 (some .int) :: ([.fieldLink RX5 19 "PegField" "grid" "LPegField$Grid;", .fieldLink RX5 28 "PegField" "now" "LPegField$State;", .methodLink RX5 127 yX0_has, .instanceMethod yX0_has, .selects RX0 yX0_has yX0_has, .initialized RX0, .code yX0_has cX0_has 2 (some .boolean), .fieldLink RX0 22 "PegField$Grid" "places" "I", .methodLink RX5 130 yX4_isHole, .instanceMethod yX4_isHole, .selects RX4 yX4_isHole yX4_isHole, .initialized RX4, .code yX4_isHole cX4_isHole 2 (some .boolean), .fieldLink RX4 21 "PegField$State" "grid" "LPegField$Grid;", .fieldLink RX4 25 "PegField$State" "holes" "I", .methodLink RX4 63 yX0_has, .static yX5_hasBit, .initialized RX5, .code yX5_hasBit cX5_hasBit 2 (some .boolean), .methodLink RX5 133 yX4_pegIn, .instanceMethod yX4_pegIn, .selects RX4 yX4_pegIn yX4_pegIn, .code yX4_pegIn cX4_pegIn 2 (some .int), .fieldLink RX4 18 "PegField$State" "tenants" "[I"] ++ wsX50 ++ wsX00 ++ wsX40)
def wsX5_jump_r1 : List Cond := [Cond.fieldLink RX5 28 "PegField" "now" "LPegField$State;", Cond.fieldLink RX5 19 "PegField" "grid" "LPegField$Grid;", Cond.fieldLink RX5 92 "PegField" "isLooked" "Z", Cond.methodLink RX5 101 yX4_isPeg, Cond.instanceMethod yX4_isPeg, Cond.selects RX4 yX4_isPeg yX4_isPeg, Cond.initialized RX4, Cond.code yX4_isPeg cX4_isPeg 2 (some .boolean), Cond.fieldLink RX4 29 "PegField$State" "pegs" "I", Cond.methodLink RX5 127 yX0_has, Cond.instanceMethod yX0_has, Cond.selects RX0 yX0_has yX0_has, Cond.initialized RX0, Cond.code yX0_has cX0_has 2 (some .boolean), Cond.fieldLink RX0 22 "PegField$Grid" "places" "I", Cond.methodLink RX5 136 yX4_directionTo, Cond.instanceMethod yX4_directionTo, Cond.selects RX4 yX4_directionTo yX4_directionTo, Cond.code yX4_directionTo cX4_directionTo 4 (some .int), Cond.methodLink RX4 92 yX4_targetOf, Cond.instanceMethod yX4_targetOf, Cond.selects RX4 yX4_targetOf yX4_targetOf, Cond.code yX4_targetOf cX4_targetOf 6 (some .int), Cond.fieldLink RX4 21 "PegField$State" "grid" "LPegField$Grid;"]
def wsX5_jump_r2 : List Cond := [Cond.methodLink RX4 70 yX4_homeOf, Cond.instanceMethod yX4_homeOf, Cond.selects RX4 yX4_homeOf yX4_homeOf, Cond.code yX4_homeOf cX4_homeOf 2 (some .int), Cond.fieldLink RX4 15 "PegField$State" "homes" "[I", Cond.methodLink RX4 59 yX4_isPeg, Cond.methodLink RX4 73 yX0_next, Cond.instanceMethod yX0_next, Cond.selects RX0 yX0_next yX0_next, Cond.code yX0_next cX0_next 4 (some .int), Cond.fieldLink RX0 9 "PegField$Grid" "beside" "[I", Cond.methodLink RX0 35 yX0_has, Cond.methodLink RX4 77 yX4_pegIn, Cond.instanceMethod yX4_pegIn, Cond.selects RX4 yX4_pegIn yX4_pegIn, Cond.code yX4_pegIn cX4_pegIn 2 (some .int), Cond.fieldLink RX4 18 "PegField$State" "tenants" "[I", Cond.methodLink RX4 63 yX0_has, Cond.methodLink RX4 80 yX4_kindOf, Cond.instanceMethod yX4_kindOf, Cond.selects RX4 yX4_kindOf yX4_kindOf, Cond.code yX4_kindOf cX4_kindOf 2 (some .int), Cond.fieldLink RX4 9 "PegField$State" "kinds" "[I", Cond.static yX5_kindGoes]
def wsX5_jump_r3 : List Cond := [Cond.initialized RX5, Cond.code yX5_kindGoes cX5_kindGoes 2 (some .boolean), Cond.fieldLink RX5 294 "PegField" "WHO_GOES" "[I", Cond.methodLink RX5 123 yX5_hasBit, Cond.static yX5_hasBit, Cond.code yX5_hasBit cX5_hasBit 2 (some .boolean), Cond.static yX5_kindCould, Cond.code yX5_kindCould cX5_kindCould 2 (some .boolean), Cond.fieldLink RX5 203 "PegField" "WHO_COULD" "[I", Cond.methodLink RX4 89 yX4_isEmptyHole, Cond.instanceMethod yX4_isEmptyHole, Cond.selects RX4 yX4_isEmptyHole yX4_isEmptyHole, Cond.code yX4_isEmptyHole cX4_isEmptyHole 2 (some .boolean), Cond.fieldLink RX4 25 "PegField$State" "holes" "I", Cond.methodLink RX5 143 yX4_neighbourOf, Cond.instanceMethod yX4_neighbourOf, Cond.selects RX4 yX4_neighbourOf yX4_neighbourOf, Cond.code yX4_neighbourOf cX4_neighbourOf 3 (some .int), Cond.methodLink RX5 146 yX4_leap, Cond.instanceMethod yX4_leap, Cond.selects RX4 yX4_leap yX4_leap, Cond.code yX4_leap cX4_leap 4 none, Cond.methodLink RX4 110 yX4_lift, Cond.instanceMethod yX4_lift]
def wsX5_jump_r4 : List Cond := [Cond.selects RX4 yX4_lift yX4_lift, Cond.code yX4_lift cX4_lift 2 none, Cond.fieldLink RX4 32 "PegField$State" "onBoard" "I", Cond.methodLink RX4 56 yX4_set, Cond.instanceMethod yX4_set, Cond.selects RX4 yX4_set yX4_set, Cond.code yX4_set cX4_set 3 none]
def wsX5_jump : List Cond := .code yX5_jump cX5_jump 4 (some .int) :: ((wsX5_jump_r1 ++ (wsX5_jump_r2 ++ (wsX5_jump_r3 ++ wsX5_jump_r4))) ++ wsX50 ++ wsX40 ++ wsX00)
def wsX5_put_r1 : List Cond := [Cond.fieldLink RX5 28 "PegField" "now" "LPegField$State;", Cond.fieldLink RX5 19 "PegField" "grid" "LPegField$Grid;", Cond.fieldLink RX5 92 "PegField" "isLooked" "Z", Cond.methodLink RX5 101 yX4_isPeg, Cond.instanceMethod yX4_isPeg, Cond.selects RX4 yX4_isPeg yX4_isPeg, Cond.initialized RX4, Cond.code yX4_isPeg cX4_isPeg 2 (some .boolean), Cond.fieldLink RX4 29 "PegField$State" "pegs" "I", Cond.methodLink RX5 127 yX0_has, Cond.instanceMethod yX0_has, Cond.selects RX0 yX0_has yX0_has, Cond.initialized RX0, Cond.code yX0_has cX0_has 2 (some .boolean), Cond.fieldLink RX0 22 "PegField$Grid" "places" "I", Cond.methodLink RX5 107 yX4_homeOf, Cond.instanceMethod yX4_homeOf, Cond.selects RX4 yX4_homeOf yX4_homeOf, Cond.code yX4_homeOf cX4_homeOf 2 (some .int), Cond.fieldLink RX4 15 "PegField$State" "homes" "[I", Cond.methodLink RX4 59 yX4_isPeg, Cond.methodLink RX5 153 yX4_isEmptyHole, Cond.instanceMethod yX4_isEmptyHole, Cond.selects RX4 yX4_isEmptyHole yX4_isEmptyHole]
def wsX5_put_r2 : List Cond := [Cond.code yX4_isEmptyHole cX4_isEmptyHole 2 (some .boolean), Cond.fieldLink RX4 21 "PegField$State" "grid" "LPegField$Grid;", Cond.fieldLink RX4 25 "PegField$State" "holes" "I", Cond.fieldLink RX4 18 "PegField$State" "tenants" "[I", Cond.methodLink RX4 63 yX0_has, Cond.static yX5_hasBit, Cond.initialized RX5, Cond.code yX5_hasBit cX5_hasBit 2 (some .boolean), Cond.methodLink RX5 156 yX4_set, Cond.instanceMethod yX4_set, Cond.selects RX4 yX4_set yX4_set, Cond.code yX4_set cX4_set 3 none, Cond.fieldLink RX4 32 "PegField$State" "onBoard" "I"]
def wsX5_put : List Cond := .code yX5_put cX5_put 3 (some .int) :: ((wsX5_put_r1 ++ wsX5_put_r2) ++ wsX50 ++ wsX40 ++ wsX00)
def wsX5_plug_r1 : List Cond := [Cond.fieldLink RX5 19 "PegField" "grid" "LPegField$Grid;", Cond.fieldLink RX5 28 "PegField" "now" "LPegField$State;", Cond.fieldLink RX5 92 "PegField" "isLooked" "Z", Cond.methodLink RX5 127 yX0_has, Cond.instanceMethod yX0_has, Cond.selects RX0 yX0_has yX0_has, Cond.initialized RX0, Cond.code yX0_has cX0_has 2 (some .boolean), Cond.fieldLink RX0 22 "PegField$Grid" "places" "I", Cond.methodLink RX5 153 yX4_isEmptyHole, Cond.instanceMethod yX4_isEmptyHole, Cond.selects RX4 yX4_isEmptyHole yX4_isEmptyHole, Cond.initialized RX4, Cond.code yX4_isEmptyHole cX4_isEmptyHole 2 (some .boolean), Cond.fieldLink RX4 21 "PegField$State" "grid" "LPegField$Grid;", Cond.fieldLink RX4 25 "PegField$State" "holes" "I", Cond.fieldLink RX4 18 "PegField$State" "tenants" "[I", Cond.methodLink RX4 63 yX0_has, Cond.static yX5_hasBit, Cond.initialized RX5, Cond.code yX5_hasBit cX5_hasBit 2 (some .boolean), Cond.methodLink RX5 162 yJ6_bitCount_0f7a4, Cond.static yJ6_bitCount_0f7a4, Cond.initialized RJ6]
def wsX5_plug_r2 : List Cond := [Cond.code yJ6_bitCount_0f7a4 cJ6_bitCount_0f7a4 1 (some .int), Cond.constant RJ6 265 (1431655765), Cond.constant RJ6 266 (858993459), Cond.constant RJ6 267 (252645135)]
def wsX5_plug : List Cond := .code yX5_plug cX5_plug 2 (some .int) :: ((wsX5_plug_r1 ++ wsX5_plug_r2) ++ wsX50 ++ wsX40 ++ wsX00)
def wsX5_bore_r1 : List Cond := [Cond.fieldLink RX5 19 "PegField" "grid" "LPegField$Grid;", Cond.fieldLink RX5 28 "PegField" "now" "LPegField$State;", Cond.fieldLink RX5 92 "PegField" "isLooked" "Z", Cond.methodLink RX5 127 yX0_has, Cond.instanceMethod yX0_has, Cond.selects RX0 yX0_has yX0_has, Cond.initialized RX0, Cond.code yX0_has cX0_has 2 (some .boolean), Cond.fieldLink RX0 22 "PegField$Grid" "places" "I", Cond.methodLink RX5 130 yX4_isHole, Cond.instanceMethod yX4_isHole, Cond.selects RX4 yX4_isHole yX4_isHole, Cond.initialized RX4, Cond.code yX4_isHole cX4_isHole 2 (some .boolean), Cond.fieldLink RX4 21 "PegField$State" "grid" "LPegField$Grid;", Cond.fieldLink RX4 25 "PegField$State" "holes" "I", Cond.methodLink RX4 63 yX0_has, Cond.static yX5_hasBit, Cond.initialized RX5, Cond.code yX5_hasBit cX5_hasBit 2 (some .boolean), Cond.methodLink RX5 162 yJ6_bitCount_0f7a4, Cond.static yJ6_bitCount_0f7a4, Cond.initialized RJ6, Cond.code yJ6_bitCount_0f7a4 cJ6_bitCount_0f7a4 1 (some .int)]
def wsX5_bore_r2 : List Cond := [Cond.constant RJ6 265 (1431655765), Cond.constant RJ6 266 (858993459), Cond.constant RJ6 267 (252645135)]
def wsX5_bore : List Cond := .code yX5_bore cX5_bore 2 (some .int) :: ((wsX5_bore_r1 ++ wsX5_bore_r2) ++ wsX50 ++ wsX40 ++ wsX00)
def wsX5_be : List Cond := .code yX5_be cX5_be 4 (some .int) :: ([.fieldLink RX5 28 "PegField" "now" "LPegField$State;", .fieldLink RX5 92 "PegField" "isLooked" "Z", .methodLink RX5 101 yX4_isPeg, .instanceMethod yX4_isPeg, .selects RX4 yX4_isPeg yX4_isPeg, .initialized RX4, .code yX4_isPeg cX4_isPeg 2 (some .boolean), .fieldLink RX4 29 "PegField$State" "pegs" "I", .methodLink RX5 104 yX4_kindOf, .instanceMethod yX4_kindOf, .selects RX4 yX4_kindOf yX4_kindOf, .code yX4_kindOf cX4_kindOf 2 (some .int), .fieldLink RX4 9 "PegField$State" "kinds" "[I", .methodLink RX4 59 yX4_isPeg, .methodLink RX5 167 yX4_turn, .instanceMethod yX4_turn, .selects RX4 yX4_turn yX4_turn, .code yX4_turn cX4_turn 3 none] ++ wsX50 ++ wsX40)
def wsX5_look_r1 : List Cond := [Cond.methodLink RX5 268 yX1_begin, Cond.instanceMethod yX1_begin, Cond.selects RX1 yX1_begin yX1_begin, Cond.initialized RX1, Cond.code yX1_begin cX1_begin 1 none, Cond.fieldLink RX1 9 "PegField$Outcome" "choices" "I", Cond.fieldLink RX1 15 "PegField$Outcome" "fewest" "I", Cond.fieldLink RX1 18 "PegField$Outcome" "first" "I", Cond.fieldLink RX1 21 "PegField$Outcome" "ways" "I", Cond.fieldLink RX1 24 "PegField$Outcome" "longest" "I", Cond.fieldLink RX1 27 "PegField$Outcome" "shortest" "I", Cond.fieldLink RX1 30 "PegField$Outcome" "alone" "I", Cond.fieldLink RX1 33 "PegField$Outcome" "winning" "I", Cond.fieldLink RX1 36 "PegField$Outcome" "mean" "I", Cond.methodLink RX5 271 yX4_targetOf, Cond.instanceMethod yX4_targetOf, Cond.selects RX4 yX4_targetOf yX4_targetOf, Cond.initialized RX4, Cond.code yX4_targetOf cX4_targetOf 6 (some .int), Cond.fieldLink RX4 21 "PegField$State" "grid" "LPegField$Grid;", Cond.methodLink RX4 70 yX4_homeOf, Cond.instanceMethod yX4_homeOf, Cond.selects RX4 yX4_homeOf yX4_homeOf, Cond.code yX4_homeOf cX4_homeOf 2 (some .int)]
def wsX5_look_r2 : List Cond := [Cond.fieldLink RX4 15 "PegField$State" "homes" "[I", Cond.methodLink RX4 59 yX4_isPeg, Cond.instanceMethod yX4_isPeg, Cond.selects RX4 yX4_isPeg yX4_isPeg, Cond.code yX4_isPeg cX4_isPeg 2 (some .boolean), Cond.fieldLink RX4 29 "PegField$State" "pegs" "I", Cond.methodLink RX4 73 yX0_next, Cond.instanceMethod yX0_next, Cond.selects RX0 yX0_next yX0_next, Cond.initialized RX0, Cond.code yX0_next cX0_next 4 (some .int), Cond.fieldLink RX0 9 "PegField$Grid" "beside" "[I", Cond.methodLink RX0 35 yX0_has, Cond.instanceMethod yX0_has, Cond.selects RX0 yX0_has yX0_has, Cond.code yX0_has cX0_has 2 (some .boolean), Cond.fieldLink RX0 22 "PegField$Grid" "places" "I", Cond.methodLink RX4 77 yX4_pegIn, Cond.instanceMethod yX4_pegIn, Cond.selects RX4 yX4_pegIn yX4_pegIn, Cond.code yX4_pegIn cX4_pegIn 2 (some .int), Cond.fieldLink RX4 18 "PegField$State" "tenants" "[I", Cond.methodLink RX4 63 yX0_has, Cond.methodLink RX4 80 yX4_kindOf]
def wsX5_look_r3 : List Cond := [Cond.instanceMethod yX4_kindOf, Cond.selects RX4 yX4_kindOf yX4_kindOf, Cond.code yX4_kindOf cX4_kindOf 2 (some .int), Cond.fieldLink RX4 9 "PegField$State" "kinds" "[I", Cond.static yX5_kindGoes, Cond.initialized RX5, Cond.code yX5_kindGoes cX5_kindGoes 2 (some .boolean), Cond.fieldLink RX5 294 "PegField" "WHO_GOES" "[I", Cond.methodLink RX5 123 yX5_hasBit, Cond.static yX5_hasBit, Cond.code yX5_hasBit cX5_hasBit 2 (some .boolean), Cond.static yX5_kindCould, Cond.code yX5_kindCould cX5_kindCould 2 (some .boolean), Cond.fieldLink RX5 203 "PegField" "WHO_COULD" "[I", Cond.methodLink RX4 89 yX4_isEmptyHole, Cond.instanceMethod yX4_isEmptyHole, Cond.selects RX4 yX4_isEmptyHole yX4_isEmptyHole, Cond.code yX4_isEmptyHole cX4_isEmptyHole 2 (some .boolean), Cond.fieldLink RX4 25 "PegField$State" "holes" "I", Cond.methodLink RX5 107 yX4_homeOf, Cond.methodLink RX5 143 yX4_neighbourOf, Cond.instanceMethod yX4_neighbourOf, Cond.selects RX4 yX4_neighbourOf yX4_neighbourOf, Cond.code yX4_neighbourOf cX4_neighbourOf 3 (some .int)]
def wsX5_look_r4 : List Cond := [Cond.methodLink RX5 146 yX4_leap, Cond.instanceMethod yX4_leap, Cond.selects RX4 yX4_leap yX4_leap, Cond.code yX4_leap cX4_leap 4 none, Cond.methodLink RX4 110 yX4_lift, Cond.instanceMethod yX4_lift, Cond.selects RX4 yX4_lift yX4_lift, Cond.code yX4_lift cX4_lift 2 none, Cond.fieldLink RX4 32 "PegField$State" "onBoard" "I", Cond.methodLink RX4 56 yX4_set, Cond.instanceMethod yX4_set, Cond.selects RX4 yX4_set yX4_set, Cond.code yX4_set cX4_set 3 none, Cond.methodLink RX5 261 yX5_look, Cond.static yX5_look, Cond.methodLink RX5 274 yX4_takeBack, Cond.instanceMethod yX4_takeBack, Cond.selects RX4 yX4_takeBack yX4_takeBack, Cond.code yX4_takeBack cX4_takeBack 5 none, Cond.methodLink RX5 278 yX1_take, Cond.instanceMethod yX1_take, Cond.selects RX1 yX1_take yX1_take, Cond.code yX1_take cX1_take 3 none, Cond.methodLink RX1 39 Lib.Math.max.name]
def wsX5_look_r5 : List Cond := [Cond.static Lib.Math.max.name, Cond.initialized "java/lang/Math", Cond.code Lib.Math.max.name Lib.Math.max.code 2 (some .int), Cond.methodLink RX5 282 yX4_aloneBit, Cond.instanceMethod yX4_aloneBit, Cond.selects RX4 yX4_aloneBit yX4_aloneBit, Cond.code yX4_aloneBit cX4_aloneBit 4 (some .int), Cond.methodLink RX5 285 yX1_end, Cond.instanceMethod yX1_end, Cond.selects RX1 yX1_end yX1_end, Cond.code yX1_end cX1_end 3 none]
def wsX5_look : List Cond := .code yX5_look cX5_look 10 none :: ((wsX5_look_r1 ++ (wsX5_look_r2 ++ (wsX5_look_r3 ++ (wsX5_look_r4 ++ wsX5_look_r5)))) ++ wsX40 ++ wsX10 ++ wsX00)
def wsX5_lookAhead_r1 : List Cond := [Cond.fieldLink RX5 92 "PegField" "isLooked" "Z", Cond.fieldLink RX5 45 "PegField" "thought" "LPegField$State;", Cond.fieldLink RX5 28 "PegField" "now" "LPegField$State;", Cond.fieldLink RX5 55 "PegField" "outcomes" "[LPegField$Outcome;", Cond.methodLink RX5 208 yX4_copyFrom, Cond.instanceMethod yX4_copyFrom, Cond.selects RX4 yX4_copyFrom yX4_copyFrom, Cond.initialized RX4, Cond.code yX4_copyFrom cX4_copyFrom 3 none, Cond.fieldLink RX4 25 "PegField$State" "holes" "I", Cond.fieldLink RX4 29 "PegField$State" "pegs" "I", Cond.fieldLink RX4 32 "PegField$State" "onBoard" "I", Cond.fieldLink RX4 35 "PegField$State" "jumps" "I", Cond.fieldLink RX4 9 "PegField$State" "kinds" "[I", Cond.fieldLink RX4 15 "PegField$State" "homes" "[I", Cond.fieldLink RX4 18 "PegField$State" "tenants" "[I", Cond.methodLink RX5 261 yX5_look, Cond.static yX5_look, Cond.initialized RX5, Cond.code yX5_look cX5_look 10 none, Cond.methodLink RX5 268 yX1_begin, Cond.instanceMethod yX1_begin, Cond.selects RX1 yX1_begin yX1_begin, Cond.initialized RX1]
def wsX5_lookAhead_r2 : List Cond := [Cond.code yX1_begin cX1_begin 1 none, Cond.fieldLink RX1 9 "PegField$Outcome" "choices" "I", Cond.fieldLink RX1 15 "PegField$Outcome" "fewest" "I", Cond.fieldLink RX1 18 "PegField$Outcome" "first" "I", Cond.fieldLink RX1 21 "PegField$Outcome" "ways" "I", Cond.fieldLink RX1 24 "PegField$Outcome" "longest" "I", Cond.fieldLink RX1 27 "PegField$Outcome" "shortest" "I", Cond.fieldLink RX1 30 "PegField$Outcome" "alone" "I", Cond.fieldLink RX1 33 "PegField$Outcome" "winning" "I", Cond.fieldLink RX1 36 "PegField$Outcome" "mean" "I", Cond.methodLink RX5 271 yX4_targetOf, Cond.instanceMethod yX4_targetOf, Cond.selects RX4 yX4_targetOf yX4_targetOf, Cond.code yX4_targetOf cX4_targetOf 6 (some .int), Cond.fieldLink RX4 21 "PegField$State" "grid" "LPegField$Grid;", Cond.methodLink RX4 70 yX4_homeOf, Cond.instanceMethod yX4_homeOf, Cond.selects RX4 yX4_homeOf yX4_homeOf, Cond.code yX4_homeOf cX4_homeOf 2 (some .int), Cond.methodLink RX4 59 yX4_isPeg, Cond.instanceMethod yX4_isPeg, Cond.selects RX4 yX4_isPeg yX4_isPeg, Cond.code yX4_isPeg cX4_isPeg 2 (some .boolean), Cond.methodLink RX4 73 yX0_next]
def wsX5_lookAhead_r3 : List Cond := [Cond.instanceMethod yX0_next, Cond.selects RX0 yX0_next yX0_next, Cond.initialized RX0, Cond.code yX0_next cX0_next 4 (some .int), Cond.fieldLink RX0 9 "PegField$Grid" "beside" "[I", Cond.methodLink RX0 35 yX0_has, Cond.instanceMethod yX0_has, Cond.selects RX0 yX0_has yX0_has, Cond.code yX0_has cX0_has 2 (some .boolean), Cond.fieldLink RX0 22 "PegField$Grid" "places" "I", Cond.methodLink RX4 77 yX4_pegIn, Cond.instanceMethod yX4_pegIn, Cond.selects RX4 yX4_pegIn yX4_pegIn, Cond.code yX4_pegIn cX4_pegIn 2 (some .int), Cond.methodLink RX4 63 yX0_has, Cond.methodLink RX4 80 yX4_kindOf, Cond.instanceMethod yX4_kindOf, Cond.selects RX4 yX4_kindOf yX4_kindOf, Cond.code yX4_kindOf cX4_kindOf 2 (some .int), Cond.static yX5_kindGoes, Cond.code yX5_kindGoes cX5_kindGoes 2 (some .boolean), Cond.fieldLink RX5 294 "PegField" "WHO_GOES" "[I", Cond.methodLink RX5 123 yX5_hasBit, Cond.static yX5_hasBit]
def wsX5_lookAhead_r4 : List Cond := [Cond.code yX5_hasBit cX5_hasBit 2 (some .boolean), Cond.static yX5_kindCould, Cond.code yX5_kindCould cX5_kindCould 2 (some .boolean), Cond.fieldLink RX5 203 "PegField" "WHO_COULD" "[I", Cond.methodLink RX4 89 yX4_isEmptyHole, Cond.instanceMethod yX4_isEmptyHole, Cond.selects RX4 yX4_isEmptyHole yX4_isEmptyHole, Cond.code yX4_isEmptyHole cX4_isEmptyHole 2 (some .boolean), Cond.methodLink RX5 107 yX4_homeOf, Cond.methodLink RX5 143 yX4_neighbourOf, Cond.instanceMethod yX4_neighbourOf, Cond.selects RX4 yX4_neighbourOf yX4_neighbourOf, Cond.code yX4_neighbourOf cX4_neighbourOf 3 (some .int), Cond.methodLink RX5 146 yX4_leap, Cond.instanceMethod yX4_leap, Cond.selects RX4 yX4_leap yX4_leap, Cond.code yX4_leap cX4_leap 4 none, Cond.methodLink RX4 110 yX4_lift, Cond.instanceMethod yX4_lift, Cond.selects RX4 yX4_lift yX4_lift, Cond.code yX4_lift cX4_lift 2 none, Cond.methodLink RX4 56 yX4_set, Cond.instanceMethod yX4_set, Cond.selects RX4 yX4_set yX4_set]
def wsX5_lookAhead_r5 : List Cond := [Cond.code yX4_set cX4_set 3 none, Cond.methodLink RX5 274 yX4_takeBack, Cond.instanceMethod yX4_takeBack, Cond.selects RX4 yX4_takeBack yX4_takeBack, Cond.code yX4_takeBack cX4_takeBack 5 none, Cond.methodLink RX5 278 yX1_take, Cond.instanceMethod yX1_take, Cond.selects RX1 yX1_take yX1_take, Cond.code yX1_take cX1_take 3 none, Cond.methodLink RX1 39 Lib.Math.max.name, Cond.static Lib.Math.max.name, Cond.initialized "java/lang/Math", Cond.code Lib.Math.max.name Lib.Math.max.code 2 (some .int), Cond.methodLink RX5 282 yX4_aloneBit, Cond.instanceMethod yX4_aloneBit, Cond.selects RX4 yX4_aloneBit yX4_aloneBit, Cond.code yX4_aloneBit cX4_aloneBit 4 (some .int), Cond.methodLink RX5 285 yX1_end, Cond.instanceMethod yX1_end, Cond.selects RX1 yX1_end yX1_end, Cond.code yX1_end cX1_end 3 none]
def wsX5_lookAhead : List Cond := .code yX5_lookAhead cX5_lookAhead 1 none :: ((wsX5_lookAhead_r1 ++ (wsX5_lookAhead_r2 ++ (wsX5_lookAhead_r3 ++ (wsX5_lookAhead_r4 ++ wsX5_lookAhead_r5)))) ++ wsX50 ++ wsX40 ++ wsX10 ++ wsX00)
def wsX5_courses_r1 : List Cond := [Cond.fieldLink RX5 95 "PegField" "reads" "I", Cond.fieldLink RX5 51 "PegField" "outlook" "LPegField$Outcome;", Cond.methodLink RX5 170 yX5_lookAhead, Cond.instanceMethod yX5_lookAhead, Cond.selects RX5 yX5_lookAhead yX5_lookAhead, Cond.initialized RX5, Cond.code yX5_lookAhead cX5_lookAhead 1 none, Cond.fieldLink RX5 92 "PegField" "isLooked" "Z", Cond.fieldLink RX5 45 "PegField" "thought" "LPegField$State;", Cond.fieldLink RX5 28 "PegField" "now" "LPegField$State;", Cond.fieldLink RX5 55 "PegField" "outcomes" "[LPegField$Outcome;", Cond.methodLink RX5 208 yX4_copyFrom, Cond.instanceMethod yX4_copyFrom, Cond.selects RX4 yX4_copyFrom yX4_copyFrom, Cond.initialized RX4, Cond.code yX4_copyFrom cX4_copyFrom 3 none, Cond.fieldLink RX4 25 "PegField$State" "holes" "I", Cond.fieldLink RX4 29 "PegField$State" "pegs" "I", Cond.fieldLink RX4 32 "PegField$State" "onBoard" "I", Cond.fieldLink RX4 35 "PegField$State" "jumps" "I", Cond.fieldLink RX4 9 "PegField$State" "kinds" "[I", Cond.fieldLink RX4 15 "PegField$State" "homes" "[I", Cond.fieldLink RX4 18 "PegField$State" "tenants" "[I", Cond.methodLink RX5 261 yX5_look]
def wsX5_courses_r2 : List Cond := [Cond.static yX5_look, Cond.code yX5_look cX5_look 10 none, Cond.methodLink RX5 268 yX1_begin, Cond.instanceMethod yX1_begin, Cond.selects RX1 yX1_begin yX1_begin, Cond.initialized RX1, Cond.code yX1_begin cX1_begin 1 none, Cond.fieldLink RX1 9 "PegField$Outcome" "choices" "I", Cond.fieldLink RX1 15 "PegField$Outcome" "fewest" "I", Cond.fieldLink RX1 18 "PegField$Outcome" "first" "I", Cond.fieldLink RX1 21 "PegField$Outcome" "ways" "I", Cond.fieldLink RX1 24 "PegField$Outcome" "longest" "I", Cond.fieldLink RX1 27 "PegField$Outcome" "shortest" "I", Cond.fieldLink RX1 30 "PegField$Outcome" "alone" "I", Cond.fieldLink RX1 33 "PegField$Outcome" "winning" "I", Cond.fieldLink RX1 36 "PegField$Outcome" "mean" "I", Cond.methodLink RX5 271 yX4_targetOf, Cond.instanceMethod yX4_targetOf, Cond.selects RX4 yX4_targetOf yX4_targetOf, Cond.code yX4_targetOf cX4_targetOf 6 (some .int), Cond.fieldLink RX4 21 "PegField$State" "grid" "LPegField$Grid;", Cond.methodLink RX4 70 yX4_homeOf, Cond.instanceMethod yX4_homeOf, Cond.selects RX4 yX4_homeOf yX4_homeOf]
def wsX5_courses_r3 : List Cond := [Cond.code yX4_homeOf cX4_homeOf 2 (some .int), Cond.methodLink RX4 59 yX4_isPeg, Cond.instanceMethod yX4_isPeg, Cond.selects RX4 yX4_isPeg yX4_isPeg, Cond.code yX4_isPeg cX4_isPeg 2 (some .boolean), Cond.methodLink RX4 73 yX0_next, Cond.instanceMethod yX0_next, Cond.selects RX0 yX0_next yX0_next, Cond.initialized RX0, Cond.code yX0_next cX0_next 4 (some .int), Cond.fieldLink RX0 9 "PegField$Grid" "beside" "[I", Cond.methodLink RX0 35 yX0_has, Cond.instanceMethod yX0_has, Cond.selects RX0 yX0_has yX0_has, Cond.code yX0_has cX0_has 2 (some .boolean), Cond.fieldLink RX0 22 "PegField$Grid" "places" "I", Cond.methodLink RX4 77 yX4_pegIn, Cond.instanceMethod yX4_pegIn, Cond.selects RX4 yX4_pegIn yX4_pegIn, Cond.code yX4_pegIn cX4_pegIn 2 (some .int), Cond.methodLink RX4 63 yX0_has, Cond.methodLink RX4 80 yX4_kindOf, Cond.instanceMethod yX4_kindOf, Cond.selects RX4 yX4_kindOf yX4_kindOf]
def wsX5_courses_r4 : List Cond := [Cond.code yX4_kindOf cX4_kindOf 2 (some .int), Cond.static yX5_kindGoes, Cond.code yX5_kindGoes cX5_kindGoes 2 (some .boolean), Cond.fieldLink RX5 294 "PegField" "WHO_GOES" "[I", Cond.methodLink RX5 123 yX5_hasBit, Cond.static yX5_hasBit, Cond.code yX5_hasBit cX5_hasBit 2 (some .boolean), Cond.static yX5_kindCould, Cond.code yX5_kindCould cX5_kindCould 2 (some .boolean), Cond.fieldLink RX5 203 "PegField" "WHO_COULD" "[I", Cond.methodLink RX4 89 yX4_isEmptyHole, Cond.instanceMethod yX4_isEmptyHole, Cond.selects RX4 yX4_isEmptyHole yX4_isEmptyHole, Cond.code yX4_isEmptyHole cX4_isEmptyHole 2 (some .boolean), Cond.methodLink RX5 107 yX4_homeOf, Cond.methodLink RX5 143 yX4_neighbourOf, Cond.instanceMethod yX4_neighbourOf, Cond.selects RX4 yX4_neighbourOf yX4_neighbourOf, Cond.code yX4_neighbourOf cX4_neighbourOf 3 (some .int), Cond.methodLink RX5 146 yX4_leap, Cond.instanceMethod yX4_leap, Cond.selects RX4 yX4_leap yX4_leap, Cond.code yX4_leap cX4_leap 4 none, Cond.methodLink RX4 110 yX4_lift]
def wsX5_courses_r5 : List Cond := [Cond.instanceMethod yX4_lift, Cond.selects RX4 yX4_lift yX4_lift, Cond.code yX4_lift cX4_lift 2 none, Cond.methodLink RX4 56 yX4_set, Cond.instanceMethod yX4_set, Cond.selects RX4 yX4_set yX4_set, Cond.code yX4_set cX4_set 3 none, Cond.methodLink RX5 274 yX4_takeBack, Cond.instanceMethod yX4_takeBack, Cond.selects RX4 yX4_takeBack yX4_takeBack, Cond.code yX4_takeBack cX4_takeBack 5 none, Cond.methodLink RX5 278 yX1_take, Cond.instanceMethod yX1_take, Cond.selects RX1 yX1_take yX1_take, Cond.code yX1_take cX1_take 3 none, Cond.methodLink RX1 39 Lib.Math.max.name, Cond.static Lib.Math.max.name, Cond.initialized "java/lang/Math", Cond.code Lib.Math.max.name Lib.Math.max.code 2 (some .int), Cond.methodLink RX5 282 yX4_aloneBit, Cond.instanceMethod yX4_aloneBit, Cond.selects RX4 yX4_aloneBit yX4_aloneBit, Cond.code yX4_aloneBit cX4_aloneBit 4 (some .int), Cond.methodLink RX5 285 yX1_end]
def wsX5_courses_r6 : List Cond := [Cond.instanceMethod yX1_end, Cond.selects RX1 yX1_end yX1_end, Cond.code yX1_end cX1_end 3 none]
def wsX5_courses : List Cond := .code yX5_courses cX5_courses 2 (some .int) :: ((wsX5_courses_r1 ++ (wsX5_courses_r2 ++ (wsX5_courses_r3 ++ (wsX5_courses_r4 ++ (wsX5_courses_r5 ++ wsX5_courses_r6))))) ++ wsX50 ++ wsX10 ++ wsX40 ++ wsX00)
def wsX5_wins_r1 : List Cond := [Cond.fieldLink RX5 95 "PegField" "reads" "I", Cond.fieldLink RX5 51 "PegField" "outlook" "LPegField$Outcome;", Cond.methodLink RX5 170 yX5_lookAhead, Cond.instanceMethod yX5_lookAhead, Cond.selects RX5 yX5_lookAhead yX5_lookAhead, Cond.initialized RX5, Cond.code yX5_lookAhead cX5_lookAhead 1 none, Cond.fieldLink RX5 92 "PegField" "isLooked" "Z", Cond.fieldLink RX5 45 "PegField" "thought" "LPegField$State;", Cond.fieldLink RX5 28 "PegField" "now" "LPegField$State;", Cond.fieldLink RX5 55 "PegField" "outcomes" "[LPegField$Outcome;", Cond.methodLink RX5 208 yX4_copyFrom, Cond.instanceMethod yX4_copyFrom, Cond.selects RX4 yX4_copyFrom yX4_copyFrom, Cond.initialized RX4, Cond.code yX4_copyFrom cX4_copyFrom 3 none, Cond.fieldLink RX4 25 "PegField$State" "holes" "I", Cond.fieldLink RX4 29 "PegField$State" "pegs" "I", Cond.fieldLink RX4 32 "PegField$State" "onBoard" "I", Cond.fieldLink RX4 35 "PegField$State" "jumps" "I", Cond.fieldLink RX4 9 "PegField$State" "kinds" "[I", Cond.fieldLink RX4 15 "PegField$State" "homes" "[I", Cond.fieldLink RX4 18 "PegField$State" "tenants" "[I", Cond.methodLink RX5 261 yX5_look]
def wsX5_wins_r2 : List Cond := [Cond.static yX5_look, Cond.code yX5_look cX5_look 10 none, Cond.methodLink RX5 268 yX1_begin, Cond.instanceMethod yX1_begin, Cond.selects RX1 yX1_begin yX1_begin, Cond.initialized RX1, Cond.code yX1_begin cX1_begin 1 none, Cond.fieldLink RX1 9 "PegField$Outcome" "choices" "I", Cond.fieldLink RX1 15 "PegField$Outcome" "fewest" "I", Cond.fieldLink RX1 18 "PegField$Outcome" "first" "I", Cond.fieldLink RX1 21 "PegField$Outcome" "ways" "I", Cond.fieldLink RX1 24 "PegField$Outcome" "longest" "I", Cond.fieldLink RX1 27 "PegField$Outcome" "shortest" "I", Cond.fieldLink RX1 30 "PegField$Outcome" "alone" "I", Cond.fieldLink RX1 33 "PegField$Outcome" "winning" "I", Cond.fieldLink RX1 36 "PegField$Outcome" "mean" "I", Cond.methodLink RX5 271 yX4_targetOf, Cond.instanceMethod yX4_targetOf, Cond.selects RX4 yX4_targetOf yX4_targetOf, Cond.code yX4_targetOf cX4_targetOf 6 (some .int), Cond.fieldLink RX4 21 "PegField$State" "grid" "LPegField$Grid;", Cond.methodLink RX4 70 yX4_homeOf, Cond.instanceMethod yX4_homeOf, Cond.selects RX4 yX4_homeOf yX4_homeOf]
def wsX5_wins_r3 : List Cond := [Cond.code yX4_homeOf cX4_homeOf 2 (some .int), Cond.methodLink RX4 59 yX4_isPeg, Cond.instanceMethod yX4_isPeg, Cond.selects RX4 yX4_isPeg yX4_isPeg, Cond.code yX4_isPeg cX4_isPeg 2 (some .boolean), Cond.methodLink RX4 73 yX0_next, Cond.instanceMethod yX0_next, Cond.selects RX0 yX0_next yX0_next, Cond.initialized RX0, Cond.code yX0_next cX0_next 4 (some .int), Cond.fieldLink RX0 9 "PegField$Grid" "beside" "[I", Cond.methodLink RX0 35 yX0_has, Cond.instanceMethod yX0_has, Cond.selects RX0 yX0_has yX0_has, Cond.code yX0_has cX0_has 2 (some .boolean), Cond.fieldLink RX0 22 "PegField$Grid" "places" "I", Cond.methodLink RX4 77 yX4_pegIn, Cond.instanceMethod yX4_pegIn, Cond.selects RX4 yX4_pegIn yX4_pegIn, Cond.code yX4_pegIn cX4_pegIn 2 (some .int), Cond.methodLink RX4 63 yX0_has, Cond.methodLink RX4 80 yX4_kindOf, Cond.instanceMethod yX4_kindOf, Cond.selects RX4 yX4_kindOf yX4_kindOf]
def wsX5_wins_r4 : List Cond := [Cond.code yX4_kindOf cX4_kindOf 2 (some .int), Cond.static yX5_kindGoes, Cond.code yX5_kindGoes cX5_kindGoes 2 (some .boolean), Cond.fieldLink RX5 294 "PegField" "WHO_GOES" "[I", Cond.methodLink RX5 123 yX5_hasBit, Cond.static yX5_hasBit, Cond.code yX5_hasBit cX5_hasBit 2 (some .boolean), Cond.static yX5_kindCould, Cond.code yX5_kindCould cX5_kindCould 2 (some .boolean), Cond.fieldLink RX5 203 "PegField" "WHO_COULD" "[I", Cond.methodLink RX4 89 yX4_isEmptyHole, Cond.instanceMethod yX4_isEmptyHole, Cond.selects RX4 yX4_isEmptyHole yX4_isEmptyHole, Cond.code yX4_isEmptyHole cX4_isEmptyHole 2 (some .boolean), Cond.methodLink RX5 107 yX4_homeOf, Cond.methodLink RX5 143 yX4_neighbourOf, Cond.instanceMethod yX4_neighbourOf, Cond.selects RX4 yX4_neighbourOf yX4_neighbourOf, Cond.code yX4_neighbourOf cX4_neighbourOf 3 (some .int), Cond.methodLink RX5 146 yX4_leap, Cond.instanceMethod yX4_leap, Cond.selects RX4 yX4_leap yX4_leap, Cond.code yX4_leap cX4_leap 4 none, Cond.methodLink RX4 110 yX4_lift]
def wsX5_wins_r5 : List Cond := [Cond.instanceMethod yX4_lift, Cond.selects RX4 yX4_lift yX4_lift, Cond.code yX4_lift cX4_lift 2 none, Cond.methodLink RX4 56 yX4_set, Cond.instanceMethod yX4_set, Cond.selects RX4 yX4_set yX4_set, Cond.code yX4_set cX4_set 3 none, Cond.methodLink RX5 274 yX4_takeBack, Cond.instanceMethod yX4_takeBack, Cond.selects RX4 yX4_takeBack yX4_takeBack, Cond.code yX4_takeBack cX4_takeBack 5 none, Cond.methodLink RX5 278 yX1_take, Cond.instanceMethod yX1_take, Cond.selects RX1 yX1_take yX1_take, Cond.code yX1_take cX1_take 3 none, Cond.methodLink RX1 39 Lib.Math.max.name, Cond.static Lib.Math.max.name, Cond.initialized "java/lang/Math", Cond.code Lib.Math.max.name Lib.Math.max.code 2 (some .int), Cond.methodLink RX5 282 yX4_aloneBit, Cond.instanceMethod yX4_aloneBit, Cond.selects RX4 yX4_aloneBit yX4_aloneBit, Cond.code yX4_aloneBit cX4_aloneBit 4 (some .int), Cond.methodLink RX5 285 yX1_end]
def wsX5_wins_r6 : List Cond := [Cond.instanceMethod yX1_end, Cond.selects RX1 yX1_end yX1_end, Cond.code yX1_end cX1_end 3 none]
def wsX5_wins : List Cond := .code yX5_wins cX5_wins 2 (some .int) :: ((wsX5_wins_r1 ++ (wsX5_wins_r2 ++ (wsX5_wins_r3 ++ (wsX5_wins_r4 ++ (wsX5_wins_r5 ++ wsX5_wins_r6))))) ++ wsX50 ++ wsX10 ++ wsX40 ++ wsX00)
def wsX5_fewestWithOneMore_r1 : List Cond := [Cond.fieldLink RX5 45 "PegField" "thought" "LPegField$State;", Cond.fieldLink RX5 28 "PegField" "now" "LPegField$State;", Cond.fieldLink RX5 55 "PegField" "outcomes" "[LPegField$Outcome;", Cond.fieldLink RX5 51 "PegField" "outlook" "LPegField$Outcome;", Cond.methodLink RX5 208 yX4_copyFrom, Cond.instanceMethod yX4_copyFrom, Cond.selects RX4 yX4_copyFrom yX4_copyFrom, Cond.initialized RX4, Cond.code yX4_copyFrom cX4_copyFrom 3 none, Cond.fieldLink RX4 25 "PegField$State" "holes" "I", Cond.fieldLink RX4 29 "PegField$State" "pegs" "I", Cond.fieldLink RX4 32 "PegField$State" "onBoard" "I", Cond.fieldLink RX4 35 "PegField$State" "jumps" "I", Cond.fieldLink RX4 9 "PegField$State" "kinds" "[I", Cond.fieldLink RX4 15 "PegField$State" "homes" "[I", Cond.fieldLink RX4 18 "PegField$State" "tenants" "[I", Cond.methodLink RX5 265 yX4_addPlain, Cond.instanceMethod yX4_addPlain, Cond.selects RX4 yX4_addPlain yX4_addPlain, Cond.code yX4_addPlain cX4_addPlain 2 none, Cond.methodLink RX4 52 yX4_addPeg, Cond.instanceMethod yX4_addPeg, Cond.selects RX4 yX4_addPeg yX4_addPeg, Cond.code yX4_addPeg cX4_addPeg 4 none]
def wsX5_fewestWithOneMore_r2 : List Cond := [Cond.methodLink RX4 56 yX4_set, Cond.instanceMethod yX4_set, Cond.selects RX4 yX4_set yX4_set, Cond.code yX4_set cX4_set 3 none, Cond.fieldLink RX4 21 "PegField$State" "grid" "LPegField$Grid;", Cond.methodLink RX4 59 yX4_isPeg, Cond.instanceMethod yX4_isPeg, Cond.selects RX4 yX4_isPeg yX4_isPeg, Cond.code yX4_isPeg cX4_isPeg 2 (some .boolean), Cond.methodLink RX4 63 yX0_has, Cond.instanceMethod yX0_has, Cond.selects RX0 yX0_has yX0_has, Cond.initialized RX0, Cond.code yX0_has cX0_has 2 (some .boolean), Cond.fieldLink RX0 22 "PegField$Grid" "places" "I", Cond.methodLink RX5 261 yX5_look, Cond.static yX5_look, Cond.initialized RX5, Cond.code yX5_look cX5_look 10 none, Cond.methodLink RX5 268 yX1_begin, Cond.instanceMethod yX1_begin, Cond.selects RX1 yX1_begin yX1_begin, Cond.initialized RX1, Cond.code yX1_begin cX1_begin 1 none]
def wsX5_fewestWithOneMore_r3 : List Cond := [Cond.fieldLink RX1 9 "PegField$Outcome" "choices" "I", Cond.fieldLink RX1 15 "PegField$Outcome" "fewest" "I", Cond.fieldLink RX1 18 "PegField$Outcome" "first" "I", Cond.fieldLink RX1 21 "PegField$Outcome" "ways" "I", Cond.fieldLink RX1 24 "PegField$Outcome" "longest" "I", Cond.fieldLink RX1 27 "PegField$Outcome" "shortest" "I", Cond.fieldLink RX1 30 "PegField$Outcome" "alone" "I", Cond.fieldLink RX1 33 "PegField$Outcome" "winning" "I", Cond.fieldLink RX1 36 "PegField$Outcome" "mean" "I", Cond.methodLink RX5 271 yX4_targetOf, Cond.instanceMethod yX4_targetOf, Cond.selects RX4 yX4_targetOf yX4_targetOf, Cond.code yX4_targetOf cX4_targetOf 6 (some .int), Cond.methodLink RX4 70 yX4_homeOf, Cond.instanceMethod yX4_homeOf, Cond.selects RX4 yX4_homeOf yX4_homeOf, Cond.code yX4_homeOf cX4_homeOf 2 (some .int), Cond.methodLink RX4 73 yX0_next, Cond.instanceMethod yX0_next, Cond.selects RX0 yX0_next yX0_next, Cond.code yX0_next cX0_next 4 (some .int), Cond.fieldLink RX0 9 "PegField$Grid" "beside" "[I", Cond.methodLink RX0 35 yX0_has, Cond.methodLink RX4 77 yX4_pegIn]
def wsX5_fewestWithOneMore_r4 : List Cond := [Cond.instanceMethod yX4_pegIn, Cond.selects RX4 yX4_pegIn yX4_pegIn, Cond.code yX4_pegIn cX4_pegIn 2 (some .int), Cond.methodLink RX4 80 yX4_kindOf, Cond.instanceMethod yX4_kindOf, Cond.selects RX4 yX4_kindOf yX4_kindOf, Cond.code yX4_kindOf cX4_kindOf 2 (some .int), Cond.static yX5_kindGoes, Cond.code yX5_kindGoes cX5_kindGoes 2 (some .boolean), Cond.fieldLink RX5 294 "PegField" "WHO_GOES" "[I", Cond.methodLink RX5 123 yX5_hasBit, Cond.static yX5_hasBit, Cond.code yX5_hasBit cX5_hasBit 2 (some .boolean), Cond.static yX5_kindCould, Cond.code yX5_kindCould cX5_kindCould 2 (some .boolean), Cond.fieldLink RX5 203 "PegField" "WHO_COULD" "[I", Cond.methodLink RX4 89 yX4_isEmptyHole, Cond.instanceMethod yX4_isEmptyHole, Cond.selects RX4 yX4_isEmptyHole yX4_isEmptyHole, Cond.code yX4_isEmptyHole cX4_isEmptyHole 2 (some .boolean), Cond.methodLink RX5 107 yX4_homeOf, Cond.methodLink RX5 143 yX4_neighbourOf, Cond.instanceMethod yX4_neighbourOf, Cond.selects RX4 yX4_neighbourOf yX4_neighbourOf]
def wsX5_fewestWithOneMore_r5 : List Cond := [Cond.code yX4_neighbourOf cX4_neighbourOf 3 (some .int), Cond.methodLink RX5 146 yX4_leap, Cond.instanceMethod yX4_leap, Cond.selects RX4 yX4_leap yX4_leap, Cond.code yX4_leap cX4_leap 4 none, Cond.methodLink RX4 110 yX4_lift, Cond.instanceMethod yX4_lift, Cond.selects RX4 yX4_lift yX4_lift, Cond.code yX4_lift cX4_lift 2 none, Cond.methodLink RX5 274 yX4_takeBack, Cond.instanceMethod yX4_takeBack, Cond.selects RX4 yX4_takeBack yX4_takeBack, Cond.code yX4_takeBack cX4_takeBack 5 none, Cond.methodLink RX5 278 yX1_take, Cond.instanceMethod yX1_take, Cond.selects RX1 yX1_take yX1_take, Cond.code yX1_take cX1_take 3 none, Cond.methodLink RX1 39 Lib.Math.max.name, Cond.static Lib.Math.max.name, Cond.initialized "java/lang/Math", Cond.code Lib.Math.max.name Lib.Math.max.code 2 (some .int), Cond.methodLink RX5 282 yX4_aloneBit, Cond.instanceMethod yX4_aloneBit, Cond.selects RX4 yX4_aloneBit yX4_aloneBit]
def wsX5_fewestWithOneMore_r6 : List Cond := [Cond.code yX4_aloneBit cX4_aloneBit 4 (some .int), Cond.methodLink RX5 285 yX1_end, Cond.instanceMethod yX1_end, Cond.selects RX1 yX1_end yX1_end, Cond.code yX1_end cX1_end 3 none]
def wsX5_fewestWithOneMore : List Cond := .code yX5_fewestWithOneMore cX5_fewestWithOneMore 2 (some .int) :: ((wsX5_fewestWithOneMore_r1 ++ (wsX5_fewestWithOneMore_r2 ++ (wsX5_fewestWithOneMore_r3 ++ (wsX5_fewestWithOneMore_r4 ++ (wsX5_fewestWithOneMore_r5 ++ wsX5_fewestWithOneMore_r6))))) ++ wsX50 ++ wsX10 ++ wsX40 ++ wsX00)
def wsX5_add_r1 : List Cond := [Cond.fieldLink RX5 95 "PegField" "reads" "I", Cond.fieldLink RX5 194 "PegField" "adds" "I", Cond.fieldLink RX5 92 "PegField" "isLooked" "Z", Cond.fieldLink RX5 28 "PegField" "now" "LPegField$State;", Cond.methodLink RX5 153 yX4_isEmptyHole, Cond.instanceMethod yX4_isEmptyHole, Cond.selects RX4 yX4_isEmptyHole yX4_isEmptyHole, Cond.initialized RX4, Cond.code yX4_isEmptyHole cX4_isEmptyHole 2 (some .boolean), Cond.fieldLink RX4 21 "PegField$State" "grid" "LPegField$Grid;", Cond.fieldLink RX4 25 "PegField$State" "holes" "I", Cond.fieldLink RX4 18 "PegField$State" "tenants" "[I", Cond.methodLink RX4 63 yX0_has, Cond.instanceMethod yX0_has, Cond.selects RX0 yX0_has yX0_has, Cond.initialized RX0, Cond.code yX0_has cX0_has 2 (some .boolean), Cond.fieldLink RX0 22 "PegField$Grid" "places" "I", Cond.static yX5_hasBit, Cond.initialized RX5, Cond.code yX5_hasBit cX5_hasBit 2 (some .boolean), Cond.methodLink RX5 197 yX5_fewestWithOneMore, Cond.instanceMethod yX5_fewestWithOneMore, Cond.selects RX5 yX5_fewestWithOneMore yX5_fewestWithOneMore]
def wsX5_add_r2 : List Cond := [Cond.code yX5_fewestWithOneMore cX5_fewestWithOneMore 2 (some .int), Cond.fieldLink RX5 45 "PegField" "thought" "LPegField$State;", Cond.fieldLink RX5 55 "PegField" "outcomes" "[LPegField$Outcome;", Cond.fieldLink RX5 51 "PegField" "outlook" "LPegField$Outcome;", Cond.methodLink RX5 208 yX4_copyFrom, Cond.instanceMethod yX4_copyFrom, Cond.selects RX4 yX4_copyFrom yX4_copyFrom, Cond.code yX4_copyFrom cX4_copyFrom 3 none, Cond.fieldLink RX4 29 "PegField$State" "pegs" "I", Cond.fieldLink RX4 32 "PegField$State" "onBoard" "I", Cond.fieldLink RX4 35 "PegField$State" "jumps" "I", Cond.fieldLink RX4 9 "PegField$State" "kinds" "[I", Cond.fieldLink RX4 15 "PegField$State" "homes" "[I", Cond.methodLink RX5 265 yX4_addPlain, Cond.instanceMethod yX4_addPlain, Cond.selects RX4 yX4_addPlain yX4_addPlain, Cond.code yX4_addPlain cX4_addPlain 2 none, Cond.methodLink RX4 52 yX4_addPeg, Cond.instanceMethod yX4_addPeg, Cond.selects RX4 yX4_addPeg yX4_addPeg, Cond.code yX4_addPeg cX4_addPeg 4 none, Cond.methodLink RX4 56 yX4_set, Cond.instanceMethod yX4_set, Cond.selects RX4 yX4_set yX4_set]
def wsX5_add_r3 : List Cond := [Cond.code yX4_set cX4_set 3 none, Cond.methodLink RX4 59 yX4_isPeg, Cond.instanceMethod yX4_isPeg, Cond.selects RX4 yX4_isPeg yX4_isPeg, Cond.code yX4_isPeg cX4_isPeg 2 (some .boolean), Cond.methodLink RX5 261 yX5_look, Cond.static yX5_look, Cond.code yX5_look cX5_look 10 none, Cond.methodLink RX5 268 yX1_begin, Cond.instanceMethod yX1_begin, Cond.selects RX1 yX1_begin yX1_begin, Cond.initialized RX1, Cond.code yX1_begin cX1_begin 1 none, Cond.fieldLink RX1 9 "PegField$Outcome" "choices" "I", Cond.fieldLink RX1 15 "PegField$Outcome" "fewest" "I", Cond.fieldLink RX1 18 "PegField$Outcome" "first" "I", Cond.fieldLink RX1 21 "PegField$Outcome" "ways" "I", Cond.fieldLink RX1 24 "PegField$Outcome" "longest" "I", Cond.fieldLink RX1 27 "PegField$Outcome" "shortest" "I", Cond.fieldLink RX1 30 "PegField$Outcome" "alone" "I", Cond.fieldLink RX1 33 "PegField$Outcome" "winning" "I", Cond.fieldLink RX1 36 "PegField$Outcome" "mean" "I", Cond.methodLink RX5 271 yX4_targetOf, Cond.instanceMethod yX4_targetOf]
def wsX5_add_r4 : List Cond := [Cond.selects RX4 yX4_targetOf yX4_targetOf, Cond.code yX4_targetOf cX4_targetOf 6 (some .int), Cond.methodLink RX4 70 yX4_homeOf, Cond.instanceMethod yX4_homeOf, Cond.selects RX4 yX4_homeOf yX4_homeOf, Cond.code yX4_homeOf cX4_homeOf 2 (some .int), Cond.methodLink RX4 73 yX0_next, Cond.instanceMethod yX0_next, Cond.selects RX0 yX0_next yX0_next, Cond.code yX0_next cX0_next 4 (some .int), Cond.fieldLink RX0 9 "PegField$Grid" "beside" "[I", Cond.methodLink RX0 35 yX0_has, Cond.methodLink RX4 77 yX4_pegIn, Cond.instanceMethod yX4_pegIn, Cond.selects RX4 yX4_pegIn yX4_pegIn, Cond.code yX4_pegIn cX4_pegIn 2 (some .int), Cond.methodLink RX4 80 yX4_kindOf, Cond.instanceMethod yX4_kindOf, Cond.selects RX4 yX4_kindOf yX4_kindOf, Cond.code yX4_kindOf cX4_kindOf 2 (some .int), Cond.static yX5_kindGoes, Cond.code yX5_kindGoes cX5_kindGoes 2 (some .boolean), Cond.fieldLink RX5 294 "PegField" "WHO_GOES" "[I", Cond.methodLink RX5 123 yX5_hasBit]
def wsX5_add_r5 : List Cond := [Cond.static yX5_kindCould, Cond.code yX5_kindCould cX5_kindCould 2 (some .boolean), Cond.fieldLink RX5 203 "PegField" "WHO_COULD" "[I", Cond.methodLink RX4 89 yX4_isEmptyHole, Cond.methodLink RX5 107 yX4_homeOf, Cond.methodLink RX5 143 yX4_neighbourOf, Cond.instanceMethod yX4_neighbourOf, Cond.selects RX4 yX4_neighbourOf yX4_neighbourOf, Cond.code yX4_neighbourOf cX4_neighbourOf 3 (some .int), Cond.methodLink RX5 146 yX4_leap, Cond.instanceMethod yX4_leap, Cond.selects RX4 yX4_leap yX4_leap, Cond.code yX4_leap cX4_leap 4 none, Cond.methodLink RX4 110 yX4_lift, Cond.instanceMethod yX4_lift, Cond.selects RX4 yX4_lift yX4_lift, Cond.code yX4_lift cX4_lift 2 none, Cond.methodLink RX5 274 yX4_takeBack, Cond.instanceMethod yX4_takeBack, Cond.selects RX4 yX4_takeBack yX4_takeBack, Cond.code yX4_takeBack cX4_takeBack 5 none, Cond.methodLink RX5 278 yX1_take, Cond.instanceMethod yX1_take, Cond.selects RX1 yX1_take yX1_take]
def wsX5_add_r6 : List Cond := [Cond.code yX1_take cX1_take 3 none, Cond.methodLink RX1 39 Lib.Math.max.name, Cond.static Lib.Math.max.name, Cond.initialized "java/lang/Math", Cond.code Lib.Math.max.name Lib.Math.max.code 2 (some .int), Cond.methodLink RX5 282 yX4_aloneBit, Cond.instanceMethod yX4_aloneBit, Cond.selects RX4 yX4_aloneBit yX4_aloneBit, Cond.code yX4_aloneBit cX4_aloneBit 4 (some .int), Cond.methodLink RX5 285 yX1_end, Cond.instanceMethod yX1_end, Cond.selects RX1 yX1_end yX1_end, Cond.code yX1_end cX1_end 3 none]
def wsX5_add : List Cond := .code yX5_add cX5_add 2 (some .int) :: ((wsX5_add_r1 ++ (wsX5_add_r2 ++ (wsX5_add_r3 ++ (wsX5_add_r4 ++ (wsX5_add_r5 ++ wsX5_add_r6))))) ++ wsX50 ++ wsX40 ++ wsX00 ++ wsX10)
def wsX5_mean_r1 : List Cond := [Cond.fieldLink RX5 95 "PegField" "reads" "I", Cond.fieldLink RX5 51 "PegField" "outlook" "LPegField$Outcome;", Cond.methodLink RX5 170 yX5_lookAhead, Cond.instanceMethod yX5_lookAhead, Cond.selects RX5 yX5_lookAhead yX5_lookAhead, Cond.initialized RX5, Cond.code yX5_lookAhead cX5_lookAhead 1 none, Cond.fieldLink RX5 92 "PegField" "isLooked" "Z", Cond.fieldLink RX5 45 "PegField" "thought" "LPegField$State;", Cond.fieldLink RX5 28 "PegField" "now" "LPegField$State;", Cond.fieldLink RX5 55 "PegField" "outcomes" "[LPegField$Outcome;", Cond.methodLink RX5 208 yX4_copyFrom, Cond.instanceMethod yX4_copyFrom, Cond.selects RX4 yX4_copyFrom yX4_copyFrom, Cond.initialized RX4, Cond.code yX4_copyFrom cX4_copyFrom 3 none, Cond.fieldLink RX4 25 "PegField$State" "holes" "I", Cond.fieldLink RX4 29 "PegField$State" "pegs" "I", Cond.fieldLink RX4 32 "PegField$State" "onBoard" "I", Cond.fieldLink RX4 35 "PegField$State" "jumps" "I", Cond.fieldLink RX4 9 "PegField$State" "kinds" "[I", Cond.fieldLink RX4 15 "PegField$State" "homes" "[I", Cond.fieldLink RX4 18 "PegField$State" "tenants" "[I", Cond.methodLink RX5 261 yX5_look]
def wsX5_mean_r2 : List Cond := [Cond.static yX5_look, Cond.code yX5_look cX5_look 10 none, Cond.methodLink RX5 268 yX1_begin, Cond.instanceMethod yX1_begin, Cond.selects RX1 yX1_begin yX1_begin, Cond.initialized RX1, Cond.code yX1_begin cX1_begin 1 none, Cond.fieldLink RX1 9 "PegField$Outcome" "choices" "I", Cond.fieldLink RX1 15 "PegField$Outcome" "fewest" "I", Cond.fieldLink RX1 18 "PegField$Outcome" "first" "I", Cond.fieldLink RX1 21 "PegField$Outcome" "ways" "I", Cond.fieldLink RX1 24 "PegField$Outcome" "longest" "I", Cond.fieldLink RX1 27 "PegField$Outcome" "shortest" "I", Cond.fieldLink RX1 30 "PegField$Outcome" "alone" "I", Cond.fieldLink RX1 33 "PegField$Outcome" "winning" "I", Cond.fieldLink RX1 36 "PegField$Outcome" "mean" "I", Cond.methodLink RX5 271 yX4_targetOf, Cond.instanceMethod yX4_targetOf, Cond.selects RX4 yX4_targetOf yX4_targetOf, Cond.code yX4_targetOf cX4_targetOf 6 (some .int), Cond.fieldLink RX4 21 "PegField$State" "grid" "LPegField$Grid;", Cond.methodLink RX4 70 yX4_homeOf, Cond.instanceMethod yX4_homeOf, Cond.selects RX4 yX4_homeOf yX4_homeOf]
def wsX5_mean_r3 : List Cond := [Cond.code yX4_homeOf cX4_homeOf 2 (some .int), Cond.methodLink RX4 59 yX4_isPeg, Cond.instanceMethod yX4_isPeg, Cond.selects RX4 yX4_isPeg yX4_isPeg, Cond.code yX4_isPeg cX4_isPeg 2 (some .boolean), Cond.methodLink RX4 73 yX0_next, Cond.instanceMethod yX0_next, Cond.selects RX0 yX0_next yX0_next, Cond.initialized RX0, Cond.code yX0_next cX0_next 4 (some .int), Cond.fieldLink RX0 9 "PegField$Grid" "beside" "[I", Cond.methodLink RX0 35 yX0_has, Cond.instanceMethod yX0_has, Cond.selects RX0 yX0_has yX0_has, Cond.code yX0_has cX0_has 2 (some .boolean), Cond.fieldLink RX0 22 "PegField$Grid" "places" "I", Cond.methodLink RX4 77 yX4_pegIn, Cond.instanceMethod yX4_pegIn, Cond.selects RX4 yX4_pegIn yX4_pegIn, Cond.code yX4_pegIn cX4_pegIn 2 (some .int), Cond.methodLink RX4 63 yX0_has, Cond.methodLink RX4 80 yX4_kindOf, Cond.instanceMethod yX4_kindOf, Cond.selects RX4 yX4_kindOf yX4_kindOf]
def wsX5_mean_r4 : List Cond := [Cond.code yX4_kindOf cX4_kindOf 2 (some .int), Cond.static yX5_kindGoes, Cond.code yX5_kindGoes cX5_kindGoes 2 (some .boolean), Cond.fieldLink RX5 294 "PegField" "WHO_GOES" "[I", Cond.methodLink RX5 123 yX5_hasBit, Cond.static yX5_hasBit, Cond.code yX5_hasBit cX5_hasBit 2 (some .boolean), Cond.static yX5_kindCould, Cond.code yX5_kindCould cX5_kindCould 2 (some .boolean), Cond.fieldLink RX5 203 "PegField" "WHO_COULD" "[I", Cond.methodLink RX4 89 yX4_isEmptyHole, Cond.instanceMethod yX4_isEmptyHole, Cond.selects RX4 yX4_isEmptyHole yX4_isEmptyHole, Cond.code yX4_isEmptyHole cX4_isEmptyHole 2 (some .boolean), Cond.methodLink RX5 107 yX4_homeOf, Cond.methodLink RX5 143 yX4_neighbourOf, Cond.instanceMethod yX4_neighbourOf, Cond.selects RX4 yX4_neighbourOf yX4_neighbourOf, Cond.code yX4_neighbourOf cX4_neighbourOf 3 (some .int), Cond.methodLink RX5 146 yX4_leap, Cond.instanceMethod yX4_leap, Cond.selects RX4 yX4_leap yX4_leap, Cond.code yX4_leap cX4_leap 4 none, Cond.methodLink RX4 110 yX4_lift]
def wsX5_mean_r5 : List Cond := [Cond.instanceMethod yX4_lift, Cond.selects RX4 yX4_lift yX4_lift, Cond.code yX4_lift cX4_lift 2 none, Cond.methodLink RX4 56 yX4_set, Cond.instanceMethod yX4_set, Cond.selects RX4 yX4_set yX4_set, Cond.code yX4_set cX4_set 3 none, Cond.methodLink RX5 274 yX4_takeBack, Cond.instanceMethod yX4_takeBack, Cond.selects RX4 yX4_takeBack yX4_takeBack, Cond.code yX4_takeBack cX4_takeBack 5 none, Cond.methodLink RX5 278 yX1_take, Cond.instanceMethod yX1_take, Cond.selects RX1 yX1_take yX1_take, Cond.code yX1_take cX1_take 3 none, Cond.methodLink RX1 39 Lib.Math.max.name, Cond.static Lib.Math.max.name, Cond.initialized "java/lang/Math", Cond.code Lib.Math.max.name Lib.Math.max.code 2 (some .int), Cond.methodLink RX5 282 yX4_aloneBit, Cond.instanceMethod yX4_aloneBit, Cond.selects RX4 yX4_aloneBit yX4_aloneBit, Cond.code yX4_aloneBit cX4_aloneBit 4 (some .int), Cond.methodLink RX5 285 yX1_end]
def wsX5_mean_r6 : List Cond := [Cond.instanceMethod yX1_end, Cond.selects RX1 yX1_end yX1_end, Cond.code yX1_end cX1_end 3 none]
def wsX5_mean : List Cond := .code yX5_mean cX5_mean 1 (some .int) :: ((wsX5_mean_r1 ++ (wsX5_mean_r2 ++ (wsX5_mean_r3 ++ (wsX5_mean_r4 ++ (wsX5_mean_r5 ++ wsX5_mean_r6))))) ++ wsX50 ++ wsX10 ++ wsX40 ++ wsX00)
def wsX5_see : List Cond := .code yX5_see cX5_see 5 (some .int) :: ([.fieldLink RX5 28 "PegField" "now" "LPegField$State;", .fieldLink RX5 203 "PegField" "WHO_COULD" "[I", .fieldLink RX5 35 "PegField" "seen" "LPegField$Seen;", .methodLink RX5 101 yX4_isPeg, .instanceMethod yX4_isPeg, .selects RX4 yX4_isPeg yX4_isPeg, .initialized RX4, .code yX4_isPeg cX4_isPeg 2 (some .boolean), .fieldLink RX4 29 "PegField$State" "pegs" "I", .methodLink RX5 206 yX3_append, .instanceMethod yX3_append, .selects RX3 yX3_append yX3_append, .initialized RX3, .code yX3_append cX3_append 3 (some .boolean), .fieldLink RX3 18 "PegField$Seen" "size" "I", .fieldLink RX3 9 "PegField$Seen" "pegs" "[I", .fieldLink RX3 15 "PegField$Seen" "sorts" "[I"] ++ wsX50 ++ wsX30 ++ wsX40)
def wsX5_forget : List Cond := .code yX5_forget cX5_forget 2 (some .int) :: ([.fieldLink RX5 35 "PegField" "seen" "LPegField$Seen;"] ++ wsX50 ++ wsX30)
def wsX5_nextSeed : List Cond := .code yX5_nextSeed cX5_nextSeed 2 (some .long) :: ([.constantLong RX5 288 (1103515245), .constantLong RX5 290 (12345), .constantLong RX5 292 (2147483648)])
def wsX5_runs_r1 : List Cond := [Cond.fieldLink RX5 95 "PegField" "reads" "I", Cond.fieldLink RX5 45 "PegField" "thought" "LPegField$State;", Cond.fieldLink RX5 28 "PegField" "now" "LPegField$State;", Cond.constantLong RX5 219 (65536), Cond.methodLink RX5 208 yX4_copyFrom, Cond.instanceMethod yX4_copyFrom, Cond.selects RX4 yX4_copyFrom yX4_copyFrom, Cond.initialized RX4, Cond.code yX4_copyFrom cX4_copyFrom 3 none, Cond.fieldLink RX4 25 "PegField$State" "holes" "I", Cond.fieldLink RX4 29 "PegField$State" "pegs" "I", Cond.fieldLink RX4 32 "PegField$State" "onBoard" "I", Cond.fieldLink RX4 35 "PegField$State" "jumps" "I", Cond.fieldLink RX4 9 "PegField$State" "kinds" "[I", Cond.fieldLink RX4 15 "PegField$State" "homes" "[I", Cond.fieldLink RX4 18 "PegField$State" "tenants" "[I", Cond.methodLink RX5 212 yX4_choices, Cond.instanceMethod yX4_choices, Cond.selects RX4 yX4_choices yX4_choices, Cond.code yX4_choices cX4_choices 3 (some .int), Cond.methodLink RX4 95 yX4_targetsOf, Cond.instanceMethod yX4_targetsOf, Cond.selects RX4 yX4_targetsOf yX4_targetsOf, Cond.code yX4_targetsOf cX4_targetsOf 5 (some .int)]
def wsX5_runs_r2 : List Cond := [Cond.methodLink RX4 92 yX4_targetOf, Cond.instanceMethod yX4_targetOf, Cond.selects RX4 yX4_targetOf yX4_targetOf, Cond.code yX4_targetOf cX4_targetOf 6 (some .int), Cond.fieldLink RX4 21 "PegField$State" "grid" "LPegField$Grid;", Cond.methodLink RX4 70 yX4_homeOf, Cond.instanceMethod yX4_homeOf, Cond.selects RX4 yX4_homeOf yX4_homeOf, Cond.code yX4_homeOf cX4_homeOf 2 (some .int), Cond.methodLink RX4 59 yX4_isPeg, Cond.instanceMethod yX4_isPeg, Cond.selects RX4 yX4_isPeg yX4_isPeg, Cond.code yX4_isPeg cX4_isPeg 2 (some .boolean), Cond.methodLink RX4 73 yX0_next, Cond.instanceMethod yX0_next, Cond.selects RX0 yX0_next yX0_next, Cond.initialized RX0, Cond.code yX0_next cX0_next 4 (some .int), Cond.fieldLink RX0 9 "PegField$Grid" "beside" "[I", Cond.methodLink RX0 35 yX0_has, Cond.instanceMethod yX0_has, Cond.selects RX0 yX0_has yX0_has, Cond.code yX0_has cX0_has 2 (some .boolean), Cond.fieldLink RX0 22 "PegField$Grid" "places" "I"]
def wsX5_runs_r3 : List Cond := [Cond.methodLink RX4 77 yX4_pegIn, Cond.instanceMethod yX4_pegIn, Cond.selects RX4 yX4_pegIn yX4_pegIn, Cond.code yX4_pegIn cX4_pegIn 2 (some .int), Cond.methodLink RX4 63 yX0_has, Cond.methodLink RX4 80 yX4_kindOf, Cond.instanceMethod yX4_kindOf, Cond.selects RX4 yX4_kindOf yX4_kindOf, Cond.code yX4_kindOf cX4_kindOf 2 (some .int), Cond.static yX5_kindGoes, Cond.initialized RX5, Cond.code yX5_kindGoes cX5_kindGoes 2 (some .boolean), Cond.fieldLink RX5 294 "PegField" "WHO_GOES" "[I", Cond.methodLink RX5 123 yX5_hasBit, Cond.static yX5_hasBit, Cond.code yX5_hasBit cX5_hasBit 2 (some .boolean), Cond.static yX5_kindCould, Cond.code yX5_kindCould cX5_kindCould 2 (some .boolean), Cond.fieldLink RX5 203 "PegField" "WHO_COULD" "[I", Cond.methodLink RX4 89 yX4_isEmptyHole, Cond.instanceMethod yX4_isEmptyHole, Cond.selects RX4 yX4_isEmptyHole yX4_isEmptyHole, Cond.code yX4_isEmptyHole cX4_isEmptyHole 2 (some .boolean), Cond.methodLink RX4 98 yJ6_bitCount_0f7a4]
def wsX5_runs_r4 : List Cond := [Cond.static yJ6_bitCount_0f7a4, Cond.initialized RJ6, Cond.code yJ6_bitCount_0f7a4 cJ6_bitCount_0f7a4 1 (some .int), Cond.constant RJ6 265 (1431655765), Cond.constant RJ6 266 (858993459), Cond.constant RJ6 267 (252645135), Cond.methodLink RX5 215 yX5_nextSeed, Cond.static yX5_nextSeed, Cond.code yX5_nextSeed cX5_nextSeed 2 (some .long), Cond.constantLong RX5 288 (1103515245), Cond.constantLong RX5 290 (12345), Cond.constantLong RX5 292 (2147483648), Cond.methodLink RX5 221 yX4_leapByChoice, Cond.instanceMethod yX4_leapByChoice, Cond.selects RX4 yX4_leapByChoice yX4_leapByChoice, Cond.code yX4_leapByChoice cX4_leapByChoice 6 none, Cond.methodLink RX4 103 yX4_neighbourOf, Cond.instanceMethod yX4_neighbourOf, Cond.selects RX4 yX4_neighbourOf yX4_neighbourOf, Cond.code yX4_neighbourOf cX4_neighbourOf 3 (some .int), Cond.methodLink RX4 106 yX4_leap, Cond.instanceMethod yX4_leap, Cond.selects RX4 yX4_leap yX4_leap, Cond.code yX4_leap cX4_leap 4 none]
def wsX5_runs_r5 : List Cond := [Cond.methodLink RX4 110 yX4_lift, Cond.instanceMethod yX4_lift, Cond.selects RX4 yX4_lift yX4_lift, Cond.code yX4_lift cX4_lift 2 none, Cond.methodLink RX4 56 yX4_set, Cond.instanceMethod yX4_set, Cond.selects RX4 yX4_set yX4_set, Cond.code yX4_set cX4_set 3 none]
def wsX5_runs : List Cond := .code yX5_runs cX5_runs 11 (some .int) :: ((wsX5_runs_r1 ++ (wsX5_runs_r2 ++ (wsX5_runs_r3 ++ (wsX5_runs_r4 ++ wsX5_runs_r5)))) ++ wsX50 ++ wsX40 ++ wsX00)
def wsX5_image_r1 : List Cond := [Cond.fieldLink RX5 95 "PegField" "reads" "I", Cond.fieldLink RX5 39 "PegField" "keptState" "LPegField$State;", Cond.fieldLink RX5 28 "PegField" "now" "LPegField$State;", Cond.fieldLink RX5 42 "PegField" "keptSeen" "LPegField$Seen;", Cond.fieldLink RX5 35 "PegField" "seen" "LPegField$Seen;", Cond.fieldLink RX5 88 "PegField" "isKept" "Z", Cond.methodLink RX5 208 yX4_copyFrom, Cond.instanceMethod yX4_copyFrom, Cond.selects RX4 yX4_copyFrom yX4_copyFrom, Cond.initialized RX4, Cond.code yX4_copyFrom cX4_copyFrom 3 none, Cond.fieldLink RX4 25 "PegField$State" "holes" "I", Cond.fieldLink RX4 29 "PegField$State" "pegs" "I", Cond.fieldLink RX4 32 "PegField$State" "onBoard" "I", Cond.fieldLink RX4 35 "PegField$State" "jumps" "I", Cond.fieldLink RX4 9 "PegField$State" "kinds" "[I", Cond.fieldLink RX4 15 "PegField$State" "homes" "[I", Cond.fieldLink RX4 18 "PegField$State" "tenants" "[I", Cond.methodLink RX5 225 yX3_copyFrom, Cond.instanceMethod yX3_copyFrom, Cond.selects RX3 yX3_copyFrom yX3_copyFrom, Cond.initialized RX3, Cond.code yX3_copyFrom cX3_copyFrom 3 none, Cond.fieldLink RX3 18 "PegField$Seen" "size" "I"]
def wsX5_image_r2 : List Cond := [Cond.fieldLink RX3 9 "PegField$Seen" "pegs" "[I", Cond.fieldLink RX3 15 "PegField$Seen" "sorts" "[I"]
def wsX5_image : List Cond := .code yX5_image cX5_image 1 (some .int) :: ((wsX5_image_r1 ++ wsX5_image_r2) ++ wsX50 ++ wsX40 ++ wsX30)
def wsX5_restore_r1 : List Cond := [Cond.fieldLink RX5 88 "PegField" "isKept" "Z", Cond.fieldLink RX5 28 "PegField" "now" "LPegField$State;", Cond.fieldLink RX5 39 "PegField" "keptState" "LPegField$State;", Cond.fieldLink RX5 35 "PegField" "seen" "LPegField$Seen;", Cond.fieldLink RX5 42 "PegField" "keptSeen" "LPegField$Seen;", Cond.fieldLink RX5 92 "PegField" "isLooked" "Z", Cond.methodLink RX5 208 yX4_copyFrom, Cond.instanceMethod yX4_copyFrom, Cond.selects RX4 yX4_copyFrom yX4_copyFrom, Cond.initialized RX4, Cond.code yX4_copyFrom cX4_copyFrom 3 none, Cond.fieldLink RX4 25 "PegField$State" "holes" "I", Cond.fieldLink RX4 29 "PegField$State" "pegs" "I", Cond.fieldLink RX4 32 "PegField$State" "onBoard" "I", Cond.fieldLink RX4 35 "PegField$State" "jumps" "I", Cond.fieldLink RX4 9 "PegField$State" "kinds" "[I", Cond.fieldLink RX4 15 "PegField$State" "homes" "[I", Cond.fieldLink RX4 18 "PegField$State" "tenants" "[I", Cond.methodLink RX5 225 yX3_copyFrom, Cond.instanceMethod yX3_copyFrom, Cond.selects RX3 yX3_copyFrom yX3_copyFrom, Cond.initialized RX3, Cond.code yX3_copyFrom cX3_copyFrom 3 none, Cond.fieldLink RX3 18 "PegField$Seen" "size" "I"]
def wsX5_restore_r2 : List Cond := [Cond.fieldLink RX3 9 "PegField$Seen" "pegs" "[I", Cond.fieldLink RX3 15 "PegField$Seen" "sorts" "[I"]
def wsX5_restore : List Cond := .code yX5_restore cX5_restore 1 (some .int) :: ((wsX5_restore_r1 ++ wsX5_restore_r2) ++ wsX50 ++ wsX40 ++ wsX30)
def wsX5_count_r1 : List Cond := [Cond.fieldLink RX5 19 "PegField" "grid" "LPegField$Grid;", Cond.fieldLink RX5 28 "PegField" "now" "LPegField$State;", Cond.fieldLink RX5 35 "PegField" "seen" "LPegField$Seen;", Cond.fieldLink RX5 12 "PegField" "page" "LPegField$Page;", Cond.fieldLink RX5 95 "PegField" "reads" "I", Cond.fieldLink RX5 194 "PegField" "adds" "I", Cond.methodLink RX5 162 yJ6_bitCount_0f7a4, Cond.static yJ6_bitCount_0f7a4, Cond.initialized RJ6, Cond.code yJ6_bitCount_0f7a4 cJ6_bitCount_0f7a4 1 (some .int), Cond.constant RJ6 265 (1431655765), Cond.constant RJ6 266 (858993459), Cond.constant RJ6 267 (252645135), Cond.methodLink RX5 212 yX4_choices, Cond.instanceMethod yX4_choices, Cond.selects RX4 yX4_choices yX4_choices, Cond.initialized RX4, Cond.code yX4_choices cX4_choices 3 (some .int), Cond.fieldLink RX4 29 "PegField$State" "pegs" "I", Cond.methodLink RX4 95 yX4_targetsOf, Cond.instanceMethod yX4_targetsOf, Cond.selects RX4 yX4_targetsOf yX4_targetsOf, Cond.code yX4_targetsOf cX4_targetsOf 5 (some .int), Cond.methodLink RX4 92 yX4_targetOf]
def wsX5_count_r2 : List Cond := [Cond.instanceMethod yX4_targetOf, Cond.selects RX4 yX4_targetOf yX4_targetOf, Cond.code yX4_targetOf cX4_targetOf 6 (some .int), Cond.fieldLink RX4 21 "PegField$State" "grid" "LPegField$Grid;", Cond.methodLink RX4 70 yX4_homeOf, Cond.instanceMethod yX4_homeOf, Cond.selects RX4 yX4_homeOf yX4_homeOf, Cond.code yX4_homeOf cX4_homeOf 2 (some .int), Cond.fieldLink RX4 15 "PegField$State" "homes" "[I", Cond.methodLink RX4 59 yX4_isPeg, Cond.instanceMethod yX4_isPeg, Cond.selects RX4 yX4_isPeg yX4_isPeg, Cond.code yX4_isPeg cX4_isPeg 2 (some .boolean), Cond.methodLink RX4 73 yX0_next, Cond.instanceMethod yX0_next, Cond.selects RX0 yX0_next yX0_next, Cond.initialized RX0, Cond.code yX0_next cX0_next 4 (some .int), Cond.fieldLink RX0 9 "PegField$Grid" "beside" "[I", Cond.methodLink RX0 35 yX0_has, Cond.instanceMethod yX0_has, Cond.selects RX0 yX0_has yX0_has, Cond.code yX0_has cX0_has 2 (some .boolean), Cond.fieldLink RX0 22 "PegField$Grid" "places" "I"]
def wsX5_count_r3 : List Cond := [Cond.methodLink RX4 77 yX4_pegIn, Cond.instanceMethod yX4_pegIn, Cond.selects RX4 yX4_pegIn yX4_pegIn, Cond.code yX4_pegIn cX4_pegIn 2 (some .int), Cond.fieldLink RX4 18 "PegField$State" "tenants" "[I", Cond.methodLink RX4 63 yX0_has, Cond.methodLink RX4 80 yX4_kindOf, Cond.instanceMethod yX4_kindOf, Cond.selects RX4 yX4_kindOf yX4_kindOf, Cond.code yX4_kindOf cX4_kindOf 2 (some .int), Cond.fieldLink RX4 9 "PegField$State" "kinds" "[I", Cond.static yX5_kindGoes, Cond.initialized RX5, Cond.code yX5_kindGoes cX5_kindGoes 2 (some .boolean), Cond.fieldLink RX5 294 "PegField" "WHO_GOES" "[I", Cond.methodLink RX5 123 yX5_hasBit, Cond.static yX5_hasBit, Cond.code yX5_hasBit cX5_hasBit 2 (some .boolean), Cond.static yX5_kindCould, Cond.code yX5_kindCould cX5_kindCould 2 (some .boolean), Cond.fieldLink RX5 203 "PegField" "WHO_COULD" "[I", Cond.methodLink RX4 89 yX4_isEmptyHole, Cond.instanceMethod yX4_isEmptyHole, Cond.selects RX4 yX4_isEmptyHole yX4_isEmptyHole]
def wsX5_count_r4 : List Cond := [Cond.code yX4_isEmptyHole cX4_isEmptyHole 2 (some .boolean), Cond.fieldLink RX4 25 "PegField$State" "holes" "I", Cond.methodLink RX4 98 yJ6_bitCount_0f7a4]
def wsX5_count : List Cond := .code yX5_count cX5_count 2 (some .int) :: ((wsX5_count_r1 ++ (wsX5_count_r2 ++ (wsX5_count_r3 ++ wsX5_count_r4))) ++ wsX50 ++ wsX00 ++ wsX40 ++ wsX30 ++ wsX20)
def wsX5_digest_r1 : List Cond := [Cond.constantLong RX5 234 (1307), Cond.fieldLink RX5 28 "PegField" "now" "LPegField$State;", Cond.constantLong RX5 236 (31), Cond.fieldLink RX5 19 "PegField" "grid" "LPegField$Grid;", Cond.fieldLink RX5 95 "PegField" "reads" "I", Cond.fieldLink RX5 12 "PegField" "page" "LPegField$Page;", Cond.methodLink RX5 238 yX5_peg, Cond.instanceMethod yX5_peg, Cond.selects RX5 yX5_peg yX5_peg, Cond.initialized RX5, Cond.code yX5_peg cX5_peg 3 (some .int), Cond.fieldLink RX5 35 "PegField" "seen" "LPegField$Seen;", Cond.methodLink RX5 101 yX4_isPeg, Cond.instanceMethod yX4_isPeg, Cond.selects RX4 yX4_isPeg yX4_isPeg, Cond.initialized RX4, Cond.code yX4_isPeg cX4_isPeg 2 (some .boolean), Cond.fieldLink RX4 29 "PegField$State" "pegs" "I", Cond.methodLink RX5 104 yX4_kindOf, Cond.instanceMethod yX4_kindOf, Cond.selects RX4 yX4_kindOf yX4_kindOf, Cond.code yX4_kindOf cX4_kindOf 2 (some .int), Cond.fieldLink RX4 9 "PegField$State" "kinds" "[I", Cond.methodLink RX4 59 yX4_isPeg]
def wsX5_digest_r2 : List Cond := [Cond.methodLink RX5 107 yX4_homeOf, Cond.instanceMethod yX4_homeOf, Cond.selects RX4 yX4_homeOf yX4_homeOf, Cond.code yX4_homeOf cX4_homeOf 2 (some .int), Cond.fieldLink RX4 15 "PegField$State" "homes" "[I", Cond.methodLink RX5 110 yX4_targetsOf, Cond.instanceMethod yX4_targetsOf, Cond.selects RX4 yX4_targetsOf yX4_targetsOf, Cond.code yX4_targetsOf cX4_targetsOf 5 (some .int), Cond.methodLink RX4 92 yX4_targetOf, Cond.instanceMethod yX4_targetOf, Cond.selects RX4 yX4_targetOf yX4_targetOf, Cond.code yX4_targetOf cX4_targetOf 6 (some .int), Cond.fieldLink RX4 21 "PegField$State" "grid" "LPegField$Grid;", Cond.methodLink RX4 70 yX4_homeOf, Cond.methodLink RX4 73 yX0_next, Cond.instanceMethod yX0_next, Cond.selects RX0 yX0_next yX0_next, Cond.initialized RX0, Cond.code yX0_next cX0_next 4 (some .int), Cond.fieldLink RX0 9 "PegField$Grid" "beside" "[I", Cond.methodLink RX0 35 yX0_has, Cond.instanceMethod yX0_has, Cond.selects RX0 yX0_has yX0_has]
def wsX5_digest_r3 : List Cond := [Cond.code yX0_has cX0_has 2 (some .boolean), Cond.fieldLink RX0 22 "PegField$Grid" "places" "I", Cond.methodLink RX4 77 yX4_pegIn, Cond.instanceMethod yX4_pegIn, Cond.selects RX4 yX4_pegIn yX4_pegIn, Cond.code yX4_pegIn cX4_pegIn 2 (some .int), Cond.fieldLink RX4 18 "PegField$State" "tenants" "[I", Cond.methodLink RX4 63 yX0_has, Cond.methodLink RX4 80 yX4_kindOf, Cond.static yX5_kindGoes, Cond.code yX5_kindGoes cX5_kindGoes 2 (some .boolean), Cond.fieldLink RX5 294 "PegField" "WHO_GOES" "[I", Cond.methodLink RX5 123 yX5_hasBit, Cond.static yX5_hasBit, Cond.code yX5_hasBit cX5_hasBit 2 (some .boolean), Cond.static yX5_kindCould, Cond.code yX5_kindCould cX5_kindCould 2 (some .boolean), Cond.fieldLink RX5 203 "PegField" "WHO_COULD" "[I", Cond.methodLink RX4 89 yX4_isEmptyHole, Cond.instanceMethod yX4_isEmptyHole, Cond.selects RX4 yX4_isEmptyHole yX4_isEmptyHole, Cond.code yX4_isEmptyHole cX4_isEmptyHole 2 (some .boolean), Cond.fieldLink RX4 25 "PegField$State" "holes" "I", Cond.methodLink RX5 113 yX3_sortsOf]
def wsX5_digest_r4 : List Cond := [Cond.instanceMethod yX3_sortsOf, Cond.selects RX3 yX3_sortsOf yX3_sortsOf, Cond.initialized RX3, Cond.code yX3_sortsOf cX3_sortsOf 4 (some .int), Cond.fieldLink RX3 18 "PegField$Seen" "size" "I", Cond.fieldLink RX3 9 "PegField$Seen" "pegs" "[I", Cond.fieldLink RX3 15 "PegField$Seen" "sorts" "[I", Cond.methodLink RX5 116 yX5_bestQuestion, Cond.static yX5_bestQuestion, Cond.code yX5_bestQuestion cX5_bestQuestion 5 (some .int), Cond.methodLink RX5 297 Lib.Math.max.name, Cond.static Lib.Math.max.name, Cond.initialized "java/lang/Math", Cond.code Lib.Math.max.name Lib.Math.max.code 2 (some .int), Cond.methodLink RX5 162 yJ6_bitCount_0f7a4, Cond.static yJ6_bitCount_0f7a4, Cond.initialized RJ6, Cond.code yJ6_bitCount_0f7a4 cJ6_bitCount_0f7a4 1 (some .int), Cond.constant RJ6 265 (1431655765), Cond.constant RJ6 266 (858993459), Cond.constant RJ6 267 (252645135), Cond.methodLink RX5 244 yX5_place, Cond.instanceMethod yX5_place, Cond.selects RX5 yX5_place yX5_place]
def wsX5_digest_r5 : List Cond := [Cond.code yX5_place cX5_place 3 (some .int), Cond.methodLink RX5 127 yX0_has, Cond.methodLink RX5 130 yX4_isHole, Cond.instanceMethod yX4_isHole, Cond.selects RX4 yX4_isHole yX4_isHole, Cond.code yX4_isHole cX4_isHole 2 (some .boolean), Cond.methodLink RX5 133 yX4_pegIn, Cond.methodLink RX5 247 yX5_courses, Cond.instanceMethod yX5_courses, Cond.selects RX5 yX5_courses yX5_courses, Cond.code yX5_courses cX5_courses 2 (some .int), Cond.fieldLink RX5 51 "PegField" "outlook" "LPegField$Outcome;", Cond.methodLink RX5 170 yX5_lookAhead, Cond.instanceMethod yX5_lookAhead, Cond.selects RX5 yX5_lookAhead yX5_lookAhead, Cond.code yX5_lookAhead cX5_lookAhead 1 none, Cond.fieldLink RX5 92 "PegField" "isLooked" "Z", Cond.fieldLink RX5 45 "PegField" "thought" "LPegField$State;", Cond.fieldLink RX5 55 "PegField" "outcomes" "[LPegField$Outcome;", Cond.methodLink RX5 208 yX4_copyFrom, Cond.instanceMethod yX4_copyFrom, Cond.selects RX4 yX4_copyFrom yX4_copyFrom, Cond.code yX4_copyFrom cX4_copyFrom 3 none, Cond.fieldLink RX4 32 "PegField$State" "onBoard" "I"]
def wsX5_digest_r6 : List Cond := [Cond.fieldLink RX4 35 "PegField$State" "jumps" "I", Cond.methodLink RX5 261 yX5_look, Cond.static yX5_look, Cond.code yX5_look cX5_look 10 none, Cond.methodLink RX5 268 yX1_begin, Cond.instanceMethod yX1_begin, Cond.selects RX1 yX1_begin yX1_begin, Cond.initialized RX1, Cond.code yX1_begin cX1_begin 1 none, Cond.fieldLink RX1 9 "PegField$Outcome" "choices" "I", Cond.fieldLink RX1 15 "PegField$Outcome" "fewest" "I", Cond.fieldLink RX1 18 "PegField$Outcome" "first" "I", Cond.fieldLink RX1 21 "PegField$Outcome" "ways" "I", Cond.fieldLink RX1 24 "PegField$Outcome" "longest" "I", Cond.fieldLink RX1 27 "PegField$Outcome" "shortest" "I", Cond.fieldLink RX1 30 "PegField$Outcome" "alone" "I", Cond.fieldLink RX1 33 "PegField$Outcome" "winning" "I", Cond.fieldLink RX1 36 "PegField$Outcome" "mean" "I", Cond.methodLink RX5 271 yX4_targetOf, Cond.methodLink RX5 143 yX4_neighbourOf, Cond.instanceMethod yX4_neighbourOf, Cond.selects RX4 yX4_neighbourOf yX4_neighbourOf, Cond.code yX4_neighbourOf cX4_neighbourOf 3 (some .int), Cond.methodLink RX5 146 yX4_leap]
def wsX5_digest_r7 : List Cond := [Cond.instanceMethod yX4_leap, Cond.selects RX4 yX4_leap yX4_leap, Cond.code yX4_leap cX4_leap 4 none, Cond.methodLink RX4 110 yX4_lift, Cond.instanceMethod yX4_lift, Cond.selects RX4 yX4_lift yX4_lift, Cond.code yX4_lift cX4_lift 2 none, Cond.methodLink RX4 56 yX4_set, Cond.instanceMethod yX4_set, Cond.selects RX4 yX4_set yX4_set, Cond.code yX4_set cX4_set 3 none, Cond.methodLink RX5 274 yX4_takeBack, Cond.instanceMethod yX4_takeBack, Cond.selects RX4 yX4_takeBack yX4_takeBack, Cond.code yX4_takeBack cX4_takeBack 5 none, Cond.methodLink RX5 278 yX1_take, Cond.instanceMethod yX1_take, Cond.selects RX1 yX1_take yX1_take, Cond.code yX1_take cX1_take 3 none, Cond.methodLink RX1 39 Lib.Math.max.name, Cond.methodLink RX5 282 yX4_aloneBit, Cond.instanceMethod yX4_aloneBit, Cond.selects RX4 yX4_aloneBit yX4_aloneBit, Cond.code yX4_aloneBit cX4_aloneBit 4 (some .int)]
def wsX5_digest_r8 : List Cond := [Cond.methodLink RX5 285 yX1_end, Cond.instanceMethod yX1_end, Cond.selects RX1 yX1_end yX1_end, Cond.code yX1_end cX1_end 3 none, Cond.methodLink RX5 250 yX5_wins, Cond.instanceMethod yX5_wins, Cond.selects RX5 yX5_wins yX5_wins, Cond.code yX5_wins cX5_wins 2 (some .int), Cond.methodLink RX5 253 yX5_mean, Cond.instanceMethod yX5_mean, Cond.selects RX5 yX5_mean yX5_mean, Cond.code yX5_mean cX5_mean 1 (some .int), Cond.methodLink RX5 255 yX2_codeAt, Cond.instanceMethod yX2_codeAt, Cond.selects RX2 yX2_codeAt yX2_codeAt, Cond.initialized RX2, Cond.code yX2_codeAt cX2_codeAt 2 (some .int), Cond.fieldLink RX2 15 "PegField$Page" "size" "I", Cond.fieldLink RX2 9 "PegField$Page" "codes" "[I", Cond.methodLink RX5 258 yX5_count, Cond.instanceMethod yX5_count, Cond.selects RX5 yX5_count yX5_count, Cond.code yX5_count cX5_count 2 (some .int), Cond.fieldLink RX5 194 "PegField" "adds" "I"]
def wsX5_digest_r9 : List Cond := [Cond.methodLink RX5 212 yX4_choices, Cond.instanceMethod yX4_choices, Cond.selects RX4 yX4_choices yX4_choices, Cond.code yX4_choices cX4_choices 3 (some .int), Cond.methodLink RX4 95 yX4_targetsOf, Cond.methodLink RX4 98 yJ6_bitCount_0f7a4]
def wsX5_digest : List Cond := .code yX5_digest cX5_digest 5 (some .long) :: ((wsX5_digest_r1 ++ (wsX5_digest_r2 ++ (wsX5_digest_r3 ++ (wsX5_digest_r4 ++ (wsX5_digest_r5 ++ (wsX5_digest_r6 ++ (wsX5_digest_r7 ++ (wsX5_digest_r8 ++ wsX5_digest_r9)))))))) ++ wsX50 ++ wsX40 ++ wsX00 ++ wsX20 ++ wsX30 ++ wsX10)
def wsX6_init_r1 : List Cond := [Cond.methodLink RX6 1 objectInit, Cond.instanceMethod objectInit, Cond.code objectInit ⟨#[0xb1]⟩ 1 none, Cond.arrayClass .int, Cond.fieldLink RX6 7 "PegFieldModel" "kindOf" "[I", Cond.fieldLink RX6 13 "PegFieldModel" "placeOf" "[I", Cond.fieldLink RX6 16 "PegFieldModel" "seenPeg" "[I", Cond.fieldLink RX6 19 "PegFieldModel" "seenWhat" "[I", Cond.fieldLink RX6 22 "PegFieldModel" "seenCould" "[I", Cond.arrayClass .byte, Cond.fieldLink RX6 25 "PegFieldModel" "page" "[B", Cond.fieldLink RX6 29 "PegFieldModel" "deepPlace" "[I", Cond.fieldLink RX6 32 "PegFieldModel" "codeOf" "[I", Cond.fieldLink RX6 35 "PegFieldModel" "jumpsOf" "[I", Cond.fieldLink RX6 38 "PegFieldModel" "waysOf" "[I", Cond.fieldLink RX6 41 "PegFieldModel" "fewestOf" "[I", Cond.fieldLink RX6 44 "PegFieldModel" "firstOf" "[I", Cond.fieldLink RX6 47 "PegFieldModel" "longestOf" "[I", Cond.fieldLink RX6 50 "PegFieldModel" "shortestOf" "[I", Cond.fieldLink RX6 53 "PegFieldModel" "aloneOf" "[I", Cond.fieldLink RX6 56 "PegFieldModel" "winOf" "[I", Cond.fieldLink RX6 59 "PegFieldModel" "sumOf" "[I", Cond.fieldLink RX6 62 "PegFieldModel" "keptKind" "[I", Cond.fieldLink RX6 65 "PegFieldModel" "keptPlace" "[I"]
def wsX6_init_r2 : List Cond := [Cond.fieldLink RX6 68 "PegFieldModel" "keptPeg" "[I", Cond.fieldLink RX6 71 "PegFieldModel" "keptWhat" "[I", Cond.fieldLink RX6 74 "PegFieldModel" "keptCould" "[I"]
def wsX6_init : List Cond := .code yX6_init cX6_init 1 none :: ((wsX6_init_r1 ++ wsX6_init_r2) ++ wsX60)
def wsX6_within : List Cond := .code yX6_within cX6_within 3 (some .boolean) :: ([])
def wsX6_isIn : List Cond := .code yX6_isIn cX6_isIn 2 (some .boolean) :: ([])
def wsX6_size : List Cond := .code yX6_size cX6_size 3 (some .int) :: ([])
def wsX6_letter : List Cond := .code yX6_letter cX6_letter 2 (some .int) :: ([.fieldLink RX6 81 "PegFieldModel" "pageLength" "I", .fieldLink RX6 25 "PegFieldModel" "page" "[B", .methodLink RX6 77 yX6_within, .static yX6_within, .initialized RX6, .code yX6_within cX6_within 3 (some .boolean)] ++ wsX60)
def wsX6_blank : List Cond := .code yX6_blank cX6_blank 2 (some .int) :: ([.fieldLink RX6 81 "PegFieldModel" "pageLength" "I"] ++ wsX60)
def wsX6_kindBy : List Cond := .code yX6_kindBy cX6_kindBy 1 (some .int) :: ([])
def wsX6_at : List Cond := .code yX6_at cX6_at 2 (some .int) :: ([.fieldLink RX6 81 "PegFieldModel" "pageLength" "I", .fieldLink RX6 25 "PegFieldModel" "page" "[B"] ++ wsX60)
def wsX6_readPlaces : List Cond := .code yX6_readPlaces cX6_readPlaces 4 (some .int) :: ([.fieldLink RX6 92 "PegFieldModel" "newPegs" "I", .fieldLink RX6 81 "PegFieldModel" "pageLength" "I", .fieldLink RX6 95 "PegFieldModel" "isWhole" "Z", .methodLink RX6 85 yX6_at, .instanceMethod yX6_at, .selects RX6 yX6_at yX6_at, .initialized RX6, .code yX6_at cX6_at 2 (some .int), .fieldLink RX6 25 "PegFieldModel" "page" "[B", .methodLink RX6 89 yX6_kindBy, .static yX6_kindBy, .code yX6_kindBy cX6_kindBy 1 (some .int)] ++ wsX60)
def wsX6_read : List Cond := .code yX6_read cX6_read 3 (some .int) :: ([.fieldLink RX6 95 "PegFieldModel" "isWhole" "Z", .fieldLink RX6 92 "PegFieldModel" "newPegs" "I", .methodLink RX6 85 yX6_at, .instanceMethod yX6_at, .selects RX6 yX6_at yX6_at, .initialized RX6, .code yX6_at cX6_at 2 (some .int), .fieldLink RX6 81 "PegFieldModel" "pageLength" "I", .fieldLink RX6 25 "PegFieldModel" "page" "[B", .methodLink RX6 77 yX6_within, .static yX6_within, .code yX6_within cX6_within 3 (some .boolean), .methodLink RX6 99 yX6_readPlaces, .instanceMethod yX6_readPlaces, .selects RX6 yX6_readPlaces yX6_readPlaces, .code yX6_readPlaces cX6_readPlaces 4 (some .int), .methodLink RX6 89 yX6_kindBy, .static yX6_kindBy, .code yX6_kindBy cX6_kindBy 1 (some .int)] ++ wsX60)
def wsX6_fault : List Cond := .code yX6_fault cX6_fault 1 (some .int) :: ([.methodLink RX6 102 yX6_read, .instanceMethod yX6_read, .selects RX6 yX6_read yX6_read, .initialized RX6, .code yX6_read cX6_read 3 (some .int), .fieldLink RX6 95 "PegFieldModel" "isWhole" "Z", .fieldLink RX6 92 "PegFieldModel" "newPegs" "I", .methodLink RX6 85 yX6_at, .instanceMethod yX6_at, .selects RX6 yX6_at yX6_at, .code yX6_at cX6_at 2 (some .int), .fieldLink RX6 81 "PegFieldModel" "pageLength" "I", .fieldLink RX6 25 "PegFieldModel" "page" "[B", .methodLink RX6 77 yX6_within, .static yX6_within, .code yX6_within cX6_within 3 (some .boolean), .methodLink RX6 99 yX6_readPlaces, .instanceMethod yX6_readPlaces, .selects RX6 yX6_readPlaces yX6_readPlaces, .code yX6_readPlaces cX6_readPlaces 4 (some .int), .methodLink RX6 89 yX6_kindBy, .static yX6_kindBy, .code yX6_kindBy cX6_kindBy 1 (some .int)] ++ wsX60)
def wsX6_places : List Cond := .code yX6_places cX6_places 1 (some .int) :: ([.fieldLink RX6 106 "PegFieldModel" "high" "I", .fieldLink RX6 109 "PegFieldModel" "wide" "I"] ++ wsX60)
def wsX6_board_r1 : List Cond := [Cond.fieldLink RX6 95 "PegFieldModel" "isWhole" "Z", Cond.fieldLink RX6 25 "PegFieldModel" "page" "[B", Cond.fieldLink RX6 106 "PegFieldModel" "high" "I", Cond.fieldLink RX6 109 "PegFieldModel" "wide" "I", Cond.fieldLink RX6 112 "PegFieldModel" "holes" "I", Cond.fieldLink RX6 115 "PegFieldModel" "pegs" "I", Cond.fieldLink RX6 7 "PegFieldModel" "kindOf" "[I", Cond.fieldLink RX6 13 "PegFieldModel" "placeOf" "[I", Cond.fieldLink RX6 121 "PegFieldModel" "jumps" "I", Cond.fieldLink RX6 124 "PegFieldModel" "boards" "I", Cond.fieldLink RX6 127 "PegFieldModel" "seen" "I", Cond.fieldLink RX6 81 "PegFieldModel" "pageLength" "I", Cond.methodLink RX6 102 yX6_read, Cond.instanceMethod yX6_read, Cond.selects RX6 yX6_read yX6_read, Cond.initialized RX6, Cond.code yX6_read cX6_read 3 (some .int), Cond.fieldLink RX6 92 "PegFieldModel" "newPegs" "I", Cond.methodLink RX6 85 yX6_at, Cond.instanceMethod yX6_at, Cond.selects RX6 yX6_at yX6_at, Cond.code yX6_at cX6_at 2 (some .int), Cond.methodLink RX6 77 yX6_within, Cond.static yX6_within]
def wsX6_board_r2 : List Cond := [Cond.code yX6_within cX6_within 3 (some .boolean), Cond.methodLink RX6 99 yX6_readPlaces, Cond.instanceMethod yX6_readPlaces, Cond.selects RX6 yX6_readPlaces yX6_readPlaces, Cond.code yX6_readPlaces cX6_readPlaces 4 (some .int), Cond.methodLink RX6 89 yX6_kindBy, Cond.static yX6_kindBy, Cond.code yX6_kindBy cX6_kindBy 1 (some .int), Cond.methodLink RX6 118 yX6_places, Cond.instanceMethod yX6_places, Cond.selects RX6 yX6_places yX6_places, Cond.code yX6_places cX6_places 1 (some .int)]
def wsX6_board : List Cond := .code yX6_board cX6_board 3 (some .int) :: ((wsX6_board_r1 ++ wsX6_board_r2) ++ wsX60)
def wsX6_isPeg : List Cond := .code yX6_isPeg cX6_isPeg 2 (some .boolean) :: ([.fieldLink RX6 115 "PegFieldModel" "pegs" "I", .methodLink RX6 77 yX6_within, .static yX6_within, .initialized RX6, .code yX6_within cX6_within 3 (some .boolean)] ++ wsX60)
def wsX6_isPlace : List Cond := .code yX6_isPlace cX6_isPlace 2 (some .boolean) :: ([.methodLink RX6 118 yX6_places, .instanceMethod yX6_places, .selects RX6 yX6_places yX6_places, .initialized RX6, .code yX6_places cX6_places 1 (some .int), .fieldLink RX6 106 "PegFieldModel" "high" "I", .fieldLink RX6 109 "PegFieldModel" "wide" "I", .methodLink RX6 77 yX6_within, .static yX6_within, .code yX6_within cX6_within 3 (some .boolean)] ++ wsX60)
def wsX6_putDeep : List Cond := .code yX6_putDeep cX6_putDeep 2 none :: ([.fieldLink RX6 29 "PegFieldModel" "deepPlace" "[I", .fieldLink RX6 115 "PegFieldModel" "pegs" "I", .fieldLink RX6 13 "PegFieldModel" "placeOf" "[I"] ++ wsX60)
def wsX6_whoAt : List Cond := .code yX6_whoAt cX6_whoAt 5 (some .int) :: ([.fieldLink RX6 115 "PegFieldModel" "pegs" "I", .fieldLink RX6 29 "PegFieldModel" "deepPlace" "[I"] ++ wsX60)
def wsX6_apart : List Cond := .code yX6_apart cX6_apart 2 (some .int) :: ([])
def wsX6_goesBy : List Cond := .code yX6_goesBy cX6_goesBy 6 (some .boolean) :: ([])
def wsX6_overBy : List Cond := .code yX6_overBy cX6_overBy 6 (some .int) :: ([.fieldLink RX6 29 "PegFieldModel" "deepPlace" "[I", .fieldLink RX6 112 "PegFieldModel" "holes" "I", .fieldLink RX6 7 "PegFieldModel" "kindOf" "[I", .fieldLink RX6 109 "PegFieldModel" "wide" "I", .methodLink RX6 130 yX6_isIn, .static yX6_isIn, .initialized RX6, .code yX6_isIn cX6_isIn 2 (some .boolean), .methodLink RX6 134 yX6_whoAt, .instanceMethod yX6_whoAt, .selects RX6 yX6_whoAt yX6_whoAt, .code yX6_whoAt cX6_whoAt 5 (some .int), .fieldLink RX6 115 "PegFieldModel" "pegs" "I", .methodLink RX6 138 yX6_apart, .static yX6_apart, .code yX6_apart cX6_apart 2 (some .int), .methodLink RX6 141 yX6_goesBy, .instanceMethod yX6_goesBy, .selects RX6 yX6_goesBy yX6_goesBy, .code yX6_goesBy cX6_goesBy 6 (some .boolean)] ++ wsX60)
def wsX6_isJump : List Cond := .code yX6_isJump cX6_isJump 4 (some .boolean) :: ([.methodLink RX6 144 yX6_overBy, .instanceMethod yX6_overBy, .selects RX6 yX6_overBy yX6_overBy, .initialized RX6, .code yX6_overBy cX6_overBy 6 (some .int), .fieldLink RX6 29 "PegFieldModel" "deepPlace" "[I", .fieldLink RX6 112 "PegFieldModel" "holes" "I", .fieldLink RX6 7 "PegFieldModel" "kindOf" "[I", .fieldLink RX6 109 "PegFieldModel" "wide" "I", .methodLink RX6 130 yX6_isIn, .static yX6_isIn, .code yX6_isIn cX6_isIn 2 (some .boolean), .methodLink RX6 134 yX6_whoAt, .instanceMethod yX6_whoAt, .selects RX6 yX6_whoAt yX6_whoAt, .code yX6_whoAt cX6_whoAt 5 (some .int), .fieldLink RX6 115 "PegFieldModel" "pegs" "I", .methodLink RX6 138 yX6_apart, .static yX6_apart, .code yX6_apart cX6_apart 2 (some .int), .methodLink RX6 141 yX6_goesBy, .instanceMethod yX6_goesBy, .selects RX6 yX6_goesBy yX6_goesBy, .code yX6_goesBy cX6_goesBy 6 (some .boolean)] ++ wsX60)
def wsX6_goDeep : List Cond := .code yX6_goDeep cX6_goDeep 6 none :: ([.fieldLink RX6 29 "PegFieldModel" "deepPlace" "[I", .fieldLink RX6 7 "PegFieldModel" "kindOf" "[I", .methodLink RX6 144 yX6_overBy, .instanceMethod yX6_overBy, .selects RX6 yX6_overBy yX6_overBy, .initialized RX6, .code yX6_overBy cX6_overBy 6 (some .int), .fieldLink RX6 112 "PegFieldModel" "holes" "I", .fieldLink RX6 109 "PegFieldModel" "wide" "I", .methodLink RX6 130 yX6_isIn, .static yX6_isIn, .code yX6_isIn cX6_isIn 2 (some .boolean), .methodLink RX6 134 yX6_whoAt, .instanceMethod yX6_whoAt, .selects RX6 yX6_whoAt yX6_whoAt, .code yX6_whoAt cX6_whoAt 5 (some .int), .fieldLink RX6 115 "PegFieldModel" "pegs" "I", .methodLink RX6 138 yX6_apart, .static yX6_apart, .code yX6_apart cX6_apart 2 (some .int), .methodLink RX6 141 yX6_goesBy, .instanceMethod yX6_goesBy, .selects RX6 yX6_goesBy yX6_goesBy, .code yX6_goesBy cX6_goesBy 6 (some .boolean)] ++ wsX60)
def wsX6_onBoard : List Cond := .code yX6_onBoard cX6_onBoard 4 (some .int) :: ([.fieldLink RX6 115 "PegFieldModel" "pegs" "I", .fieldLink RX6 29 "PegFieldModel" "deepPlace" "[I"] ++ wsX60)
def wsX6_goes_r1 : List Cond := [Cond.methodLink RX6 118 yX6_places, Cond.instanceMethod yX6_places, Cond.selects RX6 yX6_places yX6_places, Cond.initialized RX6, Cond.code yX6_places cX6_places 1 (some .int), Cond.fieldLink RX6 106 "PegFieldModel" "high" "I", Cond.fieldLink RX6 109 "PegFieldModel" "wide" "I", Cond.methodLink RX6 148 yX6_isJump, Cond.instanceMethod yX6_isJump, Cond.selects RX6 yX6_isJump yX6_isJump, Cond.code yX6_isJump cX6_isJump 4 (some .boolean), Cond.methodLink RX6 144 yX6_overBy, Cond.instanceMethod yX6_overBy, Cond.selects RX6 yX6_overBy yX6_overBy, Cond.code yX6_overBy cX6_overBy 6 (some .int), Cond.fieldLink RX6 29 "PegFieldModel" "deepPlace" "[I", Cond.fieldLink RX6 112 "PegFieldModel" "holes" "I", Cond.fieldLink RX6 7 "PegFieldModel" "kindOf" "[I", Cond.methodLink RX6 130 yX6_isIn, Cond.static yX6_isIn, Cond.code yX6_isIn cX6_isIn 2 (some .boolean), Cond.methodLink RX6 134 yX6_whoAt, Cond.instanceMethod yX6_whoAt, Cond.selects RX6 yX6_whoAt yX6_whoAt]
def wsX6_goes_r2 : List Cond := [Cond.code yX6_whoAt cX6_whoAt 5 (some .int), Cond.fieldLink RX6 115 "PegFieldModel" "pegs" "I", Cond.methodLink RX6 138 yX6_apart, Cond.static yX6_apart, Cond.code yX6_apart cX6_apart 2 (some .int), Cond.methodLink RX6 141 yX6_goesBy, Cond.instanceMethod yX6_goesBy, Cond.selects RX6 yX6_goesBy yX6_goesBy, Cond.code yX6_goesBy cX6_goesBy 6 (some .boolean)]
def wsX6_goes : List Cond := .code yX6_goes cX6_goes 5 (some .int) :: ((wsX6_goes_r1 ++ wsX6_goes_r2) ++ wsX60)
def wsX6_jumpsNow_r1 : List Cond := [Cond.fieldLink RX6 115 "PegFieldModel" "pegs" "I", Cond.methodLink RX6 151 yX6_goes, Cond.instanceMethod yX6_goes, Cond.selects RX6 yX6_goes yX6_goes, Cond.initialized RX6, Cond.code yX6_goes cX6_goes 5 (some .int), Cond.methodLink RX6 118 yX6_places, Cond.instanceMethod yX6_places, Cond.selects RX6 yX6_places yX6_places, Cond.code yX6_places cX6_places 1 (some .int), Cond.fieldLink RX6 106 "PegFieldModel" "high" "I", Cond.fieldLink RX6 109 "PegFieldModel" "wide" "I", Cond.methodLink RX6 148 yX6_isJump, Cond.instanceMethod yX6_isJump, Cond.selects RX6 yX6_isJump yX6_isJump, Cond.code yX6_isJump cX6_isJump 4 (some .boolean), Cond.methodLink RX6 144 yX6_overBy, Cond.instanceMethod yX6_overBy, Cond.selects RX6 yX6_overBy yX6_overBy, Cond.code yX6_overBy cX6_overBy 6 (some .int), Cond.fieldLink RX6 29 "PegFieldModel" "deepPlace" "[I", Cond.fieldLink RX6 112 "PegFieldModel" "holes" "I", Cond.fieldLink RX6 7 "PegFieldModel" "kindOf" "[I", Cond.methodLink RX6 130 yX6_isIn]
def wsX6_jumpsNow_r2 : List Cond := [Cond.static yX6_isIn, Cond.code yX6_isIn cX6_isIn 2 (some .boolean), Cond.methodLink RX6 134 yX6_whoAt, Cond.instanceMethod yX6_whoAt, Cond.selects RX6 yX6_whoAt yX6_whoAt, Cond.code yX6_whoAt cX6_whoAt 5 (some .int), Cond.methodLink RX6 138 yX6_apart, Cond.static yX6_apart, Cond.code yX6_apart cX6_apart 2 (some .int), Cond.methodLink RX6 141 yX6_goesBy, Cond.instanceMethod yX6_goesBy, Cond.selects RX6 yX6_goesBy yX6_goesBy, Cond.code yX6_goesBy cX6_goesBy 6 (some .boolean), Cond.methodLink RX6 154 yX6_size, Cond.static yX6_size, Cond.code yX6_size cX6_size 3 (some .int)]
def wsX6_jumpsNow : List Cond := .code yX6_jumpsNow cX6_jumpsNow 4 (some .int) :: ((wsX6_jumpsNow_r1 ++ wsX6_jumpsNow_r2) ++ wsX60)
def wsX6_could : List Cond := .code yX6_could cX6_could 2 (some .boolean) :: ([])
def wsX6_sortsOf : List Cond := .code yX6_sortsOf cX6_sortsOf 6 (some .int) :: ([.fieldLink RX6 127 "PegFieldModel" "seen" "I", .fieldLink RX6 16 "PegFieldModel" "seenPeg" "[I", .fieldLink RX6 19 "PegFieldModel" "seenWhat" "[I", .fieldLink RX6 22 "PegFieldModel" "seenCould" "[I", .methodLink RX6 225 yX6_could, .static yX6_could, .initialized RX6, .code yX6_could cX6_could 2 (some .boolean)] ++ wsX60)
def wsX6_askOf : List Cond := .code yX6_askOf cX6_askOf 9 (some .int) :: ([.constant RX6 189 (268435456), .methodLink RX6 160 yX6_sortsOf, .instanceMethod yX6_sortsOf, .selects RX6 yX6_sortsOf yX6_sortsOf, .initialized RX6, .code yX6_sortsOf cX6_sortsOf 6 (some .int), .fieldLink RX6 127 "PegFieldModel" "seen" "I", .fieldLink RX6 16 "PegFieldModel" "seenPeg" "[I", .fieldLink RX6 19 "PegFieldModel" "seenWhat" "[I", .fieldLink RX6 22 "PegFieldModel" "seenCould" "[I", .methodLink RX6 225 yX6_could, .static yX6_could, .code yX6_could cX6_could 2 (some .boolean), .methodLink RX6 130 yX6_isIn, .static yX6_isIn, .code yX6_isIn cX6_isIn 2 (some .boolean), .methodLink RX6 154 yX6_size, .static yX6_size, .code yX6_size cX6_size 3 (some .int)] ++ wsX60)
def wsX6_pegNow_r1 : List Cond := [Cond.fieldLink RX6 7 "PegFieldModel" "kindOf" "[I", Cond.fieldLink RX6 13 "PegFieldModel" "placeOf" "[I", Cond.methodLink RX6 157 yX6_putDeep, Cond.instanceMethod yX6_putDeep, Cond.selects RX6 yX6_putDeep yX6_putDeep, Cond.initialized RX6, Cond.code yX6_putDeep cX6_putDeep 2 none, Cond.fieldLink RX6 29 "PegFieldModel" "deepPlace" "[I", Cond.fieldLink RX6 115 "PegFieldModel" "pegs" "I", Cond.methodLink RX6 151 yX6_goes, Cond.instanceMethod yX6_goes, Cond.selects RX6 yX6_goes yX6_goes, Cond.code yX6_goes cX6_goes 5 (some .int), Cond.methodLink RX6 118 yX6_places, Cond.instanceMethod yX6_places, Cond.selects RX6 yX6_places yX6_places, Cond.code yX6_places cX6_places 1 (some .int), Cond.fieldLink RX6 106 "PegFieldModel" "high" "I", Cond.fieldLink RX6 109 "PegFieldModel" "wide" "I", Cond.methodLink RX6 148 yX6_isJump, Cond.instanceMethod yX6_isJump, Cond.selects RX6 yX6_isJump yX6_isJump, Cond.code yX6_isJump cX6_isJump 4 (some .boolean), Cond.methodLink RX6 144 yX6_overBy]
def wsX6_pegNow_r2 : List Cond := [Cond.instanceMethod yX6_overBy, Cond.selects RX6 yX6_overBy yX6_overBy, Cond.code yX6_overBy cX6_overBy 6 (some .int), Cond.fieldLink RX6 112 "PegFieldModel" "holes" "I", Cond.methodLink RX6 130 yX6_isIn, Cond.static yX6_isIn, Cond.code yX6_isIn cX6_isIn 2 (some .boolean), Cond.methodLink RX6 134 yX6_whoAt, Cond.instanceMethod yX6_whoAt, Cond.selects RX6 yX6_whoAt yX6_whoAt, Cond.code yX6_whoAt cX6_whoAt 5 (some .int), Cond.methodLink RX6 138 yX6_apart, Cond.static yX6_apart, Cond.code yX6_apart cX6_apart 2 (some .int), Cond.methodLink RX6 141 yX6_goesBy, Cond.instanceMethod yX6_goesBy, Cond.selects RX6 yX6_goesBy yX6_goesBy, Cond.code yX6_goesBy cX6_goesBy 6 (some .boolean), Cond.methodLink RX6 160 yX6_sortsOf, Cond.instanceMethod yX6_sortsOf, Cond.selects RX6 yX6_sortsOf yX6_sortsOf, Cond.code yX6_sortsOf cX6_sortsOf 6 (some .int), Cond.fieldLink RX6 127 "PegFieldModel" "seen" "I", Cond.fieldLink RX6 16 "PegFieldModel" "seenPeg" "[I"]
def wsX6_pegNow_r3 : List Cond := [Cond.fieldLink RX6 19 "PegFieldModel" "seenWhat" "[I", Cond.fieldLink RX6 22 "PegFieldModel" "seenCould" "[I", Cond.methodLink RX6 225 yX6_could, Cond.static yX6_could, Cond.code yX6_could cX6_could 2 (some .boolean), Cond.methodLink RX6 163 yX6_askOf, Cond.instanceMethod yX6_askOf, Cond.selects RX6 yX6_askOf yX6_askOf, Cond.code yX6_askOf cX6_askOf 9 (some .int), Cond.constant RX6 189 (268435456), Cond.methodLink RX6 154 yX6_size, Cond.static yX6_size, Cond.code yX6_size cX6_size 3 (some .int)]
def wsX6_pegNow : List Cond := .code yX6_pegNow cX6_pegNow 3 (some .int) :: ((wsX6_pegNow_r1 ++ (wsX6_pegNow_r2 ++ wsX6_pegNow_r3)) ++ wsX60)
def wsX6_peg_r1 : List Cond := [Cond.methodLink RX6 166 yX6_isPeg, Cond.instanceMethod yX6_isPeg, Cond.selects RX6 yX6_isPeg yX6_isPeg, Cond.initialized RX6, Cond.code yX6_isPeg cX6_isPeg 2 (some .boolean), Cond.fieldLink RX6 115 "PegFieldModel" "pegs" "I", Cond.methodLink RX6 77 yX6_within, Cond.static yX6_within, Cond.code yX6_within cX6_within 3 (some .boolean), Cond.methodLink RX6 170 yX6_pegNow, Cond.instanceMethod yX6_pegNow, Cond.selects RX6 yX6_pegNow yX6_pegNow, Cond.code yX6_pegNow cX6_pegNow 3 (some .int), Cond.fieldLink RX6 7 "PegFieldModel" "kindOf" "[I", Cond.fieldLink RX6 13 "PegFieldModel" "placeOf" "[I", Cond.methodLink RX6 157 yX6_putDeep, Cond.instanceMethod yX6_putDeep, Cond.selects RX6 yX6_putDeep yX6_putDeep, Cond.code yX6_putDeep cX6_putDeep 2 none, Cond.fieldLink RX6 29 "PegFieldModel" "deepPlace" "[I", Cond.methodLink RX6 151 yX6_goes, Cond.instanceMethod yX6_goes, Cond.selects RX6 yX6_goes yX6_goes, Cond.code yX6_goes cX6_goes 5 (some .int)]
def wsX6_peg_r2 : List Cond := [Cond.methodLink RX6 118 yX6_places, Cond.instanceMethod yX6_places, Cond.selects RX6 yX6_places yX6_places, Cond.code yX6_places cX6_places 1 (some .int), Cond.fieldLink RX6 106 "PegFieldModel" "high" "I", Cond.fieldLink RX6 109 "PegFieldModel" "wide" "I", Cond.methodLink RX6 148 yX6_isJump, Cond.instanceMethod yX6_isJump, Cond.selects RX6 yX6_isJump yX6_isJump, Cond.code yX6_isJump cX6_isJump 4 (some .boolean), Cond.methodLink RX6 144 yX6_overBy, Cond.instanceMethod yX6_overBy, Cond.selects RX6 yX6_overBy yX6_overBy, Cond.code yX6_overBy cX6_overBy 6 (some .int), Cond.fieldLink RX6 112 "PegFieldModel" "holes" "I", Cond.methodLink RX6 130 yX6_isIn, Cond.static yX6_isIn, Cond.code yX6_isIn cX6_isIn 2 (some .boolean), Cond.methodLink RX6 134 yX6_whoAt, Cond.instanceMethod yX6_whoAt, Cond.selects RX6 yX6_whoAt yX6_whoAt, Cond.code yX6_whoAt cX6_whoAt 5 (some .int), Cond.methodLink RX6 138 yX6_apart, Cond.static yX6_apart]
def wsX6_peg_r3 : List Cond := [Cond.code yX6_apart cX6_apart 2 (some .int), Cond.methodLink RX6 141 yX6_goesBy, Cond.instanceMethod yX6_goesBy, Cond.selects RX6 yX6_goesBy yX6_goesBy, Cond.code yX6_goesBy cX6_goesBy 6 (some .boolean), Cond.methodLink RX6 160 yX6_sortsOf, Cond.instanceMethod yX6_sortsOf, Cond.selects RX6 yX6_sortsOf yX6_sortsOf, Cond.code yX6_sortsOf cX6_sortsOf 6 (some .int), Cond.fieldLink RX6 127 "PegFieldModel" "seen" "I", Cond.fieldLink RX6 16 "PegFieldModel" "seenPeg" "[I", Cond.fieldLink RX6 19 "PegFieldModel" "seenWhat" "[I", Cond.fieldLink RX6 22 "PegFieldModel" "seenCould" "[I", Cond.methodLink RX6 225 yX6_could, Cond.static yX6_could, Cond.code yX6_could cX6_could 2 (some .boolean), Cond.methodLink RX6 163 yX6_askOf, Cond.instanceMethod yX6_askOf, Cond.selects RX6 yX6_askOf yX6_askOf, Cond.code yX6_askOf cX6_askOf 9 (some .int), Cond.constant RX6 189 (268435456), Cond.methodLink RX6 154 yX6_size, Cond.static yX6_size, Cond.code yX6_size cX6_size 3 (some .int)]
def wsX6_peg : List Cond := .code yX6_peg cX6_peg 3 (some .int) :: ((wsX6_peg_r1 ++ (wsX6_peg_r2 ++ wsX6_peg_r3)) ++ wsX60)
def wsX6_as : List Cond := .code yX6_as cX6_as 4 (some .int) :: ([.fieldLink RX6 7 "PegFieldModel" "kindOf" "[I", .methodLink RX6 166 yX6_isPeg, .instanceMethod yX6_isPeg, .selects RX6 yX6_isPeg yX6_isPeg, .initialized RX6, .code yX6_isPeg cX6_isPeg 2 (some .boolean), .fieldLink RX6 115 "PegFieldModel" "pegs" "I", .methodLink RX6 77 yX6_within, .static yX6_within, .code yX6_within cX6_within 3 (some .boolean)] ++ wsX60)
def wsX6_placeNow : List Cond := .code yX6_placeNow cX6_placeNow 3 (some .int) :: ([.fieldLink RX6 112 "PegFieldModel" "holes" "I", .methodLink RX6 157 yX6_putDeep, .instanceMethod yX6_putDeep, .selects RX6 yX6_putDeep yX6_putDeep, .initialized RX6, .code yX6_putDeep cX6_putDeep 2 none, .fieldLink RX6 29 "PegFieldModel" "deepPlace" "[I", .fieldLink RX6 115 "PegFieldModel" "pegs" "I", .fieldLink RX6 13 "PegFieldModel" "placeOf" "[I", .methodLink RX6 134 yX6_whoAt, .instanceMethod yX6_whoAt, .selects RX6 yX6_whoAt yX6_whoAt, .code yX6_whoAt cX6_whoAt 5 (some .int)] ++ wsX60)
def wsX6_place_r1 : List Cond := [Cond.methodLink RX6 173 yX6_isPlace, Cond.instanceMethod yX6_isPlace, Cond.selects RX6 yX6_isPlace yX6_isPlace, Cond.initialized RX6, Cond.code yX6_isPlace cX6_isPlace 2 (some .boolean), Cond.methodLink RX6 118 yX6_places, Cond.instanceMethod yX6_places, Cond.selects RX6 yX6_places yX6_places, Cond.code yX6_places cX6_places 1 (some .int), Cond.fieldLink RX6 106 "PegFieldModel" "high" "I", Cond.fieldLink RX6 109 "PegFieldModel" "wide" "I", Cond.methodLink RX6 77 yX6_within, Cond.static yX6_within, Cond.code yX6_within cX6_within 3 (some .boolean), Cond.methodLink RX6 176 yX6_placeNow, Cond.instanceMethod yX6_placeNow, Cond.selects RX6 yX6_placeNow yX6_placeNow, Cond.code yX6_placeNow cX6_placeNow 3 (some .int), Cond.fieldLink RX6 112 "PegFieldModel" "holes" "I", Cond.methodLink RX6 157 yX6_putDeep, Cond.instanceMethod yX6_putDeep, Cond.selects RX6 yX6_putDeep yX6_putDeep, Cond.code yX6_putDeep cX6_putDeep 2 none, Cond.fieldLink RX6 29 "PegFieldModel" "deepPlace" "[I"]
def wsX6_place_r2 : List Cond := [Cond.fieldLink RX6 115 "PegFieldModel" "pegs" "I", Cond.fieldLink RX6 13 "PegFieldModel" "placeOf" "[I", Cond.methodLink RX6 134 yX6_whoAt, Cond.instanceMethod yX6_whoAt, Cond.selects RX6 yX6_whoAt yX6_whoAt, Cond.code yX6_whoAt cX6_whoAt 5 (some .int)]
def wsX6_place : List Cond := .code yX6_place cX6_place 3 (some .int) :: ((wsX6_place_r1 ++ wsX6_place_r2) ++ wsX60)
def wsX6_jump_r1 : List Cond := [Cond.fieldLink RX6 121 "PegFieldModel" "jumps" "I", Cond.fieldLink RX6 115 "PegFieldModel" "pegs" "I", Cond.fieldLink RX6 13 "PegFieldModel" "placeOf" "[I", Cond.fieldLink RX6 29 "PegFieldModel" "deepPlace" "[I", Cond.methodLink RX6 166 yX6_isPeg, Cond.instanceMethod yX6_isPeg, Cond.selects RX6 yX6_isPeg yX6_isPeg, Cond.initialized RX6, Cond.code yX6_isPeg cX6_isPeg 2 (some .boolean), Cond.methodLink RX6 77 yX6_within, Cond.static yX6_within, Cond.code yX6_within cX6_within 3 (some .boolean), Cond.methodLink RX6 173 yX6_isPlace, Cond.instanceMethod yX6_isPlace, Cond.selects RX6 yX6_isPlace yX6_isPlace, Cond.code yX6_isPlace cX6_isPlace 2 (some .boolean), Cond.methodLink RX6 118 yX6_places, Cond.instanceMethod yX6_places, Cond.selects RX6 yX6_places yX6_places, Cond.code yX6_places cX6_places 1 (some .int), Cond.fieldLink RX6 106 "PegFieldModel" "high" "I", Cond.fieldLink RX6 109 "PegFieldModel" "wide" "I", Cond.methodLink RX6 157 yX6_putDeep, Cond.instanceMethod yX6_putDeep]
def wsX6_jump_r2 : List Cond := [Cond.selects RX6 yX6_putDeep yX6_putDeep, Cond.code yX6_putDeep cX6_putDeep 2 none, Cond.methodLink RX6 148 yX6_isJump, Cond.instanceMethod yX6_isJump, Cond.selects RX6 yX6_isJump yX6_isJump, Cond.code yX6_isJump cX6_isJump 4 (some .boolean), Cond.methodLink RX6 144 yX6_overBy, Cond.instanceMethod yX6_overBy, Cond.selects RX6 yX6_overBy yX6_overBy, Cond.code yX6_overBy cX6_overBy 6 (some .int), Cond.fieldLink RX6 112 "PegFieldModel" "holes" "I", Cond.fieldLink RX6 7 "PegFieldModel" "kindOf" "[I", Cond.methodLink RX6 130 yX6_isIn, Cond.static yX6_isIn, Cond.code yX6_isIn cX6_isIn 2 (some .boolean), Cond.methodLink RX6 134 yX6_whoAt, Cond.instanceMethod yX6_whoAt, Cond.selects RX6 yX6_whoAt yX6_whoAt, Cond.code yX6_whoAt cX6_whoAt 5 (some .int), Cond.methodLink RX6 138 yX6_apart, Cond.static yX6_apart, Cond.code yX6_apart cX6_apart 2 (some .int), Cond.methodLink RX6 141 yX6_goesBy, Cond.instanceMethod yX6_goesBy]
def wsX6_jump_r3 : List Cond := [Cond.selects RX6 yX6_goesBy yX6_goesBy, Cond.code yX6_goesBy cX6_goesBy 6 (some .boolean), Cond.methodLink RX6 179 yX6_goDeep, Cond.instanceMethod yX6_goDeep, Cond.selects RX6 yX6_goDeep yX6_goDeep, Cond.code yX6_goDeep cX6_goDeep 6 none, Cond.methodLink RX6 183 yX6_onBoard, Cond.instanceMethod yX6_onBoard, Cond.selects RX6 yX6_onBoard yX6_onBoard, Cond.code yX6_onBoard cX6_onBoard 4 (some .int)]
def wsX6_jump : List Cond := .code yX6_jump cX6_jump 4 (some .int) :: ((wsX6_jump_r1 ++ (wsX6_jump_r2 ++ wsX6_jump_r3)) ++ wsX60)
def wsX6_isEmpty : List Cond := .code yX6_isEmpty cX6_isEmpty 2 (some .boolean) :: ([.fieldLink RX6 112 "PegFieldModel" "holes" "I", .methodLink RX6 157 yX6_putDeep, .instanceMethod yX6_putDeep, .selects RX6 yX6_putDeep yX6_putDeep, .initialized RX6, .code yX6_putDeep cX6_putDeep 2 none, .fieldLink RX6 29 "PegFieldModel" "deepPlace" "[I", .fieldLink RX6 115 "PegFieldModel" "pegs" "I", .fieldLink RX6 13 "PegFieldModel" "placeOf" "[I", .methodLink RX6 130 yX6_isIn, .static yX6_isIn, .code yX6_isIn cX6_isIn 2 (some .boolean), .methodLink RX6 134 yX6_whoAt, .instanceMethod yX6_whoAt, .selects RX6 yX6_whoAt yX6_whoAt, .code yX6_whoAt cX6_whoAt 5 (some .int)] ++ wsX60)
def wsX6_put_r1 : List Cond := [Cond.fieldLink RX6 13 "PegFieldModel" "placeOf" "[I", Cond.methodLink RX6 166 yX6_isPeg, Cond.instanceMethod yX6_isPeg, Cond.selects RX6 yX6_isPeg yX6_isPeg, Cond.initialized RX6, Cond.code yX6_isPeg cX6_isPeg 2 (some .boolean), Cond.fieldLink RX6 115 "PegFieldModel" "pegs" "I", Cond.methodLink RX6 77 yX6_within, Cond.static yX6_within, Cond.code yX6_within cX6_within 3 (some .boolean), Cond.methodLink RX6 173 yX6_isPlace, Cond.instanceMethod yX6_isPlace, Cond.selects RX6 yX6_isPlace yX6_isPlace, Cond.code yX6_isPlace cX6_isPlace 2 (some .boolean), Cond.methodLink RX6 118 yX6_places, Cond.instanceMethod yX6_places, Cond.selects RX6 yX6_places yX6_places, Cond.code yX6_places cX6_places 1 (some .int), Cond.fieldLink RX6 106 "PegFieldModel" "high" "I", Cond.fieldLink RX6 109 "PegFieldModel" "wide" "I", Cond.methodLink RX6 186 yX6_isEmpty, Cond.instanceMethod yX6_isEmpty, Cond.selects RX6 yX6_isEmpty yX6_isEmpty, Cond.code yX6_isEmpty cX6_isEmpty 2 (some .boolean)]
def wsX6_put_r2 : List Cond := [Cond.fieldLink RX6 112 "PegFieldModel" "holes" "I", Cond.methodLink RX6 157 yX6_putDeep, Cond.instanceMethod yX6_putDeep, Cond.selects RX6 yX6_putDeep yX6_putDeep, Cond.code yX6_putDeep cX6_putDeep 2 none, Cond.fieldLink RX6 29 "PegFieldModel" "deepPlace" "[I", Cond.methodLink RX6 130 yX6_isIn, Cond.static yX6_isIn, Cond.code yX6_isIn cX6_isIn 2 (some .boolean), Cond.methodLink RX6 134 yX6_whoAt, Cond.instanceMethod yX6_whoAt, Cond.selects RX6 yX6_whoAt yX6_whoAt, Cond.code yX6_whoAt cX6_whoAt 5 (some .int), Cond.methodLink RX6 183 yX6_onBoard, Cond.instanceMethod yX6_onBoard, Cond.selects RX6 yX6_onBoard yX6_onBoard, Cond.code yX6_onBoard cX6_onBoard 4 (some .int)]
def wsX6_put : List Cond := .code yX6_put cX6_put 3 (some .int) :: ((wsX6_put_r1 ++ wsX6_put_r2) ++ wsX60)
def wsX6_plug_r1 : List Cond := [Cond.fieldLink RX6 112 "PegFieldModel" "holes" "I", Cond.methodLink RX6 173 yX6_isPlace, Cond.instanceMethod yX6_isPlace, Cond.selects RX6 yX6_isPlace yX6_isPlace, Cond.initialized RX6, Cond.code yX6_isPlace cX6_isPlace 2 (some .boolean), Cond.methodLink RX6 118 yX6_places, Cond.instanceMethod yX6_places, Cond.selects RX6 yX6_places yX6_places, Cond.code yX6_places cX6_places 1 (some .int), Cond.fieldLink RX6 106 "PegFieldModel" "high" "I", Cond.fieldLink RX6 109 "PegFieldModel" "wide" "I", Cond.methodLink RX6 77 yX6_within, Cond.static yX6_within, Cond.code yX6_within cX6_within 3 (some .boolean), Cond.methodLink RX6 186 yX6_isEmpty, Cond.instanceMethod yX6_isEmpty, Cond.selects RX6 yX6_isEmpty yX6_isEmpty, Cond.code yX6_isEmpty cX6_isEmpty 2 (some .boolean), Cond.methodLink RX6 157 yX6_putDeep, Cond.instanceMethod yX6_putDeep, Cond.selects RX6 yX6_putDeep yX6_putDeep, Cond.code yX6_putDeep cX6_putDeep 2 none, Cond.fieldLink RX6 29 "PegFieldModel" "deepPlace" "[I"]
def wsX6_plug_r2 : List Cond := [Cond.fieldLink RX6 115 "PegFieldModel" "pegs" "I", Cond.fieldLink RX6 13 "PegFieldModel" "placeOf" "[I", Cond.methodLink RX6 130 yX6_isIn, Cond.static yX6_isIn, Cond.code yX6_isIn cX6_isIn 2 (some .boolean), Cond.methodLink RX6 134 yX6_whoAt, Cond.instanceMethod yX6_whoAt, Cond.selects RX6 yX6_whoAt yX6_whoAt, Cond.code yX6_whoAt cX6_whoAt 5 (some .int), Cond.methodLink RX6 154 yX6_size, Cond.static yX6_size, Cond.code yX6_size cX6_size 3 (some .int)]
def wsX6_plug : List Cond := .code yX6_plug cX6_plug 2 (some .int) :: ((wsX6_plug_r1 ++ wsX6_plug_r2) ++ wsX60)
def wsX6_bore : List Cond := .code yX6_bore cX6_bore 2 (some .int) :: ([.fieldLink RX6 112 "PegFieldModel" "holes" "I", .methodLink RX6 173 yX6_isPlace, .instanceMethod yX6_isPlace, .selects RX6 yX6_isPlace yX6_isPlace, .initialized RX6, .code yX6_isPlace cX6_isPlace 2 (some .boolean), .methodLink RX6 118 yX6_places, .instanceMethod yX6_places, .selects RX6 yX6_places yX6_places, .code yX6_places cX6_places 1 (some .int), .fieldLink RX6 106 "PegFieldModel" "high" "I", .fieldLink RX6 109 "PegFieldModel" "wide" "I", .methodLink RX6 77 yX6_within, .static yX6_within, .code yX6_within cX6_within 3 (some .boolean), .methodLink RX6 130 yX6_isIn, .static yX6_isIn, .code yX6_isIn cX6_isIn 2 (some .boolean), .methodLink RX6 154 yX6_size, .static yX6_size, .code yX6_size cX6_size 3 (some .int)] ++ wsX60)
def wsX6_be : List Cond := .code yX6_be cX6_be 4 (some .int) :: ([.fieldLink RX6 7 "PegFieldModel" "kindOf" "[I", .methodLink RX6 166 yX6_isPeg, .instanceMethod yX6_isPeg, .selects RX6 yX6_isPeg yX6_isPeg, .initialized RX6, .code yX6_isPeg cX6_isPeg 2 (some .boolean), .fieldLink RX6 115 "PegFieldModel" "pegs" "I", .methodLink RX6 77 yX6_within, .static yX6_within, .code yX6_within cX6_within 3 (some .boolean)] ++ wsX60)
def wsX6_begin : List Cond := .code yX6_begin cX6_begin 2 none :: ([.fieldLink RX6 32 "PegFieldModel" "codeOf" "[I", .fieldLink RX6 35 "PegFieldModel" "jumpsOf" "[I", .fieldLink RX6 38 "PegFieldModel" "waysOf" "[I", .fieldLink RX6 41 "PegFieldModel" "fewestOf" "[I", .constant RX6 189 (268435456), .fieldLink RX6 44 "PegFieldModel" "firstOf" "[I", .fieldLink RX6 47 "PegFieldModel" "longestOf" "[I", .fieldLink RX6 50 "PegFieldModel" "shortestOf" "[I", .fieldLink RX6 53 "PegFieldModel" "aloneOf" "[I", .fieldLink RX6 56 "PegFieldModel" "winOf" "[I", .fieldLink RX6 59 "PegFieldModel" "sumOf" "[I"] ++ wsX60)
def wsX6_nextCode_r1 : List Cond := [Cond.fieldLink RX6 32 "PegFieldModel" "codeOf" "[I", Cond.fieldLink RX6 115 "PegFieldModel" "pegs" "I", Cond.methodLink RX6 118 yX6_places, Cond.instanceMethod yX6_places, Cond.selects RX6 yX6_places yX6_places, Cond.initialized RX6, Cond.code yX6_places cX6_places 1 (some .int), Cond.fieldLink RX6 106 "PegFieldModel" "high" "I", Cond.fieldLink RX6 109 "PegFieldModel" "wide" "I", Cond.methodLink RX6 148 yX6_isJump, Cond.instanceMethod yX6_isJump, Cond.selects RX6 yX6_isJump yX6_isJump, Cond.code yX6_isJump cX6_isJump 4 (some .boolean), Cond.methodLink RX6 144 yX6_overBy, Cond.instanceMethod yX6_overBy, Cond.selects RX6 yX6_overBy yX6_overBy, Cond.code yX6_overBy cX6_overBy 6 (some .int), Cond.fieldLink RX6 29 "PegFieldModel" "deepPlace" "[I", Cond.fieldLink RX6 112 "PegFieldModel" "holes" "I", Cond.fieldLink RX6 7 "PegFieldModel" "kindOf" "[I", Cond.methodLink RX6 130 yX6_isIn, Cond.static yX6_isIn, Cond.code yX6_isIn cX6_isIn 2 (some .boolean), Cond.methodLink RX6 134 yX6_whoAt]
def wsX6_nextCode_r2 : List Cond := [Cond.instanceMethod yX6_whoAt, Cond.selects RX6 yX6_whoAt yX6_whoAt, Cond.code yX6_whoAt cX6_whoAt 5 (some .int), Cond.methodLink RX6 138 yX6_apart, Cond.static yX6_apart, Cond.code yX6_apart cX6_apart 2 (some .int), Cond.methodLink RX6 141 yX6_goesBy, Cond.instanceMethod yX6_goesBy, Cond.selects RX6 yX6_goesBy yX6_goesBy, Cond.code yX6_goesBy cX6_goesBy 6 (some .boolean)]
def wsX6_nextCode : List Cond := .code yX6_nextCode cX6_nextCode 3 (some .int) :: ((wsX6_nextCode_r1 ++ wsX6_nextCode_r2) ++ wsX60)
def wsX6_lastPlace : List Cond := .code yX6_lastPlace cX6_lastPlace 4 (some .int) :: ([.fieldLink RX6 115 "PegFieldModel" "pegs" "I", .fieldLink RX6 29 "PegFieldModel" "deepPlace" "[I"] ++ wsX60)
def wsX6_end : List Cond := .code yX6_end cX6_end 3 none :: ([.fieldLink RX6 38 "PegFieldModel" "waysOf" "[I", .fieldLink RX6 41 "PegFieldModel" "fewestOf" "[I", .fieldLink RX6 47 "PegFieldModel" "longestOf" "[I", .fieldLink RX6 50 "PegFieldModel" "shortestOf" "[I", .fieldLink RX6 53 "PegFieldModel" "aloneOf" "[I", .fieldLink RX6 59 "PegFieldModel" "sumOf" "[I", .fieldLink RX6 35 "PegFieldModel" "jumpsOf" "[I", .methodLink RX6 183 yX6_onBoard, .instanceMethod yX6_onBoard, .selects RX6 yX6_onBoard yX6_onBoard, .initialized RX6, .code yX6_onBoard cX6_onBoard 4 (some .int), .fieldLink RX6 115 "PegFieldModel" "pegs" "I", .fieldLink RX6 29 "PegFieldModel" "deepPlace" "[I", .methodLink RX6 190 yX6_lastPlace, .instanceMethod yX6_lastPlace, .selects RX6 yX6_lastPlace yX6_lastPlace, .code yX6_lastPlace cX6_lastPlace 4 (some .int)] ++ wsX60)
def wsX6_takeUp : List Cond := .code yX6_takeUp cX6_takeUp 5 none :: ([.fieldLink RX6 35 "PegFieldModel" "jumpsOf" "[I", .fieldLink RX6 38 "PegFieldModel" "waysOf" "[I", .fieldLink RX6 44 "PegFieldModel" "firstOf" "[I", .fieldLink RX6 41 "PegFieldModel" "fewestOf" "[I", .fieldLink RX6 47 "PegFieldModel" "longestOf" "[I", .fieldLink RX6 50 "PegFieldModel" "shortestOf" "[I", .fieldLink RX6 53 "PegFieldModel" "aloneOf" "[I", .fieldLink RX6 56 "PegFieldModel" "winOf" "[I", .fieldLink RX6 59 "PegFieldModel" "sumOf" "[I"] ++ wsX60)
def wsX6_layCourses_r1 : List Cond := [Cond.fieldLink RX6 35 "PegFieldModel" "jumpsOf" "[I", Cond.fieldLink RX6 32 "PegFieldModel" "codeOf" "[I", Cond.methodLink RX6 193 yX6_begin, Cond.instanceMethod yX6_begin, Cond.selects RX6 yX6_begin yX6_begin, Cond.initialized RX6, Cond.code yX6_begin cX6_begin 2 none, Cond.fieldLink RX6 38 "PegFieldModel" "waysOf" "[I", Cond.fieldLink RX6 41 "PegFieldModel" "fewestOf" "[I", Cond.constant RX6 189 (268435456), Cond.fieldLink RX6 44 "PegFieldModel" "firstOf" "[I", Cond.fieldLink RX6 47 "PegFieldModel" "longestOf" "[I", Cond.fieldLink RX6 50 "PegFieldModel" "shortestOf" "[I", Cond.fieldLink RX6 53 "PegFieldModel" "aloneOf" "[I", Cond.fieldLink RX6 56 "PegFieldModel" "winOf" "[I", Cond.fieldLink RX6 59 "PegFieldModel" "sumOf" "[I", Cond.methodLink RX6 197 yX6_nextCode, Cond.instanceMethod yX6_nextCode, Cond.selects RX6 yX6_nextCode yX6_nextCode, Cond.code yX6_nextCode cX6_nextCode 3 (some .int), Cond.fieldLink RX6 115 "PegFieldModel" "pegs" "I", Cond.methodLink RX6 118 yX6_places, Cond.instanceMethod yX6_places, Cond.selects RX6 yX6_places yX6_places]
def wsX6_layCourses_r2 : List Cond := [Cond.code yX6_places cX6_places 1 (some .int), Cond.fieldLink RX6 106 "PegFieldModel" "high" "I", Cond.fieldLink RX6 109 "PegFieldModel" "wide" "I", Cond.methodLink RX6 148 yX6_isJump, Cond.instanceMethod yX6_isJump, Cond.selects RX6 yX6_isJump yX6_isJump, Cond.code yX6_isJump cX6_isJump 4 (some .boolean), Cond.methodLink RX6 144 yX6_overBy, Cond.instanceMethod yX6_overBy, Cond.selects RX6 yX6_overBy yX6_overBy, Cond.code yX6_overBy cX6_overBy 6 (some .int), Cond.fieldLink RX6 29 "PegFieldModel" "deepPlace" "[I", Cond.fieldLink RX6 112 "PegFieldModel" "holes" "I", Cond.fieldLink RX6 7 "PegFieldModel" "kindOf" "[I", Cond.methodLink RX6 130 yX6_isIn, Cond.static yX6_isIn, Cond.code yX6_isIn cX6_isIn 2 (some .boolean), Cond.methodLink RX6 134 yX6_whoAt, Cond.instanceMethod yX6_whoAt, Cond.selects RX6 yX6_whoAt yX6_whoAt, Cond.code yX6_whoAt cX6_whoAt 5 (some .int), Cond.methodLink RX6 138 yX6_apart, Cond.static yX6_apart, Cond.code yX6_apart cX6_apart 2 (some .int)]
def wsX6_layCourses_r3 : List Cond := [Cond.methodLink RX6 141 yX6_goesBy, Cond.instanceMethod yX6_goesBy, Cond.selects RX6 yX6_goesBy yX6_goesBy, Cond.code yX6_goesBy cX6_goesBy 6 (some .boolean), Cond.methodLink RX6 179 yX6_goDeep, Cond.instanceMethod yX6_goDeep, Cond.selects RX6 yX6_goDeep yX6_goDeep, Cond.code yX6_goDeep cX6_goDeep 6 none, Cond.methodLink RX6 200 yX6_end, Cond.instanceMethod yX6_end, Cond.selects RX6 yX6_end yX6_end, Cond.code yX6_end cX6_end 3 none, Cond.methodLink RX6 183 yX6_onBoard, Cond.instanceMethod yX6_onBoard, Cond.selects RX6 yX6_onBoard yX6_onBoard, Cond.code yX6_onBoard cX6_onBoard 4 (some .int), Cond.methodLink RX6 190 yX6_lastPlace, Cond.instanceMethod yX6_lastPlace, Cond.selects RX6 yX6_lastPlace yX6_lastPlace, Cond.code yX6_lastPlace cX6_lastPlace 4 (some .int), Cond.methodLink RX6 203 yX6_takeUp, Cond.instanceMethod yX6_takeUp, Cond.selects RX6 yX6_takeUp yX6_takeUp, Cond.code yX6_takeUp cX6_takeUp 5 none]
def wsX6_layCourses : List Cond := .code yX6_layCourses cX6_layCourses 3 none :: ((wsX6_layCourses_r1 ++ (wsX6_layCourses_r2 ++ wsX6_layCourses_r3)) ++ wsX60)
def wsX6_coursesNow_r1 : List Cond := [Cond.fieldLink RX6 41 "PegFieldModel" "fewestOf" "[I", Cond.fieldLink RX6 44 "PegFieldModel" "firstOf" "[I", Cond.fieldLink RX6 38 "PegFieldModel" "waysOf" "[I", Cond.fieldLink RX6 47 "PegFieldModel" "longestOf" "[I", Cond.fieldLink RX6 50 "PegFieldModel" "shortestOf" "[I", Cond.fieldLink RX6 53 "PegFieldModel" "aloneOf" "[I", Cond.methodLink RX6 157 yX6_putDeep, Cond.instanceMethod yX6_putDeep, Cond.selects RX6 yX6_putDeep yX6_putDeep, Cond.initialized RX6, Cond.code yX6_putDeep cX6_putDeep 2 none, Cond.fieldLink RX6 29 "PegFieldModel" "deepPlace" "[I", Cond.fieldLink RX6 115 "PegFieldModel" "pegs" "I", Cond.fieldLink RX6 13 "PegFieldModel" "placeOf" "[I", Cond.methodLink RX6 207 yX6_layCourses, Cond.instanceMethod yX6_layCourses, Cond.selects RX6 yX6_layCourses yX6_layCourses, Cond.code yX6_layCourses cX6_layCourses 3 none, Cond.fieldLink RX6 35 "PegFieldModel" "jumpsOf" "[I", Cond.fieldLink RX6 32 "PegFieldModel" "codeOf" "[I", Cond.methodLink RX6 193 yX6_begin, Cond.instanceMethod yX6_begin, Cond.selects RX6 yX6_begin yX6_begin, Cond.code yX6_begin cX6_begin 2 none]
def wsX6_coursesNow_r2 : List Cond := [Cond.constant RX6 189 (268435456), Cond.fieldLink RX6 56 "PegFieldModel" "winOf" "[I", Cond.fieldLink RX6 59 "PegFieldModel" "sumOf" "[I", Cond.methodLink RX6 197 yX6_nextCode, Cond.instanceMethod yX6_nextCode, Cond.selects RX6 yX6_nextCode yX6_nextCode, Cond.code yX6_nextCode cX6_nextCode 3 (some .int), Cond.methodLink RX6 118 yX6_places, Cond.instanceMethod yX6_places, Cond.selects RX6 yX6_places yX6_places, Cond.code yX6_places cX6_places 1 (some .int), Cond.fieldLink RX6 106 "PegFieldModel" "high" "I", Cond.fieldLink RX6 109 "PegFieldModel" "wide" "I", Cond.methodLink RX6 148 yX6_isJump, Cond.instanceMethod yX6_isJump, Cond.selects RX6 yX6_isJump yX6_isJump, Cond.code yX6_isJump cX6_isJump 4 (some .boolean), Cond.methodLink RX6 144 yX6_overBy, Cond.instanceMethod yX6_overBy, Cond.selects RX6 yX6_overBy yX6_overBy, Cond.code yX6_overBy cX6_overBy 6 (some .int), Cond.fieldLink RX6 112 "PegFieldModel" "holes" "I", Cond.fieldLink RX6 7 "PegFieldModel" "kindOf" "[I", Cond.methodLink RX6 130 yX6_isIn]
def wsX6_coursesNow_r3 : List Cond := [Cond.static yX6_isIn, Cond.code yX6_isIn cX6_isIn 2 (some .boolean), Cond.methodLink RX6 134 yX6_whoAt, Cond.instanceMethod yX6_whoAt, Cond.selects RX6 yX6_whoAt yX6_whoAt, Cond.code yX6_whoAt cX6_whoAt 5 (some .int), Cond.methodLink RX6 138 yX6_apart, Cond.static yX6_apart, Cond.code yX6_apart cX6_apart 2 (some .int), Cond.methodLink RX6 141 yX6_goesBy, Cond.instanceMethod yX6_goesBy, Cond.selects RX6 yX6_goesBy yX6_goesBy, Cond.code yX6_goesBy cX6_goesBy 6 (some .boolean), Cond.methodLink RX6 179 yX6_goDeep, Cond.instanceMethod yX6_goDeep, Cond.selects RX6 yX6_goDeep yX6_goDeep, Cond.code yX6_goDeep cX6_goDeep 6 none, Cond.methodLink RX6 200 yX6_end, Cond.instanceMethod yX6_end, Cond.selects RX6 yX6_end yX6_end, Cond.code yX6_end cX6_end 3 none, Cond.methodLink RX6 183 yX6_onBoard, Cond.instanceMethod yX6_onBoard, Cond.selects RX6 yX6_onBoard yX6_onBoard]
def wsX6_coursesNow_r4 : List Cond := [Cond.code yX6_onBoard cX6_onBoard 4 (some .int), Cond.methodLink RX6 190 yX6_lastPlace, Cond.instanceMethod yX6_lastPlace, Cond.selects RX6 yX6_lastPlace yX6_lastPlace, Cond.code yX6_lastPlace cX6_lastPlace 4 (some .int), Cond.methodLink RX6 203 yX6_takeUp, Cond.instanceMethod yX6_takeUp, Cond.selects RX6 yX6_takeUp yX6_takeUp, Cond.code yX6_takeUp cX6_takeUp 5 none]
def wsX6_coursesNow : List Cond := .code yX6_coursesNow cX6_coursesNow 2 (some .int) :: ((wsX6_coursesNow_r1 ++ (wsX6_coursesNow_r2 ++ (wsX6_coursesNow_r3 ++ wsX6_coursesNow_r4))) ++ wsX60)
def wsX6_courses_r1 : List Cond := [Cond.fieldLink RX6 115 "PegFieldModel" "pegs" "I", Cond.methodLink RX6 77 yX6_within, Cond.static yX6_within, Cond.initialized RX6, Cond.code yX6_within cX6_within 3 (some .boolean), Cond.methodLink RX6 210 yX6_coursesNow, Cond.instanceMethod yX6_coursesNow, Cond.selects RX6 yX6_coursesNow yX6_coursesNow, Cond.code yX6_coursesNow cX6_coursesNow 2 (some .int), Cond.fieldLink RX6 41 "PegFieldModel" "fewestOf" "[I", Cond.fieldLink RX6 44 "PegFieldModel" "firstOf" "[I", Cond.fieldLink RX6 38 "PegFieldModel" "waysOf" "[I", Cond.fieldLink RX6 47 "PegFieldModel" "longestOf" "[I", Cond.fieldLink RX6 50 "PegFieldModel" "shortestOf" "[I", Cond.fieldLink RX6 53 "PegFieldModel" "aloneOf" "[I", Cond.methodLink RX6 157 yX6_putDeep, Cond.instanceMethod yX6_putDeep, Cond.selects RX6 yX6_putDeep yX6_putDeep, Cond.code yX6_putDeep cX6_putDeep 2 none, Cond.fieldLink RX6 29 "PegFieldModel" "deepPlace" "[I", Cond.fieldLink RX6 13 "PegFieldModel" "placeOf" "[I", Cond.methodLink RX6 207 yX6_layCourses, Cond.instanceMethod yX6_layCourses, Cond.selects RX6 yX6_layCourses yX6_layCourses]
def wsX6_courses_r2 : List Cond := [Cond.code yX6_layCourses cX6_layCourses 3 none, Cond.fieldLink RX6 35 "PegFieldModel" "jumpsOf" "[I", Cond.fieldLink RX6 32 "PegFieldModel" "codeOf" "[I", Cond.methodLink RX6 193 yX6_begin, Cond.instanceMethod yX6_begin, Cond.selects RX6 yX6_begin yX6_begin, Cond.code yX6_begin cX6_begin 2 none, Cond.constant RX6 189 (268435456), Cond.fieldLink RX6 56 "PegFieldModel" "winOf" "[I", Cond.fieldLink RX6 59 "PegFieldModel" "sumOf" "[I", Cond.methodLink RX6 197 yX6_nextCode, Cond.instanceMethod yX6_nextCode, Cond.selects RX6 yX6_nextCode yX6_nextCode, Cond.code yX6_nextCode cX6_nextCode 3 (some .int), Cond.methodLink RX6 118 yX6_places, Cond.instanceMethod yX6_places, Cond.selects RX6 yX6_places yX6_places, Cond.code yX6_places cX6_places 1 (some .int), Cond.fieldLink RX6 106 "PegFieldModel" "high" "I", Cond.fieldLink RX6 109 "PegFieldModel" "wide" "I", Cond.methodLink RX6 148 yX6_isJump, Cond.instanceMethod yX6_isJump, Cond.selects RX6 yX6_isJump yX6_isJump, Cond.code yX6_isJump cX6_isJump 4 (some .boolean)]
def wsX6_courses_r3 : List Cond := [Cond.methodLink RX6 144 yX6_overBy, Cond.instanceMethod yX6_overBy, Cond.selects RX6 yX6_overBy yX6_overBy, Cond.code yX6_overBy cX6_overBy 6 (some .int), Cond.fieldLink RX6 112 "PegFieldModel" "holes" "I", Cond.fieldLink RX6 7 "PegFieldModel" "kindOf" "[I", Cond.methodLink RX6 130 yX6_isIn, Cond.static yX6_isIn, Cond.code yX6_isIn cX6_isIn 2 (some .boolean), Cond.methodLink RX6 134 yX6_whoAt, Cond.instanceMethod yX6_whoAt, Cond.selects RX6 yX6_whoAt yX6_whoAt, Cond.code yX6_whoAt cX6_whoAt 5 (some .int), Cond.methodLink RX6 138 yX6_apart, Cond.static yX6_apart, Cond.code yX6_apart cX6_apart 2 (some .int), Cond.methodLink RX6 141 yX6_goesBy, Cond.instanceMethod yX6_goesBy, Cond.selects RX6 yX6_goesBy yX6_goesBy, Cond.code yX6_goesBy cX6_goesBy 6 (some .boolean), Cond.methodLink RX6 179 yX6_goDeep, Cond.instanceMethod yX6_goDeep, Cond.selects RX6 yX6_goDeep yX6_goDeep, Cond.code yX6_goDeep cX6_goDeep 6 none]
def wsX6_courses_r4 : List Cond := [Cond.methodLink RX6 200 yX6_end, Cond.instanceMethod yX6_end, Cond.selects RX6 yX6_end yX6_end, Cond.code yX6_end cX6_end 3 none, Cond.methodLink RX6 183 yX6_onBoard, Cond.instanceMethod yX6_onBoard, Cond.selects RX6 yX6_onBoard yX6_onBoard, Cond.code yX6_onBoard cX6_onBoard 4 (some .int), Cond.methodLink RX6 190 yX6_lastPlace, Cond.instanceMethod yX6_lastPlace, Cond.selects RX6 yX6_lastPlace yX6_lastPlace, Cond.code yX6_lastPlace cX6_lastPlace 4 (some .int), Cond.methodLink RX6 203 yX6_takeUp, Cond.instanceMethod yX6_takeUp, Cond.selects RX6 yX6_takeUp yX6_takeUp, Cond.code yX6_takeUp cX6_takeUp 5 none]
def wsX6_courses : List Cond := .code yX6_courses cX6_courses 2 (some .int) :: ((wsX6_courses_r1 ++ (wsX6_courses_r2 ++ (wsX6_courses_r3 ++ wsX6_courses_r4))) ++ wsX60)
def wsX6_winsNow_r1 : List Cond := [Cond.fieldLink RX6 56 "PegFieldModel" "winOf" "[I", Cond.methodLink RX6 157 yX6_putDeep, Cond.instanceMethod yX6_putDeep, Cond.selects RX6 yX6_putDeep yX6_putDeep, Cond.initialized RX6, Cond.code yX6_putDeep cX6_putDeep 2 none, Cond.fieldLink RX6 29 "PegFieldModel" "deepPlace" "[I", Cond.fieldLink RX6 115 "PegFieldModel" "pegs" "I", Cond.fieldLink RX6 13 "PegFieldModel" "placeOf" "[I", Cond.methodLink RX6 207 yX6_layCourses, Cond.instanceMethod yX6_layCourses, Cond.selects RX6 yX6_layCourses yX6_layCourses, Cond.code yX6_layCourses cX6_layCourses 3 none, Cond.fieldLink RX6 35 "PegFieldModel" "jumpsOf" "[I", Cond.fieldLink RX6 32 "PegFieldModel" "codeOf" "[I", Cond.methodLink RX6 193 yX6_begin, Cond.instanceMethod yX6_begin, Cond.selects RX6 yX6_begin yX6_begin, Cond.code yX6_begin cX6_begin 2 none, Cond.fieldLink RX6 38 "PegFieldModel" "waysOf" "[I", Cond.fieldLink RX6 41 "PegFieldModel" "fewestOf" "[I", Cond.constant RX6 189 (268435456), Cond.fieldLink RX6 44 "PegFieldModel" "firstOf" "[I", Cond.fieldLink RX6 47 "PegFieldModel" "longestOf" "[I"]
def wsX6_winsNow_r2 : List Cond := [Cond.fieldLink RX6 50 "PegFieldModel" "shortestOf" "[I", Cond.fieldLink RX6 53 "PegFieldModel" "aloneOf" "[I", Cond.fieldLink RX6 59 "PegFieldModel" "sumOf" "[I", Cond.methodLink RX6 197 yX6_nextCode, Cond.instanceMethod yX6_nextCode, Cond.selects RX6 yX6_nextCode yX6_nextCode, Cond.code yX6_nextCode cX6_nextCode 3 (some .int), Cond.methodLink RX6 118 yX6_places, Cond.instanceMethod yX6_places, Cond.selects RX6 yX6_places yX6_places, Cond.code yX6_places cX6_places 1 (some .int), Cond.fieldLink RX6 106 "PegFieldModel" "high" "I", Cond.fieldLink RX6 109 "PegFieldModel" "wide" "I", Cond.methodLink RX6 148 yX6_isJump, Cond.instanceMethod yX6_isJump, Cond.selects RX6 yX6_isJump yX6_isJump, Cond.code yX6_isJump cX6_isJump 4 (some .boolean), Cond.methodLink RX6 144 yX6_overBy, Cond.instanceMethod yX6_overBy, Cond.selects RX6 yX6_overBy yX6_overBy, Cond.code yX6_overBy cX6_overBy 6 (some .int), Cond.fieldLink RX6 112 "PegFieldModel" "holes" "I", Cond.fieldLink RX6 7 "PegFieldModel" "kindOf" "[I", Cond.methodLink RX6 130 yX6_isIn]
def wsX6_winsNow_r3 : List Cond := [Cond.static yX6_isIn, Cond.code yX6_isIn cX6_isIn 2 (some .boolean), Cond.methodLink RX6 134 yX6_whoAt, Cond.instanceMethod yX6_whoAt, Cond.selects RX6 yX6_whoAt yX6_whoAt, Cond.code yX6_whoAt cX6_whoAt 5 (some .int), Cond.methodLink RX6 138 yX6_apart, Cond.static yX6_apart, Cond.code yX6_apart cX6_apart 2 (some .int), Cond.methodLink RX6 141 yX6_goesBy, Cond.instanceMethod yX6_goesBy, Cond.selects RX6 yX6_goesBy yX6_goesBy, Cond.code yX6_goesBy cX6_goesBy 6 (some .boolean), Cond.methodLink RX6 179 yX6_goDeep, Cond.instanceMethod yX6_goDeep, Cond.selects RX6 yX6_goDeep yX6_goDeep, Cond.code yX6_goDeep cX6_goDeep 6 none, Cond.methodLink RX6 200 yX6_end, Cond.instanceMethod yX6_end, Cond.selects RX6 yX6_end yX6_end, Cond.code yX6_end cX6_end 3 none, Cond.methodLink RX6 183 yX6_onBoard, Cond.instanceMethod yX6_onBoard, Cond.selects RX6 yX6_onBoard yX6_onBoard]
def wsX6_winsNow_r4 : List Cond := [Cond.code yX6_onBoard cX6_onBoard 4 (some .int), Cond.methodLink RX6 190 yX6_lastPlace, Cond.instanceMethod yX6_lastPlace, Cond.selects RX6 yX6_lastPlace yX6_lastPlace, Cond.code yX6_lastPlace cX6_lastPlace 4 (some .int), Cond.methodLink RX6 203 yX6_takeUp, Cond.instanceMethod yX6_takeUp, Cond.selects RX6 yX6_takeUp yX6_takeUp, Cond.code yX6_takeUp cX6_takeUp 5 none]
def wsX6_winsNow : List Cond := .code yX6_winsNow cX6_winsNow 2 (some .int) :: ((wsX6_winsNow_r1 ++ (wsX6_winsNow_r2 ++ (wsX6_winsNow_r3 ++ wsX6_winsNow_r4))) ++ wsX60)
def wsX6_wins_r1 : List Cond := [Cond.fieldLink RX6 115 "PegFieldModel" "pegs" "I", Cond.methodLink RX6 77 yX6_within, Cond.static yX6_within, Cond.initialized RX6, Cond.code yX6_within cX6_within 3 (some .boolean), Cond.methodLink RX6 213 yX6_winsNow, Cond.instanceMethod yX6_winsNow, Cond.selects RX6 yX6_winsNow yX6_winsNow, Cond.code yX6_winsNow cX6_winsNow 2 (some .int), Cond.fieldLink RX6 56 "PegFieldModel" "winOf" "[I", Cond.methodLink RX6 157 yX6_putDeep, Cond.instanceMethod yX6_putDeep, Cond.selects RX6 yX6_putDeep yX6_putDeep, Cond.code yX6_putDeep cX6_putDeep 2 none, Cond.fieldLink RX6 29 "PegFieldModel" "deepPlace" "[I", Cond.fieldLink RX6 13 "PegFieldModel" "placeOf" "[I", Cond.methodLink RX6 207 yX6_layCourses, Cond.instanceMethod yX6_layCourses, Cond.selects RX6 yX6_layCourses yX6_layCourses, Cond.code yX6_layCourses cX6_layCourses 3 none, Cond.fieldLink RX6 35 "PegFieldModel" "jumpsOf" "[I", Cond.fieldLink RX6 32 "PegFieldModel" "codeOf" "[I", Cond.methodLink RX6 193 yX6_begin, Cond.instanceMethod yX6_begin]
def wsX6_wins_r2 : List Cond := [Cond.selects RX6 yX6_begin yX6_begin, Cond.code yX6_begin cX6_begin 2 none, Cond.fieldLink RX6 38 "PegFieldModel" "waysOf" "[I", Cond.fieldLink RX6 41 "PegFieldModel" "fewestOf" "[I", Cond.constant RX6 189 (268435456), Cond.fieldLink RX6 44 "PegFieldModel" "firstOf" "[I", Cond.fieldLink RX6 47 "PegFieldModel" "longestOf" "[I", Cond.fieldLink RX6 50 "PegFieldModel" "shortestOf" "[I", Cond.fieldLink RX6 53 "PegFieldModel" "aloneOf" "[I", Cond.fieldLink RX6 59 "PegFieldModel" "sumOf" "[I", Cond.methodLink RX6 197 yX6_nextCode, Cond.instanceMethod yX6_nextCode, Cond.selects RX6 yX6_nextCode yX6_nextCode, Cond.code yX6_nextCode cX6_nextCode 3 (some .int), Cond.methodLink RX6 118 yX6_places, Cond.instanceMethod yX6_places, Cond.selects RX6 yX6_places yX6_places, Cond.code yX6_places cX6_places 1 (some .int), Cond.fieldLink RX6 106 "PegFieldModel" "high" "I", Cond.fieldLink RX6 109 "PegFieldModel" "wide" "I", Cond.methodLink RX6 148 yX6_isJump, Cond.instanceMethod yX6_isJump, Cond.selects RX6 yX6_isJump yX6_isJump, Cond.code yX6_isJump cX6_isJump 4 (some .boolean)]
def wsX6_wins_r3 : List Cond := [Cond.methodLink RX6 144 yX6_overBy, Cond.instanceMethod yX6_overBy, Cond.selects RX6 yX6_overBy yX6_overBy, Cond.code yX6_overBy cX6_overBy 6 (some .int), Cond.fieldLink RX6 112 "PegFieldModel" "holes" "I", Cond.fieldLink RX6 7 "PegFieldModel" "kindOf" "[I", Cond.methodLink RX6 130 yX6_isIn, Cond.static yX6_isIn, Cond.code yX6_isIn cX6_isIn 2 (some .boolean), Cond.methodLink RX6 134 yX6_whoAt, Cond.instanceMethod yX6_whoAt, Cond.selects RX6 yX6_whoAt yX6_whoAt, Cond.code yX6_whoAt cX6_whoAt 5 (some .int), Cond.methodLink RX6 138 yX6_apart, Cond.static yX6_apart, Cond.code yX6_apart cX6_apart 2 (some .int), Cond.methodLink RX6 141 yX6_goesBy, Cond.instanceMethod yX6_goesBy, Cond.selects RX6 yX6_goesBy yX6_goesBy, Cond.code yX6_goesBy cX6_goesBy 6 (some .boolean), Cond.methodLink RX6 179 yX6_goDeep, Cond.instanceMethod yX6_goDeep, Cond.selects RX6 yX6_goDeep yX6_goDeep, Cond.code yX6_goDeep cX6_goDeep 6 none]
def wsX6_wins_r4 : List Cond := [Cond.methodLink RX6 200 yX6_end, Cond.instanceMethod yX6_end, Cond.selects RX6 yX6_end yX6_end, Cond.code yX6_end cX6_end 3 none, Cond.methodLink RX6 183 yX6_onBoard, Cond.instanceMethod yX6_onBoard, Cond.selects RX6 yX6_onBoard yX6_onBoard, Cond.code yX6_onBoard cX6_onBoard 4 (some .int), Cond.methodLink RX6 190 yX6_lastPlace, Cond.instanceMethod yX6_lastPlace, Cond.selects RX6 yX6_lastPlace yX6_lastPlace, Cond.code yX6_lastPlace cX6_lastPlace 4 (some .int), Cond.methodLink RX6 203 yX6_takeUp, Cond.instanceMethod yX6_takeUp, Cond.selects RX6 yX6_takeUp yX6_takeUp, Cond.code yX6_takeUp cX6_takeUp 5 none]
def wsX6_wins : List Cond := .code yX6_wins cX6_wins 2 (some .int) :: ((wsX6_wins_r1 ++ (wsX6_wins_r2 ++ (wsX6_wins_r3 ++ wsX6_wins_r4))) ++ wsX60)
def wsX6_addNow_r1 : List Cond := [Cond.fieldLink RX6 7 "PegFieldModel" "kindOf" "[I", Cond.fieldLink RX6 115 "PegFieldModel" "pegs" "I", Cond.fieldLink RX6 13 "PegFieldModel" "placeOf" "[I", Cond.methodLink RX6 118 yX6_places, Cond.instanceMethod yX6_places, Cond.selects RX6 yX6_places yX6_places, Cond.initialized RX6, Cond.code yX6_places cX6_places 1 (some .int), Cond.fieldLink RX6 106 "PegFieldModel" "high" "I", Cond.fieldLink RX6 109 "PegFieldModel" "wide" "I", Cond.methodLink RX6 186 yX6_isEmpty, Cond.instanceMethod yX6_isEmpty, Cond.selects RX6 yX6_isEmpty yX6_isEmpty, Cond.code yX6_isEmpty cX6_isEmpty 2 (some .boolean), Cond.fieldLink RX6 112 "PegFieldModel" "holes" "I", Cond.methodLink RX6 157 yX6_putDeep, Cond.instanceMethod yX6_putDeep, Cond.selects RX6 yX6_putDeep yX6_putDeep, Cond.code yX6_putDeep cX6_putDeep 2 none, Cond.fieldLink RX6 29 "PegFieldModel" "deepPlace" "[I", Cond.methodLink RX6 130 yX6_isIn, Cond.static yX6_isIn, Cond.code yX6_isIn cX6_isIn 2 (some .boolean), Cond.methodLink RX6 134 yX6_whoAt]
def wsX6_addNow_r2 : List Cond := [Cond.instanceMethod yX6_whoAt, Cond.selects RX6 yX6_whoAt yX6_whoAt, Cond.code yX6_whoAt cX6_whoAt 5 (some .int), Cond.methodLink RX6 210 yX6_coursesNow, Cond.instanceMethod yX6_coursesNow, Cond.selects RX6 yX6_coursesNow yX6_coursesNow, Cond.code yX6_coursesNow cX6_coursesNow 2 (some .int), Cond.fieldLink RX6 41 "PegFieldModel" "fewestOf" "[I", Cond.fieldLink RX6 44 "PegFieldModel" "firstOf" "[I", Cond.fieldLink RX6 38 "PegFieldModel" "waysOf" "[I", Cond.fieldLink RX6 47 "PegFieldModel" "longestOf" "[I", Cond.fieldLink RX6 50 "PegFieldModel" "shortestOf" "[I", Cond.fieldLink RX6 53 "PegFieldModel" "aloneOf" "[I", Cond.methodLink RX6 207 yX6_layCourses, Cond.instanceMethod yX6_layCourses, Cond.selects RX6 yX6_layCourses yX6_layCourses, Cond.code yX6_layCourses cX6_layCourses 3 none, Cond.fieldLink RX6 35 "PegFieldModel" "jumpsOf" "[I", Cond.fieldLink RX6 32 "PegFieldModel" "codeOf" "[I", Cond.methodLink RX6 193 yX6_begin, Cond.instanceMethod yX6_begin, Cond.selects RX6 yX6_begin yX6_begin, Cond.code yX6_begin cX6_begin 2 none, Cond.constant RX6 189 (268435456)]
def wsX6_addNow_r3 : List Cond := [Cond.fieldLink RX6 56 "PegFieldModel" "winOf" "[I", Cond.fieldLink RX6 59 "PegFieldModel" "sumOf" "[I", Cond.methodLink RX6 197 yX6_nextCode, Cond.instanceMethod yX6_nextCode, Cond.selects RX6 yX6_nextCode yX6_nextCode, Cond.code yX6_nextCode cX6_nextCode 3 (some .int), Cond.methodLink RX6 148 yX6_isJump, Cond.instanceMethod yX6_isJump, Cond.selects RX6 yX6_isJump yX6_isJump, Cond.code yX6_isJump cX6_isJump 4 (some .boolean), Cond.methodLink RX6 144 yX6_overBy, Cond.instanceMethod yX6_overBy, Cond.selects RX6 yX6_overBy yX6_overBy, Cond.code yX6_overBy cX6_overBy 6 (some .int), Cond.methodLink RX6 138 yX6_apart, Cond.static yX6_apart, Cond.code yX6_apart cX6_apart 2 (some .int), Cond.methodLink RX6 141 yX6_goesBy, Cond.instanceMethod yX6_goesBy, Cond.selects RX6 yX6_goesBy yX6_goesBy, Cond.code yX6_goesBy cX6_goesBy 6 (some .boolean), Cond.methodLink RX6 179 yX6_goDeep, Cond.instanceMethod yX6_goDeep, Cond.selects RX6 yX6_goDeep yX6_goDeep]
def wsX6_addNow_r4 : List Cond := [Cond.code yX6_goDeep cX6_goDeep 6 none, Cond.methodLink RX6 200 yX6_end, Cond.instanceMethod yX6_end, Cond.selects RX6 yX6_end yX6_end, Cond.code yX6_end cX6_end 3 none, Cond.methodLink RX6 183 yX6_onBoard, Cond.instanceMethod yX6_onBoard, Cond.selects RX6 yX6_onBoard yX6_onBoard, Cond.code yX6_onBoard cX6_onBoard 4 (some .int), Cond.methodLink RX6 190 yX6_lastPlace, Cond.instanceMethod yX6_lastPlace, Cond.selects RX6 yX6_lastPlace yX6_lastPlace, Cond.code yX6_lastPlace cX6_lastPlace 4 (some .int), Cond.methodLink RX6 203 yX6_takeUp, Cond.instanceMethod yX6_takeUp, Cond.selects RX6 yX6_takeUp yX6_takeUp, Cond.code yX6_takeUp cX6_takeUp 5 none]
def wsX6_addNow : List Cond := .code yX6_addNow cX6_addNow 3 (some .int) :: ((wsX6_addNow_r1 ++ (wsX6_addNow_r2 ++ (wsX6_addNow_r3 ++ wsX6_addNow_r4))) ++ wsX60)
def wsX6_add_r1 : List Cond := [Cond.fieldLink RX6 115 "PegFieldModel" "pegs" "I", Cond.fieldLink RX6 216 "PegFieldModel" "asks" "I", Cond.methodLink RX6 219 yX6_addNow, Cond.instanceMethod yX6_addNow, Cond.selects RX6 yX6_addNow yX6_addNow, Cond.initialized RX6, Cond.code yX6_addNow cX6_addNow 3 (some .int), Cond.fieldLink RX6 7 "PegFieldModel" "kindOf" "[I", Cond.fieldLink RX6 13 "PegFieldModel" "placeOf" "[I", Cond.methodLink RX6 118 yX6_places, Cond.instanceMethod yX6_places, Cond.selects RX6 yX6_places yX6_places, Cond.code yX6_places cX6_places 1 (some .int), Cond.fieldLink RX6 106 "PegFieldModel" "high" "I", Cond.fieldLink RX6 109 "PegFieldModel" "wide" "I", Cond.methodLink RX6 186 yX6_isEmpty, Cond.instanceMethod yX6_isEmpty, Cond.selects RX6 yX6_isEmpty yX6_isEmpty, Cond.code yX6_isEmpty cX6_isEmpty 2 (some .boolean), Cond.fieldLink RX6 112 "PegFieldModel" "holes" "I", Cond.methodLink RX6 157 yX6_putDeep, Cond.instanceMethod yX6_putDeep, Cond.selects RX6 yX6_putDeep yX6_putDeep, Cond.code yX6_putDeep cX6_putDeep 2 none]
def wsX6_add_r2 : List Cond := [Cond.fieldLink RX6 29 "PegFieldModel" "deepPlace" "[I", Cond.methodLink RX6 130 yX6_isIn, Cond.static yX6_isIn, Cond.code yX6_isIn cX6_isIn 2 (some .boolean), Cond.methodLink RX6 134 yX6_whoAt, Cond.instanceMethod yX6_whoAt, Cond.selects RX6 yX6_whoAt yX6_whoAt, Cond.code yX6_whoAt cX6_whoAt 5 (some .int), Cond.methodLink RX6 210 yX6_coursesNow, Cond.instanceMethod yX6_coursesNow, Cond.selects RX6 yX6_coursesNow yX6_coursesNow, Cond.code yX6_coursesNow cX6_coursesNow 2 (some .int), Cond.fieldLink RX6 41 "PegFieldModel" "fewestOf" "[I", Cond.fieldLink RX6 44 "PegFieldModel" "firstOf" "[I", Cond.fieldLink RX6 38 "PegFieldModel" "waysOf" "[I", Cond.fieldLink RX6 47 "PegFieldModel" "longestOf" "[I", Cond.fieldLink RX6 50 "PegFieldModel" "shortestOf" "[I", Cond.fieldLink RX6 53 "PegFieldModel" "aloneOf" "[I", Cond.methodLink RX6 207 yX6_layCourses, Cond.instanceMethod yX6_layCourses, Cond.selects RX6 yX6_layCourses yX6_layCourses, Cond.code yX6_layCourses cX6_layCourses 3 none, Cond.fieldLink RX6 35 "PegFieldModel" "jumpsOf" "[I", Cond.fieldLink RX6 32 "PegFieldModel" "codeOf" "[I"]
def wsX6_add_r3 : List Cond := [Cond.methodLink RX6 193 yX6_begin, Cond.instanceMethod yX6_begin, Cond.selects RX6 yX6_begin yX6_begin, Cond.code yX6_begin cX6_begin 2 none, Cond.constant RX6 189 (268435456), Cond.fieldLink RX6 56 "PegFieldModel" "winOf" "[I", Cond.fieldLink RX6 59 "PegFieldModel" "sumOf" "[I", Cond.methodLink RX6 197 yX6_nextCode, Cond.instanceMethod yX6_nextCode, Cond.selects RX6 yX6_nextCode yX6_nextCode, Cond.code yX6_nextCode cX6_nextCode 3 (some .int), Cond.methodLink RX6 148 yX6_isJump, Cond.instanceMethod yX6_isJump, Cond.selects RX6 yX6_isJump yX6_isJump, Cond.code yX6_isJump cX6_isJump 4 (some .boolean), Cond.methodLink RX6 144 yX6_overBy, Cond.instanceMethod yX6_overBy, Cond.selects RX6 yX6_overBy yX6_overBy, Cond.code yX6_overBy cX6_overBy 6 (some .int), Cond.methodLink RX6 138 yX6_apart, Cond.static yX6_apart, Cond.code yX6_apart cX6_apart 2 (some .int), Cond.methodLink RX6 141 yX6_goesBy, Cond.instanceMethod yX6_goesBy]
def wsX6_add_r4 : List Cond := [Cond.selects RX6 yX6_goesBy yX6_goesBy, Cond.code yX6_goesBy cX6_goesBy 6 (some .boolean), Cond.methodLink RX6 179 yX6_goDeep, Cond.instanceMethod yX6_goDeep, Cond.selects RX6 yX6_goDeep yX6_goDeep, Cond.code yX6_goDeep cX6_goDeep 6 none, Cond.methodLink RX6 200 yX6_end, Cond.instanceMethod yX6_end, Cond.selects RX6 yX6_end yX6_end, Cond.code yX6_end cX6_end 3 none, Cond.methodLink RX6 183 yX6_onBoard, Cond.instanceMethod yX6_onBoard, Cond.selects RX6 yX6_onBoard yX6_onBoard, Cond.code yX6_onBoard cX6_onBoard 4 (some .int), Cond.methodLink RX6 190 yX6_lastPlace, Cond.instanceMethod yX6_lastPlace, Cond.selects RX6 yX6_lastPlace yX6_lastPlace, Cond.code yX6_lastPlace cX6_lastPlace 4 (some .int), Cond.methodLink RX6 203 yX6_takeUp, Cond.instanceMethod yX6_takeUp, Cond.selects RX6 yX6_takeUp yX6_takeUp, Cond.code yX6_takeUp cX6_takeUp 5 none]
def wsX6_add : List Cond := .code yX6_add cX6_add 1 (some .int) :: ((wsX6_add_r1 ++ (wsX6_add_r2 ++ (wsX6_add_r3 ++ wsX6_add_r4))) ++ wsX60)
def wsX6_meanNow_r1 : List Cond := [Cond.fieldLink RX6 59 "PegFieldModel" "sumOf" "[I", Cond.fieldLink RX6 35 "PegFieldModel" "jumpsOf" "[I", Cond.methodLink RX6 157 yX6_putDeep, Cond.instanceMethod yX6_putDeep, Cond.selects RX6 yX6_putDeep yX6_putDeep, Cond.initialized RX6, Cond.code yX6_putDeep cX6_putDeep 2 none, Cond.fieldLink RX6 29 "PegFieldModel" "deepPlace" "[I", Cond.fieldLink RX6 115 "PegFieldModel" "pegs" "I", Cond.fieldLink RX6 13 "PegFieldModel" "placeOf" "[I", Cond.methodLink RX6 207 yX6_layCourses, Cond.instanceMethod yX6_layCourses, Cond.selects RX6 yX6_layCourses yX6_layCourses, Cond.code yX6_layCourses cX6_layCourses 3 none, Cond.fieldLink RX6 32 "PegFieldModel" "codeOf" "[I", Cond.methodLink RX6 193 yX6_begin, Cond.instanceMethod yX6_begin, Cond.selects RX6 yX6_begin yX6_begin, Cond.code yX6_begin cX6_begin 2 none, Cond.fieldLink RX6 38 "PegFieldModel" "waysOf" "[I", Cond.fieldLink RX6 41 "PegFieldModel" "fewestOf" "[I", Cond.constant RX6 189 (268435456), Cond.fieldLink RX6 44 "PegFieldModel" "firstOf" "[I", Cond.fieldLink RX6 47 "PegFieldModel" "longestOf" "[I"]
def wsX6_meanNow_r2 : List Cond := [Cond.fieldLink RX6 50 "PegFieldModel" "shortestOf" "[I", Cond.fieldLink RX6 53 "PegFieldModel" "aloneOf" "[I", Cond.fieldLink RX6 56 "PegFieldModel" "winOf" "[I", Cond.methodLink RX6 197 yX6_nextCode, Cond.instanceMethod yX6_nextCode, Cond.selects RX6 yX6_nextCode yX6_nextCode, Cond.code yX6_nextCode cX6_nextCode 3 (some .int), Cond.methodLink RX6 118 yX6_places, Cond.instanceMethod yX6_places, Cond.selects RX6 yX6_places yX6_places, Cond.code yX6_places cX6_places 1 (some .int), Cond.fieldLink RX6 106 "PegFieldModel" "high" "I", Cond.fieldLink RX6 109 "PegFieldModel" "wide" "I", Cond.methodLink RX6 148 yX6_isJump, Cond.instanceMethod yX6_isJump, Cond.selects RX6 yX6_isJump yX6_isJump, Cond.code yX6_isJump cX6_isJump 4 (some .boolean), Cond.methodLink RX6 144 yX6_overBy, Cond.instanceMethod yX6_overBy, Cond.selects RX6 yX6_overBy yX6_overBy, Cond.code yX6_overBy cX6_overBy 6 (some .int), Cond.fieldLink RX6 112 "PegFieldModel" "holes" "I", Cond.fieldLink RX6 7 "PegFieldModel" "kindOf" "[I", Cond.methodLink RX6 130 yX6_isIn]
def wsX6_meanNow_r3 : List Cond := [Cond.static yX6_isIn, Cond.code yX6_isIn cX6_isIn 2 (some .boolean), Cond.methodLink RX6 134 yX6_whoAt, Cond.instanceMethod yX6_whoAt, Cond.selects RX6 yX6_whoAt yX6_whoAt, Cond.code yX6_whoAt cX6_whoAt 5 (some .int), Cond.methodLink RX6 138 yX6_apart, Cond.static yX6_apart, Cond.code yX6_apart cX6_apart 2 (some .int), Cond.methodLink RX6 141 yX6_goesBy, Cond.instanceMethod yX6_goesBy, Cond.selects RX6 yX6_goesBy yX6_goesBy, Cond.code yX6_goesBy cX6_goesBy 6 (some .boolean), Cond.methodLink RX6 179 yX6_goDeep, Cond.instanceMethod yX6_goDeep, Cond.selects RX6 yX6_goDeep yX6_goDeep, Cond.code yX6_goDeep cX6_goDeep 6 none, Cond.methodLink RX6 200 yX6_end, Cond.instanceMethod yX6_end, Cond.selects RX6 yX6_end yX6_end, Cond.code yX6_end cX6_end 3 none, Cond.methodLink RX6 183 yX6_onBoard, Cond.instanceMethod yX6_onBoard, Cond.selects RX6 yX6_onBoard yX6_onBoard]
def wsX6_meanNow_r4 : List Cond := [Cond.code yX6_onBoard cX6_onBoard 4 (some .int), Cond.methodLink RX6 190 yX6_lastPlace, Cond.instanceMethod yX6_lastPlace, Cond.selects RX6 yX6_lastPlace yX6_lastPlace, Cond.code yX6_lastPlace cX6_lastPlace 4 (some .int), Cond.methodLink RX6 203 yX6_takeUp, Cond.instanceMethod yX6_takeUp, Cond.selects RX6 yX6_takeUp yX6_takeUp, Cond.code yX6_takeUp cX6_takeUp 5 none]
def wsX6_meanNow : List Cond := .code yX6_meanNow cX6_meanNow 1 (some .int) :: ((wsX6_meanNow_r1 ++ (wsX6_meanNow_r2 ++ (wsX6_meanNow_r3 ++ wsX6_meanNow_r4))) ++ wsX60)
def wsX6_mean_r1 : List Cond := [Cond.fieldLink RX6 115 "PegFieldModel" "pegs" "I", Cond.methodLink RX6 222 yX6_meanNow, Cond.instanceMethod yX6_meanNow, Cond.selects RX6 yX6_meanNow yX6_meanNow, Cond.initialized RX6, Cond.code yX6_meanNow cX6_meanNow 1 (some .int), Cond.fieldLink RX6 59 "PegFieldModel" "sumOf" "[I", Cond.fieldLink RX6 35 "PegFieldModel" "jumpsOf" "[I", Cond.methodLink RX6 157 yX6_putDeep, Cond.instanceMethod yX6_putDeep, Cond.selects RX6 yX6_putDeep yX6_putDeep, Cond.code yX6_putDeep cX6_putDeep 2 none, Cond.fieldLink RX6 29 "PegFieldModel" "deepPlace" "[I", Cond.fieldLink RX6 13 "PegFieldModel" "placeOf" "[I", Cond.methodLink RX6 207 yX6_layCourses, Cond.instanceMethod yX6_layCourses, Cond.selects RX6 yX6_layCourses yX6_layCourses, Cond.code yX6_layCourses cX6_layCourses 3 none, Cond.fieldLink RX6 32 "PegFieldModel" "codeOf" "[I", Cond.methodLink RX6 193 yX6_begin, Cond.instanceMethod yX6_begin, Cond.selects RX6 yX6_begin yX6_begin, Cond.code yX6_begin cX6_begin 2 none, Cond.fieldLink RX6 38 "PegFieldModel" "waysOf" "[I"]
def wsX6_mean_r2 : List Cond := [Cond.fieldLink RX6 41 "PegFieldModel" "fewestOf" "[I", Cond.constant RX6 189 (268435456), Cond.fieldLink RX6 44 "PegFieldModel" "firstOf" "[I", Cond.fieldLink RX6 47 "PegFieldModel" "longestOf" "[I", Cond.fieldLink RX6 50 "PegFieldModel" "shortestOf" "[I", Cond.fieldLink RX6 53 "PegFieldModel" "aloneOf" "[I", Cond.fieldLink RX6 56 "PegFieldModel" "winOf" "[I", Cond.methodLink RX6 197 yX6_nextCode, Cond.instanceMethod yX6_nextCode, Cond.selects RX6 yX6_nextCode yX6_nextCode, Cond.code yX6_nextCode cX6_nextCode 3 (some .int), Cond.methodLink RX6 118 yX6_places, Cond.instanceMethod yX6_places, Cond.selects RX6 yX6_places yX6_places, Cond.code yX6_places cX6_places 1 (some .int), Cond.fieldLink RX6 106 "PegFieldModel" "high" "I", Cond.fieldLink RX6 109 "PegFieldModel" "wide" "I", Cond.methodLink RX6 148 yX6_isJump, Cond.instanceMethod yX6_isJump, Cond.selects RX6 yX6_isJump yX6_isJump, Cond.code yX6_isJump cX6_isJump 4 (some .boolean), Cond.methodLink RX6 144 yX6_overBy, Cond.instanceMethod yX6_overBy, Cond.selects RX6 yX6_overBy yX6_overBy]
def wsX6_mean_r3 : List Cond := [Cond.code yX6_overBy cX6_overBy 6 (some .int), Cond.fieldLink RX6 112 "PegFieldModel" "holes" "I", Cond.fieldLink RX6 7 "PegFieldModel" "kindOf" "[I", Cond.methodLink RX6 130 yX6_isIn, Cond.static yX6_isIn, Cond.code yX6_isIn cX6_isIn 2 (some .boolean), Cond.methodLink RX6 134 yX6_whoAt, Cond.instanceMethod yX6_whoAt, Cond.selects RX6 yX6_whoAt yX6_whoAt, Cond.code yX6_whoAt cX6_whoAt 5 (some .int), Cond.methodLink RX6 138 yX6_apart, Cond.static yX6_apart, Cond.code yX6_apart cX6_apart 2 (some .int), Cond.methodLink RX6 141 yX6_goesBy, Cond.instanceMethod yX6_goesBy, Cond.selects RX6 yX6_goesBy yX6_goesBy, Cond.code yX6_goesBy cX6_goesBy 6 (some .boolean), Cond.methodLink RX6 179 yX6_goDeep, Cond.instanceMethod yX6_goDeep, Cond.selects RX6 yX6_goDeep yX6_goDeep, Cond.code yX6_goDeep cX6_goDeep 6 none, Cond.methodLink RX6 200 yX6_end, Cond.instanceMethod yX6_end, Cond.selects RX6 yX6_end yX6_end]
def wsX6_mean_r4 : List Cond := [Cond.code yX6_end cX6_end 3 none, Cond.methodLink RX6 183 yX6_onBoard, Cond.instanceMethod yX6_onBoard, Cond.selects RX6 yX6_onBoard yX6_onBoard, Cond.code yX6_onBoard cX6_onBoard 4 (some .int), Cond.methodLink RX6 190 yX6_lastPlace, Cond.instanceMethod yX6_lastPlace, Cond.selects RX6 yX6_lastPlace yX6_lastPlace, Cond.code yX6_lastPlace cX6_lastPlace 4 (some .int), Cond.methodLink RX6 203 yX6_takeUp, Cond.instanceMethod yX6_takeUp, Cond.selects RX6 yX6_takeUp yX6_takeUp, Cond.code yX6_takeUp cX6_takeUp 5 none]
def wsX6_mean : List Cond := .code yX6_mean cX6_mean 1 (some .int) :: ((wsX6_mean_r1 ++ (wsX6_mean_r2 ++ (wsX6_mean_r3 ++ wsX6_mean_r4))) ++ wsX60)
def wsX6_see : List Cond := .code yX6_see cX6_see 4 (some .int) :: ([.fieldLink RX6 127 "PegFieldModel" "seen" "I", .fieldLink RX6 16 "PegFieldModel" "seenPeg" "[I", .fieldLink RX6 19 "PegFieldModel" "seenWhat" "[I", .fieldLink RX6 22 "PegFieldModel" "seenCould" "[I", .methodLink RX6 166 yX6_isPeg, .instanceMethod yX6_isPeg, .selects RX6 yX6_isPeg yX6_isPeg, .initialized RX6, .code yX6_isPeg cX6_isPeg 2 (some .boolean), .fieldLink RX6 115 "PegFieldModel" "pegs" "I", .methodLink RX6 77 yX6_within, .static yX6_within, .code yX6_within cX6_within 3 (some .boolean)] ++ wsX60)
def wsX6_forget : List Cond := .code yX6_forget cX6_forget 2 (some .int) :: ([.fieldLink RX6 127 "PegFieldModel" "seen" "I"] ++ wsX60)
def wsX6_draw : List Cond := .code yX6_draw cX6_draw 2 (some .int) :: ([.constantLong RX6 228 (1103515245), .fieldLink RX6 230 "PegFieldModel" "seedNow" "J", .constantLong RX6 234 (12345), .constantLong RX6 236 (2147483647), .constantLong RX6 238 (65536)] ++ wsX60)
def wsX6_codeBy_r1 : List Cond := [Cond.fieldLink RX6 32 "PegFieldModel" "codeOf" "[I", Cond.methodLink RX6 197 yX6_nextCode, Cond.instanceMethod yX6_nextCode, Cond.selects RX6 yX6_nextCode yX6_nextCode, Cond.initialized RX6, Cond.code yX6_nextCode cX6_nextCode 3 (some .int), Cond.fieldLink RX6 115 "PegFieldModel" "pegs" "I", Cond.methodLink RX6 118 yX6_places, Cond.instanceMethod yX6_places, Cond.selects RX6 yX6_places yX6_places, Cond.code yX6_places cX6_places 1 (some .int), Cond.fieldLink RX6 106 "PegFieldModel" "high" "I", Cond.fieldLink RX6 109 "PegFieldModel" "wide" "I", Cond.methodLink RX6 148 yX6_isJump, Cond.instanceMethod yX6_isJump, Cond.selects RX6 yX6_isJump yX6_isJump, Cond.code yX6_isJump cX6_isJump 4 (some .boolean), Cond.methodLink RX6 144 yX6_overBy, Cond.instanceMethod yX6_overBy, Cond.selects RX6 yX6_overBy yX6_overBy, Cond.code yX6_overBy cX6_overBy 6 (some .int), Cond.fieldLink RX6 29 "PegFieldModel" "deepPlace" "[I", Cond.fieldLink RX6 112 "PegFieldModel" "holes" "I", Cond.fieldLink RX6 7 "PegFieldModel" "kindOf" "[I"]
def wsX6_codeBy_r2 : List Cond := [Cond.methodLink RX6 130 yX6_isIn, Cond.static yX6_isIn, Cond.code yX6_isIn cX6_isIn 2 (some .boolean), Cond.methodLink RX6 134 yX6_whoAt, Cond.instanceMethod yX6_whoAt, Cond.selects RX6 yX6_whoAt yX6_whoAt, Cond.code yX6_whoAt cX6_whoAt 5 (some .int), Cond.methodLink RX6 138 yX6_apart, Cond.static yX6_apart, Cond.code yX6_apart cX6_apart 2 (some .int), Cond.methodLink RX6 141 yX6_goesBy, Cond.instanceMethod yX6_goesBy, Cond.selects RX6 yX6_goesBy yX6_goesBy, Cond.code yX6_goesBy cX6_goesBy 6 (some .boolean)]
def wsX6_codeBy : List Cond := .code yX6_codeBy cX6_codeBy 5 (some .int) :: ((wsX6_codeBy_r1 ++ wsX6_codeBy_r2) ++ wsX60)
def wsX6_runsNow_r1 : List Cond := [Cond.fieldLink RX6 230 "PegFieldModel" "seedNow" "J", Cond.methodLink RX6 157 yX6_putDeep, Cond.instanceMethod yX6_putDeep, Cond.selects RX6 yX6_putDeep yX6_putDeep, Cond.initialized RX6, Cond.code yX6_putDeep cX6_putDeep 2 none, Cond.fieldLink RX6 29 "PegFieldModel" "deepPlace" "[I", Cond.fieldLink RX6 115 "PegFieldModel" "pegs" "I", Cond.fieldLink RX6 13 "PegFieldModel" "placeOf" "[I", Cond.methodLink RX6 240 yX6_jumpsNow, Cond.instanceMethod yX6_jumpsNow, Cond.selects RX6 yX6_jumpsNow yX6_jumpsNow, Cond.code yX6_jumpsNow cX6_jumpsNow 4 (some .int), Cond.methodLink RX6 151 yX6_goes, Cond.instanceMethod yX6_goes, Cond.selects RX6 yX6_goes yX6_goes, Cond.code yX6_goes cX6_goes 5 (some .int), Cond.methodLink RX6 118 yX6_places, Cond.instanceMethod yX6_places, Cond.selects RX6 yX6_places yX6_places, Cond.code yX6_places cX6_places 1 (some .int), Cond.fieldLink RX6 106 "PegFieldModel" "high" "I", Cond.fieldLink RX6 109 "PegFieldModel" "wide" "I", Cond.methodLink RX6 148 yX6_isJump]
def wsX6_runsNow_r2 : List Cond := [Cond.instanceMethod yX6_isJump, Cond.selects RX6 yX6_isJump yX6_isJump, Cond.code yX6_isJump cX6_isJump 4 (some .boolean), Cond.methodLink RX6 144 yX6_overBy, Cond.instanceMethod yX6_overBy, Cond.selects RX6 yX6_overBy yX6_overBy, Cond.code yX6_overBy cX6_overBy 6 (some .int), Cond.fieldLink RX6 112 "PegFieldModel" "holes" "I", Cond.fieldLink RX6 7 "PegFieldModel" "kindOf" "[I", Cond.methodLink RX6 130 yX6_isIn, Cond.static yX6_isIn, Cond.code yX6_isIn cX6_isIn 2 (some .boolean), Cond.methodLink RX6 134 yX6_whoAt, Cond.instanceMethod yX6_whoAt, Cond.selects RX6 yX6_whoAt yX6_whoAt, Cond.code yX6_whoAt cX6_whoAt 5 (some .int), Cond.methodLink RX6 138 yX6_apart, Cond.static yX6_apart, Cond.code yX6_apart cX6_apart 2 (some .int), Cond.methodLink RX6 141 yX6_goesBy, Cond.instanceMethod yX6_goesBy, Cond.selects RX6 yX6_goesBy yX6_goesBy, Cond.code yX6_goesBy cX6_goesBy 6 (some .boolean), Cond.methodLink RX6 154 yX6_size]
def wsX6_runsNow_r3 : List Cond := [Cond.static yX6_size, Cond.code yX6_size cX6_size 3 (some .int), Cond.methodLink RX6 243 yX6_draw, Cond.instanceMethod yX6_draw, Cond.selects RX6 yX6_draw yX6_draw, Cond.code yX6_draw cX6_draw 2 (some .int), Cond.constantLong RX6 228 (1103515245), Cond.constantLong RX6 234 (12345), Cond.constantLong RX6 236 (2147483647), Cond.constantLong RX6 238 (65536), Cond.methodLink RX6 246 yX6_codeBy, Cond.instanceMethod yX6_codeBy, Cond.selects RX6 yX6_codeBy yX6_codeBy, Cond.code yX6_codeBy cX6_codeBy 5 (some .int), Cond.fieldLink RX6 32 "PegFieldModel" "codeOf" "[I", Cond.methodLink RX6 197 yX6_nextCode, Cond.instanceMethod yX6_nextCode, Cond.selects RX6 yX6_nextCode yX6_nextCode, Cond.code yX6_nextCode cX6_nextCode 3 (some .int), Cond.methodLink RX6 179 yX6_goDeep, Cond.instanceMethod yX6_goDeep, Cond.selects RX6 yX6_goDeep yX6_goDeep, Cond.code yX6_goDeep cX6_goDeep 6 none, Cond.methodLink RX6 183 yX6_onBoard]
def wsX6_runsNow_r4 : List Cond := [Cond.instanceMethod yX6_onBoard, Cond.selects RX6 yX6_onBoard yX6_onBoard, Cond.code yX6_onBoard cX6_onBoard 4 (some .int)]
def wsX6_runsNow : List Cond := .code yX6_runsNow cX6_runsNow 10 (some .int) :: ((wsX6_runsNow_r1 ++ (wsX6_runsNow_r2 ++ (wsX6_runsNow_r3 ++ wsX6_runsNow_r4))) ++ wsX60)
def wsX6_runs_r1 : List Cond := [Cond.fieldLink RX6 115 "PegFieldModel" "pegs" "I", Cond.methodLink RX6 77 yX6_within, Cond.static yX6_within, Cond.initialized RX6, Cond.code yX6_within cX6_within 3 (some .boolean), Cond.methodLink RX6 249 yX6_runsNow, Cond.instanceMethod yX6_runsNow, Cond.selects RX6 yX6_runsNow yX6_runsNow, Cond.code yX6_runsNow cX6_runsNow 10 (some .int), Cond.fieldLink RX6 230 "PegFieldModel" "seedNow" "J", Cond.methodLink RX6 157 yX6_putDeep, Cond.instanceMethod yX6_putDeep, Cond.selects RX6 yX6_putDeep yX6_putDeep, Cond.code yX6_putDeep cX6_putDeep 2 none, Cond.fieldLink RX6 29 "PegFieldModel" "deepPlace" "[I", Cond.fieldLink RX6 13 "PegFieldModel" "placeOf" "[I", Cond.methodLink RX6 240 yX6_jumpsNow, Cond.instanceMethod yX6_jumpsNow, Cond.selects RX6 yX6_jumpsNow yX6_jumpsNow, Cond.code yX6_jumpsNow cX6_jumpsNow 4 (some .int), Cond.methodLink RX6 151 yX6_goes, Cond.instanceMethod yX6_goes, Cond.selects RX6 yX6_goes yX6_goes, Cond.code yX6_goes cX6_goes 5 (some .int)]
def wsX6_runs_r2 : List Cond := [Cond.methodLink RX6 118 yX6_places, Cond.instanceMethod yX6_places, Cond.selects RX6 yX6_places yX6_places, Cond.code yX6_places cX6_places 1 (some .int), Cond.fieldLink RX6 106 "PegFieldModel" "high" "I", Cond.fieldLink RX6 109 "PegFieldModel" "wide" "I", Cond.methodLink RX6 148 yX6_isJump, Cond.instanceMethod yX6_isJump, Cond.selects RX6 yX6_isJump yX6_isJump, Cond.code yX6_isJump cX6_isJump 4 (some .boolean), Cond.methodLink RX6 144 yX6_overBy, Cond.instanceMethod yX6_overBy, Cond.selects RX6 yX6_overBy yX6_overBy, Cond.code yX6_overBy cX6_overBy 6 (some .int), Cond.fieldLink RX6 112 "PegFieldModel" "holes" "I", Cond.fieldLink RX6 7 "PegFieldModel" "kindOf" "[I", Cond.methodLink RX6 130 yX6_isIn, Cond.static yX6_isIn, Cond.code yX6_isIn cX6_isIn 2 (some .boolean), Cond.methodLink RX6 134 yX6_whoAt, Cond.instanceMethod yX6_whoAt, Cond.selects RX6 yX6_whoAt yX6_whoAt, Cond.code yX6_whoAt cX6_whoAt 5 (some .int), Cond.methodLink RX6 138 yX6_apart]
def wsX6_runs_r3 : List Cond := [Cond.static yX6_apart, Cond.code yX6_apart cX6_apart 2 (some .int), Cond.methodLink RX6 141 yX6_goesBy, Cond.instanceMethod yX6_goesBy, Cond.selects RX6 yX6_goesBy yX6_goesBy, Cond.code yX6_goesBy cX6_goesBy 6 (some .boolean), Cond.methodLink RX6 154 yX6_size, Cond.static yX6_size, Cond.code yX6_size cX6_size 3 (some .int), Cond.methodLink RX6 243 yX6_draw, Cond.instanceMethod yX6_draw, Cond.selects RX6 yX6_draw yX6_draw, Cond.code yX6_draw cX6_draw 2 (some .int), Cond.constantLong RX6 228 (1103515245), Cond.constantLong RX6 234 (12345), Cond.constantLong RX6 236 (2147483647), Cond.constantLong RX6 238 (65536), Cond.methodLink RX6 246 yX6_codeBy, Cond.instanceMethod yX6_codeBy, Cond.selects RX6 yX6_codeBy yX6_codeBy, Cond.code yX6_codeBy cX6_codeBy 5 (some .int), Cond.fieldLink RX6 32 "PegFieldModel" "codeOf" "[I", Cond.methodLink RX6 197 yX6_nextCode, Cond.instanceMethod yX6_nextCode]
def wsX6_runs_r4 : List Cond := [Cond.selects RX6 yX6_nextCode yX6_nextCode, Cond.code yX6_nextCode cX6_nextCode 3 (some .int), Cond.methodLink RX6 179 yX6_goDeep, Cond.instanceMethod yX6_goDeep, Cond.selects RX6 yX6_goDeep yX6_goDeep, Cond.code yX6_goDeep cX6_goDeep 6 none, Cond.methodLink RX6 183 yX6_onBoard, Cond.instanceMethod yX6_onBoard, Cond.selects RX6 yX6_onBoard yX6_onBoard, Cond.code yX6_onBoard cX6_onBoard 4 (some .int)]
def wsX6_runs : List Cond := .code yX6_runs cX6_runs 4 (some .int) :: ((wsX6_runs_r1 ++ (wsX6_runs_r2 ++ (wsX6_runs_r3 ++ wsX6_runs_r4))) ++ wsX60)
def wsX6_image : List Cond := .code yX6_image cX6_image 2 (some .int) :: ([.fieldLink RX6 115 "PegFieldModel" "pegs" "I", .fieldLink RX6 252 "PegFieldModel" "isKept" "Z", .fieldLink RX6 124 "PegFieldModel" "boards" "I", .fieldLink RX6 255 "PegFieldModel" "keptBoard" "I", .fieldLink RX6 112 "PegFieldModel" "holes" "I", .fieldLink RX6 258 "PegFieldModel" "keptHoles" "I", .fieldLink RX6 121 "PegFieldModel" "jumps" "I", .fieldLink RX6 261 "PegFieldModel" "keptJumps" "I", .fieldLink RX6 127 "PegFieldModel" "seen" "I", .fieldLink RX6 264 "PegFieldModel" "keptSeen" "I", .fieldLink RX6 62 "PegFieldModel" "keptKind" "[I", .fieldLink RX6 7 "PegFieldModel" "kindOf" "[I", .fieldLink RX6 65 "PegFieldModel" "keptPlace" "[I", .fieldLink RX6 13 "PegFieldModel" "placeOf" "[I", .fieldLink RX6 68 "PegFieldModel" "keptPeg" "[I", .fieldLink RX6 16 "PegFieldModel" "seenPeg" "[I", .fieldLink RX6 71 "PegFieldModel" "keptWhat" "[I", .fieldLink RX6 19 "PegFieldModel" "seenWhat" "[I", .fieldLink RX6 74 "PegFieldModel" "keptCould" "[I", .fieldLink RX6 22 "PegFieldModel" "seenCould" "[I"] ++ wsX60)
def wsX6_restore : List Cond := .code yX6_restore cX6_restore 2 (some .int) :: ([.fieldLink RX6 252 "PegFieldModel" "isKept" "Z", .fieldLink RX6 255 "PegFieldModel" "keptBoard" "I", .fieldLink RX6 124 "PegFieldModel" "boards" "I", .fieldLink RX6 258 "PegFieldModel" "keptHoles" "I", .fieldLink RX6 112 "PegFieldModel" "holes" "I", .fieldLink RX6 261 "PegFieldModel" "keptJumps" "I", .fieldLink RX6 121 "PegFieldModel" "jumps" "I", .fieldLink RX6 264 "PegFieldModel" "keptSeen" "I", .fieldLink RX6 127 "PegFieldModel" "seen" "I", .fieldLink RX6 7 "PegFieldModel" "kindOf" "[I", .fieldLink RX6 62 "PegFieldModel" "keptKind" "[I", .fieldLink RX6 13 "PegFieldModel" "placeOf" "[I", .fieldLink RX6 65 "PegFieldModel" "keptPlace" "[I", .fieldLink RX6 16 "PegFieldModel" "seenPeg" "[I", .fieldLink RX6 68 "PegFieldModel" "keptPeg" "[I", .fieldLink RX6 19 "PegFieldModel" "seenWhat" "[I", .fieldLink RX6 71 "PegFieldModel" "keptWhat" "[I", .fieldLink RX6 22 "PegFieldModel" "seenCould" "[I", .fieldLink RX6 74 "PegFieldModel" "keptCould" "[I"] ++ wsX60)
def wsX6_ofBoard_r1 : List Cond := [Cond.fieldLink RX6 106 "PegFieldModel" "high" "I", Cond.fieldLink RX6 109 "PegFieldModel" "wide" "I", Cond.fieldLink RX6 112 "PegFieldModel" "holes" "I", Cond.fieldLink RX6 115 "PegFieldModel" "pegs" "I", Cond.methodLink RX6 157 yX6_putDeep, Cond.instanceMethod yX6_putDeep, Cond.selects RX6 yX6_putDeep yX6_putDeep, Cond.initialized RX6, Cond.code yX6_putDeep cX6_putDeep 2 none, Cond.fieldLink RX6 29 "PegFieldModel" "deepPlace" "[I", Cond.fieldLink RX6 13 "PegFieldModel" "placeOf" "[I", Cond.methodLink RX6 154 yX6_size, Cond.static yX6_size, Cond.code yX6_size cX6_size 3 (some .int), Cond.methodLink RX6 183 yX6_onBoard, Cond.instanceMethod yX6_onBoard, Cond.selects RX6 yX6_onBoard yX6_onBoard, Cond.code yX6_onBoard cX6_onBoard 4 (some .int), Cond.methodLink RX6 240 yX6_jumpsNow, Cond.instanceMethod yX6_jumpsNow, Cond.selects RX6 yX6_jumpsNow yX6_jumpsNow, Cond.code yX6_jumpsNow cX6_jumpsNow 4 (some .int), Cond.methodLink RX6 151 yX6_goes, Cond.instanceMethod yX6_goes]
def wsX6_ofBoard_r2 : List Cond := [Cond.selects RX6 yX6_goes yX6_goes, Cond.code yX6_goes cX6_goes 5 (some .int), Cond.methodLink RX6 118 yX6_places, Cond.instanceMethod yX6_places, Cond.selects RX6 yX6_places yX6_places, Cond.code yX6_places cX6_places 1 (some .int), Cond.methodLink RX6 148 yX6_isJump, Cond.instanceMethod yX6_isJump, Cond.selects RX6 yX6_isJump yX6_isJump, Cond.code yX6_isJump cX6_isJump 4 (some .boolean), Cond.methodLink RX6 144 yX6_overBy, Cond.instanceMethod yX6_overBy, Cond.selects RX6 yX6_overBy yX6_overBy, Cond.code yX6_overBy cX6_overBy 6 (some .int), Cond.fieldLink RX6 7 "PegFieldModel" "kindOf" "[I", Cond.methodLink RX6 130 yX6_isIn, Cond.static yX6_isIn, Cond.code yX6_isIn cX6_isIn 2 (some .boolean), Cond.methodLink RX6 134 yX6_whoAt, Cond.instanceMethod yX6_whoAt, Cond.selects RX6 yX6_whoAt yX6_whoAt, Cond.code yX6_whoAt cX6_whoAt 5 (some .int), Cond.methodLink RX6 138 yX6_apart, Cond.static yX6_apart]
def wsX6_ofBoard_r3 : List Cond := [Cond.code yX6_apart cX6_apart 2 (some .int), Cond.methodLink RX6 141 yX6_goesBy, Cond.instanceMethod yX6_goesBy, Cond.selects RX6 yX6_goesBy yX6_goesBy, Cond.code yX6_goesBy cX6_goesBy 6 (some .boolean)]
def wsX6_ofBoard : List Cond := .code yX6_ofBoard cX6_ofBoard 2 (some .int) :: ((wsX6_ofBoard_r1 ++ (wsX6_ofBoard_r2 ++ wsX6_ofBoard_r3)) ++ wsX60)
def wsX6_howMany_r1 : List Cond := [Cond.fieldLink RX6 121 "PegFieldModel" "jumps" "I", Cond.fieldLink RX6 127 "PegFieldModel" "seen" "I", Cond.fieldLink RX6 81 "PegFieldModel" "pageLength" "I", Cond.fieldLink RX6 124 "PegFieldModel" "boards" "I", Cond.fieldLink RX6 216 "PegFieldModel" "asks" "I", Cond.methodLink RX6 77 yX6_within, Cond.static yX6_within, Cond.initialized RX6, Cond.code yX6_within cX6_within 3 (some .boolean), Cond.methodLink RX6 267 yX6_ofBoard, Cond.instanceMethod yX6_ofBoard, Cond.selects RX6 yX6_ofBoard yX6_ofBoard, Cond.code yX6_ofBoard cX6_ofBoard 2 (some .int), Cond.fieldLink RX6 106 "PegFieldModel" "high" "I", Cond.fieldLink RX6 109 "PegFieldModel" "wide" "I", Cond.fieldLink RX6 112 "PegFieldModel" "holes" "I", Cond.fieldLink RX6 115 "PegFieldModel" "pegs" "I", Cond.methodLink RX6 157 yX6_putDeep, Cond.instanceMethod yX6_putDeep, Cond.selects RX6 yX6_putDeep yX6_putDeep, Cond.code yX6_putDeep cX6_putDeep 2 none, Cond.fieldLink RX6 29 "PegFieldModel" "deepPlace" "[I", Cond.fieldLink RX6 13 "PegFieldModel" "placeOf" "[I", Cond.methodLink RX6 154 yX6_size]
def wsX6_howMany_r2 : List Cond := [Cond.static yX6_size, Cond.code yX6_size cX6_size 3 (some .int), Cond.methodLink RX6 183 yX6_onBoard, Cond.instanceMethod yX6_onBoard, Cond.selects RX6 yX6_onBoard yX6_onBoard, Cond.code yX6_onBoard cX6_onBoard 4 (some .int), Cond.methodLink RX6 240 yX6_jumpsNow, Cond.instanceMethod yX6_jumpsNow, Cond.selects RX6 yX6_jumpsNow yX6_jumpsNow, Cond.code yX6_jumpsNow cX6_jumpsNow 4 (some .int), Cond.methodLink RX6 151 yX6_goes, Cond.instanceMethod yX6_goes, Cond.selects RX6 yX6_goes yX6_goes, Cond.code yX6_goes cX6_goes 5 (some .int), Cond.methodLink RX6 118 yX6_places, Cond.instanceMethod yX6_places, Cond.selects RX6 yX6_places yX6_places, Cond.code yX6_places cX6_places 1 (some .int), Cond.methodLink RX6 148 yX6_isJump, Cond.instanceMethod yX6_isJump, Cond.selects RX6 yX6_isJump yX6_isJump, Cond.code yX6_isJump cX6_isJump 4 (some .boolean), Cond.methodLink RX6 144 yX6_overBy, Cond.instanceMethod yX6_overBy]
def wsX6_howMany_r3 : List Cond := [Cond.selects RX6 yX6_overBy yX6_overBy, Cond.code yX6_overBy cX6_overBy 6 (some .int), Cond.fieldLink RX6 7 "PegFieldModel" "kindOf" "[I", Cond.methodLink RX6 130 yX6_isIn, Cond.static yX6_isIn, Cond.code yX6_isIn cX6_isIn 2 (some .boolean), Cond.methodLink RX6 134 yX6_whoAt, Cond.instanceMethod yX6_whoAt, Cond.selects RX6 yX6_whoAt yX6_whoAt, Cond.code yX6_whoAt cX6_whoAt 5 (some .int), Cond.methodLink RX6 138 yX6_apart, Cond.static yX6_apart, Cond.code yX6_apart cX6_apart 2 (some .int), Cond.methodLink RX6 141 yX6_goesBy, Cond.instanceMethod yX6_goesBy, Cond.selects RX6 yX6_goesBy yX6_goesBy, Cond.code yX6_goesBy cX6_goesBy 6 (some .boolean)]
def wsX6_howMany : List Cond := .code yX6_howMany cX6_howMany 2 (some .int) :: ((wsX6_howMany_r1 ++ (wsX6_howMany_r2 ++ wsX6_howMany_r3)) ++ wsX60)
def wsX6_count_r1 : List Cond := [Cond.methodLink RX6 270 yX6_howMany, Cond.instanceMethod yX6_howMany, Cond.selects RX6 yX6_howMany yX6_howMany, Cond.initialized RX6, Cond.code yX6_howMany cX6_howMany 2 (some .int), Cond.fieldLink RX6 121 "PegFieldModel" "jumps" "I", Cond.fieldLink RX6 127 "PegFieldModel" "seen" "I", Cond.fieldLink RX6 81 "PegFieldModel" "pageLength" "I", Cond.fieldLink RX6 124 "PegFieldModel" "boards" "I", Cond.fieldLink RX6 216 "PegFieldModel" "asks" "I", Cond.methodLink RX6 77 yX6_within, Cond.static yX6_within, Cond.code yX6_within cX6_within 3 (some .boolean), Cond.methodLink RX6 267 yX6_ofBoard, Cond.instanceMethod yX6_ofBoard, Cond.selects RX6 yX6_ofBoard yX6_ofBoard, Cond.code yX6_ofBoard cX6_ofBoard 2 (some .int), Cond.fieldLink RX6 106 "PegFieldModel" "high" "I", Cond.fieldLink RX6 109 "PegFieldModel" "wide" "I", Cond.fieldLink RX6 112 "PegFieldModel" "holes" "I", Cond.fieldLink RX6 115 "PegFieldModel" "pegs" "I", Cond.methodLink RX6 157 yX6_putDeep, Cond.instanceMethod yX6_putDeep, Cond.selects RX6 yX6_putDeep yX6_putDeep]
def wsX6_count_r2 : List Cond := [Cond.code yX6_putDeep cX6_putDeep 2 none, Cond.fieldLink RX6 29 "PegFieldModel" "deepPlace" "[I", Cond.fieldLink RX6 13 "PegFieldModel" "placeOf" "[I", Cond.methodLink RX6 154 yX6_size, Cond.static yX6_size, Cond.code yX6_size cX6_size 3 (some .int), Cond.methodLink RX6 183 yX6_onBoard, Cond.instanceMethod yX6_onBoard, Cond.selects RX6 yX6_onBoard yX6_onBoard, Cond.code yX6_onBoard cX6_onBoard 4 (some .int), Cond.methodLink RX6 240 yX6_jumpsNow, Cond.instanceMethod yX6_jumpsNow, Cond.selects RX6 yX6_jumpsNow yX6_jumpsNow, Cond.code yX6_jumpsNow cX6_jumpsNow 4 (some .int), Cond.methodLink RX6 151 yX6_goes, Cond.instanceMethod yX6_goes, Cond.selects RX6 yX6_goes yX6_goes, Cond.code yX6_goes cX6_goes 5 (some .int), Cond.methodLink RX6 118 yX6_places, Cond.instanceMethod yX6_places, Cond.selects RX6 yX6_places yX6_places, Cond.code yX6_places cX6_places 1 (some .int), Cond.methodLink RX6 148 yX6_isJump, Cond.instanceMethod yX6_isJump]
def wsX6_count_r3 : List Cond := [Cond.selects RX6 yX6_isJump yX6_isJump, Cond.code yX6_isJump cX6_isJump 4 (some .boolean), Cond.methodLink RX6 144 yX6_overBy, Cond.instanceMethod yX6_overBy, Cond.selects RX6 yX6_overBy yX6_overBy, Cond.code yX6_overBy cX6_overBy 6 (some .int), Cond.fieldLink RX6 7 "PegFieldModel" "kindOf" "[I", Cond.methodLink RX6 130 yX6_isIn, Cond.static yX6_isIn, Cond.code yX6_isIn cX6_isIn 2 (some .boolean), Cond.methodLink RX6 134 yX6_whoAt, Cond.instanceMethod yX6_whoAt, Cond.selects RX6 yX6_whoAt yX6_whoAt, Cond.code yX6_whoAt cX6_whoAt 5 (some .int), Cond.methodLink RX6 138 yX6_apart, Cond.static yX6_apart, Cond.code yX6_apart cX6_apart 2 (some .int), Cond.methodLink RX6 141 yX6_goesBy, Cond.instanceMethod yX6_goesBy, Cond.selects RX6 yX6_goesBy yX6_goesBy, Cond.code yX6_goesBy cX6_goesBy 6 (some .boolean)]
def wsX6_count : List Cond := .code yX6_count cX6_count 2 (some .int) :: ((wsX6_count_r1 ++ (wsX6_count_r2 ++ wsX6_count_r3)) ++ wsX60)
def wsX6_mix : List Cond := .code yX6_mix cX6_mix 3 none :: ([.constantLong RX6 273 (31), .fieldLink RX6 275 "PegFieldModel" "h" "J"] ++ wsX60)
def wsX6_mixBoard_r1 : List Cond := [Cond.methodLink RX6 210 yX6_coursesNow, Cond.instanceMethod yX6_coursesNow, Cond.selects RX6 yX6_coursesNow yX6_coursesNow, Cond.initialized RX6, Cond.code yX6_coursesNow cX6_coursesNow 2 (some .int), Cond.fieldLink RX6 41 "PegFieldModel" "fewestOf" "[I", Cond.fieldLink RX6 44 "PegFieldModel" "firstOf" "[I", Cond.fieldLink RX6 38 "PegFieldModel" "waysOf" "[I", Cond.fieldLink RX6 47 "PegFieldModel" "longestOf" "[I", Cond.fieldLink RX6 50 "PegFieldModel" "shortestOf" "[I", Cond.fieldLink RX6 53 "PegFieldModel" "aloneOf" "[I", Cond.methodLink RX6 157 yX6_putDeep, Cond.instanceMethod yX6_putDeep, Cond.selects RX6 yX6_putDeep yX6_putDeep, Cond.code yX6_putDeep cX6_putDeep 2 none, Cond.fieldLink RX6 29 "PegFieldModel" "deepPlace" "[I", Cond.fieldLink RX6 115 "PegFieldModel" "pegs" "I", Cond.fieldLink RX6 13 "PegFieldModel" "placeOf" "[I", Cond.methodLink RX6 207 yX6_layCourses, Cond.instanceMethod yX6_layCourses, Cond.selects RX6 yX6_layCourses yX6_layCourses, Cond.code yX6_layCourses cX6_layCourses 3 none, Cond.fieldLink RX6 35 "PegFieldModel" "jumpsOf" "[I", Cond.fieldLink RX6 32 "PegFieldModel" "codeOf" "[I"]
def wsX6_mixBoard_r2 : List Cond := [Cond.methodLink RX6 193 yX6_begin, Cond.instanceMethod yX6_begin, Cond.selects RX6 yX6_begin yX6_begin, Cond.code yX6_begin cX6_begin 2 none, Cond.constant RX6 189 (268435456), Cond.fieldLink RX6 56 "PegFieldModel" "winOf" "[I", Cond.fieldLink RX6 59 "PegFieldModel" "sumOf" "[I", Cond.methodLink RX6 197 yX6_nextCode, Cond.instanceMethod yX6_nextCode, Cond.selects RX6 yX6_nextCode yX6_nextCode, Cond.code yX6_nextCode cX6_nextCode 3 (some .int), Cond.methodLink RX6 118 yX6_places, Cond.instanceMethod yX6_places, Cond.selects RX6 yX6_places yX6_places, Cond.code yX6_places cX6_places 1 (some .int), Cond.fieldLink RX6 106 "PegFieldModel" "high" "I", Cond.fieldLink RX6 109 "PegFieldModel" "wide" "I", Cond.methodLink RX6 148 yX6_isJump, Cond.instanceMethod yX6_isJump, Cond.selects RX6 yX6_isJump yX6_isJump, Cond.code yX6_isJump cX6_isJump 4 (some .boolean), Cond.methodLink RX6 144 yX6_overBy, Cond.instanceMethod yX6_overBy, Cond.selects RX6 yX6_overBy yX6_overBy]
def wsX6_mixBoard_r3 : List Cond := [Cond.code yX6_overBy cX6_overBy 6 (some .int), Cond.fieldLink RX6 112 "PegFieldModel" "holes" "I", Cond.fieldLink RX6 7 "PegFieldModel" "kindOf" "[I", Cond.methodLink RX6 130 yX6_isIn, Cond.static yX6_isIn, Cond.code yX6_isIn cX6_isIn 2 (some .boolean), Cond.methodLink RX6 134 yX6_whoAt, Cond.instanceMethod yX6_whoAt, Cond.selects RX6 yX6_whoAt yX6_whoAt, Cond.code yX6_whoAt cX6_whoAt 5 (some .int), Cond.methodLink RX6 138 yX6_apart, Cond.static yX6_apart, Cond.code yX6_apart cX6_apart 2 (some .int), Cond.methodLink RX6 141 yX6_goesBy, Cond.instanceMethod yX6_goesBy, Cond.selects RX6 yX6_goesBy yX6_goesBy, Cond.code yX6_goesBy cX6_goesBy 6 (some .boolean), Cond.methodLink RX6 179 yX6_goDeep, Cond.instanceMethod yX6_goDeep, Cond.selects RX6 yX6_goDeep yX6_goDeep, Cond.code yX6_goDeep cX6_goDeep 6 none, Cond.methodLink RX6 200 yX6_end, Cond.instanceMethod yX6_end, Cond.selects RX6 yX6_end yX6_end]
def wsX6_mixBoard_r4 : List Cond := [Cond.code yX6_end cX6_end 3 none, Cond.methodLink RX6 183 yX6_onBoard, Cond.instanceMethod yX6_onBoard, Cond.selects RX6 yX6_onBoard yX6_onBoard, Cond.code yX6_onBoard cX6_onBoard 4 (some .int), Cond.methodLink RX6 190 yX6_lastPlace, Cond.instanceMethod yX6_lastPlace, Cond.selects RX6 yX6_lastPlace yX6_lastPlace, Cond.code yX6_lastPlace cX6_lastPlace 4 (some .int), Cond.methodLink RX6 203 yX6_takeUp, Cond.instanceMethod yX6_takeUp, Cond.selects RX6 yX6_takeUp yX6_takeUp, Cond.code yX6_takeUp cX6_takeUp 5 none, Cond.methodLink RX6 278 yX6_mix, Cond.instanceMethod yX6_mix, Cond.selects RX6 yX6_mix yX6_mix, Cond.code yX6_mix cX6_mix 3 none, Cond.constantLong RX6 273 (31), Cond.fieldLink RX6 275 "PegFieldModel" "h" "J", Cond.methodLink RX6 213 yX6_winsNow, Cond.instanceMethod yX6_winsNow, Cond.selects RX6 yX6_winsNow yX6_winsNow, Cond.code yX6_winsNow cX6_winsNow 2 (some .int), Cond.methodLink RX6 222 yX6_meanNow]
def wsX6_mixBoard_r5 : List Cond := [Cond.instanceMethod yX6_meanNow, Cond.selects RX6 yX6_meanNow yX6_meanNow, Cond.code yX6_meanNow cX6_meanNow 1 (some .int)]
def wsX6_mixBoard : List Cond := .code yX6_mixBoard cX6_mixBoard 2 none :: ((wsX6_mixBoard_r1 ++ (wsX6_mixBoard_r2 ++ (wsX6_mixBoard_r3 ++ (wsX6_mixBoard_r4 ++ wsX6_mixBoard_r5)))) ++ wsX60)
def wsX6_digest_r1 : List Cond := [Cond.constantLong RX6 282 (1307), Cond.fieldLink RX6 275 "PegFieldModel" "h" "J", Cond.fieldLink RX6 115 "PegFieldModel" "pegs" "I", Cond.fieldLink RX6 81 "PegFieldModel" "pageLength" "I", Cond.fieldLink RX6 25 "PegFieldModel" "page" "[B", Cond.methodLink RX6 170 yX6_pegNow, Cond.instanceMethod yX6_pegNow, Cond.selects RX6 yX6_pegNow yX6_pegNow, Cond.initialized RX6, Cond.code yX6_pegNow cX6_pegNow 3 (some .int), Cond.fieldLink RX6 7 "PegFieldModel" "kindOf" "[I", Cond.fieldLink RX6 13 "PegFieldModel" "placeOf" "[I", Cond.methodLink RX6 157 yX6_putDeep, Cond.instanceMethod yX6_putDeep, Cond.selects RX6 yX6_putDeep yX6_putDeep, Cond.code yX6_putDeep cX6_putDeep 2 none, Cond.fieldLink RX6 29 "PegFieldModel" "deepPlace" "[I", Cond.methodLink RX6 151 yX6_goes, Cond.instanceMethod yX6_goes, Cond.selects RX6 yX6_goes yX6_goes, Cond.code yX6_goes cX6_goes 5 (some .int), Cond.methodLink RX6 118 yX6_places, Cond.instanceMethod yX6_places, Cond.selects RX6 yX6_places yX6_places]
def wsX6_digest_r2 : List Cond := [Cond.code yX6_places cX6_places 1 (some .int), Cond.fieldLink RX6 106 "PegFieldModel" "high" "I", Cond.fieldLink RX6 109 "PegFieldModel" "wide" "I", Cond.methodLink RX6 148 yX6_isJump, Cond.instanceMethod yX6_isJump, Cond.selects RX6 yX6_isJump yX6_isJump, Cond.code yX6_isJump cX6_isJump 4 (some .boolean), Cond.methodLink RX6 144 yX6_overBy, Cond.instanceMethod yX6_overBy, Cond.selects RX6 yX6_overBy yX6_overBy, Cond.code yX6_overBy cX6_overBy 6 (some .int), Cond.fieldLink RX6 112 "PegFieldModel" "holes" "I", Cond.methodLink RX6 130 yX6_isIn, Cond.static yX6_isIn, Cond.code yX6_isIn cX6_isIn 2 (some .boolean), Cond.methodLink RX6 134 yX6_whoAt, Cond.instanceMethod yX6_whoAt, Cond.selects RX6 yX6_whoAt yX6_whoAt, Cond.code yX6_whoAt cX6_whoAt 5 (some .int), Cond.methodLink RX6 138 yX6_apart, Cond.static yX6_apart, Cond.code yX6_apart cX6_apart 2 (some .int), Cond.methodLink RX6 141 yX6_goesBy, Cond.instanceMethod yX6_goesBy]
def wsX6_digest_r3 : List Cond := [Cond.selects RX6 yX6_goesBy yX6_goesBy, Cond.code yX6_goesBy cX6_goesBy 6 (some .boolean), Cond.methodLink RX6 160 yX6_sortsOf, Cond.instanceMethod yX6_sortsOf, Cond.selects RX6 yX6_sortsOf yX6_sortsOf, Cond.code yX6_sortsOf cX6_sortsOf 6 (some .int), Cond.fieldLink RX6 127 "PegFieldModel" "seen" "I", Cond.fieldLink RX6 16 "PegFieldModel" "seenPeg" "[I", Cond.fieldLink RX6 19 "PegFieldModel" "seenWhat" "[I", Cond.fieldLink RX6 22 "PegFieldModel" "seenCould" "[I", Cond.methodLink RX6 225 yX6_could, Cond.static yX6_could, Cond.code yX6_could cX6_could 2 (some .boolean), Cond.methodLink RX6 163 yX6_askOf, Cond.instanceMethod yX6_askOf, Cond.selects RX6 yX6_askOf yX6_askOf, Cond.code yX6_askOf cX6_askOf 9 (some .int), Cond.constant RX6 189 (268435456), Cond.methodLink RX6 154 yX6_size, Cond.static yX6_size, Cond.code yX6_size cX6_size 3 (some .int), Cond.methodLink RX6 278 yX6_mix, Cond.instanceMethod yX6_mix, Cond.selects RX6 yX6_mix yX6_mix]
def wsX6_digest_r4 : List Cond := [Cond.code yX6_mix cX6_mix 3 none, Cond.constantLong RX6 273 (31), Cond.methodLink RX6 176 yX6_placeNow, Cond.instanceMethod yX6_placeNow, Cond.selects RX6 yX6_placeNow yX6_placeNow, Cond.code yX6_placeNow cX6_placeNow 3 (some .int), Cond.methodLink RX6 284 yX6_mixBoard, Cond.instanceMethod yX6_mixBoard, Cond.selects RX6 yX6_mixBoard yX6_mixBoard, Cond.code yX6_mixBoard cX6_mixBoard 2 none, Cond.methodLink RX6 210 yX6_coursesNow, Cond.instanceMethod yX6_coursesNow, Cond.selects RX6 yX6_coursesNow yX6_coursesNow, Cond.code yX6_coursesNow cX6_coursesNow 2 (some .int), Cond.fieldLink RX6 41 "PegFieldModel" "fewestOf" "[I", Cond.fieldLink RX6 44 "PegFieldModel" "firstOf" "[I", Cond.fieldLink RX6 38 "PegFieldModel" "waysOf" "[I", Cond.fieldLink RX6 47 "PegFieldModel" "longestOf" "[I", Cond.fieldLink RX6 50 "PegFieldModel" "shortestOf" "[I", Cond.fieldLink RX6 53 "PegFieldModel" "aloneOf" "[I", Cond.methodLink RX6 207 yX6_layCourses, Cond.instanceMethod yX6_layCourses, Cond.selects RX6 yX6_layCourses yX6_layCourses, Cond.code yX6_layCourses cX6_layCourses 3 none]
def wsX6_digest_r5 : List Cond := [Cond.fieldLink RX6 35 "PegFieldModel" "jumpsOf" "[I", Cond.fieldLink RX6 32 "PegFieldModel" "codeOf" "[I", Cond.methodLink RX6 193 yX6_begin, Cond.instanceMethod yX6_begin, Cond.selects RX6 yX6_begin yX6_begin, Cond.code yX6_begin cX6_begin 2 none, Cond.fieldLink RX6 56 "PegFieldModel" "winOf" "[I", Cond.fieldLink RX6 59 "PegFieldModel" "sumOf" "[I", Cond.methodLink RX6 197 yX6_nextCode, Cond.instanceMethod yX6_nextCode, Cond.selects RX6 yX6_nextCode yX6_nextCode, Cond.code yX6_nextCode cX6_nextCode 3 (some .int), Cond.methodLink RX6 179 yX6_goDeep, Cond.instanceMethod yX6_goDeep, Cond.selects RX6 yX6_goDeep yX6_goDeep, Cond.code yX6_goDeep cX6_goDeep 6 none, Cond.methodLink RX6 200 yX6_end, Cond.instanceMethod yX6_end, Cond.selects RX6 yX6_end yX6_end, Cond.code yX6_end cX6_end 3 none, Cond.methodLink RX6 183 yX6_onBoard, Cond.instanceMethod yX6_onBoard, Cond.selects RX6 yX6_onBoard yX6_onBoard, Cond.code yX6_onBoard cX6_onBoard 4 (some .int)]
def wsX6_digest_r6 : List Cond := [Cond.methodLink RX6 190 yX6_lastPlace, Cond.instanceMethod yX6_lastPlace, Cond.selects RX6 yX6_lastPlace yX6_lastPlace, Cond.code yX6_lastPlace cX6_lastPlace 4 (some .int), Cond.methodLink RX6 203 yX6_takeUp, Cond.instanceMethod yX6_takeUp, Cond.selects RX6 yX6_takeUp yX6_takeUp, Cond.code yX6_takeUp cX6_takeUp 5 none, Cond.methodLink RX6 213 yX6_winsNow, Cond.instanceMethod yX6_winsNow, Cond.selects RX6 yX6_winsNow yX6_winsNow, Cond.code yX6_winsNow cX6_winsNow 2 (some .int), Cond.methodLink RX6 222 yX6_meanNow, Cond.instanceMethod yX6_meanNow, Cond.selects RX6 yX6_meanNow yX6_meanNow, Cond.code yX6_meanNow cX6_meanNow 1 (some .int), Cond.methodLink RX6 270 yX6_howMany, Cond.instanceMethod yX6_howMany, Cond.selects RX6 yX6_howMany yX6_howMany, Cond.code yX6_howMany cX6_howMany 2 (some .int), Cond.fieldLink RX6 121 "PegFieldModel" "jumps" "I", Cond.fieldLink RX6 124 "PegFieldModel" "boards" "I", Cond.fieldLink RX6 216 "PegFieldModel" "asks" "I", Cond.methodLink RX6 77 yX6_within]
def wsX6_digest_r7 : List Cond := [Cond.static yX6_within, Cond.code yX6_within cX6_within 3 (some .boolean), Cond.methodLink RX6 267 yX6_ofBoard, Cond.instanceMethod yX6_ofBoard, Cond.selects RX6 yX6_ofBoard yX6_ofBoard, Cond.code yX6_ofBoard cX6_ofBoard 2 (some .int), Cond.methodLink RX6 240 yX6_jumpsNow, Cond.instanceMethod yX6_jumpsNow, Cond.selects RX6 yX6_jumpsNow yX6_jumpsNow, Cond.code yX6_jumpsNow cX6_jumpsNow 4 (some .int)]
def wsX6_digest : List Cond := .code yX6_digest cX6_digest 3 (some .long) :: ((wsX6_digest_r1 ++ (wsX6_digest_r2 ++ (wsX6_digest_r3 ++ (wsX6_digest_r4 ++ (wsX6_digest_r5 ++ (wsX6_digest_r6 ++ wsX6_digest_r7)))))) ++ wsX60)
def wsJ9_max_7cf53 : List Cond := .code yJ9_max_7cf53 cJ9_max_7cf53 2 (some .int) :: ([])
def wsL_law_r1 : List Cond := [Cond.classLink RL 7 RX5, Cond.instantiable RX5 13, Cond.initialized RX5, Cond.classLink RL 10 RX6, Cond.instantiable RX6 40, Cond.initialized RX6, Cond.methodLink RL 9 yX5_init, Cond.instanceMethod yX5_init, Cond.code yX5_init cX5_init 2 none, Cond.methodLink RX5 3 objectInit, Cond.instanceMethod objectInit, Cond.code objectInit ⟨#[0xb1]⟩ 1 none, Cond.classLink RX5 9 RX2, Cond.instantiable RX2 2, Cond.initialized RX2, Cond.fieldLink RX5 12 "PegField" "page" "LPegField$Page;", Cond.classLink RX5 16 RX0, Cond.instantiable RX0 4, Cond.initialized RX0, Cond.fieldLink RX5 19 "PegField" "grid" "LPegField$Grid;", Cond.classLink RX5 23 RX4, Cond.instantiable RX4 8, Cond.initialized RX4, Cond.fieldLink RX5 28 "PegField" "now" "LPegField$State;"]
def wsL_law_r2 : List Cond := [Cond.classLink RX5 32 RX3, Cond.instantiable RX3 3, Cond.initialized RX3, Cond.fieldLink RX5 35 "PegField" "seen" "LPegField$Seen;", Cond.fieldLink RX5 39 "PegField" "keptState" "LPegField$State;", Cond.fieldLink RX5 42 "PegField" "keptSeen" "LPegField$Seen;", Cond.fieldLink RX5 45 "PegField" "thought" "LPegField$State;", Cond.classLink RX5 48 RX1, Cond.instantiable RX1 9, Cond.initialized RX1, Cond.fieldLink RX5 51 "PegField" "outlook" "LPegField$Outcome;", Cond.fieldLink RX5 55 "PegField" "outcomes" "[LPegField$Outcome;", Cond.instanceMethod yX2_init, Cond.code yX2_init cX2_init 1 none, Cond.methodLink RX2 3 objectInit, Cond.arrayClass .int, Cond.fieldLink RX2 9 "PegField$Page" "codes" "[I", Cond.instanceMethod yX0_init, Cond.code yX0_init cX0_init 1 none, Cond.methodLink RX0 3 objectInit, Cond.fieldLink RX0 9 "PegField$Grid" "beside" "[I", Cond.methodLink RX5 25 yX4_init, Cond.instanceMethod yX4_init, Cond.code yX4_init cX4_init 2 none]
def wsL_law_r3 : List Cond := [Cond.methodLink RX4 3 objectInit, Cond.fieldLink RX4 9 "PegField$State" "kinds" "[I", Cond.fieldLink RX4 15 "PegField$State" "homes" "[I", Cond.fieldLink RX4 18 "PegField$State" "tenants" "[I", Cond.fieldLink RX4 21 "PegField$State" "grid" "LPegField$Grid;", Cond.instanceMethod yX3_init, Cond.code yX3_init cX3_init 1 none, Cond.methodLink RX3 3 objectInit, Cond.fieldLink RX3 9 "PegField$Seen" "pegs" "[I", Cond.fieldLink RX3 15 "PegField$Seen" "sorts" "[I", Cond.instanceMethod yX1_init, Cond.code yX1_init cX1_init 1 none, Cond.methodLink RX1 3 objectInit, Cond.methodLink RL 12 yX6_init, Cond.instanceMethod yX6_init, Cond.code yX6_init cX6_init 1 none, Cond.methodLink RX6 1 objectInit, Cond.fieldLink RX6 7 "PegFieldModel" "kindOf" "[I", Cond.fieldLink RX6 13 "PegFieldModel" "placeOf" "[I", Cond.fieldLink RX6 16 "PegFieldModel" "seenPeg" "[I", Cond.fieldLink RX6 19 "PegFieldModel" "seenWhat" "[I", Cond.fieldLink RX6 22 "PegFieldModel" "seenCould" "[I", Cond.arrayClass .byte, Cond.fieldLink RX6 25 "PegFieldModel" "page" "[B"]
def wsL_law_r4 : List Cond := [Cond.fieldLink RX6 29 "PegFieldModel" "deepPlace" "[I", Cond.fieldLink RX6 32 "PegFieldModel" "codeOf" "[I", Cond.fieldLink RX6 35 "PegFieldModel" "jumpsOf" "[I", Cond.fieldLink RX6 38 "PegFieldModel" "waysOf" "[I", Cond.fieldLink RX6 41 "PegFieldModel" "fewestOf" "[I", Cond.fieldLink RX6 44 "PegFieldModel" "firstOf" "[I", Cond.fieldLink RX6 47 "PegFieldModel" "longestOf" "[I", Cond.fieldLink RX6 50 "PegFieldModel" "shortestOf" "[I", Cond.fieldLink RX6 53 "PegFieldModel" "aloneOf" "[I", Cond.fieldLink RX6 56 "PegFieldModel" "winOf" "[I", Cond.fieldLink RX6 59 "PegFieldModel" "sumOf" "[I", Cond.fieldLink RX6 62 "PegFieldModel" "keptKind" "[I", Cond.fieldLink RX6 65 "PegFieldModel" "keptPlace" "[I", Cond.fieldLink RX6 68 "PegFieldModel" "keptPeg" "[I", Cond.fieldLink RX6 71 "PegFieldModel" "keptWhat" "[I", Cond.fieldLink RX6 74 "PegFieldModel" "keptCould" "[I", Cond.methodLink RL 13 yX5_letter, Cond.instanceMethod yX5_letter, Cond.selects RX5 yX5_letter yX5_letter, Cond.code yX5_letter cX5_letter 2 (some .int), Cond.methodLink RX5 59 yX2_append, Cond.instanceMethod yX2_append, Cond.selects RX2 yX2_append yX2_append, Cond.code yX2_append cX2_append 2 (some .boolean)]
def wsL_law_r5 : List Cond := [Cond.fieldLink RX2 15 "PegField$Page" "size" "I", Cond.methodLink RL 17 yX6_letter, Cond.instanceMethod yX6_letter, Cond.selects RX6 yX6_letter yX6_letter, Cond.code yX6_letter cX6_letter 2 (some .int), Cond.fieldLink RX6 81 "PegFieldModel" "pageLength" "I", Cond.methodLink RX6 77 yX6_within, Cond.static yX6_within, Cond.code yX6_within cX6_within 3 (some .boolean), Cond.methodLink RL 18 yX5_blank, Cond.instanceMethod yX5_blank, Cond.selects RX5 yX5_blank yX5_blank, Cond.code yX5_blank cX5_blank 2 (some .int), Cond.methodLink RL 22 yX6_blank, Cond.instanceMethod yX6_blank, Cond.selects RX6 yX6_blank yX6_blank, Cond.code yX6_blank cX6_blank 2 (some .int), Cond.methodLink RL 23 yX5_fault, Cond.instanceMethod yX5_fault, Cond.selects RX5 yX5_fault yX5_fault, Cond.code yX5_fault cX5_fault 1 (some .int), Cond.methodLink RX5 67 yX2_firstFault, Cond.instanceMethod yX2_firstFault, Cond.selects RX2 yX2_firstFault yX2_firstFault]
def wsL_law_r6 : List Cond := [Cond.code yX2_firstFault cX2_firstFault 2 (some .int), Cond.methodLink RX2 40 yX2_fits, Cond.instanceMethod yX2_fits, Cond.selects RX2 yX2_fits yX2_fits, Cond.code yX2_fits cX2_fits 3 (some .boolean), Cond.methodLink RX2 27 yX2_digitAt, Cond.instanceMethod yX2_digitAt, Cond.selects RX2 yX2_digitAt yX2_digitAt, Cond.code yX2_digitAt cX2_digitAt 3 (some .int), Cond.methodLink RX2 19 yX2_codeAt, Cond.instanceMethod yX2_codeAt, Cond.selects RX2 yX2_codeAt yX2_codeAt, Cond.code yX2_codeAt cX2_codeAt 2 (some .int), Cond.methodLink RX2 33 yX2_placesTold, Cond.instanceMethod yX2_placesTold, Cond.selects RX2 yX2_placesTold yX2_placesTold, Cond.code yX2_placesTold cX2_placesTold 1 (some .int), Cond.methodLink RX2 30 yX2_kindAt, Cond.instanceMethod yX2_kindAt, Cond.selects RX2 yX2_kindAt yX2_kindAt, Cond.code yX2_kindAt cX2_kindAt 4 (some .int), Cond.methodLink RX2 37 yX2_pegsBefore, Cond.instanceMethod yX2_pegsBefore, Cond.selects RX2 yX2_pegsBefore yX2_pegsBefore]
def wsL_law_r7 : List Cond := [Cond.code yX2_pegsBefore cX2_pegsBefore 4 (some .int), Cond.methodLink RL 26 yX6_fault, Cond.instanceMethod yX6_fault, Cond.selects RX6 yX6_fault yX6_fault, Cond.code yX6_fault cX6_fault 1 (some .int), Cond.methodLink RX6 102 yX6_read, Cond.instanceMethod yX6_read, Cond.selects RX6 yX6_read yX6_read, Cond.code yX6_read cX6_read 3 (some .int), Cond.fieldLink RX6 95 "PegFieldModel" "isWhole" "Z", Cond.fieldLink RX6 92 "PegFieldModel" "newPegs" "I", Cond.methodLink RX6 85 yX6_at, Cond.instanceMethod yX6_at, Cond.selects RX6 yX6_at yX6_at, Cond.code yX6_at cX6_at 2 (some .int), Cond.methodLink RX6 99 yX6_readPlaces, Cond.instanceMethod yX6_readPlaces, Cond.selects RX6 yX6_readPlaces yX6_readPlaces, Cond.code yX6_readPlaces cX6_readPlaces 4 (some .int), Cond.methodLink RX6 89 yX6_kindBy, Cond.static yX6_kindBy, Cond.code yX6_kindBy cX6_kindBy 1 (some .int), Cond.methodLink RL 27 yX5_board, Cond.instanceMethod yX5_board]
def wsL_law_r8 : List Cond := [Cond.selects RX5 yX5_board yX5_board, Cond.code yX5_board cX5_board 1 (some .int), Cond.fieldLink RX5 88 "PegField" "isKept" "Z", Cond.fieldLink RX5 92 "PegField" "isLooked" "Z", Cond.fieldLink RX5 95 "PegField" "reads" "I", Cond.methodLink RX5 71 yX2_isBoard, Cond.instanceMethod yX2_isBoard, Cond.selects RX2 yX2_isBoard yX2_isBoard, Cond.code yX2_isBoard cX2_isBoard 1 (some .boolean), Cond.methodLink RX2 44 yX2_firstFault, Cond.methodLink RX5 75 yX2_digitAt, Cond.methodLink RX5 79 yX0_lay, Cond.instanceMethod yX0_lay, Cond.selects RX0 yX0_lay yX0_lay, Cond.code yX0_lay cX0_lay 7 none, Cond.fieldLink RX0 15 "PegField$Grid" "rows" "I", Cond.fieldLink RX0 19 "PegField$Grid" "columns" "I", Cond.fieldLink RX0 22 "PegField$Grid" "places" "I", Cond.methodLink RX0 31 yX0_placeAt, Cond.instanceMethod yX0_placeAt, Cond.selects RX0 yX0_placeAt yX0_placeAt, Cond.code yX0_placeAt cX0_placeAt 4 (some .int), Cond.methodLink RX5 83 yX4_read, Cond.instanceMethod yX4_read]
def wsL_law_r9 : List Cond := [Cond.selects RX4 yX4_read yX4_read, Cond.code yX4_read cX4_read 3 none, Cond.fieldLink RX4 25 "PegField$State" "holes" "I", Cond.fieldLink RX4 29 "PegField$State" "pegs" "I", Cond.fieldLink RX4 32 "PegField$State" "onBoard" "I", Cond.fieldLink RX4 35 "PegField$State" "jumps" "I", Cond.methodLink RX4 43 yX2_codeAt, Cond.methodLink RX4 49 yX2_kindAt, Cond.methodLink RX4 52 yX4_addPeg, Cond.instanceMethod yX4_addPeg, Cond.selects RX4 yX4_addPeg yX4_addPeg, Cond.code yX4_addPeg cX4_addPeg 4 none, Cond.methodLink RX4 56 yX4_set, Cond.instanceMethod yX4_set, Cond.selects RX4 yX4_set yX4_set, Cond.code yX4_set cX4_set 3 none, Cond.methodLink RX4 59 yX4_isPeg, Cond.instanceMethod yX4_isPeg, Cond.selects RX4 yX4_isPeg yX4_isPeg, Cond.code yX4_isPeg cX4_isPeg 2 (some .boolean), Cond.methodLink RX4 63 yX0_has, Cond.instanceMethod yX0_has, Cond.selects RX0 yX0_has yX0_has, Cond.code yX0_has cX0_has 2 (some .boolean)]
def wsL_law_r10 : List Cond := [Cond.methodLink RL 30 yX6_board, Cond.instanceMethod yX6_board, Cond.selects RX6 yX6_board yX6_board, Cond.code yX6_board cX6_board 3 (some .int), Cond.fieldLink RX6 106 "PegFieldModel" "high" "I", Cond.fieldLink RX6 109 "PegFieldModel" "wide" "I", Cond.fieldLink RX6 112 "PegFieldModel" "holes" "I", Cond.fieldLink RX6 115 "PegFieldModel" "pegs" "I", Cond.fieldLink RX6 121 "PegFieldModel" "jumps" "I", Cond.fieldLink RX6 124 "PegFieldModel" "boards" "I", Cond.fieldLink RX6 127 "PegFieldModel" "seen" "I", Cond.methodLink RX6 118 yX6_places, Cond.instanceMethod yX6_places, Cond.selects RX6 yX6_places yX6_places, Cond.code yX6_places cX6_places 1 (some .int), Cond.methodLink RL 31 yX5_peg, Cond.instanceMethod yX5_peg, Cond.selects RX5 yX5_peg yX5_peg, Cond.code yX5_peg cX5_peg 3 (some .int), Cond.methodLink RX5 101 yX4_isPeg, Cond.methodLink RX5 104 yX4_kindOf, Cond.instanceMethod yX4_kindOf, Cond.selects RX4 yX4_kindOf yX4_kindOf, Cond.code yX4_kindOf cX4_kindOf 2 (some .int)]
def wsL_law_r11 : List Cond := [Cond.methodLink RX5 107 yX4_homeOf, Cond.instanceMethod yX4_homeOf, Cond.selects RX4 yX4_homeOf yX4_homeOf, Cond.code yX4_homeOf cX4_homeOf 2 (some .int), Cond.methodLink RX5 110 yX4_targetsOf, Cond.instanceMethod yX4_targetsOf, Cond.selects RX4 yX4_targetsOf yX4_targetsOf, Cond.code yX4_targetsOf cX4_targetsOf 5 (some .int), Cond.methodLink RX4 92 yX4_targetOf, Cond.instanceMethod yX4_targetOf, Cond.selects RX4 yX4_targetOf yX4_targetOf, Cond.code yX4_targetOf cX4_targetOf 6 (some .int), Cond.methodLink RX4 70 yX4_homeOf, Cond.methodLink RX4 73 yX0_next, Cond.instanceMethod yX0_next, Cond.selects RX0 yX0_next yX0_next, Cond.code yX0_next cX0_next 4 (some .int), Cond.methodLink RX0 35 yX0_has, Cond.methodLink RX4 77 yX4_pegIn, Cond.instanceMethod yX4_pegIn, Cond.selects RX4 yX4_pegIn yX4_pegIn, Cond.code yX4_pegIn cX4_pegIn 2 (some .int), Cond.methodLink RX4 80 yX4_kindOf, Cond.static yX5_kindGoes]
def wsL_law_r12 : List Cond := [Cond.code yX5_kindGoes cX5_kindGoes 2 (some .boolean), Cond.fieldLink RX5 294 "PegField" "WHO_GOES" "[I", Cond.methodLink RX5 123 yX5_hasBit, Cond.static yX5_hasBit, Cond.code yX5_hasBit cX5_hasBit 2 (some .boolean), Cond.static yX5_kindCould, Cond.code yX5_kindCould cX5_kindCould 2 (some .boolean), Cond.fieldLink RX5 203 "PegField" "WHO_COULD" "[I", Cond.methodLink RX4 89 yX4_isEmptyHole, Cond.instanceMethod yX4_isEmptyHole, Cond.selects RX4 yX4_isEmptyHole yX4_isEmptyHole, Cond.code yX4_isEmptyHole cX4_isEmptyHole 2 (some .boolean), Cond.methodLink RX5 113 yX3_sortsOf, Cond.instanceMethod yX3_sortsOf, Cond.selects RX3 yX3_sortsOf yX3_sortsOf, Cond.code yX3_sortsOf cX3_sortsOf 4 (some .int), Cond.fieldLink RX3 18 "PegField$Seen" "size" "I", Cond.methodLink RX5 116 yX5_bestQuestion, Cond.static yX5_bestQuestion, Cond.code yX5_bestQuestion cX5_bestQuestion 5 (some .int), Cond.methodLink RX5 297 Lib.Math.max.name, Cond.static Lib.Math.max.name, Cond.initialized "java/lang/Math", Cond.code Lib.Math.max.name Lib.Math.max.code 2 (some .int)]
def wsL_law_r13 : List Cond := [Cond.methodLink RX5 162 yJ6_bitCount_0f7a4, Cond.static yJ6_bitCount_0f7a4, Cond.initialized RJ6, Cond.code yJ6_bitCount_0f7a4 cJ6_bitCount_0f7a4 1 (some .int), Cond.constant RJ6 265 (1431655765), Cond.constant RJ6 266 (858993459), Cond.constant RJ6 267 (252645135), Cond.methodLink RL 35 yX6_peg, Cond.instanceMethod yX6_peg, Cond.selects RX6 yX6_peg yX6_peg, Cond.code yX6_peg cX6_peg 3 (some .int), Cond.methodLink RX6 166 yX6_isPeg, Cond.instanceMethod yX6_isPeg, Cond.selects RX6 yX6_isPeg yX6_isPeg, Cond.code yX6_isPeg cX6_isPeg 2 (some .boolean), Cond.methodLink RX6 170 yX6_pegNow, Cond.instanceMethod yX6_pegNow, Cond.selects RX6 yX6_pegNow yX6_pegNow, Cond.code yX6_pegNow cX6_pegNow 3 (some .int), Cond.methodLink RX6 157 yX6_putDeep, Cond.instanceMethod yX6_putDeep, Cond.selects RX6 yX6_putDeep yX6_putDeep, Cond.code yX6_putDeep cX6_putDeep 2 none, Cond.methodLink RX6 151 yX6_goes]
def wsL_law_r14 : List Cond := [Cond.instanceMethod yX6_goes, Cond.selects RX6 yX6_goes yX6_goes, Cond.code yX6_goes cX6_goes 5 (some .int), Cond.methodLink RX6 148 yX6_isJump, Cond.instanceMethod yX6_isJump, Cond.selects RX6 yX6_isJump yX6_isJump, Cond.code yX6_isJump cX6_isJump 4 (some .boolean), Cond.methodLink RX6 144 yX6_overBy, Cond.instanceMethod yX6_overBy, Cond.selects RX6 yX6_overBy yX6_overBy, Cond.code yX6_overBy cX6_overBy 6 (some .int), Cond.methodLink RX6 130 yX6_isIn, Cond.static yX6_isIn, Cond.code yX6_isIn cX6_isIn 2 (some .boolean), Cond.methodLink RX6 134 yX6_whoAt, Cond.instanceMethod yX6_whoAt, Cond.selects RX6 yX6_whoAt yX6_whoAt, Cond.code yX6_whoAt cX6_whoAt 5 (some .int), Cond.methodLink RX6 138 yX6_apart, Cond.static yX6_apart, Cond.code yX6_apart cX6_apart 2 (some .int), Cond.methodLink RX6 141 yX6_goesBy, Cond.instanceMethod yX6_goesBy, Cond.selects RX6 yX6_goesBy yX6_goesBy]
def wsL_law_r15 : List Cond := [Cond.code yX6_goesBy cX6_goesBy 6 (some .boolean), Cond.methodLink RX6 160 yX6_sortsOf, Cond.instanceMethod yX6_sortsOf, Cond.selects RX6 yX6_sortsOf yX6_sortsOf, Cond.code yX6_sortsOf cX6_sortsOf 6 (some .int), Cond.methodLink RX6 225 yX6_could, Cond.static yX6_could, Cond.code yX6_could cX6_could 2 (some .boolean), Cond.methodLink RX6 163 yX6_askOf, Cond.instanceMethod yX6_askOf, Cond.selects RX6 yX6_askOf yX6_askOf, Cond.code yX6_askOf cX6_askOf 9 (some .int), Cond.constant RX6 189 (268435456), Cond.methodLink RX6 154 yX6_size, Cond.static yX6_size, Cond.code yX6_size cX6_size 3 (some .int), Cond.methodLink RL 36 yX5_as, Cond.instanceMethod yX5_as, Cond.selects RX5 yX5_as yX5_as, Cond.code yX5_as cX5_as 3 (some .int), Cond.fieldLink RX5 119 "PegField" "TAKEN_AS" "[I", Cond.methodLink RL 39 yX6_as, Cond.instanceMethod yX6_as, Cond.selects RX6 yX6_as yX6_as]
def wsL_law_r16 : List Cond := [Cond.code yX6_as cX6_as 4 (some .int), Cond.methodLink RL 40 yX5_place, Cond.instanceMethod yX5_place, Cond.selects RX5 yX5_place yX5_place, Cond.code yX5_place cX5_place 3 (some .int), Cond.methodLink RX5 127 yX0_has, Cond.methodLink RX5 130 yX4_isHole, Cond.instanceMethod yX4_isHole, Cond.selects RX4 yX4_isHole yX4_isHole, Cond.code yX4_isHole cX4_isHole 2 (some .boolean), Cond.methodLink RX5 133 yX4_pegIn, Cond.methodLink RL 43 yX6_place, Cond.instanceMethod yX6_place, Cond.selects RX6 yX6_place yX6_place, Cond.code yX6_place cX6_place 3 (some .int), Cond.methodLink RX6 173 yX6_isPlace, Cond.instanceMethod yX6_isPlace, Cond.selects RX6 yX6_isPlace yX6_isPlace, Cond.code yX6_isPlace cX6_isPlace 2 (some .boolean), Cond.methodLink RX6 176 yX6_placeNow, Cond.instanceMethod yX6_placeNow, Cond.selects RX6 yX6_placeNow yX6_placeNow, Cond.code yX6_placeNow cX6_placeNow 3 (some .int), Cond.methodLink RL 44 yX5_jump]
def wsL_law_r17 : List Cond := [Cond.instanceMethod yX5_jump, Cond.selects RX5 yX5_jump yX5_jump, Cond.code yX5_jump cX5_jump 4 (some .int), Cond.methodLink RX5 136 yX4_directionTo, Cond.instanceMethod yX4_directionTo, Cond.selects RX4 yX4_directionTo yX4_directionTo, Cond.code yX4_directionTo cX4_directionTo 4 (some .int), Cond.methodLink RX5 143 yX4_neighbourOf, Cond.instanceMethod yX4_neighbourOf, Cond.selects RX4 yX4_neighbourOf yX4_neighbourOf, Cond.code yX4_neighbourOf cX4_neighbourOf 3 (some .int), Cond.methodLink RX5 146 yX4_leap, Cond.instanceMethod yX4_leap, Cond.selects RX4 yX4_leap yX4_leap, Cond.code yX4_leap cX4_leap 4 none, Cond.methodLink RX4 110 yX4_lift, Cond.instanceMethod yX4_lift, Cond.selects RX4 yX4_lift yX4_lift, Cond.code yX4_lift cX4_lift 2 none, Cond.methodLink RL 47 yX6_jump, Cond.instanceMethod yX6_jump, Cond.selects RX6 yX6_jump yX6_jump, Cond.code yX6_jump cX6_jump 4 (some .int), Cond.methodLink RX6 179 yX6_goDeep]
def wsL_law_r18 : List Cond := [Cond.instanceMethod yX6_goDeep, Cond.selects RX6 yX6_goDeep yX6_goDeep, Cond.code yX6_goDeep cX6_goDeep 6 none, Cond.methodLink RX6 183 yX6_onBoard, Cond.instanceMethod yX6_onBoard, Cond.selects RX6 yX6_onBoard yX6_onBoard, Cond.code yX6_onBoard cX6_onBoard 4 (some .int), Cond.methodLink RL 48 yX5_put, Cond.instanceMethod yX5_put, Cond.selects RX5 yX5_put yX5_put, Cond.code yX5_put cX5_put 3 (some .int), Cond.methodLink RX5 153 yX4_isEmptyHole, Cond.methodLink RX5 156 yX4_set, Cond.methodLink RL 51 yX6_put, Cond.instanceMethod yX6_put, Cond.selects RX6 yX6_put yX6_put, Cond.code yX6_put cX6_put 3 (some .int), Cond.methodLink RX6 186 yX6_isEmpty, Cond.instanceMethod yX6_isEmpty, Cond.selects RX6 yX6_isEmpty yX6_isEmpty, Cond.code yX6_isEmpty cX6_isEmpty 2 (some .boolean), Cond.methodLink RL 52 yX5_plug, Cond.instanceMethod yX5_plug, Cond.selects RX5 yX5_plug yX5_plug]
def wsL_law_r19 : List Cond := [Cond.code yX5_plug cX5_plug 2 (some .int), Cond.methodLink RL 55 yX6_plug, Cond.instanceMethod yX6_plug, Cond.selects RX6 yX6_plug yX6_plug, Cond.code yX6_plug cX6_plug 2 (some .int), Cond.methodLink RL 56 yX5_bore, Cond.instanceMethod yX5_bore, Cond.selects RX5 yX5_bore yX5_bore, Cond.code yX5_bore cX5_bore 2 (some .int), Cond.methodLink RL 59 yX6_bore, Cond.instanceMethod yX6_bore, Cond.selects RX6 yX6_bore yX6_bore, Cond.code yX6_bore cX6_bore 2 (some .int), Cond.methodLink RL 60 yX5_be, Cond.instanceMethod yX5_be, Cond.selects RX5 yX5_be yX5_be, Cond.code yX5_be cX5_be 4 (some .int), Cond.methodLink RX5 167 yX4_turn, Cond.instanceMethod yX4_turn, Cond.selects RX4 yX4_turn yX4_turn, Cond.code yX4_turn cX4_turn 3 none, Cond.methodLink RL 63 yX6_be, Cond.instanceMethod yX6_be, Cond.selects RX6 yX6_be yX6_be]
def wsL_law_r20 : List Cond := [Cond.code yX6_be cX6_be 4 (some .int), Cond.methodLink RL 64 yX5_courses, Cond.instanceMethod yX5_courses, Cond.selects RX5 yX5_courses yX5_courses, Cond.code yX5_courses cX5_courses 2 (some .int), Cond.methodLink RX5 170 yX5_lookAhead, Cond.instanceMethod yX5_lookAhead, Cond.selects RX5 yX5_lookAhead yX5_lookAhead, Cond.code yX5_lookAhead cX5_lookAhead 1 none, Cond.methodLink RX5 208 yX4_copyFrom, Cond.instanceMethod yX4_copyFrom, Cond.selects RX4 yX4_copyFrom yX4_copyFrom, Cond.code yX4_copyFrom cX4_copyFrom 3 none, Cond.methodLink RX5 261 yX5_look, Cond.static yX5_look, Cond.code yX5_look cX5_look 10 none, Cond.methodLink RX5 268 yX1_begin, Cond.instanceMethod yX1_begin, Cond.selects RX1 yX1_begin yX1_begin, Cond.code yX1_begin cX1_begin 1 none, Cond.fieldLink RX1 9 "PegField$Outcome" "choices" "I", Cond.fieldLink RX1 15 "PegField$Outcome" "fewest" "I", Cond.fieldLink RX1 18 "PegField$Outcome" "first" "I", Cond.fieldLink RX1 21 "PegField$Outcome" "ways" "I"]
def wsL_law_r21 : List Cond := [Cond.fieldLink RX1 24 "PegField$Outcome" "longest" "I", Cond.fieldLink RX1 27 "PegField$Outcome" "shortest" "I", Cond.fieldLink RX1 30 "PegField$Outcome" "alone" "I", Cond.fieldLink RX1 33 "PegField$Outcome" "winning" "I", Cond.fieldLink RX1 36 "PegField$Outcome" "mean" "I", Cond.methodLink RX5 271 yX4_targetOf, Cond.methodLink RX5 274 yX4_takeBack, Cond.instanceMethod yX4_takeBack, Cond.selects RX4 yX4_takeBack yX4_takeBack, Cond.code yX4_takeBack cX4_takeBack 5 none, Cond.methodLink RX5 278 yX1_take, Cond.instanceMethod yX1_take, Cond.selects RX1 yX1_take yX1_take, Cond.code yX1_take cX1_take 3 none, Cond.methodLink RX1 39 Lib.Math.max.name, Cond.methodLink RX5 282 yX4_aloneBit, Cond.instanceMethod yX4_aloneBit, Cond.selects RX4 yX4_aloneBit yX4_aloneBit, Cond.code yX4_aloneBit cX4_aloneBit 4 (some .int), Cond.methodLink RX5 285 yX1_end, Cond.instanceMethod yX1_end, Cond.selects RX1 yX1_end yX1_end, Cond.code yX1_end cX1_end 3 none, Cond.methodLink RL 67 yX6_courses]
def wsL_law_r22 : List Cond := [Cond.instanceMethod yX6_courses, Cond.selects RX6 yX6_courses yX6_courses, Cond.code yX6_courses cX6_courses 2 (some .int), Cond.methodLink RX6 210 yX6_coursesNow, Cond.instanceMethod yX6_coursesNow, Cond.selects RX6 yX6_coursesNow yX6_coursesNow, Cond.code yX6_coursesNow cX6_coursesNow 2 (some .int), Cond.methodLink RX6 207 yX6_layCourses, Cond.instanceMethod yX6_layCourses, Cond.selects RX6 yX6_layCourses yX6_layCourses, Cond.code yX6_layCourses cX6_layCourses 3 none, Cond.methodLink RX6 193 yX6_begin, Cond.instanceMethod yX6_begin, Cond.selects RX6 yX6_begin yX6_begin, Cond.code yX6_begin cX6_begin 2 none, Cond.methodLink RX6 197 yX6_nextCode, Cond.instanceMethod yX6_nextCode, Cond.selects RX6 yX6_nextCode yX6_nextCode, Cond.code yX6_nextCode cX6_nextCode 3 (some .int), Cond.methodLink RX6 200 yX6_end, Cond.instanceMethod yX6_end, Cond.selects RX6 yX6_end yX6_end, Cond.code yX6_end cX6_end 3 none, Cond.methodLink RX6 190 yX6_lastPlace]
def wsL_law_r23 : List Cond := [Cond.instanceMethod yX6_lastPlace, Cond.selects RX6 yX6_lastPlace yX6_lastPlace, Cond.code yX6_lastPlace cX6_lastPlace 4 (some .int), Cond.methodLink RX6 203 yX6_takeUp, Cond.instanceMethod yX6_takeUp, Cond.selects RX6 yX6_takeUp yX6_takeUp, Cond.code yX6_takeUp cX6_takeUp 5 none, Cond.methodLink RL 68 yX5_wins, Cond.instanceMethod yX5_wins, Cond.selects RX5 yX5_wins yX5_wins, Cond.code yX5_wins cX5_wins 2 (some .int), Cond.methodLink RL 71 yX6_wins, Cond.instanceMethod yX6_wins, Cond.selects RX6 yX6_wins yX6_wins, Cond.code yX6_wins cX6_wins 2 (some .int), Cond.methodLink RX6 213 yX6_winsNow, Cond.instanceMethod yX6_winsNow, Cond.selects RX6 yX6_winsNow yX6_winsNow, Cond.code yX6_winsNow cX6_winsNow 2 (some .int), Cond.methodLink RL 72 yX5_add, Cond.instanceMethod yX5_add, Cond.selects RX5 yX5_add yX5_add, Cond.code yX5_add cX5_add 2 (some .int), Cond.fieldLink RX5 194 "PegField" "adds" "I"]
def wsL_law_r24 : List Cond := [Cond.methodLink RX5 197 yX5_fewestWithOneMore, Cond.instanceMethod yX5_fewestWithOneMore, Cond.selects RX5 yX5_fewestWithOneMore yX5_fewestWithOneMore, Cond.code yX5_fewestWithOneMore cX5_fewestWithOneMore 2 (some .int), Cond.methodLink RX5 265 yX4_addPlain, Cond.instanceMethod yX4_addPlain, Cond.selects RX4 yX4_addPlain yX4_addPlain, Cond.code yX4_addPlain cX4_addPlain 2 none, Cond.methodLink RL 75 yX6_add, Cond.instanceMethod yX6_add, Cond.selects RX6 yX6_add yX6_add, Cond.code yX6_add cX6_add 1 (some .int), Cond.fieldLink RX6 216 "PegFieldModel" "asks" "I", Cond.methodLink RX6 219 yX6_addNow, Cond.instanceMethod yX6_addNow, Cond.selects RX6 yX6_addNow yX6_addNow, Cond.code yX6_addNow cX6_addNow 3 (some .int), Cond.methodLink RL 76 yX5_mean, Cond.instanceMethod yX5_mean, Cond.selects RX5 yX5_mean yX5_mean, Cond.code yX5_mean cX5_mean 1 (some .int), Cond.methodLink RL 79 yX6_mean, Cond.instanceMethod yX6_mean, Cond.selects RX6 yX6_mean yX6_mean]
def wsL_law_r25 : List Cond := [Cond.code yX6_mean cX6_mean 1 (some .int), Cond.methodLink RX6 222 yX6_meanNow, Cond.instanceMethod yX6_meanNow, Cond.selects RX6 yX6_meanNow yX6_meanNow, Cond.code yX6_meanNow cX6_meanNow 1 (some .int), Cond.methodLink RL 80 yX5_see, Cond.instanceMethod yX5_see, Cond.selects RX5 yX5_see yX5_see, Cond.code yX5_see cX5_see 5 (some .int), Cond.methodLink RX5 206 yX3_append, Cond.instanceMethod yX3_append, Cond.selects RX3 yX3_append yX3_append, Cond.code yX3_append cX3_append 3 (some .boolean), Cond.methodLink RL 84 yX6_see, Cond.instanceMethod yX6_see, Cond.selects RX6 yX6_see yX6_see, Cond.code yX6_see cX6_see 4 (some .int), Cond.methodLink RL 85 yX5_forget, Cond.instanceMethod yX5_forget, Cond.selects RX5 yX5_forget yX5_forget, Cond.code yX5_forget cX5_forget 2 (some .int), Cond.methodLink RL 88 yX6_forget, Cond.instanceMethod yX6_forget, Cond.selects RX6 yX6_forget yX6_forget]
def wsL_law_r26 : List Cond := [Cond.code yX6_forget cX6_forget 2 (some .int), Cond.methodLink RL 89 yX5_runs, Cond.instanceMethod yX5_runs, Cond.selects RX5 yX5_runs yX5_runs, Cond.code yX5_runs cX5_runs 11 (some .int), Cond.constantLong RX5 219 (65536), Cond.methodLink RX5 212 yX4_choices, Cond.instanceMethod yX4_choices, Cond.selects RX4 yX4_choices yX4_choices, Cond.code yX4_choices cX4_choices 3 (some .int), Cond.methodLink RX4 95 yX4_targetsOf, Cond.methodLink RX4 98 yJ6_bitCount_0f7a4, Cond.methodLink RX5 215 yX5_nextSeed, Cond.static yX5_nextSeed, Cond.code yX5_nextSeed cX5_nextSeed 2 (some .long), Cond.constantLong RX5 288 (1103515245), Cond.constantLong RX5 290 (12345), Cond.constantLong RX5 292 (2147483648), Cond.methodLink RX5 221 yX4_leapByChoice, Cond.instanceMethod yX4_leapByChoice, Cond.selects RX4 yX4_leapByChoice yX4_leapByChoice, Cond.code yX4_leapByChoice cX4_leapByChoice 6 none, Cond.methodLink RX4 103 yX4_neighbourOf, Cond.methodLink RX4 106 yX4_leap]
def wsL_law_r27 : List Cond := [Cond.methodLink RL 93 yX6_runs, Cond.instanceMethod yX6_runs, Cond.selects RX6 yX6_runs yX6_runs, Cond.code yX6_runs cX6_runs 4 (some .int), Cond.methodLink RX6 249 yX6_runsNow, Cond.instanceMethod yX6_runsNow, Cond.selects RX6 yX6_runsNow yX6_runsNow, Cond.code yX6_runsNow cX6_runsNow 10 (some .int), Cond.fieldLink RX6 230 "PegFieldModel" "seedNow" "J", Cond.methodLink RX6 240 yX6_jumpsNow, Cond.instanceMethod yX6_jumpsNow, Cond.selects RX6 yX6_jumpsNow yX6_jumpsNow, Cond.code yX6_jumpsNow cX6_jumpsNow 4 (some .int), Cond.methodLink RX6 243 yX6_draw, Cond.instanceMethod yX6_draw, Cond.selects RX6 yX6_draw yX6_draw, Cond.code yX6_draw cX6_draw 2 (some .int), Cond.constantLong RX6 228 (1103515245), Cond.constantLong RX6 234 (12345), Cond.constantLong RX6 236 (2147483647), Cond.constantLong RX6 238 (65536), Cond.methodLink RX6 246 yX6_codeBy, Cond.instanceMethod yX6_codeBy, Cond.selects RX6 yX6_codeBy yX6_codeBy]
def wsL_law_r28 : List Cond := [Cond.code yX6_codeBy cX6_codeBy 5 (some .int), Cond.methodLink RL 94 yX5_image, Cond.instanceMethod yX5_image, Cond.selects RX5 yX5_image yX5_image, Cond.code yX5_image cX5_image 1 (some .int), Cond.methodLink RX5 225 yX3_copyFrom, Cond.instanceMethod yX3_copyFrom, Cond.selects RX3 yX3_copyFrom yX3_copyFrom, Cond.code yX3_copyFrom cX3_copyFrom 3 none, Cond.methodLink RL 97 yX6_image, Cond.instanceMethod yX6_image, Cond.selects RX6 yX6_image yX6_image, Cond.code yX6_image cX6_image 2 (some .int), Cond.fieldLink RX6 252 "PegFieldModel" "isKept" "Z", Cond.fieldLink RX6 255 "PegFieldModel" "keptBoard" "I", Cond.fieldLink RX6 258 "PegFieldModel" "keptHoles" "I", Cond.fieldLink RX6 261 "PegFieldModel" "keptJumps" "I", Cond.fieldLink RX6 264 "PegFieldModel" "keptSeen" "I", Cond.methodLink RL 98 yX5_restore, Cond.instanceMethod yX5_restore, Cond.selects RX5 yX5_restore yX5_restore, Cond.code yX5_restore cX5_restore 1 (some .int), Cond.methodLink RL 101 yX6_restore, Cond.instanceMethod yX6_restore]
def wsL_law_r29 : List Cond := [Cond.selects RX6 yX6_restore yX6_restore, Cond.code yX6_restore cX6_restore 2 (some .int), Cond.methodLink RL 102 yX5_count, Cond.instanceMethod yX5_count, Cond.selects RX5 yX5_count yX5_count, Cond.code yX5_count cX5_count 2 (some .int), Cond.methodLink RL 105 yX6_count, Cond.instanceMethod yX6_count, Cond.selects RX6 yX6_count yX6_count, Cond.code yX6_count cX6_count 2 (some .int), Cond.methodLink RX6 270 yX6_howMany, Cond.instanceMethod yX6_howMany, Cond.selects RX6 yX6_howMany yX6_howMany, Cond.code yX6_howMany cX6_howMany 2 (some .int), Cond.methodLink RX6 267 yX6_ofBoard, Cond.instanceMethod yX6_ofBoard, Cond.selects RX6 yX6_ofBoard yX6_ofBoard, Cond.code yX6_ofBoard cX6_ofBoard 2 (some .int), Cond.methodLink RL 106 yX5_digest, Cond.instanceMethod yX5_digest, Cond.selects RX5 yX5_digest yX5_digest, Cond.code yX5_digest cX5_digest 5 (some .long), Cond.constantLong RX5 234 (1307), Cond.constantLong RX5 236 (31)]
def wsL_law_r30 : List Cond := [Cond.methodLink RX5 238 yX5_peg, Cond.methodLink RX5 244 yX5_place, Cond.methodLink RX5 247 yX5_courses, Cond.methodLink RX5 250 yX5_wins, Cond.methodLink RX5 253 yX5_mean, Cond.methodLink RX5 255 yX2_codeAt, Cond.methodLink RX5 258 yX5_count, Cond.methodLink RL 110 yX6_digest, Cond.instanceMethod yX6_digest, Cond.selects RX6 yX6_digest yX6_digest, Cond.code yX6_digest cX6_digest 3 (some .long), Cond.constantLong RX6 282 (1307), Cond.fieldLink RX6 275 "PegFieldModel" "h" "J", Cond.methodLink RX6 278 yX6_mix, Cond.instanceMethod yX6_mix, Cond.selects RX6 yX6_mix yX6_mix, Cond.code yX6_mix cX6_mix 3 none, Cond.constantLong RX6 273 (31), Cond.methodLink RX6 284 yX6_mixBoard, Cond.instanceMethod yX6_mixBoard, Cond.selects RX6 yX6_mixBoard yX6_mixBoard, Cond.code yX6_mixBoard cX6_mixBoard 2 none]
def wsL_law : List Cond := (wsL_law_r1 ++ (wsL_law_r2 ++ (wsL_law_r3 ++ (wsL_law_r4 ++ (wsL_law_r5 ++ (wsL_law_r6 ++ (wsL_law_r7 ++ (wsL_law_r8 ++ (wsL_law_r9 ++ (wsL_law_r10 ++ (wsL_law_r11 ++ (wsL_law_r12 ++ (wsL_law_r13 ++ (wsL_law_r14 ++ (wsL_law_r15 ++ (wsL_law_r16 ++ (wsL_law_r17 ++ (wsL_law_r18 ++ (wsL_law_r19 ++ (wsL_law_r20 ++ (wsL_law_r21 ++ (wsL_law_r22 ++ (wsL_law_r23 ++ (wsL_law_r24 ++ (wsL_law_r25 ++ (wsL_law_r26 ++ (wsL_law_r27 ++ (wsL_law_r28 ++ (wsL_law_r29 ++ wsL_law_r30))))))))))))))))))))))))))))) ++ wsX50 ++ wsX60 ++ wsX20 ++ wsX00 ++ wsX40 ++ wsX30 ++ wsX10 ++ ([] : List Cond)
abbrev vwCl : List vw_C := [(RX0, TX0, 4), (RX1, TX1, 9), (RX2, TX2, 2), (RX3, TX3, 3), (RX4, TX4, 8), (RX5, TX5, 13), (RX6, TX6, 40)]
end
section
/-! literal answers: a method of Java as a function that answers 'none' where the machine would throw or not end -/
def zck {ρ : Type} (b : Bool) (k : Option ρ) : Option ρ := if b = true then k else none
theorem zck_s {ρ : Type} {b : Bool} {k : Option ρ} {r : ρ} (h : zck b k = some r) : b = true ∧ k = some r := by
  unfold zck at h
  by_cases hb : b = true
  · rw [if_pos hb] at h; exact ⟨hb, h⟩
  · rw [if_neg hb] at h; cases h
theorem zck_t {ρ : Type} {b : Bool} (hb : b = true) (k : Option ρ) : zck b k = k := by unfold zck; rw [if_pos hb]
def zin (i : Int32) (n : Nat) : Bool := decide (0 ≤ i.toInt ∧ i.toInt < (n : Int))
theorem zin_s {i : Int32} {n : Nat} (h : zin i n = true) : vp_in i n := vp_in_iff.mpr (of_decide_eq_true h)
def zne (y : Int32) : Bool := decide (¬ y = 0)
theorem zne_s {y : Int32} (h : zne y = true) : ¬ y = 0 := of_decide_eq_true h
def znl (y : Int64) : Bool := decide (¬ y = 0)
theorem znl_s {y : Int64} (h : znl y = true) : ¬ y = 0 := of_decide_eq_true h
def zbo (v : Int32) : Bool := decide (v = 0 ∨ v = 1)
theorem zbo_s {v : Int32} (h : zbo v = true) : narrow .boolean (.int v) = .int v := by
  rcases of_decide_eq_true h with e | e <;> rw [e] <;> decide
theorem zbo_f {v : Int32} (h : zbo v = true) : fits .boolean (.int v) = true := by
  rcases of_decide_eq_true h with e | e <;> rw [e] <;> decide
def zlt {α ρ : Type} (e : α) (k : α → Option ρ) : Option ρ := k e
theorem zlt_s {α ρ : Type} {e : α} {k : α → Option ρ} {r : ρ} (h : zlt e k = some r) {x : α} (ex : x = e) : k x = some r := by subst ex; exact h
def zjn {α ρ : Type} (J : α) (k : α → Option ρ) : Option ρ := k J
theorem zjn_s {α ρ : Type} {J : α} {k : α → Option ρ} {r : ρ} (h : zjn J k = some r) : ∃ J', J' = J ∧ k J' = some r := ⟨J, rfl, h⟩
theorem zif_t {ρ : Type} {c : Prop} {d : Decidable c} {A B : Option ρ} {r : ρ} (hc : c) (h : (@ite (Option ρ) c d A B) = some r) : A = some r := by rw [if_pos hc] at h; exact h
theorem zif_f {ρ : Type} {c : Prop} {d : Decidable c} {A B : Option ρ} {r : ρ} (hc : ¬ c) (h : (@ite (Option ρ) c d A B) = some r) : B = some r := by rw [if_neg hc] at h; exact h
def zbs {α β ρ : Type} (o : Option (α ⊕ β)) (k1 : α → Option ρ) (k2 : β → Option ρ) : Option ρ := match o with
  | none => none
  | some (.inl a) => k1 a
  | some (.inr b) => k2 b
theorem zbs_s {α β ρ : Type} {o : Option (α ⊕ β)} {k1 : α → Option ρ} {k2 : β → Option ρ} {r : ρ} (h : zbs o k1 k2 = some r) : ∃ z, o = some z ∧ (∀ a, z = .inl a → k1 a = some r) ∧ (∀ b, z = .inr b → k2 b = some r) := by
  cases o with
  | none => cases h
  | some z =>
    refine ⟨z, rfl, fun a e => ?_, fun b e => ?_⟩
    · subst e; exact h
    · subst e; exact h
def zitn {σ ρ : Type} (step : σ → Option (σ ⊕ ρ)) : Nat → σ → Option ρ
  | 0, _ => none
  | n + 1, s => match step s with
    | none => none
    | some (.inl s') => zitn step n s'
    | some (.inr r) => some r
theorem zitn_mono {σ ρ : Type} {step : σ → Option (σ ⊕ ρ)} {r : ρ} : ∀ (n k : Nat) (s : σ), zitn step n s = some r → n ≤ k → zitn step k s = some r
  | 0, _, _, h, _ => by cases h
  | n + 1, 0, _, _, hk => absurd hk (Nat.not_succ_le_zero n)
  | n + 1, k + 1, s, h, hk => by
    unfold zitn at h ⊢
    cases hz : step s with
    | none => rw [hz] at h; cases h
    | some z =>
      rw [hz] at h
      cases z with
      | inl s' => exact zitn_mono n k s' h (Nat.le_of_succ_le_succ hk)
      | inr r' => exact h
noncomputable def zit {σ ρ : Type} (step : σ → Option (σ ⊕ ρ)) (s : σ) : Option ρ := @dite (Option ρ) (∃ n, zitn step n s ≠ none) (Classical.propDecidable _) (fun h => zitn step (Classical.choose h) s) (fun _ => none)
theorem zit_of {σ ρ : Type} {step : σ → Option (σ ⊕ ρ)} {s : σ} {r : ρ} {n : Nat} (h : zitn step n s = some r) : zit step s = some r := by
  have hx : ∃ n, zitn step n s ≠ none := ⟨n, by rw [h]; exact fun e => by cases e⟩
  unfold zit
  rw [dif_pos hx]
  cases hm : zitn step (Classical.choose hx) s with
  | none => exact absurd hm (Classical.choose_spec hx)
  | some r' =>
    rcases Nat.le_total n (Classical.choose hx) with q | q
    · exact hm.symm.trans (zitn_mono _ _ _ h q)
    · exact (zitn_mono _ _ _ hm q).symm.trans h
theorem zit_ex {σ ρ : Type} {step : σ → Option (σ ⊕ ρ)} {s : σ} {r : ρ} (h : zit step s = some r) : ∃ n, zitn step n s = some r := by
  unfold zit at h
  by_cases hx : ∃ n, zitn step n s ≠ none
  · rw [dif_pos hx] at h; exact ⟨_, h⟩
  · rw [dif_neg hx] at h; cases h
theorem zit_r {σ ρ : Type} {step : σ → Option (σ ⊕ ρ)} {s : σ} {r : ρ} (h : step s = some (.inr r)) : zit step s = some r :=
  zit_of (n := 1) (by unfold zitn; rw [h])
theorem zit_l {σ ρ : Type} {step : σ → Option (σ ⊕ ρ)} {s s' : σ} {r : ρ} (h : step s = some (.inl s')) (h2 : zit step s' = some r) : zit step s = some r := by
  obtain ⟨n, hn⟩ := zit_ex h2
  exact zit_of (n := n + 1) (by unfold zitn; rw [h]; exact hn)
theorem zit_ind {σ ρ : Type} {step : σ → Option (σ ⊕ ρ)} {r : ρ} (P : σ → Prop) (hs : ∀ s z, step s = some z → (∀ s', z = .inl s' → P s') → (∀ r', z = .inr r' → r' = r) → P s) : ∀ s, zit step s = some r → P s := by
  intro s h
  obtain ⟨n, hn⟩ := zit_ex h
  clear h
  induction n generalizing s with
  | zero => cases hn
  | succ n ih =>
    unfold zitn at hn
    cases hz : step s with
    | none => rw [hz] at hn; cases hn
    | some z =>
      rw [hz] at hn
      cases z with
      | inl s' => exact hs s _ hz (fun s'' e => by cases e; exact ih s' hn) (fun r' e => by cases e)
      | inr r' => exact hs s _ hz (fun s'' e => by cases e) (fun r'' e => by cases e; exact Option.some.inj hn)
theorem zend {ρ : Type} {a b : ρ} (h : some a = some b) : a = b := Option.some.inj h
def zb1 {A0 ρ : Type} (o : Option (A0)) (k : A0 → Option ρ) : Option ρ := match o with
  | none => none
  | some a0 => k a0
theorem zb1_s {A0 ρ : Type} {o : Option (A0)} {k : A0 → Option ρ} {r : ρ} (h : zb1 o k = some r) : ∃ a0, o = some a0 ∧ k a0 = some r := by
  cases o with
  | none => cases h
  | some z => exact ⟨z, rfl, h⟩
theorem zb1_t {A0 ρ : Type} {o : Option (A0)} {a0 : A0} (h : o = some a0) (k : A0 → Option ρ) : zb1 o k = k a0 := by rw [h]; rfl
noncomputable def zi1 {A0 ρ : Type} (f : A0 → Option ((A0) ⊕ ρ)) (a0 : A0) : Option ρ := zit (fun s : A0 => f s) a0
theorem zi1_ind {A0 ρ : Type} {f : A0 → Option ((A0) ⊕ ρ)} {r : ρ} (P : A0 → Prop) (hs : ∀ a0 z, f a0 = some z → (∀ a0', z = .inl a0' → P a0') → (∀ r', z = .inr r' → r' = r) → P a0) {a0 : A0} (h : zi1 f a0 = some r) : P a0 :=
  zit_ind (fun s : A0 => P s) (fun s z h1 h2 h3 => hs s z h1 (fun a0' e => h2 a0' e) h3) _ h
theorem zi1_l {A0 ρ : Type} {f : A0 → Option ((A0) ⊕ ρ)} {a0 a0' : A0} {r : ρ} (h : f a0 = some (.inl a0')) (h2 : zi1 f a0' = some r) : zi1 f a0 = some r := zit_l (s := a0) h h2
theorem zi1_r {A0 ρ : Type} {f : A0 → Option ((A0) ⊕ ρ)} {a0 : A0} {r : ρ} (h : f a0 = some (.inr r)) : zi1 f a0 = some r := zit_r (s := a0) h
def zb2 {A0 A1 ρ : Type} (o : Option (A0 × A1)) (k : A0 → A1 → Option ρ) : Option ρ := match o with
  | none => none
  | some (a0, a1) => k a0 a1
theorem zb2_s {A0 A1 ρ : Type} {o : Option (A0 × A1)} {k : A0 → A1 → Option ρ} {r : ρ} (h : zb2 o k = some r) : ∃ a0 a1, o = some (a0, a1) ∧ k a0 a1 = some r := by
  cases o with
  | none => cases h
  | some z => exact ⟨z.1, z.2, rfl, h⟩
theorem zb2_t {A0 A1 ρ : Type} {o : Option (A0 × A1)} {a0 : A0} {a1 : A1} (h : o = some (a0, a1)) (k : A0 → A1 → Option ρ) : zb2 o k = k a0 a1 := by rw [h]; rfl
noncomputable def zi2 {A0 A1 ρ : Type} (f : A0 → A1 → Option ((A0 × A1) ⊕ ρ)) (a0 : A0) (a1 : A1) : Option ρ := zit (fun s : A0 × A1 => f s.1 s.2) (a0, a1)
theorem zi2_ind {A0 A1 ρ : Type} {f : A0 → A1 → Option ((A0 × A1) ⊕ ρ)} {r : ρ} (P : A0 → A1 → Prop) (hs : ∀ a0 a1 z, f a0 a1 = some z → (∀ a0' a1', z = .inl (a0', a1') → P a0' a1') → (∀ r', z = .inr r' → r' = r) → P a0 a1) {a0 : A0} {a1 : A1} (h : zi2 f a0 a1 = some r) : P a0 a1 :=
  zit_ind (fun s : A0 × A1 => P s.1 s.2) (fun s z h1 h2 h3 => hs s.1 s.2 z h1 (fun a0' a1' e => h2 (a0', a1') e) h3) _ h
theorem zi2_l {A0 A1 ρ : Type} {f : A0 → A1 → Option ((A0 × A1) ⊕ ρ)} {a0 a0' : A0} {a1 a1' : A1} {r : ρ} (h : f a0 a1 = some (.inl (a0', a1'))) (h2 : zi2 f a0' a1' = some r) : zi2 f a0 a1 = some r := zit_l (s := (a0, a1)) h h2
theorem zi2_r {A0 A1 ρ : Type} {f : A0 → A1 → Option ((A0 × A1) ⊕ ρ)} {a0 : A0} {a1 : A1} {r : ρ} (h : f a0 a1 = some (.inr r)) : zi2 f a0 a1 = some r := zit_r (s := (a0, a1)) h
def zb3 {A0 A1 A2 ρ : Type} (o : Option (A0 × A1 × A2)) (k : A0 → A1 → A2 → Option ρ) : Option ρ := match o with
  | none => none
  | some (a0, a1, a2) => k a0 a1 a2
theorem zb3_s {A0 A1 A2 ρ : Type} {o : Option (A0 × A1 × A2)} {k : A0 → A1 → A2 → Option ρ} {r : ρ} (h : zb3 o k = some r) : ∃ a0 a1 a2, o = some (a0, a1, a2) ∧ k a0 a1 a2 = some r := by
  cases o with
  | none => cases h
  | some z => exact ⟨z.1, z.2.1, z.2.2, rfl, h⟩
theorem zb3_t {A0 A1 A2 ρ : Type} {o : Option (A0 × A1 × A2)} {a0 : A0} {a1 : A1} {a2 : A2} (h : o = some (a0, a1, a2)) (k : A0 → A1 → A2 → Option ρ) : zb3 o k = k a0 a1 a2 := by rw [h]; rfl
noncomputable def zi3 {A0 A1 A2 ρ : Type} (f : A0 → A1 → A2 → Option ((A0 × A1 × A2) ⊕ ρ)) (a0 : A0) (a1 : A1) (a2 : A2) : Option ρ := zit (fun s : A0 × A1 × A2 => f s.1 s.2.1 s.2.2) (a0, a1, a2)
theorem zi3_ind {A0 A1 A2 ρ : Type} {f : A0 → A1 → A2 → Option ((A0 × A1 × A2) ⊕ ρ)} {r : ρ} (P : A0 → A1 → A2 → Prop) (hs : ∀ a0 a1 a2 z, f a0 a1 a2 = some z → (∀ a0' a1' a2', z = .inl (a0', a1', a2') → P a0' a1' a2') → (∀ r', z = .inr r' → r' = r) → P a0 a1 a2) {a0 : A0} {a1 : A1} {a2 : A2} (h : zi3 f a0 a1 a2 = some r) : P a0 a1 a2 :=
  zit_ind (fun s : A0 × A1 × A2 => P s.1 s.2.1 s.2.2) (fun s z h1 h2 h3 => hs s.1 s.2.1 s.2.2 z h1 (fun a0' a1' a2' e => h2 (a0', a1', a2') e) h3) _ h
theorem zi3_l {A0 A1 A2 ρ : Type} {f : A0 → A1 → A2 → Option ((A0 × A1 × A2) ⊕ ρ)} {a0 a0' : A0} {a1 a1' : A1} {a2 a2' : A2} {r : ρ} (h : f a0 a1 a2 = some (.inl (a0', a1', a2'))) (h2 : zi3 f a0' a1' a2' = some r) : zi3 f a0 a1 a2 = some r := zit_l (s := (a0, a1, a2)) h h2
theorem zi3_r {A0 A1 A2 ρ : Type} {f : A0 → A1 → A2 → Option ((A0 × A1 × A2) ⊕ ρ)} {a0 : A0} {a1 : A1} {a2 : A2} {r : ρ} (h : f a0 a1 a2 = some (.inr r)) : zi3 f a0 a1 a2 = some r := zit_r (s := (a0, a1, a2)) h
def zb4 {A0 A1 A2 A3 ρ : Type} (o : Option (A0 × A1 × A2 × A3)) (k : A0 → A1 → A2 → A3 → Option ρ) : Option ρ := match o with
  | none => none
  | some (a0, a1, a2, a3) => k a0 a1 a2 a3
theorem zb4_s {A0 A1 A2 A3 ρ : Type} {o : Option (A0 × A1 × A2 × A3)} {k : A0 → A1 → A2 → A3 → Option ρ} {r : ρ} (h : zb4 o k = some r) : ∃ a0 a1 a2 a3, o = some (a0, a1, a2, a3) ∧ k a0 a1 a2 a3 = some r := by
  cases o with
  | none => cases h
  | some z => exact ⟨z.1, z.2.1, z.2.2.1, z.2.2.2, rfl, h⟩
theorem zb4_t {A0 A1 A2 A3 ρ : Type} {o : Option (A0 × A1 × A2 × A3)} {a0 : A0} {a1 : A1} {a2 : A2} {a3 : A3} (h : o = some (a0, a1, a2, a3)) (k : A0 → A1 → A2 → A3 → Option ρ) : zb4 o k = k a0 a1 a2 a3 := by rw [h]; rfl
noncomputable def zi4 {A0 A1 A2 A3 ρ : Type} (f : A0 → A1 → A2 → A3 → Option ((A0 × A1 × A2 × A3) ⊕ ρ)) (a0 : A0) (a1 : A1) (a2 : A2) (a3 : A3) : Option ρ := zit (fun s : A0 × A1 × A2 × A3 => f s.1 s.2.1 s.2.2.1 s.2.2.2) (a0, a1, a2, a3)
theorem zi4_ind {A0 A1 A2 A3 ρ : Type} {f : A0 → A1 → A2 → A3 → Option ((A0 × A1 × A2 × A3) ⊕ ρ)} {r : ρ} (P : A0 → A1 → A2 → A3 → Prop) (hs : ∀ a0 a1 a2 a3 z, f a0 a1 a2 a3 = some z → (∀ a0' a1' a2' a3', z = .inl (a0', a1', a2', a3') → P a0' a1' a2' a3') → (∀ r', z = .inr r' → r' = r) → P a0 a1 a2 a3) {a0 : A0} {a1 : A1} {a2 : A2} {a3 : A3} (h : zi4 f a0 a1 a2 a3 = some r) : P a0 a1 a2 a3 :=
  zit_ind (fun s : A0 × A1 × A2 × A3 => P s.1 s.2.1 s.2.2.1 s.2.2.2) (fun s z h1 h2 h3 => hs s.1 s.2.1 s.2.2.1 s.2.2.2 z h1 (fun a0' a1' a2' a3' e => h2 (a0', a1', a2', a3') e) h3) _ h
theorem zi4_l {A0 A1 A2 A3 ρ : Type} {f : A0 → A1 → A2 → A3 → Option ((A0 × A1 × A2 × A3) ⊕ ρ)} {a0 a0' : A0} {a1 a1' : A1} {a2 a2' : A2} {a3 a3' : A3} {r : ρ} (h : f a0 a1 a2 a3 = some (.inl (a0', a1', a2', a3'))) (h2 : zi4 f a0' a1' a2' a3' = some r) : zi4 f a0 a1 a2 a3 = some r := zit_l (s := (a0, a1, a2, a3)) h h2
theorem zi4_r {A0 A1 A2 A3 ρ : Type} {f : A0 → A1 → A2 → A3 → Option ((A0 × A1 × A2 × A3) ⊕ ρ)} {a0 : A0} {a1 : A1} {a2 : A2} {a3 : A3} {r : ρ} (h : f a0 a1 a2 a3 = some (.inr r)) : zi4 f a0 a1 a2 a3 = some r := zit_r (s := (a0, a1, a2, a3)) h
def zb5 {A0 A1 A2 A3 A4 ρ : Type} (o : Option (A0 × A1 × A2 × A3 × A4)) (k : A0 → A1 → A2 → A3 → A4 → Option ρ) : Option ρ := match o with
  | none => none
  | some (a0, a1, a2, a3, a4) => k a0 a1 a2 a3 a4
theorem zb5_s {A0 A1 A2 A3 A4 ρ : Type} {o : Option (A0 × A1 × A2 × A3 × A4)} {k : A0 → A1 → A2 → A3 → A4 → Option ρ} {r : ρ} (h : zb5 o k = some r) : ∃ a0 a1 a2 a3 a4, o = some (a0, a1, a2, a3, a4) ∧ k a0 a1 a2 a3 a4 = some r := by
  cases o with
  | none => cases h
  | some z => exact ⟨z.1, z.2.1, z.2.2.1, z.2.2.2.1, z.2.2.2.2, rfl, h⟩
theorem zb5_t {A0 A1 A2 A3 A4 ρ : Type} {o : Option (A0 × A1 × A2 × A3 × A4)} {a0 : A0} {a1 : A1} {a2 : A2} {a3 : A3} {a4 : A4} (h : o = some (a0, a1, a2, a3, a4)) (k : A0 → A1 → A2 → A3 → A4 → Option ρ) : zb5 o k = k a0 a1 a2 a3 a4 := by rw [h]; rfl
noncomputable def zi5 {A0 A1 A2 A3 A4 ρ : Type} (f : A0 → A1 → A2 → A3 → A4 → Option ((A0 × A1 × A2 × A3 × A4) ⊕ ρ)) (a0 : A0) (a1 : A1) (a2 : A2) (a3 : A3) (a4 : A4) : Option ρ := zit (fun s : A0 × A1 × A2 × A3 × A4 => f s.1 s.2.1 s.2.2.1 s.2.2.2.1 s.2.2.2.2) (a0, a1, a2, a3, a4)
theorem zi5_ind {A0 A1 A2 A3 A4 ρ : Type} {f : A0 → A1 → A2 → A3 → A4 → Option ((A0 × A1 × A2 × A3 × A4) ⊕ ρ)} {r : ρ} (P : A0 → A1 → A2 → A3 → A4 → Prop) (hs : ∀ a0 a1 a2 a3 a4 z, f a0 a1 a2 a3 a4 = some z → (∀ a0' a1' a2' a3' a4', z = .inl (a0', a1', a2', a3', a4') → P a0' a1' a2' a3' a4') → (∀ r', z = .inr r' → r' = r) → P a0 a1 a2 a3 a4) {a0 : A0} {a1 : A1} {a2 : A2} {a3 : A3} {a4 : A4} (h : zi5 f a0 a1 a2 a3 a4 = some r) : P a0 a1 a2 a3 a4 :=
  zit_ind (fun s : A0 × A1 × A2 × A3 × A4 => P s.1 s.2.1 s.2.2.1 s.2.2.2.1 s.2.2.2.2) (fun s z h1 h2 h3 => hs s.1 s.2.1 s.2.2.1 s.2.2.2.1 s.2.2.2.2 z h1 (fun a0' a1' a2' a3' a4' e => h2 (a0', a1', a2', a3', a4') e) h3) _ h
theorem zi5_l {A0 A1 A2 A3 A4 ρ : Type} {f : A0 → A1 → A2 → A3 → A4 → Option ((A0 × A1 × A2 × A3 × A4) ⊕ ρ)} {a0 a0' : A0} {a1 a1' : A1} {a2 a2' : A2} {a3 a3' : A3} {a4 a4' : A4} {r : ρ} (h : f a0 a1 a2 a3 a4 = some (.inl (a0', a1', a2', a3', a4'))) (h2 : zi5 f a0' a1' a2' a3' a4' = some r) : zi5 f a0 a1 a2 a3 a4 = some r := zit_l (s := (a0, a1, a2, a3, a4)) h h2
theorem zi5_r {A0 A1 A2 A3 A4 ρ : Type} {f : A0 → A1 → A2 → A3 → A4 → Option ((A0 × A1 × A2 × A3 × A4) ⊕ ρ)} {a0 : A0} {a1 : A1} {a2 : A2} {a3 : A3} {a4 : A4} {r : ρ} (h : f a0 a1 a2 a3 a4 = some (.inr r)) : zi5 f a0 a1 a2 a3 a4 = some r := zit_r (s := (a0, a1, a2, a3, a4)) h
def zb6 {A0 A1 A2 A3 A4 A5 ρ : Type} (o : Option (A0 × A1 × A2 × A3 × A4 × A5)) (k : A0 → A1 → A2 → A3 → A4 → A5 → Option ρ) : Option ρ := match o with
  | none => none
  | some (a0, a1, a2, a3, a4, a5) => k a0 a1 a2 a3 a4 a5
theorem zb6_s {A0 A1 A2 A3 A4 A5 ρ : Type} {o : Option (A0 × A1 × A2 × A3 × A4 × A5)} {k : A0 → A1 → A2 → A3 → A4 → A5 → Option ρ} {r : ρ} (h : zb6 o k = some r) : ∃ a0 a1 a2 a3 a4 a5, o = some (a0, a1, a2, a3, a4, a5) ∧ k a0 a1 a2 a3 a4 a5 = some r := by
  cases o with
  | none => cases h
  | some z => exact ⟨z.1, z.2.1, z.2.2.1, z.2.2.2.1, z.2.2.2.2.1, z.2.2.2.2.2, rfl, h⟩
theorem zb6_t {A0 A1 A2 A3 A4 A5 ρ : Type} {o : Option (A0 × A1 × A2 × A3 × A4 × A5)} {a0 : A0} {a1 : A1} {a2 : A2} {a3 : A3} {a4 : A4} {a5 : A5} (h : o = some (a0, a1, a2, a3, a4, a5)) (k : A0 → A1 → A2 → A3 → A4 → A5 → Option ρ) : zb6 o k = k a0 a1 a2 a3 a4 a5 := by rw [h]; rfl
noncomputable def zi6 {A0 A1 A2 A3 A4 A5 ρ : Type} (f : A0 → A1 → A2 → A3 → A4 → A5 → Option ((A0 × A1 × A2 × A3 × A4 × A5) ⊕ ρ)) (a0 : A0) (a1 : A1) (a2 : A2) (a3 : A3) (a4 : A4) (a5 : A5) : Option ρ := zit (fun s : A0 × A1 × A2 × A3 × A4 × A5 => f s.1 s.2.1 s.2.2.1 s.2.2.2.1 s.2.2.2.2.1 s.2.2.2.2.2) (a0, a1, a2, a3, a4, a5)
theorem zi6_ind {A0 A1 A2 A3 A4 A5 ρ : Type} {f : A0 → A1 → A2 → A3 → A4 → A5 → Option ((A0 × A1 × A2 × A3 × A4 × A5) ⊕ ρ)} {r : ρ} (P : A0 → A1 → A2 → A3 → A4 → A5 → Prop) (hs : ∀ a0 a1 a2 a3 a4 a5 z, f a0 a1 a2 a3 a4 a5 = some z → (∀ a0' a1' a2' a3' a4' a5', z = .inl (a0', a1', a2', a3', a4', a5') → P a0' a1' a2' a3' a4' a5') → (∀ r', z = .inr r' → r' = r) → P a0 a1 a2 a3 a4 a5) {a0 : A0} {a1 : A1} {a2 : A2} {a3 : A3} {a4 : A4} {a5 : A5} (h : zi6 f a0 a1 a2 a3 a4 a5 = some r) : P a0 a1 a2 a3 a4 a5 :=
  zit_ind (fun s : A0 × A1 × A2 × A3 × A4 × A5 => P s.1 s.2.1 s.2.2.1 s.2.2.2.1 s.2.2.2.2.1 s.2.2.2.2.2) (fun s z h1 h2 h3 => hs s.1 s.2.1 s.2.2.1 s.2.2.2.1 s.2.2.2.2.1 s.2.2.2.2.2 z h1 (fun a0' a1' a2' a3' a4' a5' e => h2 (a0', a1', a2', a3', a4', a5') e) h3) _ h
theorem zi6_l {A0 A1 A2 A3 A4 A5 ρ : Type} {f : A0 → A1 → A2 → A3 → A4 → A5 → Option ((A0 × A1 × A2 × A3 × A4 × A5) ⊕ ρ)} {a0 a0' : A0} {a1 a1' : A1} {a2 a2' : A2} {a3 a3' : A3} {a4 a4' : A4} {a5 a5' : A5} {r : ρ} (h : f a0 a1 a2 a3 a4 a5 = some (.inl (a0', a1', a2', a3', a4', a5'))) (h2 : zi6 f a0' a1' a2' a3' a4' a5' = some r) : zi6 f a0 a1 a2 a3 a4 a5 = some r := zit_l (s := (a0, a1, a2, a3, a4, a5)) h h2
theorem zi6_r {A0 A1 A2 A3 A4 A5 ρ : Type} {f : A0 → A1 → A2 → A3 → A4 → A5 → Option ((A0 × A1 × A2 × A3 × A4 × A5) ⊕ ρ)} {a0 : A0} {a1 : A1} {a2 : A2} {a3 : A3} {a4 : A4} {a5 : A5} {r : ρ} (h : f a0 a1 a2 a3 a4 a5 = some (.inr r)) : zi6 f a0 a1 a2 a3 a4 a5 = some r := zit_r (s := (a0, a1, a2, a3, a4, a5)) h
def zb7 {A0 A1 A2 A3 A4 A5 A6 ρ : Type} (o : Option (A0 × A1 × A2 × A3 × A4 × A5 × A6)) (k : A0 → A1 → A2 → A3 → A4 → A5 → A6 → Option ρ) : Option ρ := match o with
  | none => none
  | some (a0, a1, a2, a3, a4, a5, a6) => k a0 a1 a2 a3 a4 a5 a6
theorem zb7_s {A0 A1 A2 A3 A4 A5 A6 ρ : Type} {o : Option (A0 × A1 × A2 × A3 × A4 × A5 × A6)} {k : A0 → A1 → A2 → A3 → A4 → A5 → A6 → Option ρ} {r : ρ} (h : zb7 o k = some r) : ∃ a0 a1 a2 a3 a4 a5 a6, o = some (a0, a1, a2, a3, a4, a5, a6) ∧ k a0 a1 a2 a3 a4 a5 a6 = some r := by
  cases o with
  | none => cases h
  | some z => exact ⟨z.1, z.2.1, z.2.2.1, z.2.2.2.1, z.2.2.2.2.1, z.2.2.2.2.2.1, z.2.2.2.2.2.2, rfl, h⟩
theorem zb7_t {A0 A1 A2 A3 A4 A5 A6 ρ : Type} {o : Option (A0 × A1 × A2 × A3 × A4 × A5 × A6)} {a0 : A0} {a1 : A1} {a2 : A2} {a3 : A3} {a4 : A4} {a5 : A5} {a6 : A6} (h : o = some (a0, a1, a2, a3, a4, a5, a6)) (k : A0 → A1 → A2 → A3 → A4 → A5 → A6 → Option ρ) : zb7 o k = k a0 a1 a2 a3 a4 a5 a6 := by rw [h]; rfl
noncomputable def zi7 {A0 A1 A2 A3 A4 A5 A6 ρ : Type} (f : A0 → A1 → A2 → A3 → A4 → A5 → A6 → Option ((A0 × A1 × A2 × A3 × A4 × A5 × A6) ⊕ ρ)) (a0 : A0) (a1 : A1) (a2 : A2) (a3 : A3) (a4 : A4) (a5 : A5) (a6 : A6) : Option ρ := zit (fun s : A0 × A1 × A2 × A3 × A4 × A5 × A6 => f s.1 s.2.1 s.2.2.1 s.2.2.2.1 s.2.2.2.2.1 s.2.2.2.2.2.1 s.2.2.2.2.2.2) (a0, a1, a2, a3, a4, a5, a6)
theorem zi7_ind {A0 A1 A2 A3 A4 A5 A6 ρ : Type} {f : A0 → A1 → A2 → A3 → A4 → A5 → A6 → Option ((A0 × A1 × A2 × A3 × A4 × A5 × A6) ⊕ ρ)} {r : ρ} (P : A0 → A1 → A2 → A3 → A4 → A5 → A6 → Prop) (hs : ∀ a0 a1 a2 a3 a4 a5 a6 z, f a0 a1 a2 a3 a4 a5 a6 = some z → (∀ a0' a1' a2' a3' a4' a5' a6', z = .inl (a0', a1', a2', a3', a4', a5', a6') → P a0' a1' a2' a3' a4' a5' a6') → (∀ r', z = .inr r' → r' = r) → P a0 a1 a2 a3 a4 a5 a6) {a0 : A0} {a1 : A1} {a2 : A2} {a3 : A3} {a4 : A4} {a5 : A5} {a6 : A6} (h : zi7 f a0 a1 a2 a3 a4 a5 a6 = some r) : P a0 a1 a2 a3 a4 a5 a6 :=
  zit_ind (fun s : A0 × A1 × A2 × A3 × A4 × A5 × A6 => P s.1 s.2.1 s.2.2.1 s.2.2.2.1 s.2.2.2.2.1 s.2.2.2.2.2.1 s.2.2.2.2.2.2) (fun s z h1 h2 h3 => hs s.1 s.2.1 s.2.2.1 s.2.2.2.1 s.2.2.2.2.1 s.2.2.2.2.2.1 s.2.2.2.2.2.2 z h1 (fun a0' a1' a2' a3' a4' a5' a6' e => h2 (a0', a1', a2', a3', a4', a5', a6') e) h3) _ h
theorem zi7_l {A0 A1 A2 A3 A4 A5 A6 ρ : Type} {f : A0 → A1 → A2 → A3 → A4 → A5 → A6 → Option ((A0 × A1 × A2 × A3 × A4 × A5 × A6) ⊕ ρ)} {a0 a0' : A0} {a1 a1' : A1} {a2 a2' : A2} {a3 a3' : A3} {a4 a4' : A4} {a5 a5' : A5} {a6 a6' : A6} {r : ρ} (h : f a0 a1 a2 a3 a4 a5 a6 = some (.inl (a0', a1', a2', a3', a4', a5', a6'))) (h2 : zi7 f a0' a1' a2' a3' a4' a5' a6' = some r) : zi7 f a0 a1 a2 a3 a4 a5 a6 = some r := zit_l (s := (a0, a1, a2, a3, a4, a5, a6)) h h2
theorem zi7_r {A0 A1 A2 A3 A4 A5 A6 ρ : Type} {f : A0 → A1 → A2 → A3 → A4 → A5 → A6 → Option ((A0 × A1 × A2 × A3 × A4 × A5 × A6) ⊕ ρ)} {a0 : A0} {a1 : A1} {a2 : A2} {a3 : A3} {a4 : A4} {a5 : A5} {a6 : A6} {r : ρ} (h : f a0 a1 a2 a3 a4 a5 a6 = some (.inr r)) : zi7 f a0 a1 a2 a3 a4 a5 a6 = some r := zit_r (s := (a0, a1, a2, a3, a4, a5, a6)) h
def zb8 {A0 A1 A2 A3 A4 A5 A6 A7 ρ : Type} (o : Option (A0 × A1 × A2 × A3 × A4 × A5 × A6 × A7)) (k : A0 → A1 → A2 → A3 → A4 → A5 → A6 → A7 → Option ρ) : Option ρ := match o with
  | none => none
  | some (a0, a1, a2, a3, a4, a5, a6, a7) => k a0 a1 a2 a3 a4 a5 a6 a7
theorem zb8_s {A0 A1 A2 A3 A4 A5 A6 A7 ρ : Type} {o : Option (A0 × A1 × A2 × A3 × A4 × A5 × A6 × A7)} {k : A0 → A1 → A2 → A3 → A4 → A5 → A6 → A7 → Option ρ} {r : ρ} (h : zb8 o k = some r) : ∃ a0 a1 a2 a3 a4 a5 a6 a7, o = some (a0, a1, a2, a3, a4, a5, a6, a7) ∧ k a0 a1 a2 a3 a4 a5 a6 a7 = some r := by
  cases o with
  | none => cases h
  | some z => exact ⟨z.1, z.2.1, z.2.2.1, z.2.2.2.1, z.2.2.2.2.1, z.2.2.2.2.2.1, z.2.2.2.2.2.2.1, z.2.2.2.2.2.2.2, rfl, h⟩
theorem zb8_t {A0 A1 A2 A3 A4 A5 A6 A7 ρ : Type} {o : Option (A0 × A1 × A2 × A3 × A4 × A5 × A6 × A7)} {a0 : A0} {a1 : A1} {a2 : A2} {a3 : A3} {a4 : A4} {a5 : A5} {a6 : A6} {a7 : A7} (h : o = some (a0, a1, a2, a3, a4, a5, a6, a7)) (k : A0 → A1 → A2 → A3 → A4 → A5 → A6 → A7 → Option ρ) : zb8 o k = k a0 a1 a2 a3 a4 a5 a6 a7 := by rw [h]; rfl
noncomputable def zi8 {A0 A1 A2 A3 A4 A5 A6 A7 ρ : Type} (f : A0 → A1 → A2 → A3 → A4 → A5 → A6 → A7 → Option ((A0 × A1 × A2 × A3 × A4 × A5 × A6 × A7) ⊕ ρ)) (a0 : A0) (a1 : A1) (a2 : A2) (a3 : A3) (a4 : A4) (a5 : A5) (a6 : A6) (a7 : A7) : Option ρ := zit (fun s : A0 × A1 × A2 × A3 × A4 × A5 × A6 × A7 => f s.1 s.2.1 s.2.2.1 s.2.2.2.1 s.2.2.2.2.1 s.2.2.2.2.2.1 s.2.2.2.2.2.2.1 s.2.2.2.2.2.2.2) (a0, a1, a2, a3, a4, a5, a6, a7)
theorem zi8_ind {A0 A1 A2 A3 A4 A5 A6 A7 ρ : Type} {f : A0 → A1 → A2 → A3 → A4 → A5 → A6 → A7 → Option ((A0 × A1 × A2 × A3 × A4 × A5 × A6 × A7) ⊕ ρ)} {r : ρ} (P : A0 → A1 → A2 → A3 → A4 → A5 → A6 → A7 → Prop) (hs : ∀ a0 a1 a2 a3 a4 a5 a6 a7 z, f a0 a1 a2 a3 a4 a5 a6 a7 = some z → (∀ a0' a1' a2' a3' a4' a5' a6' a7', z = .inl (a0', a1', a2', a3', a4', a5', a6', a7') → P a0' a1' a2' a3' a4' a5' a6' a7') → (∀ r', z = .inr r' → r' = r) → P a0 a1 a2 a3 a4 a5 a6 a7) {a0 : A0} {a1 : A1} {a2 : A2} {a3 : A3} {a4 : A4} {a5 : A5} {a6 : A6} {a7 : A7} (h : zi8 f a0 a1 a2 a3 a4 a5 a6 a7 = some r) : P a0 a1 a2 a3 a4 a5 a6 a7 :=
  zit_ind (fun s : A0 × A1 × A2 × A3 × A4 × A5 × A6 × A7 => P s.1 s.2.1 s.2.2.1 s.2.2.2.1 s.2.2.2.2.1 s.2.2.2.2.2.1 s.2.2.2.2.2.2.1 s.2.2.2.2.2.2.2) (fun s z h1 h2 h3 => hs s.1 s.2.1 s.2.2.1 s.2.2.2.1 s.2.2.2.2.1 s.2.2.2.2.2.1 s.2.2.2.2.2.2.1 s.2.2.2.2.2.2.2 z h1 (fun a0' a1' a2' a3' a4' a5' a6' a7' e => h2 (a0', a1', a2', a3', a4', a5', a6', a7') e) h3) _ h
theorem zi8_l {A0 A1 A2 A3 A4 A5 A6 A7 ρ : Type} {f : A0 → A1 → A2 → A3 → A4 → A5 → A6 → A7 → Option ((A0 × A1 × A2 × A3 × A4 × A5 × A6 × A7) ⊕ ρ)} {a0 a0' : A0} {a1 a1' : A1} {a2 a2' : A2} {a3 a3' : A3} {a4 a4' : A4} {a5 a5' : A5} {a6 a6' : A6} {a7 a7' : A7} {r : ρ} (h : f a0 a1 a2 a3 a4 a5 a6 a7 = some (.inl (a0', a1', a2', a3', a4', a5', a6', a7'))) (h2 : zi8 f a0' a1' a2' a3' a4' a5' a6' a7' = some r) : zi8 f a0 a1 a2 a3 a4 a5 a6 a7 = some r := zit_l (s := (a0, a1, a2, a3, a4, a5, a6, a7)) h h2
theorem zi8_r {A0 A1 A2 A3 A4 A5 A6 A7 ρ : Type} {f : A0 → A1 → A2 → A3 → A4 → A5 → A6 → A7 → Option ((A0 × A1 × A2 × A3 × A4 × A5 × A6 × A7) ⊕ ρ)} {a0 : A0} {a1 : A1} {a2 : A2} {a3 : A3} {a4 : A4} {a5 : A5} {a6 : A6} {a7 : A7} {r : ρ} (h : f a0 a1 a2 a3 a4 a5 a6 a7 = some (.inr r)) : zi8 f a0 a1 a2 a3 a4 a5 a6 a7 = some r := zit_r (s := (a0, a1, a2, a3, a4, a5, a6, a7)) h
def zb9 {A0 A1 A2 A3 A4 A5 A6 A7 A8 ρ : Type} (o : Option (A0 × A1 × A2 × A3 × A4 × A5 × A6 × A7 × A8)) (k : A0 → A1 → A2 → A3 → A4 → A5 → A6 → A7 → A8 → Option ρ) : Option ρ := match o with
  | none => none
  | some (a0, a1, a2, a3, a4, a5, a6, a7, a8) => k a0 a1 a2 a3 a4 a5 a6 a7 a8
theorem zb9_s {A0 A1 A2 A3 A4 A5 A6 A7 A8 ρ : Type} {o : Option (A0 × A1 × A2 × A3 × A4 × A5 × A6 × A7 × A8)} {k : A0 → A1 → A2 → A3 → A4 → A5 → A6 → A7 → A8 → Option ρ} {r : ρ} (h : zb9 o k = some r) : ∃ a0 a1 a2 a3 a4 a5 a6 a7 a8, o = some (a0, a1, a2, a3, a4, a5, a6, a7, a8) ∧ k a0 a1 a2 a3 a4 a5 a6 a7 a8 = some r := by
  cases o with
  | none => cases h
  | some z => exact ⟨z.1, z.2.1, z.2.2.1, z.2.2.2.1, z.2.2.2.2.1, z.2.2.2.2.2.1, z.2.2.2.2.2.2.1, z.2.2.2.2.2.2.2.1, z.2.2.2.2.2.2.2.2, rfl, h⟩
theorem zb9_t {A0 A1 A2 A3 A4 A5 A6 A7 A8 ρ : Type} {o : Option (A0 × A1 × A2 × A3 × A4 × A5 × A6 × A7 × A8)} {a0 : A0} {a1 : A1} {a2 : A2} {a3 : A3} {a4 : A4} {a5 : A5} {a6 : A6} {a7 : A7} {a8 : A8} (h : o = some (a0, a1, a2, a3, a4, a5, a6, a7, a8)) (k : A0 → A1 → A2 → A3 → A4 → A5 → A6 → A7 → A8 → Option ρ) : zb9 o k = k a0 a1 a2 a3 a4 a5 a6 a7 a8 := by rw [h]; rfl
noncomputable def zi9 {A0 A1 A2 A3 A4 A5 A6 A7 A8 ρ : Type} (f : A0 → A1 → A2 → A3 → A4 → A5 → A6 → A7 → A8 → Option ((A0 × A1 × A2 × A3 × A4 × A5 × A6 × A7 × A8) ⊕ ρ)) (a0 : A0) (a1 : A1) (a2 : A2) (a3 : A3) (a4 : A4) (a5 : A5) (a6 : A6) (a7 : A7) (a8 : A8) : Option ρ := zit (fun s : A0 × A1 × A2 × A3 × A4 × A5 × A6 × A7 × A8 => f s.1 s.2.1 s.2.2.1 s.2.2.2.1 s.2.2.2.2.1 s.2.2.2.2.2.1 s.2.2.2.2.2.2.1 s.2.2.2.2.2.2.2.1 s.2.2.2.2.2.2.2.2) (a0, a1, a2, a3, a4, a5, a6, a7, a8)
theorem zi9_ind {A0 A1 A2 A3 A4 A5 A6 A7 A8 ρ : Type} {f : A0 → A1 → A2 → A3 → A4 → A5 → A6 → A7 → A8 → Option ((A0 × A1 × A2 × A3 × A4 × A5 × A6 × A7 × A8) ⊕ ρ)} {r : ρ} (P : A0 → A1 → A2 → A3 → A4 → A5 → A6 → A7 → A8 → Prop) (hs : ∀ a0 a1 a2 a3 a4 a5 a6 a7 a8 z, f a0 a1 a2 a3 a4 a5 a6 a7 a8 = some z → (∀ a0' a1' a2' a3' a4' a5' a6' a7' a8', z = .inl (a0', a1', a2', a3', a4', a5', a6', a7', a8') → P a0' a1' a2' a3' a4' a5' a6' a7' a8') → (∀ r', z = .inr r' → r' = r) → P a0 a1 a2 a3 a4 a5 a6 a7 a8) {a0 : A0} {a1 : A1} {a2 : A2} {a3 : A3} {a4 : A4} {a5 : A5} {a6 : A6} {a7 : A7} {a8 : A8} (h : zi9 f a0 a1 a2 a3 a4 a5 a6 a7 a8 = some r) : P a0 a1 a2 a3 a4 a5 a6 a7 a8 :=
  zit_ind (fun s : A0 × A1 × A2 × A3 × A4 × A5 × A6 × A7 × A8 => P s.1 s.2.1 s.2.2.1 s.2.2.2.1 s.2.2.2.2.1 s.2.2.2.2.2.1 s.2.2.2.2.2.2.1 s.2.2.2.2.2.2.2.1 s.2.2.2.2.2.2.2.2) (fun s z h1 h2 h3 => hs s.1 s.2.1 s.2.2.1 s.2.2.2.1 s.2.2.2.2.1 s.2.2.2.2.2.1 s.2.2.2.2.2.2.1 s.2.2.2.2.2.2.2.1 s.2.2.2.2.2.2.2.2 z h1 (fun a0' a1' a2' a3' a4' a5' a6' a7' a8' e => h2 (a0', a1', a2', a3', a4', a5', a6', a7', a8') e) h3) _ h
theorem zi9_l {A0 A1 A2 A3 A4 A5 A6 A7 A8 ρ : Type} {f : A0 → A1 → A2 → A3 → A4 → A5 → A6 → A7 → A8 → Option ((A0 × A1 × A2 × A3 × A4 × A5 × A6 × A7 × A8) ⊕ ρ)} {a0 a0' : A0} {a1 a1' : A1} {a2 a2' : A2} {a3 a3' : A3} {a4 a4' : A4} {a5 a5' : A5} {a6 a6' : A6} {a7 a7' : A7} {a8 a8' : A8} {r : ρ} (h : f a0 a1 a2 a3 a4 a5 a6 a7 a8 = some (.inl (a0', a1', a2', a3', a4', a5', a6', a7', a8'))) (h2 : zi9 f a0' a1' a2' a3' a4' a5' a6' a7' a8' = some r) : zi9 f a0 a1 a2 a3 a4 a5 a6 a7 a8 = some r := zit_l (s := (a0, a1, a2, a3, a4, a5, a6, a7, a8)) h h2
theorem zi9_r {A0 A1 A2 A3 A4 A5 A6 A7 A8 ρ : Type} {f : A0 → A1 → A2 → A3 → A4 → A5 → A6 → A7 → A8 → Option ((A0 × A1 × A2 × A3 × A4 × A5 × A6 × A7 × A8) ⊕ ρ)} {a0 : A0} {a1 : A1} {a2 : A2} {a3 : A3} {a4 : A4} {a5 : A5} {a6 : A6} {a7 : A7} {a8 : A8} {r : ρ} (h : f a0 a1 a2 a3 a4 a5 a6 a7 a8 = some (.inr r)) : zi9 f a0 a1 a2 a3 a4 a5 a6 a7 a8 = some r := zit_r (s := (a0, a1, a2, a3, a4, a5, a6, a7, a8)) h
def zb10 {A0 A1 A2 A3 A4 A5 A6 A7 A8 A9 ρ : Type} (o : Option (A0 × A1 × A2 × A3 × A4 × A5 × A6 × A7 × A8 × A9)) (k : A0 → A1 → A2 → A3 → A4 → A5 → A6 → A7 → A8 → A9 → Option ρ) : Option ρ := match o with
  | none => none
  | some (a0, a1, a2, a3, a4, a5, a6, a7, a8, a9) => k a0 a1 a2 a3 a4 a5 a6 a7 a8 a9
theorem zb10_s {A0 A1 A2 A3 A4 A5 A6 A7 A8 A9 ρ : Type} {o : Option (A0 × A1 × A2 × A3 × A4 × A5 × A6 × A7 × A8 × A9)} {k : A0 → A1 → A2 → A3 → A4 → A5 → A6 → A7 → A8 → A9 → Option ρ} {r : ρ} (h : zb10 o k = some r) : ∃ a0 a1 a2 a3 a4 a5 a6 a7 a8 a9, o = some (a0, a1, a2, a3, a4, a5, a6, a7, a8, a9) ∧ k a0 a1 a2 a3 a4 a5 a6 a7 a8 a9 = some r := by
  cases o with
  | none => cases h
  | some z => exact ⟨z.1, z.2.1, z.2.2.1, z.2.2.2.1, z.2.2.2.2.1, z.2.2.2.2.2.1, z.2.2.2.2.2.2.1, z.2.2.2.2.2.2.2.1, z.2.2.2.2.2.2.2.2.1, z.2.2.2.2.2.2.2.2.2, rfl, h⟩
theorem zb10_t {A0 A1 A2 A3 A4 A5 A6 A7 A8 A9 ρ : Type} {o : Option (A0 × A1 × A2 × A3 × A4 × A5 × A6 × A7 × A8 × A9)} {a0 : A0} {a1 : A1} {a2 : A2} {a3 : A3} {a4 : A4} {a5 : A5} {a6 : A6} {a7 : A7} {a8 : A8} {a9 : A9} (h : o = some (a0, a1, a2, a3, a4, a5, a6, a7, a8, a9)) (k : A0 → A1 → A2 → A3 → A4 → A5 → A6 → A7 → A8 → A9 → Option ρ) : zb10 o k = k a0 a1 a2 a3 a4 a5 a6 a7 a8 a9 := by rw [h]; rfl
noncomputable def zi10 {A0 A1 A2 A3 A4 A5 A6 A7 A8 A9 ρ : Type} (f : A0 → A1 → A2 → A3 → A4 → A5 → A6 → A7 → A8 → A9 → Option ((A0 × A1 × A2 × A3 × A4 × A5 × A6 × A7 × A8 × A9) ⊕ ρ)) (a0 : A0) (a1 : A1) (a2 : A2) (a3 : A3) (a4 : A4) (a5 : A5) (a6 : A6) (a7 : A7) (a8 : A8) (a9 : A9) : Option ρ := zit (fun s : A0 × A1 × A2 × A3 × A4 × A5 × A6 × A7 × A8 × A9 => f s.1 s.2.1 s.2.2.1 s.2.2.2.1 s.2.2.2.2.1 s.2.2.2.2.2.1 s.2.2.2.2.2.2.1 s.2.2.2.2.2.2.2.1 s.2.2.2.2.2.2.2.2.1 s.2.2.2.2.2.2.2.2.2) (a0, a1, a2, a3, a4, a5, a6, a7, a8, a9)
theorem zi10_ind {A0 A1 A2 A3 A4 A5 A6 A7 A8 A9 ρ : Type} {f : A0 → A1 → A2 → A3 → A4 → A5 → A6 → A7 → A8 → A9 → Option ((A0 × A1 × A2 × A3 × A4 × A5 × A6 × A7 × A8 × A9) ⊕ ρ)} {r : ρ} (P : A0 → A1 → A2 → A3 → A4 → A5 → A6 → A7 → A8 → A9 → Prop) (hs : ∀ a0 a1 a2 a3 a4 a5 a6 a7 a8 a9 z, f a0 a1 a2 a3 a4 a5 a6 a7 a8 a9 = some z → (∀ a0' a1' a2' a3' a4' a5' a6' a7' a8' a9', z = .inl (a0', a1', a2', a3', a4', a5', a6', a7', a8', a9') → P a0' a1' a2' a3' a4' a5' a6' a7' a8' a9') → (∀ r', z = .inr r' → r' = r) → P a0 a1 a2 a3 a4 a5 a6 a7 a8 a9) {a0 : A0} {a1 : A1} {a2 : A2} {a3 : A3} {a4 : A4} {a5 : A5} {a6 : A6} {a7 : A7} {a8 : A8} {a9 : A9} (h : zi10 f a0 a1 a2 a3 a4 a5 a6 a7 a8 a9 = some r) : P a0 a1 a2 a3 a4 a5 a6 a7 a8 a9 :=
  zit_ind (fun s : A0 × A1 × A2 × A3 × A4 × A5 × A6 × A7 × A8 × A9 => P s.1 s.2.1 s.2.2.1 s.2.2.2.1 s.2.2.2.2.1 s.2.2.2.2.2.1 s.2.2.2.2.2.2.1 s.2.2.2.2.2.2.2.1 s.2.2.2.2.2.2.2.2.1 s.2.2.2.2.2.2.2.2.2) (fun s z h1 h2 h3 => hs s.1 s.2.1 s.2.2.1 s.2.2.2.1 s.2.2.2.2.1 s.2.2.2.2.2.1 s.2.2.2.2.2.2.1 s.2.2.2.2.2.2.2.1 s.2.2.2.2.2.2.2.2.1 s.2.2.2.2.2.2.2.2.2 z h1 (fun a0' a1' a2' a3' a4' a5' a6' a7' a8' a9' e => h2 (a0', a1', a2', a3', a4', a5', a6', a7', a8', a9') e) h3) _ h
theorem zi10_l {A0 A1 A2 A3 A4 A5 A6 A7 A8 A9 ρ : Type} {f : A0 → A1 → A2 → A3 → A4 → A5 → A6 → A7 → A8 → A9 → Option ((A0 × A1 × A2 × A3 × A4 × A5 × A6 × A7 × A8 × A9) ⊕ ρ)} {a0 a0' : A0} {a1 a1' : A1} {a2 a2' : A2} {a3 a3' : A3} {a4 a4' : A4} {a5 a5' : A5} {a6 a6' : A6} {a7 a7' : A7} {a8 a8' : A8} {a9 a9' : A9} {r : ρ} (h : f a0 a1 a2 a3 a4 a5 a6 a7 a8 a9 = some (.inl (a0', a1', a2', a3', a4', a5', a6', a7', a8', a9'))) (h2 : zi10 f a0' a1' a2' a3' a4' a5' a6' a7' a8' a9' = some r) : zi10 f a0 a1 a2 a3 a4 a5 a6 a7 a8 a9 = some r := zit_l (s := (a0, a1, a2, a3, a4, a5, a6, a7, a8, a9)) h h2
theorem zi10_r {A0 A1 A2 A3 A4 A5 A6 A7 A8 A9 ρ : Type} {f : A0 → A1 → A2 → A3 → A4 → A5 → A6 → A7 → A8 → A9 → Option ((A0 × A1 × A2 × A3 × A4 × A5 × A6 × A7 × A8 × A9) ⊕ ρ)} {a0 : A0} {a1 : A1} {a2 : A2} {a3 : A3} {a4 : A4} {a5 : A5} {a6 : A6} {a7 : A7} {a8 : A8} {a9 : A9} {r : ρ} (h : f a0 a1 a2 a3 a4 a5 a6 a7 a8 a9 = some (.inr r)) : zi10 f a0 a1 a2 a3 a4 a5 a6 a7 a8 a9 = some r := zit_r (s := (a0, a1, a2, a3, a4, a5, a6, a7, a8, a9)) h
def zb11 {A0 A1 A2 A3 A4 A5 A6 A7 A8 A9 A10 ρ : Type} (o : Option (A0 × A1 × A2 × A3 × A4 × A5 × A6 × A7 × A8 × A9 × A10)) (k : A0 → A1 → A2 → A3 → A4 → A5 → A6 → A7 → A8 → A9 → A10 → Option ρ) : Option ρ := match o with
  | none => none
  | some (a0, a1, a2, a3, a4, a5, a6, a7, a8, a9, a10) => k a0 a1 a2 a3 a4 a5 a6 a7 a8 a9 a10
theorem zb11_s {A0 A1 A2 A3 A4 A5 A6 A7 A8 A9 A10 ρ : Type} {o : Option (A0 × A1 × A2 × A3 × A4 × A5 × A6 × A7 × A8 × A9 × A10)} {k : A0 → A1 → A2 → A3 → A4 → A5 → A6 → A7 → A8 → A9 → A10 → Option ρ} {r : ρ} (h : zb11 o k = some r) : ∃ a0 a1 a2 a3 a4 a5 a6 a7 a8 a9 a10, o = some (a0, a1, a2, a3, a4, a5, a6, a7, a8, a9, a10) ∧ k a0 a1 a2 a3 a4 a5 a6 a7 a8 a9 a10 = some r := by
  cases o with
  | none => cases h
  | some z => exact ⟨z.1, z.2.1, z.2.2.1, z.2.2.2.1, z.2.2.2.2.1, z.2.2.2.2.2.1, z.2.2.2.2.2.2.1, z.2.2.2.2.2.2.2.1, z.2.2.2.2.2.2.2.2.1, z.2.2.2.2.2.2.2.2.2.1, z.2.2.2.2.2.2.2.2.2.2, rfl, h⟩
theorem zb11_t {A0 A1 A2 A3 A4 A5 A6 A7 A8 A9 A10 ρ : Type} {o : Option (A0 × A1 × A2 × A3 × A4 × A5 × A6 × A7 × A8 × A9 × A10)} {a0 : A0} {a1 : A1} {a2 : A2} {a3 : A3} {a4 : A4} {a5 : A5} {a6 : A6} {a7 : A7} {a8 : A8} {a9 : A9} {a10 : A10} (h : o = some (a0, a1, a2, a3, a4, a5, a6, a7, a8, a9, a10)) (k : A0 → A1 → A2 → A3 → A4 → A5 → A6 → A7 → A8 → A9 → A10 → Option ρ) : zb11 o k = k a0 a1 a2 a3 a4 a5 a6 a7 a8 a9 a10 := by rw [h]; rfl
noncomputable def zi11 {A0 A1 A2 A3 A4 A5 A6 A7 A8 A9 A10 ρ : Type} (f : A0 → A1 → A2 → A3 → A4 → A5 → A6 → A7 → A8 → A9 → A10 → Option ((A0 × A1 × A2 × A3 × A4 × A5 × A6 × A7 × A8 × A9 × A10) ⊕ ρ)) (a0 : A0) (a1 : A1) (a2 : A2) (a3 : A3) (a4 : A4) (a5 : A5) (a6 : A6) (a7 : A7) (a8 : A8) (a9 : A9) (a10 : A10) : Option ρ := zit (fun s : A0 × A1 × A2 × A3 × A4 × A5 × A6 × A7 × A8 × A9 × A10 => f s.1 s.2.1 s.2.2.1 s.2.2.2.1 s.2.2.2.2.1 s.2.2.2.2.2.1 s.2.2.2.2.2.2.1 s.2.2.2.2.2.2.2.1 s.2.2.2.2.2.2.2.2.1 s.2.2.2.2.2.2.2.2.2.1 s.2.2.2.2.2.2.2.2.2.2) (a0, a1, a2, a3, a4, a5, a6, a7, a8, a9, a10)
theorem zi11_ind {A0 A1 A2 A3 A4 A5 A6 A7 A8 A9 A10 ρ : Type} {f : A0 → A1 → A2 → A3 → A4 → A5 → A6 → A7 → A8 → A9 → A10 → Option ((A0 × A1 × A2 × A3 × A4 × A5 × A6 × A7 × A8 × A9 × A10) ⊕ ρ)} {r : ρ} (P : A0 → A1 → A2 → A3 → A4 → A5 → A6 → A7 → A8 → A9 → A10 → Prop) (hs : ∀ a0 a1 a2 a3 a4 a5 a6 a7 a8 a9 a10 z, f a0 a1 a2 a3 a4 a5 a6 a7 a8 a9 a10 = some z → (∀ a0' a1' a2' a3' a4' a5' a6' a7' a8' a9' a10', z = .inl (a0', a1', a2', a3', a4', a5', a6', a7', a8', a9', a10') → P a0' a1' a2' a3' a4' a5' a6' a7' a8' a9' a10') → (∀ r', z = .inr r' → r' = r) → P a0 a1 a2 a3 a4 a5 a6 a7 a8 a9 a10) {a0 : A0} {a1 : A1} {a2 : A2} {a3 : A3} {a4 : A4} {a5 : A5} {a6 : A6} {a7 : A7} {a8 : A8} {a9 : A9} {a10 : A10} (h : zi11 f a0 a1 a2 a3 a4 a5 a6 a7 a8 a9 a10 = some r) : P a0 a1 a2 a3 a4 a5 a6 a7 a8 a9 a10 :=
  zit_ind (fun s : A0 × A1 × A2 × A3 × A4 × A5 × A6 × A7 × A8 × A9 × A10 => P s.1 s.2.1 s.2.2.1 s.2.2.2.1 s.2.2.2.2.1 s.2.2.2.2.2.1 s.2.2.2.2.2.2.1 s.2.2.2.2.2.2.2.1 s.2.2.2.2.2.2.2.2.1 s.2.2.2.2.2.2.2.2.2.1 s.2.2.2.2.2.2.2.2.2.2) (fun s z h1 h2 h3 => hs s.1 s.2.1 s.2.2.1 s.2.2.2.1 s.2.2.2.2.1 s.2.2.2.2.2.1 s.2.2.2.2.2.2.1 s.2.2.2.2.2.2.2.1 s.2.2.2.2.2.2.2.2.1 s.2.2.2.2.2.2.2.2.2.1 s.2.2.2.2.2.2.2.2.2.2 z h1 (fun a0' a1' a2' a3' a4' a5' a6' a7' a8' a9' a10' e => h2 (a0', a1', a2', a3', a4', a5', a6', a7', a8', a9', a10') e) h3) _ h
theorem zi11_l {A0 A1 A2 A3 A4 A5 A6 A7 A8 A9 A10 ρ : Type} {f : A0 → A1 → A2 → A3 → A4 → A5 → A6 → A7 → A8 → A9 → A10 → Option ((A0 × A1 × A2 × A3 × A4 × A5 × A6 × A7 × A8 × A9 × A10) ⊕ ρ)} {a0 a0' : A0} {a1 a1' : A1} {a2 a2' : A2} {a3 a3' : A3} {a4 a4' : A4} {a5 a5' : A5} {a6 a6' : A6} {a7 a7' : A7} {a8 a8' : A8} {a9 a9' : A9} {a10 a10' : A10} {r : ρ} (h : f a0 a1 a2 a3 a4 a5 a6 a7 a8 a9 a10 = some (.inl (a0', a1', a2', a3', a4', a5', a6', a7', a8', a9', a10'))) (h2 : zi11 f a0' a1' a2' a3' a4' a5' a6' a7' a8' a9' a10' = some r) : zi11 f a0 a1 a2 a3 a4 a5 a6 a7 a8 a9 a10 = some r := zit_l (s := (a0, a1, a2, a3, a4, a5, a6, a7, a8, a9, a10)) h h2
theorem zi11_r {A0 A1 A2 A3 A4 A5 A6 A7 A8 A9 A10 ρ : Type} {f : A0 → A1 → A2 → A3 → A4 → A5 → A6 → A7 → A8 → A9 → A10 → Option ((A0 × A1 × A2 × A3 × A4 × A5 × A6 × A7 × A8 × A9 × A10) ⊕ ρ)} {a0 : A0} {a1 : A1} {a2 : A2} {a3 : A3} {a4 : A4} {a5 : A5} {a6 : A6} {a7 : A7} {a8 : A8} {a9 : A9} {a10 : A10} {r : ρ} (h : f a0 a1 a2 a3 a4 a5 a6 a7 a8 a9 a10 = some (.inr r)) : zi11 f a0 a1 a2 a3 a4 a5 a6 a7 a8 a9 a10 = some r := zit_r (s := (a0, a1, a2, a3, a4, a5, a6, a7, a8, a9, a10)) h
def zb12 {A0 A1 A2 A3 A4 A5 A6 A7 A8 A9 A10 A11 ρ : Type} (o : Option (A0 × A1 × A2 × A3 × A4 × A5 × A6 × A7 × A8 × A9 × A10 × A11)) (k : A0 → A1 → A2 → A3 → A4 → A5 → A6 → A7 → A8 → A9 → A10 → A11 → Option ρ) : Option ρ := match o with
  | none => none
  | some (a0, a1, a2, a3, a4, a5, a6, a7, a8, a9, a10, a11) => k a0 a1 a2 a3 a4 a5 a6 a7 a8 a9 a10 a11
theorem zb12_s {A0 A1 A2 A3 A4 A5 A6 A7 A8 A9 A10 A11 ρ : Type} {o : Option (A0 × A1 × A2 × A3 × A4 × A5 × A6 × A7 × A8 × A9 × A10 × A11)} {k : A0 → A1 → A2 → A3 → A4 → A5 → A6 → A7 → A8 → A9 → A10 → A11 → Option ρ} {r : ρ} (h : zb12 o k = some r) : ∃ a0 a1 a2 a3 a4 a5 a6 a7 a8 a9 a10 a11, o = some (a0, a1, a2, a3, a4, a5, a6, a7, a8, a9, a10, a11) ∧ k a0 a1 a2 a3 a4 a5 a6 a7 a8 a9 a10 a11 = some r := by
  cases o with
  | none => cases h
  | some z => exact ⟨z.1, z.2.1, z.2.2.1, z.2.2.2.1, z.2.2.2.2.1, z.2.2.2.2.2.1, z.2.2.2.2.2.2.1, z.2.2.2.2.2.2.2.1, z.2.2.2.2.2.2.2.2.1, z.2.2.2.2.2.2.2.2.2.1, z.2.2.2.2.2.2.2.2.2.2.1, z.2.2.2.2.2.2.2.2.2.2.2, rfl, h⟩
theorem zb12_t {A0 A1 A2 A3 A4 A5 A6 A7 A8 A9 A10 A11 ρ : Type} {o : Option (A0 × A1 × A2 × A3 × A4 × A5 × A6 × A7 × A8 × A9 × A10 × A11)} {a0 : A0} {a1 : A1} {a2 : A2} {a3 : A3} {a4 : A4} {a5 : A5} {a6 : A6} {a7 : A7} {a8 : A8} {a9 : A9} {a10 : A10} {a11 : A11} (h : o = some (a0, a1, a2, a3, a4, a5, a6, a7, a8, a9, a10, a11)) (k : A0 → A1 → A2 → A3 → A4 → A5 → A6 → A7 → A8 → A9 → A10 → A11 → Option ρ) : zb12 o k = k a0 a1 a2 a3 a4 a5 a6 a7 a8 a9 a10 a11 := by rw [h]; rfl
noncomputable def zi12 {A0 A1 A2 A3 A4 A5 A6 A7 A8 A9 A10 A11 ρ : Type} (f : A0 → A1 → A2 → A3 → A4 → A5 → A6 → A7 → A8 → A9 → A10 → A11 → Option ((A0 × A1 × A2 × A3 × A4 × A5 × A6 × A7 × A8 × A9 × A10 × A11) ⊕ ρ)) (a0 : A0) (a1 : A1) (a2 : A2) (a3 : A3) (a4 : A4) (a5 : A5) (a6 : A6) (a7 : A7) (a8 : A8) (a9 : A9) (a10 : A10) (a11 : A11) : Option ρ := zit (fun s : A0 × A1 × A2 × A3 × A4 × A5 × A6 × A7 × A8 × A9 × A10 × A11 => f s.1 s.2.1 s.2.2.1 s.2.2.2.1 s.2.2.2.2.1 s.2.2.2.2.2.1 s.2.2.2.2.2.2.1 s.2.2.2.2.2.2.2.1 s.2.2.2.2.2.2.2.2.1 s.2.2.2.2.2.2.2.2.2.1 s.2.2.2.2.2.2.2.2.2.2.1 s.2.2.2.2.2.2.2.2.2.2.2) (a0, a1, a2, a3, a4, a5, a6, a7, a8, a9, a10, a11)
theorem zi12_ind {A0 A1 A2 A3 A4 A5 A6 A7 A8 A9 A10 A11 ρ : Type} {f : A0 → A1 → A2 → A3 → A4 → A5 → A6 → A7 → A8 → A9 → A10 → A11 → Option ((A0 × A1 × A2 × A3 × A4 × A5 × A6 × A7 × A8 × A9 × A10 × A11) ⊕ ρ)} {r : ρ} (P : A0 → A1 → A2 → A3 → A4 → A5 → A6 → A7 → A8 → A9 → A10 → A11 → Prop) (hs : ∀ a0 a1 a2 a3 a4 a5 a6 a7 a8 a9 a10 a11 z, f a0 a1 a2 a3 a4 a5 a6 a7 a8 a9 a10 a11 = some z → (∀ a0' a1' a2' a3' a4' a5' a6' a7' a8' a9' a10' a11', z = .inl (a0', a1', a2', a3', a4', a5', a6', a7', a8', a9', a10', a11') → P a0' a1' a2' a3' a4' a5' a6' a7' a8' a9' a10' a11') → (∀ r', z = .inr r' → r' = r) → P a0 a1 a2 a3 a4 a5 a6 a7 a8 a9 a10 a11) {a0 : A0} {a1 : A1} {a2 : A2} {a3 : A3} {a4 : A4} {a5 : A5} {a6 : A6} {a7 : A7} {a8 : A8} {a9 : A9} {a10 : A10} {a11 : A11} (h : zi12 f a0 a1 a2 a3 a4 a5 a6 a7 a8 a9 a10 a11 = some r) : P a0 a1 a2 a3 a4 a5 a6 a7 a8 a9 a10 a11 :=
  zit_ind (fun s : A0 × A1 × A2 × A3 × A4 × A5 × A6 × A7 × A8 × A9 × A10 × A11 => P s.1 s.2.1 s.2.2.1 s.2.2.2.1 s.2.2.2.2.1 s.2.2.2.2.2.1 s.2.2.2.2.2.2.1 s.2.2.2.2.2.2.2.1 s.2.2.2.2.2.2.2.2.1 s.2.2.2.2.2.2.2.2.2.1 s.2.2.2.2.2.2.2.2.2.2.1 s.2.2.2.2.2.2.2.2.2.2.2) (fun s z h1 h2 h3 => hs s.1 s.2.1 s.2.2.1 s.2.2.2.1 s.2.2.2.2.1 s.2.2.2.2.2.1 s.2.2.2.2.2.2.1 s.2.2.2.2.2.2.2.1 s.2.2.2.2.2.2.2.2.1 s.2.2.2.2.2.2.2.2.2.1 s.2.2.2.2.2.2.2.2.2.2.1 s.2.2.2.2.2.2.2.2.2.2.2 z h1 (fun a0' a1' a2' a3' a4' a5' a6' a7' a8' a9' a10' a11' e => h2 (a0', a1', a2', a3', a4', a5', a6', a7', a8', a9', a10', a11') e) h3) _ h
theorem zi12_l {A0 A1 A2 A3 A4 A5 A6 A7 A8 A9 A10 A11 ρ : Type} {f : A0 → A1 → A2 → A3 → A4 → A5 → A6 → A7 → A8 → A9 → A10 → A11 → Option ((A0 × A1 × A2 × A3 × A4 × A5 × A6 × A7 × A8 × A9 × A10 × A11) ⊕ ρ)} {a0 a0' : A0} {a1 a1' : A1} {a2 a2' : A2} {a3 a3' : A3} {a4 a4' : A4} {a5 a5' : A5} {a6 a6' : A6} {a7 a7' : A7} {a8 a8' : A8} {a9 a9' : A9} {a10 a10' : A10} {a11 a11' : A11} {r : ρ} (h : f a0 a1 a2 a3 a4 a5 a6 a7 a8 a9 a10 a11 = some (.inl (a0', a1', a2', a3', a4', a5', a6', a7', a8', a9', a10', a11'))) (h2 : zi12 f a0' a1' a2' a3' a4' a5' a6' a7' a8' a9' a10' a11' = some r) : zi12 f a0 a1 a2 a3 a4 a5 a6 a7 a8 a9 a10 a11 = some r := zit_l (s := (a0, a1, a2, a3, a4, a5, a6, a7, a8, a9, a10, a11)) h h2
theorem zi12_r {A0 A1 A2 A3 A4 A5 A6 A7 A8 A9 A10 A11 ρ : Type} {f : A0 → A1 → A2 → A3 → A4 → A5 → A6 → A7 → A8 → A9 → A10 → A11 → Option ((A0 × A1 × A2 × A3 × A4 × A5 × A6 × A7 × A8 × A9 × A10 × A11) ⊕ ρ)} {a0 : A0} {a1 : A1} {a2 : A2} {a3 : A3} {a4 : A4} {a5 : A5} {a6 : A6} {a7 : A7} {a8 : A8} {a9 : A9} {a10 : A10} {a11 : A11} {r : ρ} (h : f a0 a1 a2 a3 a4 a5 a6 a7 a8 a9 a10 a11 = some (.inr r)) : zi12 f a0 a1 a2 a3 a4 a5 a6 a7 a8 a9 a10 a11 = some r := zit_r (s := (a0, a1, a2, a3, a4, a5, a6, a7, a8, a9, a10, a11)) h
/-! worlds: the cells of each kind of object; s: its numbers by slot; a: its rows by slot; p: the addresses of its rows; j: its longs -/
abbrev zTY (cI cB cO : ClassId) : List (ClassId × FieldType) := [(cI, .int), (cB, .byte), (cO, .object RX1)]
def zwP (cI : ClassId) (o : Nat) (p : Nat → Nat) (s : Nat → Int32) (a : Nat → Nat → Int32) : va_W := [(o, .inr (2, [.ref (p 0), .int (s 1)])), (p 0, .inl (cI, 18, .inl (a 0)))]
def zwG (cI : ClassId) (o : Nat) (p : Nat → Nat) (s : Nat → Int32) (a : Nat → Nat → Int32) : va_W := [(o, .inr (0, [.int (s 0), .int (s 1), .int (s 2), .ref (p 3)])), (p 3, .inl (cI, 96, .inl (a 3)))]
def zwS (cI : ClassId) (o : Nat) (p : Nat → Nat) (g : Nat) (s : Nat → Int32) (a : Nat → Nat → Int32) : va_W := [(o, .inr (4, [.ref g, .int (s 1), .int (s 2), .int (s 3), .int (s 4), .ref (p 5), .ref (p 6), .ref (p 7)])), (p 5, .inl (cI, 8, .inl (a 5))), (p 6, .inl (cI, 8, .inl (a 6))), (p 7, .inl (cI, 12, .inl (a 7)))]
def zwQ (cI : ClassId) (o : Nat) (p : Nat → Nat) (s : Nat → Int32) (a : Nat → Nat → Int32) : va_W := [(o, .inr (3, [.ref (p 0), .ref (p 1), .int (s 2)])), (p 0, .inl (cI, 6, .inl (a 0))), (p 1, .inl (cI, 6, .inl (a 1)))]
def zwO (o : Nat) (s : Nat → Int32) : va_W := [(o, .inr (1, [.int (s 0), .int (s 1), .int (s 2), .int (s 3), .int (s 4), .int (s 5), .int (s 6), .int (s 7), .int (s 8)]))]
def zwM (cI cB : ClassId) (o : Nat) (p : Nat → Nat) (s : Nat → Int32) (j : Nat → Int64) (a : Nat → Nat → Int32) : va_W := [(o, .inr (6, [.int (s 0), .int (s 1), .int (s 2), .int (s 3), .int (s 4), .ref (p 5), .ref (p 6), .int (s 7), .int (s 8), .int (s 9), .ref (p 10), .ref (p 11), .ref (p 12), .int (s 13), .ref (p 14), .int (s 15), .int (s 16), .ref (p 17), .ref (p 18), .ref (p 19), .ref (p 20), .ref (p 21), .ref (p 22), .ref (p 23), .ref (p 24), .ref (p 25), .ref (p 26), .ref (p 27), .long (j 28), .int (s 29), .int (s 30), .int (s 31), .int (s 32), .int (s 33), .ref (p 34), .ref (p 35), .ref (p 36), .ref (p 37), .ref (p 38), .long (j 39)])), (p 5, .inl (cI, 8, .inl (a 5))), (p 6, .inl (cI, 8, .inl (a 6))), (p 10, .inl (cI, 6, .inl (a 10))), (p 11, .inl (cI, 6, .inl (a 11))), (p 12, .inl (cI, 6, .inl (a 12))), (p 14, .inl (cB, 18, .inl (a 14))), (p 17, .inl (cI, 72, .inl (a 17))), (p 18, .inl (cI, 9, .inl (a 18))), (p 19, .inl (cI, 9, .inl (a 19))), (p 20, .inl (cI, 9, .inl (a 20))), (p 21, .inl (cI, 9, .inl (a 21))), (p 22, .inl (cI, 9, .inl (a 22))), (p 23, .inl (cI, 9, .inl (a 23))), (p 24, .inl (cI, 9, .inl (a 24))), (p 25, .inl (cI, 9, .inl (a 25))), (p 26, .inl (cI, 9, .inl (a 26))), (p 27, .inl (cI, 9, .inl (a 27))), (p 34, .inl (cI, 8, .inl (a 34))), (p 35, .inl (cI, 8, .inl (a 35))), (p 36, .inl (cI, 6, .inl (a 36))), (p 37, .inl (cI, 6, .inl (a 37))), (p 38, .inl (cI, 6, .inl (a 38)))]
def zwR (cO : ClassId) (ra : Nat) (oo : Nat → Nat) : va_W := [(ra, .inl (cO, 9, .inr (.inr (.inr (.inr (fun k => if k < 9 then some (oo k) else none))))))]
def zwX (o Po Go No Qo Ko Lo To : Nat) (oo : Nat → Nat) (ra : Nat) (s : Nat → Int32) : va_W := [(o, .inr (5, [.ref Po, .ref Go, .ref No, .ref Qo, .ref Ko, .ref Lo, .int (s 6), .ref To, .ref (oo 0), .ref ra, .int (s 10), .int (s 11), .int (s 12)]))]
/-! the tables that nobody writes, and the words on private members of nest mates -/
def zKL : Nat → Int32 := fun k => match k with | 0 => 112 | 1 => 120 | 2 => 115 | 3 => 102 | _ => 98
def zTA : Nat → Int32 := fun k => match k with | 0 => 31 | 1 => 18 | 2 => 4 | 3 => 8 | _ => 16
def zWC : Nat → Int32 := fun k => match k with | 0 => 29 | 1 => 18 | 2 => 27 | _ => 23
def zRS : Nat → Int32 := fun k => match k with | 0 => -1 | 1 => -1 | 2 => -1 | 3 => 0 | 4 => 0 | 5 => 1 | 6 => 1 | _ => 1
def zCS : Nat → Int32 := fun k => match k with | 0 => -1 | 1 => 0 | 2 => 1 | 3 => -1 | 4 => 1 | 5 => -1 | 6 => 0 | _ => 1
def zWG : Nat → Int32 := fun k => match k with | 0 => 18 | 1 => 29 | 2 => 18 | 3 => 29 | 4 => 29 | 5 => 18 | 6 => 29 | _ => 18
def zTb (n d : String) (ty : FieldType) (N : Nat) (f : Nat → Int32) (A : Nat → Prop) (U : State) (H : Heap) : Prop := ∃ t : Nat, va_Z "PegField" n d (.ref t) A U H ∧ va_T ty t N (fun j => .int (f j)) A U H
theorem zTb.call {n d : String} {ty : FieldType} {N : Nat} {f : Nat → Int32} {A A1 : Nat → Prop} {s U : State} {H0 H : Heap} (h : zTb n d ty N f A s H0) (hv : s.vm.Alike U.vm) (hq : ∀ a : Nat, a < H0.size → ¬ A a → H[a]? = H0[a]?) (hF : ∀ q, A1 q → A q) : zTb n d ty N f A1 U H := by
  obtain ⟨t, h1, h2⟩ := h
  exact ⟨t, ((h1.kept hq).narrow hF).moved hv, ((h2.kept hq).narrow hF).moved hv⟩
def zSta (A : Nat → Prop) (U : State) (H : Heap) : Prop := zTb "KIND_LETTERS" "[C" .char 5 zKL A U H ∧ zTb "TAKEN_AS" "[I" .int 5 zTA A U H ∧ zTb "WHO_COULD" "[I" .int 4 zWC A U H ∧ zTb "ROW_STEPS" "[I" .int 8 zRS A U H ∧ zTb "COLUMN_STEPS" "[I" .int 8 zCS A U H ∧ zTb "WHO_GOES" "[I" .int 8 zWG A U H
theorem zSta.call {A A1 : Nat → Prop} {s U : State} {H0 H : Heap} (h : zSta A s H0) (hv : s.vm.Alike U.vm) (hq : ∀ a : Nat, a < H0.size → ¬ A a → H[a]? = H0[a]?) (hF : ∀ q, A1 q → A q) : zSta A1 U H :=
  ⟨h.1.call hv hq hF, h.2.1.call hv hq hF, h.2.2.1.call hv hq hF, h.2.2.2.1.call hv hq hF, h.2.2.2.2.1.call hv hq hF, h.2.2.2.2.2.call hv hq hF⟩
def zNW : List Cond := [.fieldLinkNest RX5 140 "PegField$State" "jumps" "I" "PegField", .fieldLinkNest RX5 150 "PegField$State" "onBoard" "I" "PegField", .fieldLinkNest RX5 159 "PegField$State" "holes" "I" "PegField", .fieldLinkNest RX5 173 "PegField$Outcome" "fewest" "I" "PegField", .fieldLinkNest RX5 176 "PegField$Outcome" "first" "I" "PegField", .fieldLinkNest RX5 179 "PegField$Outcome" "ways" "I" "PegField", .fieldLinkNest RX5 182 "PegField$Outcome" "longest" "I" "PegField", .fieldLinkNest RX5 185 "PegField$Outcome" "shortest" "I" "PegField", .fieldLinkNest RX5 188 "PegField$Outcome" "alone" "I" "PegField", .fieldLinkNest RX5 191 "PegField$Outcome" "winning" "I" "PegField", .fieldLinkNest RX5 200 "PegField$Outcome" "mean" "I" "PegField", .fieldLinkNest RX5 228 "PegField$Grid" "rows" "I" "PegField", .fieldLinkNest RX5 231 "PegField$Grid" "columns" "I" "PegField", .fieldLinkNest RX5 241 "PegField$Grid" "places" "I" "PegField", .fieldLinkNest RX5 63 "PegField$Page" "size" "I" "PegField", .fieldLinkNest RX5 87 "PegField$Seen" "size" "I" "PegField", .fieldLinkNest RX5 98 "PegField$State" "pegs" "I" "PegField", .fieldLinkNest RX0 25 "PegField" "ROW_STEPS" "[I" "PegField", .fieldLinkNest RX0 28 "PegField" "COLUMN_STEPS" "[I" "PegField", .fieldLinkNest RX2 23 "PegField" "KIND_LETTERS" "[C" "PegField", .fieldLinkNest RX4 38 "PegField$Grid" "places" "I" "PegField", .methodLinkNest RX5 11 yX2_init "PegField", .methodLinkNest RX5 18 yX0_init "PegField", .methodLinkNest RX5 34 yX3_init "PegField", .methodLinkNest RX5 50 yX1_init "PegField", .methodLinkNest RX4 66 yX5_hasBit "PegField", .methodLinkNest RX4 83 yX5_kindGoes "PegField", .methodLinkNest RX4 86 yX5_kindCould "PegField"]
def zNs (U : State) : Prop := (∀ w ∈ zNW, va_Nw w U) ∧ va_AO RX1 U
theorem zNW_warm : ∀ w ∈ zNW, ∀ s U : State, s.WarmedH U.vm → va_Nw w s → va_Nw w U := List.forall_mem_cons.mpr ⟨fun _ _ hW h => va_Nw.warmF hW h, List.forall_mem_cons.mpr ⟨fun _ _ hW h => va_Nw.warmF hW h, List.forall_mem_cons.mpr ⟨fun _ _ hW h => va_Nw.warmF hW h, List.forall_mem_cons.mpr ⟨fun _ _ hW h => va_Nw.warmF hW h, List.forall_mem_cons.mpr ⟨fun _ _ hW h => va_Nw.warmF hW h, List.forall_mem_cons.mpr ⟨fun _ _ hW h => va_Nw.warmF hW h, List.forall_mem_cons.mpr ⟨fun _ _ hW h => va_Nw.warmF hW h, List.forall_mem_cons.mpr ⟨fun _ _ hW h => va_Nw.warmF hW h, List.forall_mem_cons.mpr ⟨fun _ _ hW h => va_Nw.warmF hW h, List.forall_mem_cons.mpr ⟨fun _ _ hW h => va_Nw.warmF hW h, List.forall_mem_cons.mpr ⟨fun _ _ hW h => va_Nw.warmF hW h, List.forall_mem_cons.mpr ⟨fun _ _ hW h => va_Nw.warmF hW h, List.forall_mem_cons.mpr ⟨fun _ _ hW h => va_Nw.warmF hW h, List.forall_mem_cons.mpr ⟨fun _ _ hW h => va_Nw.warmF hW h, List.forall_mem_cons.mpr ⟨fun _ _ hW h => va_Nw.warmF hW h, List.forall_mem_cons.mpr ⟨fun _ _ hW h => va_Nw.warmF hW h, List.forall_mem_cons.mpr ⟨fun _ _ hW h => va_Nw.warmF hW h, List.forall_mem_cons.mpr ⟨fun _ _ hW h => va_Nw.warmF hW h, List.forall_mem_cons.mpr ⟨fun _ _ hW h => va_Nw.warmF hW h, List.forall_mem_cons.mpr ⟨fun _ _ hW h => va_Nw.warmF hW h, List.forall_mem_cons.mpr ⟨fun _ _ hW h => va_Nw.warmF hW h, List.forall_mem_cons.mpr ⟨fun _ _ hW h => va_Nw.warmM hW h, List.forall_mem_cons.mpr ⟨fun _ _ hW h => va_Nw.warmM hW h, List.forall_mem_cons.mpr ⟨fun _ _ hW h => va_Nw.warmM hW h, List.forall_mem_cons.mpr ⟨fun _ _ hW h => va_Nw.warmM hW h, List.forall_mem_cons.mpr ⟨fun _ _ hW h => va_Nw.warmM hW h, List.forall_mem_cons.mpr ⟨fun _ _ hW h => va_Nw.warmM hW h, List.forall_mem_cons.mpr ⟨fun _ _ hW h => va_Nw.warmM hW h, fun _ h => absurd h List.not_mem_nil⟩⟩⟩⟩⟩⟩⟩⟩⟩⟩⟩⟩⟩⟩⟩⟩⟩⟩⟩⟩⟩⟩⟩⟩⟩⟩⟩⟩
theorem zNW_tab : ∀ w ∈ zNW, w.onTables = true := List.forall_mem_cons.mpr ⟨rfl, List.forall_mem_cons.mpr ⟨rfl, List.forall_mem_cons.mpr ⟨rfl, List.forall_mem_cons.mpr ⟨rfl, List.forall_mem_cons.mpr ⟨rfl, List.forall_mem_cons.mpr ⟨rfl, List.forall_mem_cons.mpr ⟨rfl, List.forall_mem_cons.mpr ⟨rfl, List.forall_mem_cons.mpr ⟨rfl, List.forall_mem_cons.mpr ⟨rfl, List.forall_mem_cons.mpr ⟨rfl, List.forall_mem_cons.mpr ⟨rfl, List.forall_mem_cons.mpr ⟨rfl, List.forall_mem_cons.mpr ⟨rfl, List.forall_mem_cons.mpr ⟨rfl, List.forall_mem_cons.mpr ⟨rfl, List.forall_mem_cons.mpr ⟨rfl, List.forall_mem_cons.mpr ⟨rfl, List.forall_mem_cons.mpr ⟨rfl, List.forall_mem_cons.mpr ⟨rfl, List.forall_mem_cons.mpr ⟨rfl, List.forall_mem_cons.mpr ⟨rfl, List.forall_mem_cons.mpr ⟨rfl, List.forall_mem_cons.mpr ⟨rfl, List.forall_mem_cons.mpr ⟨rfl, List.forall_mem_cons.mpr ⟨rfl, List.forall_mem_cons.mpr ⟨rfl, List.forall_mem_cons.mpr ⟨rfl, fun _ h => absurd h List.not_mem_nil⟩⟩⟩⟩⟩⟩⟩⟩⟩⟩⟩⟩⟩⟩⟩⟩⟩⟩⟩⟩⟩⟩⟩⟩⟩⟩⟩⟩
theorem zNs.warm {s U : State} (hW : s.WarmedH U.vm) (h : zNs s) : zNs U := ⟨fun w hw => zNW_warm w hw s U hW (h.1 w hw), h.2.moved hW.alike⟩
theorem zNs.same {s U : State} (hv : s.vm = U.vm) (h : zNs s) : zNs U := ⟨fun w hw => (h.1 w hw).same (zNW_tab w hw) hv, h.2.moved (hv ▸ Vm.Alike.refl s.vm)⟩
theorem zNs.use {s : State} {args : Array Value} (h : zNs s) {w : Cond} (hw : w ∈ zNW) : w.before args s = true := (h.1 w hw).use (zNW_tab w hw)
def zEnv (A : Nat → Prop) (U : State) (H : Heap) : Prop := zSta A U H ∧ zNs U
/-- a method's start and end: its world, the classes, the tables -/
def zPre (D : va_G) (T : List (ClassId × FieldType)) (w : va_W) (sz : Nat) : State → Prop := fun U => U.heap.size = sz ∧ va_P D vwCl w U.heap ∧ va_K D vwCl T U ∧ va_D (fun _ => True) w ∧ zEnv (va_A w sz) U U.heap
def zPost (D : va_G) (T : List (ClassId × FieldType)) (w : va_W) (A : Nat → Prop) : State → Prop := fun t => va_P D vwCl w t.heap ∧ va_K D vwCl T t ∧ va_D A w
theorem zpost {D : va_G} {T : List (ClassId × FieldType)} {w : va_W} {A : Nat → Prop} {H : Heap} {s t : State} (hP : va_P D vwCl w H) (hK : va_K D vwCl T s) (hD : va_D A w) (ht : t.heap = H) (hW : s.WarmedH t.vm) : zPost D T w A t := ⟨by rw [ht]; exact hP, va_K.moved hW.alike hK, hD⟩
theorem zblind {D : va_G} {T : List (ClassId × FieldType)} {w : va_W} {sz : Nat} {av : List Value} : FrameBlind (va_Pc av (zPre D T w sz)) := by
  intro a U g mk q
  obtain ⟨q0, q1, qP, qK, qD, qS, qN⟩ := q
  exact ⟨q0, q1, qP, va_K.moved (u := U) (U := U.calling g mk a) (Vm.Alike.refl U.vm) qK, qD, qS.call (Vm.Alike.refl U.vm) (fun _ _ _ => rfl) (fun _ h => h), zNs.same (s := U) (U := U.calling g mk a) rfl qN⟩
theorem zfm {α β : Type} {f : α → Option β} : ∀ {l : List α} {m : List β}, l.map f = m.map some → l.filterMap f = m
  | [], [], _ => rfl
  | [], _ :: _, h => by cases h
  | _ :: _, [], h => by cases h
  | a :: l, b :: m, h => by
    rw [List.map_cons, List.map_cons] at h
    injection h with h1 h2
    rw [List.filterMap_cons, h1]
    exact congrArg (b :: ·) (zfm h2)
theorem zpre {D : va_G} {T : List (ClassId × FieldType)} {w wc : va_W} {A : Nat → Prop} {s : State} {H : Heap} {locs : List Loc} (hK : va_K D vwCl T s) (hP : va_P D vwCl w H) (hD : va_D A w) (hS : va_S A s.heap H locs) (hE : zEnv A s s.heap) (hF : ∀ q, va_A wc H.size q → A q) (isC : List Nat) (hC : isC.map (fun i => w[i]?) = wc.map some) (hn : va_nd isC = true) (As : List Value) : ∀ U : State, U.heap = H → s.WarmedH U.vm → va_Pc As (zPre D T wc H.size) As.toArray U := by
  intro U hU hW
  refine ⟨rfl, by rw [hU], by rw [hU]; exact hP.sub isC (zfm hC), va_K.moved hW.alike hK, (hD.sub isC hn hC).weaken (fun _ _ _ _ => trivial), ?_, hE.2.warm hW⟩
  rw [hU]
  exact hE.1.call hW.alike hS.2.1 hF
theorem zpreV {D : va_G} {T : List (ClassId × FieldType)} {w wc : va_W} {A : Nat → Prop} {s : State} {H : Heap} {locs : List Loc} (hK : va_K D vwCl T s) (hP : va_P D vwCl w H) (hD : va_D A w) (hS : va_S A s.heap H locs) (hE : zEnv A s s.heap) (hF : ∀ q, va_A wc H.size q → A q) (isC : List Nat) (hC : isC.map (fun i => w[i]?) = wc.map some) (hn : va_nd isC = true) (q0 : Nat) {ci b : Nat} {fs : List Value} {q : vw_C} (hc : vwCl[ci]? = some q) (he : w[q0]? = some (b, .inr (ci, fs))) (As : List Value) : PreV s H q.1 b (va_Pc (.ref b :: As) (zPre D T wc H.size)) As :=
  ⟨zblind, va_recv hK hP hc he, zpre hK hP hD hS hE hF isC hC hn (.ref b :: As)⟩
theorem zpreS {D : va_G} {T : List (ClassId × FieldType)} {w wc : va_W} {A : Nat → Prop} {s : State} {H : Heap} {locs : List Loc} (hK : va_K D vwCl T s) (hP : va_P D vwCl w H) (hD : va_D A w) (hS : va_S A s.heap H locs) (hE : zEnv A s s.heap) (hF : ∀ q, va_A wc H.size q → A q) (isC : List Nat) (hC : isC.map (fun i => w[i]?) = wc.map some) (hn : va_nd isC = true) (As : List Value) : PreS s H (va_Pc As (zPre D T wc H.size)) As :=
  ⟨zblind, zpre hK hP hD hS hE hF isC hC hn As⟩
theorem zjoin {D : va_G} {T : List (ClassId × FieldType)} {w wc w1 w2 : va_W} {A : Nat → Prop} {H H1 : Heap} {t : State} (hP : va_P D vwCl w H) (hD : va_D A w) (isC isR pm : List Nat) (hC : isC.map (fun i => w[i]?) = wc.map some) (hn : va_nd isR = true) (hdis : ∀ i ∈ isR, i ∉ isC) (hlt : ∀ i ∈ isR, i < w.length)
    (hF : ∀ q, va_A wc H.size q → A q) (hk : ∀ q : Nat, q < H.size → ¬ va_A wc H.size q → H1[q]? = H[q]?) (hB : zPost D T w1 (va_A wc H.size) t) (ht : t.heap = H1) (hpn : va_nd pm = true) (hpm : pm.map (fun i => (isR.filterMap (fun i => w[i]?) ++ w1)[i]?) = w2.map some) : va_P D vwCl w2 H1 ∧ va_D A w2 := by
  obtain ⟨hP1, -, hD1⟩ := hB
  rw [ht] at hP1
  have hR : isR.map (fun i => w[i]?) = (isR.filterMap (fun i => w[i]?)).map some := by
    clear hpm hdis hn
    induction isR with
    | nil => rfl
    | cons a l ih =>
      have hl := hlt a List.mem_cons_self
      rw [List.map_cons, List.filterMap_cons, List.getElem?_eq_getElem hl, ih (fun i hi => hlt i (List.mem_cons_of_mem _ hi))]
      rfl
  obtain ⟨a, b⟩ := va_join hP hD isC isR hC hR hn hdis hk hF hP1 hD1
  exact ⟨a.sub pm (zfm hpm), b.sub pm hpn hpm⟩
theorem zne_i {x : Int32} {k : Int} (y : Int32) (hk : y.toInt = k) (h : ¬ x = y) : ¬ x.toInt = k := fun e => h (Int32.toInt_inj.mp (e.trans hk.symm))
theorem zlk (l : List (Int × Int)) (dflt k : Int) (h : ∀ q ∈ l, ¬ k = q.1) : Op.lookupswitch.offset l dflt k = dflt := by
  induction l with
  | nil => rfl
  | cons q r ih =>
    obtain ⟨a, o⟩ := q
    rw [Op.lookupswitch.offset_cons, if_neg (fun e => h (a, o) List.mem_cons_self e.symm)]
    exact ih (fun q hq => h q (List.mem_cons_of_mem _ hq))
def zbt {α β γ ρ : Type} (o : Option (α ⊕ (β ⊕ γ))) (k1 : α → Option ρ) (k2 : β → Option ρ) (k3 : γ → Option ρ) : Option ρ := match o with
  | none => none
  | some (.inl a) => k1 a
  | some (.inr (.inl b)) => k2 b
  | some (.inr (.inr b)) => k3 b
theorem zbt_s {α β γ ρ : Type} {o : Option (α ⊕ (β ⊕ γ))} {k1 : α → Option ρ} {k2 : β → Option ρ} {k3 : γ → Option ρ} {r : ρ} (h : zbt o k1 k2 k3 = some r) : ∃ z, o = some z ∧ (∀ a, z = .inl a → k1 a = some r) ∧ (∀ b, z = .inr (.inl b) → k2 b = some r) ∧ (∀ b, z = .inr (.inr b) → k3 b = some r) := by
  cases o with
  | none => cases h
  | some z => exact ⟨z, rfl, fun a e => by subst e; exact h, fun b e => by subst e; exact h, fun b e => by subst e; exact h⟩
def zu2 {A0 A1 ρ : Type} (k : A0 → A1 → ρ) (q : A0 × A1) : ρ := k q.1 q.2
def zu3 {A0 A1 A2 ρ : Type} (k : A0 → A1 → A2 → ρ) (q : A0 × A1 × A2) : ρ := k q.1 q.2.1 q.2.2
def zu4 {A0 A1 A2 A3 ρ : Type} (k : A0 → A1 → A2 → A3 → ρ) (q : A0 × A1 × A2 × A3) : ρ := k q.1 q.2.1 q.2.2.1 q.2.2.2
def zu5 {A0 A1 A2 A3 A4 ρ : Type} (k : A0 → A1 → A2 → A3 → A4 → ρ) (q : A0 × A1 × A2 × A3 × A4) : ρ := k q.1 q.2.1 q.2.2.1 q.2.2.2.1 q.2.2.2.2
def zu6 {A0 A1 A2 A3 A4 A5 ρ : Type} (k : A0 → A1 → A2 → A3 → A4 → A5 → ρ) (q : A0 × A1 × A2 × A3 × A4 × A5) : ρ := k q.1 q.2.1 q.2.2.1 q.2.2.2.1 q.2.2.2.2.1 q.2.2.2.2.2
def zu7 {A0 A1 A2 A3 A4 A5 A6 ρ : Type} (k : A0 → A1 → A2 → A3 → A4 → A5 → A6 → ρ) (q : A0 × A1 × A2 × A3 × A4 × A5 × A6) : ρ := k q.1 q.2.1 q.2.2.1 q.2.2.2.1 q.2.2.2.2.1 q.2.2.2.2.2.1 q.2.2.2.2.2.2
def zu8 {A0 A1 A2 A3 A4 A5 A6 A7 ρ : Type} (k : A0 → A1 → A2 → A3 → A4 → A5 → A6 → A7 → ρ) (q : A0 × A1 × A2 × A3 × A4 × A5 × A6 × A7) : ρ := k q.1 q.2.1 q.2.2.1 q.2.2.2.1 q.2.2.2.2.1 q.2.2.2.2.2.1 q.2.2.2.2.2.2.1 q.2.2.2.2.2.2.2
theorem zmet_i {l : Launch} {y : MethodName} {ws ws' : List Cond} {rm : Room} {av : List Value} {D : va_G} {T : List (ClassId × FieldType)} {w w1 : va_W} {sz : Nat} {cc : ByteArray} {maxL : Nat} {rv : Int32} (hy : plainName y.cls = true) (hw : ws = Cond.code y cc maxL (some .int) :: ws') (hlen : (lg_sl av).length ≤ maxL) (hrc : rm.cells = 0) (hrs : rm.slots = 0)
    (body : ∀ (p : Program) (e : Env) (s : State) (m : MethodId) (args : Array Value) (below : List Frame) (meth : Method) (c : Code) (R : Room) (Q : State → Prop) (A : Nat → Prop) (ls : Array Slot), p.tables.exec = Jvm.exec → c.code = cc → (∀ w ∈ ws, w.before args s = true) → s.vm.findClass y.cls = some m.cls → c.maxLocals = maxL → va_K D vwCl T s → va_P D vwCl w s.heap → va_D A w → zEnv A s s.heap → (∀ q : Nat, s.heap.size ≤ q → A q) → va_S A s.heap s.heap [] → rm.frames ≤ R.frames → rm.locals ≤ R.locals → lv_has ls maxL (lv_args 0 av) →
      (∀ {H : Heap} {locs : List Loc} {pc : Nat} {ls : Array Slot}, va_P D vwCl w1 H → va_D A w1 → va_S A s.heap H locs → decode cc pc = .ok (.ireturn, 1) → W p l e R s m args below meth c H locs 0 0 Q (F0 m pc ls [.int rv])) →
      W p l e R s m args below meth c s.heap [] 0 0 Q (F0 m 0 ls [])) : Met l y ws rm (va_Pc av (zPre D T w sz)) (va_Qi (fun r (_ : Unit) => r = rv) (fun _ => zPost D T w1 (va_A w sz)) (va_A w sz)) 0 0 (va_A w sz) := by
  refine Met.ofW (cc := cc) (maxL := maxL) (ret := (some .int)) hy hw ?_
  intro p e s m args below meth c s₁ B hml hv
  obtain ⟨rfl, hsz, hP, hK, hD0, hE⟩ := hv
  have hx := B.exec
  have hb := B.bytes
  have hr := B.returns
  have hts := atoms_spec (ws := ws) B.pre
  have hown : s.vm.findClass y.cls = some m.cls := findClass_of_methodNamed B.named
  have hlocks := B.notSynchronized
  subst hsz
  have hD := hD0.self (sz := s.heap.size)
  generalize hAe : va_A w s.heap.size = A at hD hE ⊢
  have hA : ∀ q : Nat, s.heap.size ≤ q → A q := fun q h => by rw [← hAe]; exact Or.inr h
  have hl := lv_entry av (n := maxL) hlen
  rw [lg_entry_eq]
  refine body p e s m av.toArray below meth c (headSpec ws rm).room _ A _ hx hb hts hown hml hK hP hD hE hA va_S.rf (Nat.le_refl _) (Nat.le_refl _) hl ?_
  intro H locs pc ls hP hD hS hd
  exact W.iret hx hb hr (fun t ht hW => ⟨⟨_, (), rfl, rfl, zpost hP hK hD ht hW⟩, hS.F ht⟩) hS.2.2 hd hlocks
theorem zmet_z {l : Launch} {y : MethodName} {ws ws' : List Cond} {rm : Room} {av : List Value} {D : va_G} {T : List (ClassId × FieldType)} {w w1 : va_W} {sz : Nat} {cc : ByteArray} {maxL : Nat} {rv : Int32} (hy : plainName y.cls = true) (hw : ws = Cond.code y cc maxL (some .boolean) :: ws') (hlen : (lg_sl av).length ≤ maxL) (hrc : rm.cells = 0) (hrs : rm.slots = 0)
    (body : ∀ (p : Program) (e : Env) (s : State) (m : MethodId) (args : Array Value) (below : List Frame) (meth : Method) (c : Code) (R : Room) (Q : State → Prop) (A : Nat → Prop) (ls : Array Slot), p.tables.exec = Jvm.exec → c.code = cc → (∀ w ∈ ws, w.before args s = true) → s.vm.findClass y.cls = some m.cls → c.maxLocals = maxL → va_K D vwCl T s → va_P D vwCl w s.heap → va_D A w → zEnv A s s.heap → (∀ q : Nat, s.heap.size ≤ q → A q) → va_S A s.heap s.heap [] → rm.frames ≤ R.frames → rm.locals ≤ R.locals → lv_has ls maxL (lv_args 0 av) →
      (∀ {H : Heap} {locs : List Loc} {pc : Nat} {ls : Array Slot}, va_P D vwCl w1 H → va_D A w1 → va_S A s.heap H locs → narrow .boolean (.int rv) = .int rv → decode cc pc = .ok (.ireturn, 1) → W p l e R s m args below meth c H locs 0 0 Q (F0 m pc ls [.int rv])) →
      W p l e R s m args below meth c s.heap [] 0 0 Q (F0 m 0 ls [])) : Met l y ws rm (va_Pc av (zPre D T w sz)) (va_Qi (fun r (_ : Unit) => r = rv) (fun _ => zPost D T w1 (va_A w sz)) (va_A w sz)) 0 0 (va_A w sz) := by
  refine Met.ofW (cc := cc) (maxL := maxL) (ret := (some .boolean)) hy hw ?_
  intro p e s m args below meth c s₁ B hml hv
  obtain ⟨rfl, hsz, hP, hK, hD0, hE⟩ := hv
  have hx := B.exec
  have hb := B.bytes
  have hr := B.returns
  have hts := atoms_spec (ws := ws) B.pre
  have hown : s.vm.findClass y.cls = some m.cls := findClass_of_methodNamed B.named
  have hlocks := B.notSynchronized
  subst hsz
  have hD := hD0.self (sz := s.heap.size)
  generalize hAe : va_A w s.heap.size = A at hD hE ⊢
  have hA : ∀ q : Nat, s.heap.size ≤ q → A q := fun q h => by rw [← hAe]; exact Or.inr h
  have hl := lv_entry av (n := maxL) hlen
  rw [lg_entry_eq]
  refine body p e s m av.toArray below meth c (headSpec ws rm).room _ A _ hx hb hts hown hml hK hP hD hE hA va_S.rf (Nat.le_refl _) (Nat.le_refl _) hl ?_
  intro H locs pc ls hP hD hS hz hd
  exact W.zret hx hb hr hz (fun t ht hW => ⟨⟨_, (), rfl, rfl, zpost hP hK hD ht hW⟩, hS.F ht⟩) hS.2.2 hd hlocks
theorem zmet_l {l : Launch} {y : MethodName} {ws ws' : List Cond} {rm : Room} {av : List Value} {D : va_G} {T : List (ClassId × FieldType)} {w w1 : va_W} {sz : Nat} {cc : ByteArray} {maxL : Nat} {rv : Int64} (hy : plainName y.cls = true) (hw : ws = Cond.code y cc maxL (some .long) :: ws') (hlen : (lg_sl av).length ≤ maxL) (hrc : rm.cells = 0) (hrs : rm.slots = 0)
    (body : ∀ (p : Program) (e : Env) (s : State) (m : MethodId) (args : Array Value) (below : List Frame) (meth : Method) (c : Code) (R : Room) (Q : State → Prop) (A : Nat → Prop) (ls : Array Slot), p.tables.exec = Jvm.exec → c.code = cc → (∀ w ∈ ws, w.before args s = true) → s.vm.findClass y.cls = some m.cls → c.maxLocals = maxL → va_K D vwCl T s → va_P D vwCl w s.heap → va_D A w → zEnv A s s.heap → (∀ q : Nat, s.heap.size ≤ q → A q) → va_S A s.heap s.heap [] → rm.frames ≤ R.frames → rm.locals ≤ R.locals → lv_has ls maxL (lv_args 0 av) →
      (∀ {H : Heap} {locs : List Loc} {pc : Nat} {ls : Array Slot}, va_P D vwCl w1 H → va_D A w1 → va_S A s.heap H locs → decode cc pc = .ok (.lreturn, 1) → W p l e R s m args below meth c H locs 0 0 Q (F0 m pc ls [.long rv])) →
      W p l e R s m args below meth c s.heap [] 0 0 Q (F0 m 0 ls [])) : Met l y ws rm (va_Pc av (zPre D T w sz)) (va_Ql (fun r (_ : Unit) => r = rv) (fun _ => zPost D T w1 (va_A w sz)) (va_A w sz)) 0 0 (va_A w sz) := by
  refine Met.ofW (cc := cc) (maxL := maxL) (ret := (some .long)) hy hw ?_
  intro p e s m args below meth c s₁ B hml hv
  obtain ⟨rfl, hsz, hP, hK, hD0, hE⟩ := hv
  have hx := B.exec
  have hb := B.bytes
  have hr := B.returns
  have hts := atoms_spec (ws := ws) B.pre
  have hown : s.vm.findClass y.cls = some m.cls := findClass_of_methodNamed B.named
  have hlocks := B.notSynchronized
  subst hsz
  have hD := hD0.self (sz := s.heap.size)
  generalize hAe : va_A w s.heap.size = A at hD hE ⊢
  have hA : ∀ q : Nat, s.heap.size ≤ q → A q := fun q h => by rw [← hAe]; exact Or.inr h
  have hl := lv_entry av (n := maxL) hlen
  rw [lg_entry_eq]
  refine body p e s m av.toArray below meth c (headSpec ws rm).room _ A _ hx hb hts hown hml hK hP hD hE hA va_S.rf (Nat.le_refl _) (Nat.le_refl _) hl ?_
  intro H locs pc ls hP hD hS hd
  exact W.lret hx hb hr (fun t ht hW => ⟨⟨_, (), rfl, rfl, zpost hP hK hD ht hW⟩, hS.F ht⟩) hS.2.2 hd hlocks
theorem zmet_v {l : Launch} {y : MethodName} {ws ws' : List Cond} {rm : Room} {av : List Value} {D : va_G} {T : List (ClassId × FieldType)} {w w1 : va_W} {sz : Nat} {cc : ByteArray} {maxL : Nat} (hy : plainName y.cls = true) (hw : ws = Cond.code y cc maxL none :: ws') (hlen : (lg_sl av).length ≤ maxL) (hrc : rm.cells = 0) (hrs : rm.slots = 0)
    (body : ∀ (p : Program) (e : Env) (s : State) (m : MethodId) (args : Array Value) (below : List Frame) (meth : Method) (c : Code) (R : Room) (Q : State → Prop) (A : Nat → Prop) (ls : Array Slot), p.tables.exec = Jvm.exec → c.code = cc → (∀ w ∈ ws, w.before args s = true) → s.vm.findClass y.cls = some m.cls → c.maxLocals = maxL → va_K D vwCl T s → va_P D vwCl w s.heap → va_D A w → zEnv A s s.heap → (∀ q : Nat, s.heap.size ≤ q → A q) → va_S A s.heap s.heap [] → rm.frames ≤ R.frames → rm.locals ≤ R.locals → lv_has ls maxL (lv_args 0 av) →
      (∀ {H : Heap} {locs : List Loc} {pc : Nat} {ls : Array Slot}, va_P D vwCl w1 H → va_D A w1 → va_S A s.heap H locs → decode cc pc = .ok (.return_, 1) → W p l e R s m args below meth c H locs 0 0 Q (F0 m pc ls [])) →
      W p l e R s m args below meth c s.heap [] 0 0 Q (F0 m 0 ls [])) : Met l y ws rm (va_Pc av (zPre D T w sz)) (va_Qv (fun (_ : Unit) => True) (fun _ => zPost D T w1 (va_A w sz)) (va_A w sz)) 0 0 (va_A w sz) := by
  refine Met.ofW (cc := cc) (maxL := maxL) (ret := none) hy hw ?_
  intro p e s m args below meth c s₁ B hml hv
  obtain ⟨rfl, hsz, hP, hK, hD0, hE⟩ := hv
  have hx := B.exec
  have hb := B.bytes
  have hr := B.returns
  have hts := atoms_spec (ws := ws) B.pre
  have hown : s.vm.findClass y.cls = some m.cls := findClass_of_methodNamed B.named
  have hlocks := B.notSynchronized
  subst hsz
  have hD := hD0.self (sz := s.heap.size)
  generalize hAe : va_A w s.heap.size = A at hD hE ⊢
  have hA : ∀ q : Nat, s.heap.size ≤ q → A q := fun q h => by rw [← hAe]; exact Or.inr h
  have hl := lv_entry av (n := maxL) hlen
  rw [lg_entry_eq]
  refine body p e s m av.toArray below meth c (headSpec ws rm).room _ A _ hx hb hts hown hml hK hP hD hE hA va_S.rf (Nat.le_refl _) (Nat.le_refl _) hl ?_
  intro H locs pc ls hP hD hS hd
  exact W.vret hx hb hr (fun t ht hW => ⟨⟨(), rfl, trivial, zpost hP hK hD ht hW⟩, hS.F ht⟩) hS.2.2 hd hlocks
theorem zcall_i {p : Program} {l : Launch} {e : Env} {R : Room} {s : State} {m : MethodId} {args a : Array Value} {below : List Frame} {meth : Method} {c : Code} {H : Heap} {locs : List Loc} {Q : State → Prop} {pc : Nat} {ls : Array Slot} {rest st0 : List Value} {A : Nat → Prop} {D : va_G} {T : List (ClassId × FieldType)} {w wc w1 w2 : va_W} {rv : Int32} (hr : va_Run p l e R s m args below meth c H locs 0 0 0 0 (F0 m pc ls st0) rest (va_Qi (fun r (_ : Unit) => r = rv) (fun _ => zPost D T w1 (va_A wc H.size)) (va_A wc H.size) a) (va_A wc H.size)) (hP : va_P D vwCl w H) (hD : va_D A w) (hS : va_S A s.heap H locs) (hFc : ∀ q, va_A wc H.size q → A q) (isC isR pm : List Nat) (n : Nat) (hC : isC.map (fun i => w[i]?) = wc.map some) (hlen : w.length = n) (hck : (va_nd isR && isR.all (fun i => decide (i ∉ isC) && decide (i < n)) && va_nd pm) = true) (hpm : pm.map (fun i => (isR.filterMap (fun i => w[i]?) ++ w1)[i]?) = w2.map some)
    (kk : ∀ (H1 : Heap) (locs1 : List Loc), va_P D vwCl w2 H1 → va_D A w2 → va_S A s.heap H1 locs1 → W p l e R s m args below meth c H1 locs1 0 0 Q (F0 m (pc + 3) ls (.int rv :: rest))) : W p l e R s m args below meth c H locs 0 0 Q (F0 m pc ls st0) := by
  refine va_calli hr hS (fun q _ h => hFc q h) hFc (fun r u t H1 locs1 ht hvm hw hB hz1 hk1 hS1 => ?_)
  simp only [Bool.and_eq_true, List.all_eq_true, decide_eq_true_eq] at hck
  obtain ⟨hP2, hD2⟩ := zjoin (w2 := w2) hP hD isC isR pm hC hck.1.1 (fun i hi => (hck.1.2 i hi).1) (fun i hi => by rw [hlen]; exact (hck.1.2 i hi).2) hFc hk1 hB ht hck.2 hpm
  obtain rfl : r = rv := hw
  exact kk H1 locs1 hP2 hD2 hS1
theorem zcall_l {p : Program} {l : Launch} {e : Env} {R : Room} {s : State} {m : MethodId} {args a : Array Value} {below : List Frame} {meth : Method} {c : Code} {H : Heap} {locs : List Loc} {Q : State → Prop} {pc : Nat} {ls : Array Slot} {rest st0 : List Value} {A : Nat → Prop} {D : va_G} {T : List (ClassId × FieldType)} {w wc w1 w2 : va_W} {rv : Int64} (hr : va_Run p l e R s m args below meth c H locs 0 0 0 0 (F0 m pc ls st0) rest (va_Ql (fun r (_ : Unit) => r = rv) (fun _ => zPost D T w1 (va_A wc H.size)) (va_A wc H.size) a) (va_A wc H.size)) (hP : va_P D vwCl w H) (hD : va_D A w) (hS : va_S A s.heap H locs) (hFc : ∀ q, va_A wc H.size q → A q) (isC isR pm : List Nat) (n : Nat) (hC : isC.map (fun i => w[i]?) = wc.map some) (hlen : w.length = n) (hck : (va_nd isR && isR.all (fun i => decide (i ∉ isC) && decide (i < n)) && va_nd pm) = true) (hpm : pm.map (fun i => (isR.filterMap (fun i => w[i]?) ++ w1)[i]?) = w2.map some)
    (kk : ∀ (H1 : Heap) (locs1 : List Loc), va_P D vwCl w2 H1 → va_D A w2 → va_S A s.heap H1 locs1 → W p l e R s m args below meth c H1 locs1 0 0 Q (F0 m (pc + 3) ls (.long rv :: rest))) : W p l e R s m args below meth c H locs 0 0 Q (F0 m pc ls st0) := by
  refine va_calll hr hS (fun q _ h => hFc q h) hFc (fun r u t H1 locs1 ht hvm hw hB hz1 hk1 hS1 => ?_)
  simp only [Bool.and_eq_true, List.all_eq_true, decide_eq_true_eq] at hck
  obtain ⟨hP2, hD2⟩ := zjoin (w2 := w2) hP hD isC isR pm hC hck.1.1 (fun i hi => (hck.1.2 i hi).1) (fun i hi => by rw [hlen]; exact (hck.1.2 i hi).2) hFc hk1 hB ht hck.2 hpm
  obtain rfl : r = rv := hw
  exact kk H1 locs1 hP2 hD2 hS1
theorem zcall_v {p : Program} {l : Launch} {e : Env} {R : Room} {s : State} {m : MethodId} {args a : Array Value} {below : List Frame} {meth : Method} {c : Code} {H : Heap} {locs : List Loc} {Q : State → Prop} {pc : Nat} {ls : Array Slot} {rest st0 : List Value} {A : Nat → Prop} {D : va_G} {T : List (ClassId × FieldType)} {w wc w1 w2 : va_W} (hr : va_Run p l e R s m args below meth c H locs 0 0 0 0 (F0 m pc ls st0) rest (va_Qv (fun (_ : Unit) => True) (fun _ => zPost D T w1 (va_A wc H.size)) (va_A wc H.size) a) (va_A wc H.size)) (hP : va_P D vwCl w H) (hD : va_D A w) (hS : va_S A s.heap H locs) (hFc : ∀ q, va_A wc H.size q → A q) (isC isR pm : List Nat) (n : Nat) (hC : isC.map (fun i => w[i]?) = wc.map some) (hlen : w.length = n) (hck : (va_nd isR && isR.all (fun i => decide (i ∉ isC) && decide (i < n)) && va_nd pm) = true) (hpm : pm.map (fun i => (isR.filterMap (fun i => w[i]?) ++ w1)[i]?) = w2.map some)
    (kk : ∀ (H1 : Heap) (locs1 : List Loc), va_P D vwCl w2 H1 → va_D A w2 → va_S A s.heap H1 locs1 → W p l e R s m args below meth c H1 locs1 0 0 Q (F0 m (pc + 3) ls (rest))) : W p l e R s m args below meth c H locs 0 0 Q (F0 m pc ls st0) := by
  refine va_callv hr hS (fun q _ h => hFc q h) hFc (fun u t H1 locs1 ht hvm hw hB hz1 hk1 hS1 => ?_)
  simp only [Bool.and_eq_true, List.all_eq_true, decide_eq_true_eq] at hck
  obtain ⟨hP2, hD2⟩ := zjoin (w2 := w2) hP hD isC isR pm hC hck.1.1 (fun i hi => (hck.1.2 i hi).1) (fun i hi => by rw [hlen]; exact (hck.1.2 i hi).2) hFc hk1 hB ht hck.2 hpm
  skip
  exact kk H1 locs1 hP2 hD2 hS1
theorem zsameI {D : va_G} {cI cB cO cA : ClassId} {s : State} (h : va_K D vwCl (zTY cI cB cO ++ [(cA, .int)]) s) : cI = cA := by
  have h1 : s.vm.findClass ("[" ++ (FieldType.int).toString) = some cI := (h.2 0 (cI, .int) rfl).2
  have h2 : s.vm.findClass ("[" ++ (FieldType.int).toString) = some cA := (h.2 3 (cA, .int) rfl).2
  exact Option.some.inj (h1.symm.trans h2)
theorem zsameB {D : va_G} {cI cB cO cA : ClassId} {s : State} (h : va_K D vwCl (zTY cI cB cO ++ [(cA, .byte)]) s) : cB = cA := by
  have h1 : s.vm.findClass ("[" ++ (FieldType.byte).toString) = some cB := (h.2 1 (cB, .byte) rfl).2
  have h2 : s.vm.findClass ("[" ++ (FieldType.byte).toString) = some cA := (h.2 3 (cA, .byte) rfl).2
  exact Option.some.inj (h1.symm.trans h2)
theorem zsameO {D : va_G} {cI cB cO cA : ClassId} {s : State} (h : va_K D vwCl (zTY cI cB cO ++ [(cA, .object RX1)]) s) : cO = cA := by
  obtain ⟨_, _, _, _, _, h1⟩ := (h.2 2 (cO, .object RX1) rfl).2
  obtain ⟨_, _, _, _, _, h2⟩ := (h.2 3 (cA, .object RX1) rfl).2
  exact Option.some.inj (h1.symm.trans h2)
theorem zmet_c {S : Type} {l : Launch} {y : MethodName} {ws ws' : List Cond} {rm : Room} {av : List Value} {D : va_G} {T : List (ClassId × FieldType)} {w : va_W} {w1 : S → va_W} {sz mc ms : Nat} {cc : ByteArray} {maxL : Nat} (hy : plainName y.cls = true) (hw : ws = Cond.code y cc maxL none :: ws') (hlen : (lg_sl av).length ≤ maxL) (hn : y.name = "<init>") (_ : rm.cells = rm.cells)
    (body : ∀ (p : Program) (e : Env) (s : State) (m : MethodId) (args : Array Value) (below : List Frame) (meth : Method) (c : Code) (R : Room) (Q : State → Prop) (A : Nat → Prop) (ls : Array Slot), p.tables.exec = Jvm.exec → c.code = cc → (∀ w ∈ ws, w.before args s = true) → s.vm.findClass y.cls = some m.cls → c.maxLocals = maxL → meth.name = "<init>" → va_K D vwCl T s → va_P D vwCl w s.heap → va_D A w → zEnv A s s.heap → (∀ q : Nat, s.heap.size ≤ q → A q) → va_S A s.heap s.heap [] → rm.frames ≤ R.frames → rm.locals ≤ R.locals → rm.cells ≤ R.cells → rm.slots ≤ R.slots → lv_has ls maxL (lv_args 0 av) →
      (∀ {H : Heap} {locs : List Loc} {pc : Nat} {ls : Array Slot} (u : S), va_P D vwCl (w1 u) H → va_D A (w1 u) → va_S A s.heap H locs → decode cc pc = .ok (.return_, 1) → W p l e R s m args below meth c H locs mc ms Q (F0 m pc ls [])) →
      W p l e R s m args below meth c s.heap [] 0 0 Q (F0 m 0 ls [])) : Met l y ws rm (va_Pc av (zPre D T w sz)) (va_Qv (fun (_ : S) => True) (fun u => zPost D T (w1 u) (va_A w sz)) (va_A w sz)) mc ms (va_A w sz) := by
  refine Met.ofW (cc := cc) (maxL := maxL) (ret := none) hy hw ?_
  intro p e s m args below meth c s₁ B hml hv
  obtain ⟨rfl, hsz, hP, hK, hD0, hE⟩ := hv
  have hx := B.exec
  have hb := B.bytes
  have hr := B.returns
  have hts := atoms_spec (ws := ws) B.pre
  have hown : s.vm.findClass y.cls = some m.cls := findClass_of_methodNamed B.named
  have hlocks := B.notSynchronized
  have hin : meth.name = "<init>" := (name_of_methodNamed B.named B.method).1.trans hn
  subst hsz
  have hD := hD0.self (sz := s.heap.size)
  generalize hAe : va_A w s.heap.size = A at hD hE ⊢
  have hA : ∀ q : Nat, s.heap.size ≤ q → A q := fun q h => by rw [← hAe]; exact Or.inr h
  have hl := lv_entry av (n := maxL) hlen
  rw [lg_entry_eq]
  refine body p e s m av.toArray below meth c (headSpec ws rm).room _ A _ hx hb hts hown hml hin hK hP hD hE hA va_S.rf (Nat.le_refl _) (Nat.le_refl _) (Nat.le_refl _) (Nat.le_refl _) hl ?_
  intro H locs pc ls u hP hD hS hd
  exact W.vret hx hb hr (fun t ht hW => ⟨⟨u, rfl, trivial, zpost hP hK hD ht hW⟩, hS.F ht⟩) hS.2.2 hd hlocks
end
section
/-! literal answers of the methods, by program (wip/whole/gen.py) out of the printed listing -/
noncomputable def fX0_placeAt (Gs : Nat → Int32) (a0 : Int32) (a1 : Int32) : Option (Int32) :=
  zb1 (zjn (fun (_ : Unit) => some (0 : Int32)) (fun J28 => if a0 < 0 then J28 () else if (Gs 0) ≤ a0 then J28 () else if a1 < 0 then J28 () else if (Gs 1) ≤ a1 then J28 () else some (1 : Int32))) (fun (v29 : Int32) => if v29 = 0 then some (-1 : Int32) else some ((a0 * (Gs 1)) + a1))
noncomputable def fX0_lay (Gs : Nat → Int32) (Ga : Nat → Nat → Int32) (a0 : Int32) (a1 : Int32) : Option ((Nat → Int32) × (Nat → Nat → Int32)) :=
  zb1 (zjn (fun (_ : Unit) => some (0 : Int32)) (fun J22 => if a0 ≤ 0 then J22 () else if (4 : Int32) < a0 then J22 () else if a1 ≤ 0 then J22 () else if (4 : Int32) < a1 then J22 () else some (1 : Int32))) (fun (v23 : Int32) => if v23 = 0 then some (Gs, Ga) else if (a0 * a1) ≤ (12 : Int32) then zb1 (zi2 (fun (x4_57h : Int32) (Ga_57h : Nat → Nat → Int32) => if a0 ≤ x4_57h then some (.inr Ga_57h) else zb1 (zi2 (fun (x5_69h : Int32) (Ga_69h : Nat → Nat → Int32) => if a1 ≤ x5_69h then some (.inr Ga_69h) else zb1 (zi2 (fun (x6_81h : Int32) (Ga_81h : Nat → Nat → Int32) => if (8 : Int32) ≤ x6_81h then some (.inr Ga_81h) else zck (zin x6_81h 8) (zck (zin x6_81h 8) (zb1 (fX0_placeAt (upd (upd (upd Gs 0 a0) 1 a1) 2 (a0 * a1)) (x4_57h + (zRS (x6_81h).toNatClampNeg)) (x5_69h + (zCS (x6_81h).toNatClampNeg))) (fun (r11 : Int32) => zck (zin ((((x4_57h * a1) + x5_69h) * (8 : Int32)) + x6_81h) 96) (some (.inl ((x6_81h + (1 : Int32)), (va_up Ga_81h 3 (upd (Ga_81h 3) (((((x4_57h * a1) + x5_69h) * (8 : Int32)) + x6_81h)).toNatClampNeg r11))))))))) (0 : Int32) Ga_69h) (fun (Ga_137x81 : Nat → Nat → Int32) => some (.inl ((x5_69h + (1 : Int32)), Ga_137x81)))) (0 : Int32) Ga_57h) (fun (Ga_143x69 : Nat → Nat → Int32) => some (.inl ((x4_57h + (1 : Int32)), Ga_143x69)))) (0 : Int32) Ga) (fun (Ga_149x57 : Nat → Nat → Int32) => some ((upd (upd (upd Gs 0 a0) 1 a1) 2 (a0 * a1)), Ga_149x57)) else some (Gs, Ga))
noncomputable def fX0_has (Gs : Nat → Int32) (a0 : Int32) : Option (Int32) :=
  if a0 < 0 then some (0 : Int32) else if (12 : Int32) ≤ a0 then some (0 : Int32) else if (Gs 2) ≤ a0 then some (0 : Int32) else some (1 : Int32)
noncomputable def fX0_next (Gs : Nat → Int32) (Ga : Nat → Nat → Int32) (a0 : Int32) (a1 : Int32) : Option (Int32) :=
  zb1 (fX0_has Gs a0) (fun (r1 : Int32) => zb1 (zjn (fun (_ : Unit) => some (0 : Int32)) (fun J22 => if r1 = 0 then J22 () else if a1 < 0 then J22 () else if (8 : Int32) ≤ a1 then J22 () else some (1 : Int32))) (fun (v23 : Int32) => if v23 = 0 then some (-1 : Int32) else zck (zin ((a0 * (8 : Int32)) + a1) 96) (some ((Ga 3) (((a0 * (8 : Int32)) + a1)).toNatClampNeg))))
noncomputable def fX1_begin (Os : Nat → Int32)  : Option ((Nat → Int32)) :=
  some (upd (upd (upd (upd (upd (upd (upd (upd (upd Os 0 (0 : Int32)) 1 (0 : Int32)) 2 (-1 : Int32)) 3 (0 : Int32)) 4 (0 : Int32)) 5 (0 : Int32)) 6 (0 : Int32)) 7 (-1 : Int32)) 8 (0 : Int32))
noncomputable def fX1_take (Os : Nat → Int32) (Us : Nat → Int32) (a0 : Int32) : Option ((Nat → Int32)) :=
  zb1 (zjn (fun (_ : Unit) => some (upd (upd Os 1 (Us 1)) 2 a0)) (fun J18 => if (Os 0) = 0 then J18 () else if (Os 1) ≤ (Us 1) then some Os else J18 ())) (fun (Os_31 : Nat → Int32) => zb1 (zjn (fun (_ : Unit) => some (upd Os_31 5 ((Us 5) + (1 : Int32)))) (fun J51 => if (Os_31 0) = 0 then J51 () else if (Os_31 5) ≤ ((Us 5) + (1 : Int32)) then some Os_31 else J51 ())) (fun (Os_61 : Nat → Int32) => zb1 (if (Os_61 7) = (-1 : Int32) then if (Us 7) = (-1 : Int32) then some (upd (upd (upd (upd Os_61 4 (if (Os_61 4) < ((Us 4) + (1 : Int32)) then ((Us 4) + (1 : Int32)) else (Os_61 4))) 3 ((Os_61 3) + (Us 3))) 6 ((Os_61 6) ||| (Us 6))) 7 a0) else some (upd (upd (upd Os_61 4 (if (Os_61 4) < ((Us 4) + (1 : Int32)) then ((Us 4) + (1 : Int32)) else (Os_61 4))) 3 ((Os_61 3) + (Us 3))) 6 ((Os_61 6) ||| (Us 6))) else some (upd (upd (upd Os_61 4 (if (Os_61 4) < ((Us 4) + (1 : Int32)) then ((Us 4) + (1 : Int32)) else (Os_61 4))) 3 ((Os_61 3) + (Us 3))) 6 ((Os_61 6) ||| (Us 6)))) (fun (Os_125 : Nat → Int32) => some (upd (upd Os_125 8 ((Os_125 8) + (Us 8))) 0 ((Os_125 0) + (1 : Int32))))))
noncomputable def fX1_end (Os : Nat → Int32) (a0 : Int32) (a1 : Int32) : Option ((Nat → Int32)) :=
  if (Os 0) ≤ 0 then some (upd (upd (upd (upd Os 1 a0) 3 (1 : Int32)) 6 a1) 8 ((1000 : Int32) * a0)) else zck (zne (Os 0)) (some (upd Os 8 ((Os 8) / (Os 0))))
noncomputable def fX2_append (Ps : Nat → Int32) (Pa : Nat → Nat → Int32) (a0 : Int32) : Option (Int32 × (Nat → Int32) × (Nat → Nat → Int32)) :=
  if (Ps 1) < 0 then some ((0 : Int32), Ps, Pa) else if (Ps 1) < (18 : Int32) then zck (zin (Ps 1) 18) (some ((1 : Int32), (upd Ps 1 ((Ps 1) + (1 : Int32))), (va_up Pa 0 (upd (Pa 0) ((Ps 1)).toNatClampNeg a0)))) else some ((0 : Int32), Ps, Pa)
noncomputable def fX2_codeAt (Ps : Nat → Int32) (Pa : Nat → Nat → Int32) (a0 : Int32) : Option (Int32) :=
  if a0 < 0 then some (-1 : Int32) else if (Ps 1) ≤ a0 then some (-1 : Int32) else if (18 : Int32) ≤ a0 then some (-1 : Int32) else zck (zin a0 18) (some ((Pa 0) (a0).toNatClampNeg))
noncomputable def fX2_digitAt (Ps : Nat → Int32) (Pa : Nat → Nat → Int32) (a0 : Int32) : Option (Int32) :=
  zb1 (fX2_codeAt Ps Pa a0) (fun (r1 : Int32) => zlt (r1 - (48 : Int32)) (fun (x2_3 : Int32) => if x2_3 < (2 : Int32) then some (0 : Int32) else if (4 : Int32) < x2_3 then some (0 : Int32) else some x2_3))
noncomputable def fX2_kindAt (Ps : Nat → Int32) (Pa : Nat → Nat → Int32) (a0 : Int32) : Option (Int32) :=
  zb1 (fX2_codeAt Ps Pa a0) (fun (r1 : Int32) => zbs (zi1 (fun (x3_8h : Int32) => if (5 : Int32) ≤ x3_8h then some (.inr (.inr ())) else zck (zin x3_8h 5) (if (zKL (x3_8h).toNatClampNeg) = r1 then some (.inr (.inl x3_8h)) else some (.inl (x3_8h + (1 : Int32))))) (0 : Int32)) (fun (x3_25x8 : Int32) => some x3_25x8) (fun (_ : Unit) => some (-1 : Int32)))
noncomputable def fX2_placesTold (Ps : Nat → Int32) (Pa : Nat → Nat → Int32)  : Option (Int32) :=
  zb1 (fX2_digitAt Ps Pa (0 : Int32)) (fun (r1 : Int32) => zb1 (fX2_digitAt Ps Pa (1 : Int32)) (fun (r3 : Int32) => some (r1 * r3)))
noncomputable def fX2_pegsBefore (Ps : Nat → Int32) (Pa : Nat → Nat → Int32) (a0 : Int32) : Option (Int32) :=
  zb1 (zi2 (fun (x2_4h : Int32) (x3_4h : Int32) => if a0 ≤ x3_4h then some (.inr x2_4h) else zb1 (fX2_kindAt Ps Pa x3_4h) (fun (r3 : Int32) => zb1 (if r3 = (-1 : Int32) then some x2_4h else some (x2_4h + (1 : Int32))) (fun (x2_21 : Int32) => some (.inl (x2_21, (x3_4h + (1 : Int32))))))) (0 : Int32) (3 : Int32)) (fun (x2_27x4 : Int32) => some x2_27x4)
noncomputable def fX2_fits (Ps : Nat → Int32) (Pa : Nat → Nat → Int32) (a0 : Int32) : Option (Int32) :=
  if a0 = 0 then zb1 (fX2_digitAt Ps Pa (0 : Int32)) (fun (r24 : Int32) => if r24 ≤ 0 then some (0 : Int32) else some (1 : Int32)) else if a0 = (1 : Int32) then zb1 (fX2_digitAt Ps Pa (1 : Int32)) (fun (r18 : Int32) => if r18 ≤ 0 then some (0 : Int32) else zb1 (fX2_placesTold Ps Pa) (fun (r21 : Int32) => if (12 : Int32) < r21 then some (0 : Int32) else some (1 : Int32))) else zb1 (fX2_codeAt Ps Pa a0) (fun (r3 : Int32) => if a0 = (2 : Int32) then if r3 = (59 : Int32) then some (1 : Int32) else some (0 : Int32) else zb1 (fX2_placesTold Ps Pa) (fun (r6 : Int32) => if a0 < ((3 : Int32) + r6) then zjn (fun (_ : Unit) => some (1 : Int32)) (fun J112 => if r3 = (35 : Int32) then J112 () else if r3 = (46 : Int32) then J112 () else zb1 (fX2_kindAt Ps Pa a0) (fun (r11 : Int32) => if r11 = (-1 : Int32) then some (0 : Int32) else zb1 (fX2_pegsBefore Ps Pa a0) (fun (r14 : Int32) => if (7 : Int32) ≤ r14 then some (0 : Int32) else J112 ()))) else some (0 : Int32)))
noncomputable def fX2_firstFault (Ps : Nat → Int32) (Pa : Nat → Nat → Int32)  : Option (Int32) :=
  zbs (zi1 (fun (x1_2h : Int32) => if (Ps 1) ≤ x1_2h then some (.inr (.inr ())) else zb1 (fX2_fits Ps Pa x1_2h) (fun (r3 : Int32) => if r3 = 0 then some (.inr (.inl x1_2h)) else some (.inl (x1_2h + (1 : Int32))))) (0 : Int32)) (fun (x1_18x2 : Int32) => some x1_18x2) (fun (_ : Unit) => some (Ps 1))
noncomputable def fX2_isBoard (Ps : Nat → Int32) (Pa : Nat → Nat → Int32)  : Option (Int32) :=
  zb1 (fX2_placesTold Ps Pa) (fun (r1 : Int32) => if (Ps 1) = ((3 : Int32) + r1) then zb1 (fX2_firstFault Ps Pa) (fun (r4 : Int32) => if r4 = (Ps 1) then zb1 (fX2_pegsBefore Ps Pa (Ps 1)) (fun (r7 : Int32) => if r7 ≤ 0 then some (0 : Int32) else some (1 : Int32)) else some (0 : Int32)) else some (0 : Int32))
noncomputable def fX3_append (Qs : Nat → Int32) (Qa : Nat → Nat → Int32) (a0 : Int32) (a1 : Int32) : Option (Int32 × (Nat → Int32) × (Nat → Nat → Int32)) :=
  if (Qs 2) < 0 then some ((0 : Int32), Qs, Qa) else if (Qs 2) < (6 : Int32) then zck (zin (Qs 2) 6) (zck (zin (Qs 2) 6) (some ((1 : Int32), (upd Qs 2 ((Qs 2) + (1 : Int32))), (va_up (va_up Qa 0 (upd (Qa 0) ((Qs 2)).toNatClampNeg a0)) 1 (upd (Qa 1) ((Qs 2)).toNatClampNeg a1))))) else some ((0 : Int32), Qs, Qa)
noncomputable def fX3_sortsOf (Qs : Nat → Int32) (Qa : Nat → Nat → Int32) (a0 : Int32) : Option (Int32) :=
  zb1 (zi2 (fun (x2_5h : Int32) (x3_5h : Int32) => if (Qs 2) ≤ x3_5h then some (.inr x2_5h) else if (6 : Int32) ≤ x3_5h then some (.inr x2_5h) else zck (zin x3_5h 6) (zb1 (if ((Qa 0) (x3_5h).toNatClampNeg) = a0 then zck (zin x3_5h 6) (zlt (x2_5h &&& ((Qa 1) (x3_5h).toNatClampNeg)) (fun (x2_8 : Int32) => some x2_8)) else some x2_5h) (fun (x2_38 : Int32) => some (.inl (x2_38, (x3_5h + (1 : Int32))))))) (31 : Int32) (0 : Int32)) (fun (x2_44x5 : Int32) => some x2_44x5)
noncomputable def fX3_copyFrom (Qs : Nat → Int32) (Qa : Nat → Nat → Int32) (Us : Nat → Int32) (Ua : Nat → Nat → Int32)  : Option ((Nat → Int32) × (Nat → Nat → Int32)) :=
  zb1 (zi2 (fun (x2_10h : Int32) (Qa_10h : Nat → Nat → Int32) => if (6 : Int32) ≤ x2_10h then some (.inr Qa_10h) else zck (zin x2_10h 6) (zck (zin x2_10h 6) (zck (zin x2_10h 6) (zck (zin x2_10h 6) (some (.inl ((x2_10h + (1 : Int32)), (va_up (va_up Qa_10h 0 (upd (Qa_10h 0) (x2_10h).toNatClampNeg ((Ua 0) (x2_10h).toNatClampNeg))) 1 (upd (Qa_10h 1) (x2_10h).toNatClampNeg ((Ua 1) (x2_10h).toNatClampNeg)))))))))) (0 : Int32) Qa) (fun (Qa_46x10 : Nat → Nat → Int32) => some ((upd Qs 2 (Us 2)), Qa_46x10))
noncomputable def fX4_isPeg (Ss : Nat → Int32) (a0 : Int32) : Option (Int32) :=
  if a0 < 0 then some (0 : Int32) else if (8 : Int32) ≤ a0 then some (0 : Int32) else if (Ss 2) ≤ a0 then some (0 : Int32) else some (1 : Int32)
noncomputable def fX4_set (Ss : Nat → Int32) (Sa : Nat → Nat → Int32) (Gs : Nat → Int32) (a0 : Int32) (a1 : Int32) : Option ((Nat → Int32) × (Nat → Nat → Int32)) :=
  zb1 (fX4_isPeg Ss a0) (fun (r1 : Int32) => if r1 = 0 then some (Ss, Sa) else zb1 (fX0_has Gs a1) (fun (r4 : Int32) => if r4 = 0 then some (Ss, Sa) else zck (zin a0 8) (zck (zin a1 12) (some ((upd Ss 3 ((Ss 3) + (1 : Int32))), (va_up (va_up Sa 6 (upd (Sa 6) (a0).toNatClampNeg a1)) 7 (upd (Sa 7) (a1).toNatClampNeg a0)))))))
noncomputable def fX4_addPeg (Ss : Nat → Int32) (Sa : Nat → Nat → Int32) (Gs : Nat → Int32) (a0 : Int32) (a1 : Int32) : Option ((Nat → Int32) × (Nat → Nat → Int32)) :=
  if a0 = (-1 : Int32) then some (Ss, Sa) else if (Ss 2) < 0 then some (Ss, Sa) else if (Ss 2) < (8 : Int32) then zlt (Ss 2) (fun (x3_4 : Int32) => zck (zin x3_4 8) (zck (zin x3_4 8) (zb2 (fX4_set (upd Ss 2 ((Ss 2) + (1 : Int32))) (va_up (va_up Sa 5 (upd (Sa 5) (x3_4).toNatClampNeg a0)) 6 (upd (Sa 6) (x3_4).toNatClampNeg (-1 : Int32))) Gs x3_4 a1) (fun (Ss_7 : Nat → Int32) (Sa_8 : Nat → Nat → Int32) => some (Ss_7, Sa_8))))) else some (Ss, Sa)
noncomputable def fX4_read (Ss : Nat → Int32) (Sa : Nat → Nat → Int32) (Gs : Nat → Int32) (Ps : Nat → Int32) (Pa : Nat → Nat → Int32)  : Option ((Nat → Int32) × (Nat → Nat → Int32)) :=
  zb2 (zi3 (fun (x2_22h : Int32) (Ss_22h : Nat → Int32) (Sa_22h : Nat → Nat → Int32) => if (12 : Int32) ≤ x2_22h then some (.inr (Ss_22h, Sa_22h)) else zck (zin x2_22h 12) (zb2 (if (Gs 2) ≤ x2_22h then some (Ss_22h, (va_up Sa_22h 7 (upd (Sa_22h 7) (x2_22h).toNatClampNeg (-1 : Int32)))) else zb1 (fX2_codeAt Ps Pa ((3 : Int32) + x2_22h)) (fun (r6 : Int32) => if r6 = (35 : Int32) then some (Ss_22h, (va_up Sa_22h 7 (upd (Sa_22h 7) (x2_22h).toNatClampNeg (-1 : Int32)))) else zb1 (fX2_kindAt Ps Pa ((3 : Int32) + x2_22h)) (fun (r9 : Int32) => zb2 (fX4_addPeg (upd Ss_22h 1 ((Ss_22h 1) ||| ((1 : Int32) <<< (x2_22h &&& 31)))) (va_up Sa_22h 7 (upd (Sa_22h 7) (x2_22h).toNatClampNeg (-1 : Int32))) Gs r9 x2_22h) (fun (Ss_11 : Nat → Int32) (Sa_12 : Nat → Nat → Int32) => some (Ss_11, Sa_12))))) (fun (Ss_82 : Nat → Int32) (Sa_82 : Nat → Nat → Int32) => some (.inl ((x2_22h + (1 : Int32)), Ss_82, Sa_82))))) (0 : Int32) (upd (upd (upd (upd Ss 1 (0 : Int32)) 2 (0 : Int32)) 3 (0 : Int32)) 4 (0 : Int32)) Sa) (fun (Ss_88x22 : Nat → Int32) (Sa_88x22 : Nat → Nat → Int32) => some (Ss_88x22, Sa_88x22))
noncomputable def fX4_addPlain (Ss : Nat → Int32) (Sa : Nat → Nat → Int32) (Gs : Nat → Int32) (a0 : Int32) : Option ((Nat → Int32) × (Nat → Nat → Int32)) :=
  zb2 (fX4_addPeg Ss Sa Gs (0 : Int32) a0) (fun (Ss_1 : Nat → Int32) (Sa_2 : Nat → Nat → Int32) => some (Ss_1, Sa_2))
noncomputable def fX4_copyFrom (Ss : Nat → Int32) (Sa : Nat → Nat → Int32) (Us : Nat → Int32) (Ua : Nat → Nat → Int32)  : Option ((Nat → Int32) × (Nat → Nat → Int32)) :=
  zb1 (zi2 (fun (x2_34h : Int32) (Sa_34h : Nat → Nat → Int32) => if (8 : Int32) ≤ x2_34h then some (.inr Sa_34h) else zck (zin x2_34h 8) (zck (zin x2_34h 8) (zck (zin x2_34h 8) (zck (zin x2_34h 8) (some (.inl ((x2_34h + (1 : Int32)), (va_up (va_up Sa_34h 5 (upd (Sa_34h 5) (x2_34h).toNatClampNeg ((Ua 5) (x2_34h).toNatClampNeg))) 6 (upd (Sa_34h 6) (x2_34h).toNatClampNeg ((Ua 6) (x2_34h).toNatClampNeg)))))))))) (0 : Int32) Sa) (fun (Sa_70x34 : Nat → Nat → Int32) => zb1 (zi2 (fun (x2_72h : Int32) (Sa_72h : Nat → Nat → Int32) => if (12 : Int32) ≤ x2_72h then some (.inr Sa_72h) else zck (zin x2_72h 12) (zck (zin x2_72h 12) (some (.inl ((x2_72h + (1 : Int32)), (va_up Sa_72h 7 (upd (Sa_72h 7) (x2_72h).toNatClampNeg ((Ua 7) (x2_72h).toNatClampNeg)))))))) (0 : Int32) Sa_70x34) (fun (Sa_96x72 : Nat → Nat → Int32) => some ((upd (upd (upd (upd Ss 1 (Us 1)) 2 (Us 2)) 3 (Us 3)) 4 (Us 4)), Sa_96x72)))
noncomputable def fX4_kindOf (Ss : Nat → Int32) (Sa : Nat → Nat → Int32) (a0 : Int32) : Option (Int32) :=
  zb1 (fX4_isPeg Ss a0) (fun (r1 : Int32) => if r1 = 0 then some (-1 : Int32) else zck (zin a0 8) (some ((Sa 5) (a0).toNatClampNeg)))
noncomputable def fX4_homeOf (Ss : Nat → Int32) (Sa : Nat → Nat → Int32) (a0 : Int32) : Option (Int32) :=
  zb1 (fX4_isPeg Ss a0) (fun (r1 : Int32) => if r1 = 0 then some (-1 : Int32) else zck (zin a0 8) (some ((Sa 6) (a0).toNatClampNeg)))
noncomputable def fX4_turn (Ss : Nat → Int32) (Sa : Nat → Nat → Int32) (a0 : Int32) (a1 : Int32) : Option ((Nat → Nat → Int32)) :=
  zb1 (fX4_isPeg Ss a0) (fun (r1 : Int32) => if r1 = 0 then some Sa else zck (zin a0 8) (some (va_up Sa 5 (upd (Sa 5) (a0).toNatClampNeg a1))))
noncomputable def fX5_hasBit  (a0 : Int32) (a1 : Int32) : Option (Int32) :=
  if a1 < 0 then some (0 : Int32) else if ((a0 >>> (a1 &&& 31)) &&& (1 : Int32)) = (1 : Int32) then some (1 : Int32) else some (0 : Int32)
noncomputable def fX4_isHole (Ss : Nat → Int32) (Gs : Nat → Int32) (a0 : Int32) : Option (Int32) :=
  zb1 (fX0_has Gs a0) (fun (r1 : Int32) => if r1 = 0 then some (0 : Int32) else zb1 (fX5_hasBit (Ss 1) a0) (fun (r4 : Int32) => if r4 = 0 then some (0 : Int32) else some (1 : Int32)))
noncomputable def fX4_pegIn (Sa : Nat → Nat → Int32) (Gs : Nat → Int32) (a0 : Int32) : Option (Int32) :=
  zb1 (fX0_has Gs a0) (fun (r1 : Int32) => if r1 = 0 then some (-1 : Int32) else zck (zin a0 12) (some ((Sa 7) (a0).toNatClampNeg)))
noncomputable def fX4_isEmptyHole (Ss : Nat → Int32) (Sa : Nat → Nat → Int32) (Gs : Nat → Int32) (a0 : Int32) : Option (Int32) :=
  zb1 (fX0_has Gs a0) (fun (r1 : Int32) => if r1 = 0 then some (0 : Int32) else zb1 (fX5_hasBit (Ss 1) a0) (fun (r4 : Int32) => if r4 = 0 then some (0 : Int32) else zck (zin a0 12) (if ((Sa 7) (a0).toNatClampNeg) = (-1 : Int32) then some (1 : Int32) else some (0 : Int32))))
noncomputable def fX4_lift (Ss : Nat → Int32) (Sa : Nat → Nat → Int32) (Gs : Nat → Int32) (a0 : Int32) : Option ((Nat → Int32) × (Nat → Nat → Int32)) :=
  zb1 (fX4_isPeg Ss a0) (fun (r1 : Int32) => if r1 = 0 then some (Ss, Sa) else zck (zin a0 8) (zb1 (fX0_has Gs ((Sa 6) (a0).toNatClampNeg)) (fun (r5 : Int32) => if r5 = 0 then some (Ss, Sa) else zck (zin a0 8) (zck (zin ((Sa 6) (a0).toNatClampNeg) 12) (zck (zin a0 8) (some ((upd Ss 3 ((Ss 3) - (1 : Int32))), (va_up (va_up Sa 7 (upd (Sa 7) (((Sa 6) (a0).toNatClampNeg)).toNatClampNeg (-1 : Int32))) 6 (upd (Sa 6) (a0).toNatClampNeg (-1 : Int32))))))))))
noncomputable def fX4_neighbourOf (Ss : Nat → Int32) (Sa : Nat → Nat → Int32) (Gs : Nat → Int32) (Ga : Nat → Nat → Int32) (a0 : Int32) (a1 : Int32) : Option (Int32) :=
  zb1 (fX4_homeOf Ss Sa a0) (fun (r1 : Int32) => zb1 (fX0_next Gs Ga r1 a1) (fun (r3 : Int32) => zb1 (fX4_pegIn Sa Gs r3) (fun (r5 : Int32) => some r5)))
noncomputable def fX5_kindGoes  (a0 : Int32) (a1 : Int32) : Option (Int32) :=
  if a1 < 0 then some (0 : Int32) else if (8 : Int32) ≤ a1 then some (0 : Int32) else zck (zin a1 8) (zb1 (fX5_hasBit (zWG (a1).toNatClampNeg) a0) (fun (r4 : Int32) => if r4 = 0 then some (0 : Int32) else some (1 : Int32)))
noncomputable def fX5_kindCould  (a0 : Int32) (a1 : Int32) : Option (Int32) :=
  if a1 < 0 then some (0 : Int32) else if (4 : Int32) ≤ a1 then some (0 : Int32) else zck (zin a1 4) (zb1 (fX5_hasBit (zWC (a1).toNatClampNeg) a0) (fun (r4 : Int32) => if r4 = 0 then some (0 : Int32) else some (1 : Int32)))
noncomputable def fX4_targetOf (Ss : Nat → Int32) (Sa : Nat → Nat → Int32) (Gs : Nat → Int32) (Ga : Nat → Nat → Int32) (a0 : Int32) (a1 : Int32) : Option (Int32) :=
  zb1 (fX4_homeOf Ss Sa a0) (fun (r1 : Int32) => zb1 (fX0_next Gs Ga r1 a1) (fun (r3 : Int32) => zb1 (fX4_pegIn Sa Gs r3) (fun (r5 : Int32) => if r5 = (-1 : Int32) then some (-1 : Int32) else zb1 (fX4_kindOf Ss Sa a0) (fun (r8 : Int32) => zb1 (fX5_kindGoes r8 a1) (fun (r10 : Int32) => if r10 = 0 then some (-1 : Int32) else zb1 (fX4_kindOf Ss Sa r5) (fun (r13 : Int32) => zb1 (fX5_kindCould r13 (2 : Int32)) (fun (r15 : Int32) => if r15 = 0 then some (-1 : Int32) else zb1 (fX0_next Gs Ga r3 a1) (fun (r18 : Int32) => zb1 (fX4_isEmptyHole Ss Sa Gs r18) (fun (r20 : Int32) => if r20 = 0 then some (-1 : Int32) else some r18)))))))))
noncomputable def fX4_targetsOf (Ss : Nat → Int32) (Sa : Nat → Nat → Int32) (Gs : Nat → Int32) (Ga : Nat → Nat → Int32) (a0 : Int32) : Option (Int32) :=
  zb1 (zi2 (fun (x2_4h : Int32) (x3_4h : Int32) => if (8 : Int32) ≤ x3_4h then some (.inr x2_4h) else zb1 (fX4_targetOf Ss Sa Gs Ga a0 x3_4h) (fun (r3 : Int32) => zb1 (if r3 = (-1 : Int32) then some x2_4h else zlt (x2_4h ||| ((1 : Int32) <<< (r3 &&& 31))) (fun (x2_7 : Int32) => some x2_7)) (fun (x2_31 : Int32) => some (.inl (x2_31, (x3_4h + (1 : Int32))))))) (0 : Int32) (0 : Int32)) (fun (x2_37x4 : Int32) => some x2_37x4)
noncomputable def fX4_directionTo (Ss : Nat → Int32) (Sa : Nat → Nat → Int32) (Gs : Nat → Int32) (Ga : Nat → Nat → Int32) (a0 : Int32) (a1 : Int32) : Option (Int32) :=
  zbs (zi1 (fun (x3_2h : Int32) => if (8 : Int32) ≤ x3_2h then some (.inr (.inr ())) else zjn (fun (_ : Unit) => some (.inl (x3_2h + (1 : Int32)))) (fun J25 => if a1 = (-1 : Int32) then J25 () else zb1 (fX4_targetOf Ss Sa Gs Ga a0 x3_2h) (fun (r4 : Int32) => if r4 = a1 then some (.inr (.inl x3_2h)) else J25 ()))) (0 : Int32)) (fun (x3_23x2 : Int32) => some x3_23x2) (fun (_ : Unit) => some (-1 : Int32))
noncomputable def fJ6_bitCount_0f7a4  (a0 : Int32) : Option (Int32) :=
  zlt (a0 - (((a0).toUInt32 >>> (((1 : Int32)).toUInt32 &&& Int32.toUInt32 31)).toInt32 &&& (1431655765 : Int32))) (fun (x0_1 : Int32) => zlt ((x0_1 &&& (858993459 : Int32)) + (((x0_1).toUInt32 >>> (((2 : Int32)).toUInt32 &&& Int32.toUInt32 31)).toInt32 &&& (858993459 : Int32))) (fun (x0_2 : Int32) => zlt ((x0_2 + ((x0_2).toUInt32 >>> (((4 : Int32)).toUInt32 &&& Int32.toUInt32 31)).toInt32) &&& (252645135 : Int32)) (fun (x0_3 : Int32) => zlt (x0_3 + ((x0_3).toUInt32 >>> (((8 : Int32)).toUInt32 &&& Int32.toUInt32 31)).toInt32) (fun (x0_4 : Int32) => zlt (x0_4 + ((x0_4).toUInt32 >>> (((16 : Int32)).toUInt32 &&& Int32.toUInt32 31)).toInt32) (fun (x0_5 : Int32) => some (x0_5 &&& (63 : Int32)))))))
noncomputable def fX4_choices (Ss : Nat → Int32) (Sa : Nat → Nat → Int32) (Gs : Nat → Int32) (Ga : Nat → Nat → Int32)  : Option (Int32) :=
  zb1 (zi2 (fun (x1_4h : Int32) (x2_4h : Int32) => if (Ss 2) ≤ x2_4h then some (.inr x1_4h) else zb1 (fX4_targetsOf Ss Sa Gs Ga x2_4h) (fun (r3 : Int32) => zb1 (fJ6_bitCount_0f7a4 r3) (fun (r5 : Int32) => zlt (x1_4h + r5) (fun (x1_7 : Int32) => some (.inl (x1_7, (x2_4h + (1 : Int32)))))))) (0 : Int32) (0 : Int32)) (fun (x1_29x4 : Int32) => some x1_29x4)
noncomputable def fX4_leap (Ss : Nat → Int32) (Sa : Nat → Nat → Int32) (Gs : Nat → Int32) (a0 : Int32) (a1 : Int32) (a2 : Int32) : Option ((Nat → Int32) × (Nat → Nat → Int32)) :=
  zb2 (fX4_lift Ss Sa Gs a1) (fun (Ss_1 : Nat → Int32) (Sa_2 : Nat → Nat → Int32) => zb2 (fX4_lift Ss_1 Sa_2 Gs a0) (fun (Ss_4 : Nat → Int32) (Sa_5 : Nat → Nat → Int32) => zb1 (fX4_kindOf Ss_4 Sa_5 a0) (fun (r7 : Int32) => zb1 (fX5_kindCould r7 (3 : Int32)) (fun (r9 : Int32) => if r9 = 0 then some (Ss_4, Sa_5) else zb2 (fX4_set Ss_4 Sa_5 Gs a0 a2) (fun (Ss_12 : Nat → Int32) (Sa_13 : Nat → Nat → Int32) => some (Ss_12, Sa_13))))))
noncomputable def fX4_leapByChoice (Ss : Nat → Int32) (Sa : Nat → Nat → Int32) (Gs : Nat → Int32) (Ga : Nat → Nat → Int32) (a0 : Int32) : Option ((Nat → Int32) × (Nat → Nat → Int32)) :=
  zbs (zi2 (fun (x2_4h : Int32) (x3_4h : Int32) => if (Ss 2) ≤ x3_4h then some (.inr (.inr ())) else zbs (zi2 (fun (x2_15h : Int32) (x4_15h : Int32) => if (8 : Int32) ≤ x4_15h then some (.inr (.inr x2_15h)) else zb1 (fX4_targetOf Ss Sa Gs Ga x3_4h x4_15h) (fun (r5 : Int32) => zjn (fun (_ : Unit) => zb1 (if r5 = (-1 : Int32) then some x2_15h else some (x2_15h + (-1 : Int32))) (fun (x2_65 : Int32) => some (.inl (x2_65, (x4_15h + (1 : Int32)))))) (fun J56 => if r5 = (-1 : Int32) then J56 () else if x2_15h = 0 then some (.inr (.inl (x4_15h, r5))) else J56 ()))) x2_4h (0 : Int32)) (fun (q_ : Int32 × Int32) => zu2 (fun (x4_41x15 : Int32) (x5_41x15 : Int32) => some (.inr (.inl (x3_4h, x4_41x15, x5_41x15)))) q_) (fun (x2_71x15 : Int32) => some (.inl (x2_71x15, (x3_4h + (1 : Int32)))))) a0 (0 : Int32)) (fun (q_ : Int32 × Int32 × Int32) => zu3 (fun (x3_41x4 : Int32) (x4_41x4 : Int32) (x5_41x4 : Int32) => zb1 (fX4_neighbourOf Ss Sa Gs Ga x3_41x4 x4_41x4) (fun (r12 : Int32) => zb2 (fX4_leap Ss Sa Gs x3_41x4 r12 x5_41x4) (fun (Ss_14 : Nat → Int32) (Sa_15 : Nat → Nat → Int32) => some (Ss_14, Sa_15)))) q_) (fun (_ : Unit) => some (Ss, Sa))
noncomputable def fX4_takeBack (Ss : Nat → Int32) (Sa : Nat → Nat → Int32) (Gs : Nat → Int32) (Ga : Nat → Nat → Int32) (a0 : Int32) (a1 : Int32) (a2 : Int32) (a3 : Int32) : Option ((Nat → Int32) × (Nat → Nat → Int32)) :=
  zb2 (fX4_lift Ss Sa Gs a0) (fun (Ss_1 : Nat → Int32) (Sa_2 : Nat → Nat → Int32) => zb2 (fX4_set Ss_1 Sa_2 Gs a0 a1) (fun (Ss_4 : Nat → Int32) (Sa_5 : Nat → Nat → Int32) => zb1 (fX0_next Gs Ga a1 a3) (fun (r7 : Int32) => zb2 (fX4_set Ss_4 Sa_5 Gs a2 r7) (fun (Ss_9 : Nat → Int32) (Sa_10 : Nat → Nat → Int32) => some (Ss_9, Sa_10)))))
noncomputable def fX4_aloneBit (Ss : Nat → Int32) (Sa : Nat → Nat → Int32)  : Option (Int32) :=
  if (Ss 3) = (1 : Int32) then zb1 (zi2 (fun (x1_14h : Int32) (x2_14h : Int32) => if (Ss 2) ≤ x2_14h then some (.inr x1_14h) else zb1 (fX4_homeOf Ss Sa x2_14h) (fun (r4 : Int32) => zb1 (if r4 = (-1 : Int32) then some x1_14h else zlt ((1 : Int32) <<< (r4 &&& 31)) (fun (x1_8 : Int32) => some x1_8)) (fun (x1_37 : Int32) => some (.inl (x1_37, (x2_14h + (1 : Int32))))))) (0 : Int32) (0 : Int32)) (fun (x1_43x14 : Int32) => some x1_43x14) else some (0 : Int32)
noncomputable def fX5_letter (Ps : Nat → Int32) (Pa : Nat → Nat → Int32) (a0 : Int32) : Option (Int32 × (Nat → Int32) × (Nat → Nat → Int32)) :=
  if a0 < (32 : Int32) then some ((-102 : Int32), Ps, Pa) else if a0 ≤ (126 : Int32) then zb3 (fX2_append Ps Pa a0) (fun (r3 : Int32) (Ps_4 : Nat → Int32) (Pa_5 : Nat → Nat → Int32) => if r3 = 0 then some ((-104 : Int32), Ps_4, Pa_5) else some ((Ps_4 1), Ps_4, Pa_5)) else some ((-102 : Int32), Ps, Pa)
noncomputable def fX5_blank (Ps : Nat → Int32)  : Option (Int32 × (Nat → Int32)) :=
  zlt (Ps 1) (fun (x1_1 : Int32) => some (x1_1, (upd Ps 1 (0 : Int32))))
noncomputable def fX5_fault (Ps : Nat → Int32) (Pa : Nat → Nat → Int32)  : Option (Int32) :=
  zb1 (fX2_firstFault Ps Pa) (fun (r1 : Int32) => some r1)
noncomputable def fX5_board (Xs : Nat → Int32) (Ps : Nat → Int32) (Pa : Nat → Nat → Int32) (Gs : Nat → Int32) (Ga : Nat → Nat → Int32) (Ns : Nat → Int32) (Na : Nat → Nat → Int32) (Qs : Nat → Int32)  : Option (Int32 × (Nat → Int32) × (Nat → Int32) × (Nat → Int32) × (Nat → Nat → Int32) × (Nat → Int32) × (Nat → Nat → Int32) × (Nat → Int32)) :=
  zb1 (fX2_isBoard Ps Pa) (fun (r1 : Int32) => if r1 = 0 then some ((-103 : Int32), Xs, Ps, Gs, Ga, Ns, Na, Qs) else zb1 (fX2_digitAt Ps Pa (0 : Int32)) (fun (r4 : Int32) => zb1 (fX2_digitAt Ps Pa (1 : Int32)) (fun (r6 : Int32) => zb2 (fX0_lay Gs Ga r4 r6) (fun (Gs_8 : Nat → Int32) (Ga_9 : Nat → Nat → Int32) => zb2 (fX4_read Ns Na Gs_8 Ps Pa) (fun (Ss_11 : Nat → Int32) (Sa_12 : Nat → Nat → Int32) => some ((Ss_11 2), (upd (upd (upd Xs 6 (0 : Int32)) 10 (0 : Int32)) 11 ((Xs 11) + (1 : Int32))), (upd Ps 1 (0 : Int32)), Gs_8, Ga_9, Ss_11, Sa_12, (upd Qs 2 (0 : Int32))))))))
noncomputable def fX5_bestQuestion  (a0 : Int32) : Option (Int32) :=
  if a0 = 0 then some (-1 : Int32) else zb1 (zi3 (fun (x1_13h : Int32) (x2_13h : Int32) (x3_13h : Int32) => if (4 : Int32) ≤ x3_13h then some (.inr x1_13h) else zck (zin x3_13h 4) (zb1 (fJ6_bitCount_0f7a4 (a0 &&& (zWC (x3_13h).toNatClampNeg))) (fun (r5 : Int32) => zck (zin x3_13h 4) (zb1 (fJ6_bitCount_0f7a4 (a0 &&& ((zWC (x3_13h).toNatClampNeg) ^^^ (-1 : Int32)))) (fun (r8 : Int32) => zlt (if r5 < r8 then r8 else r5) (fun (x4_10 : Int32) => zb2 (if x2_13h ≤ x4_10 then some (x1_13h, x2_13h) else some (x3_13h, x4_10)) (fun (x1_56 : Int32) (x2_56 : Int32) => some (.inl (x1_56, x2_56, (x3_13h + (1 : Int32))))))))))) (-1 : Int32) (6 : Int32) (0 : Int32)) (fun (x1_62x13 : Int32) => some x1_62x13)
noncomputable def fX5_peg (Gs : Nat → Int32) (Ga : Nat → Nat → Int32) (Ns : Nat → Int32) (Na : Nat → Nat → Int32) (Qs : Nat → Int32) (Qa : Nat → Nat → Int32) (a0 : Int32) (a1 : Int32) : Option (Int32) :=
  zb1 (fX4_isPeg Ns a0) (fun (r1 : Int32) => if r1 = 0 then some (-101 : Int32) else if a1 = (0 : Int32) then zb1 (fX4_kindOf Ns Na a0) (fun (r5 : Int32) => some r5) else if a1 = (1 : Int32) then zb1 (fX4_homeOf Ns Na a0) (fun (r8 : Int32) => some r8) else if a1 = (2 : Int32) then zb1 (fX4_targetsOf Ns Na Gs Ga a0) (fun (r11 : Int32) => some r11) else if a1 = (3 : Int32) then zb1 (fX3_sortsOf Qs Qa a0) (fun (r14 : Int32) => some r14) else if a1 = (4 : Int32) then zb1 (fX3_sortsOf Qs Qa a0) (fun (r17 : Int32) => zb1 (fX5_bestQuestion r17) (fun (r19 : Int32) => some r19)) else some (-102 : Int32))
noncomputable def fX5_as (Ns : Nat → Int32) (Na : Nat → Nat → Int32) (a0 : Int32) (a1 : Int32) : Option (Int32) :=
  zb1 (fX4_isPeg Ns a0) (fun (r1 : Int32) => if r1 = 0 then some (-101 : Int32) else if a1 < 0 then some (-102 : Int32) else if a1 < (5 : Int32) then zck (zin a1 5) (zb1 (fX4_kindOf Ns Na a0) (fun (r7 : Int32) => zb1 (fX5_hasBit (zTA (a1).toNatClampNeg) r7) (fun (r9 : Int32) => if r9 = 0 then some (-1 : Int32) else some a0))) else some (-102 : Int32))
noncomputable def fX5_place (Gs : Nat → Int32) (Ns : Nat → Int32) (Na : Nat → Nat → Int32) (a0 : Int32) (a1 : Int32) : Option (Int32) :=
  zb1 (fX0_has Gs a0) (fun (r1 : Int32) => if r1 = 0 then some (-101 : Int32) else if a1 = (0 : Int32) then zb1 (fX4_isHole Ns Gs a0) (fun (r5 : Int32) => if r5 = 0 then some (0 : Int32) else some (1 : Int32)) else if a1 = (1 : Int32) then zb1 (fX4_pegIn Na Gs a0) (fun (r9 : Int32) => some r9) else some (-102 : Int32))
noncomputable def fX5_jump (Xs : Nat → Int32) (Gs : Nat → Int32) (Ga : Nat → Nat → Int32) (Ns : Nat → Int32) (Na : Nat → Nat → Int32) (a0 : Int32) (a1 : Int32) : Option (Int32 × (Nat → Int32) × (Nat → Int32) × (Nat → Nat → Int32)) :=
  zb1 (fX4_isPeg Ns a0) (fun (r1 : Int32) => if r1 = 0 then some ((-101 : Int32), Xs, Ns, Na) else zb1 (fX0_has Gs a1) (fun (r4 : Int32) => if r4 = 0 then some ((-101 : Int32), Xs, Ns, Na) else zb1 (fX4_directionTo Ns Na Gs Ga a0 a1) (fun (r7 : Int32) => if r7 = (-1 : Int32) then some ((-103 : Int32), Xs, Ns, Na) else if (Ns 4) < (999 : Int32) then zb1 (fX4_neighbourOf Ns Na Gs Ga a0 r7) (fun (r11 : Int32) => zb2 (fX4_leap Ns Na Gs a0 r11 a1) (fun (Ss_13 : Nat → Int32) (Sa_14 : Nat → Nat → Int32) => some ((Ss_13 3), (upd Xs 10 (0 : Int32)), (upd Ss_13 4 ((Ss_13 4) + (1 : Int32))), Sa_14))) else some ((-104 : Int32), Xs, Ns, Na))))
noncomputable def fX5_put (Xs : Nat → Int32) (Gs : Nat → Int32) (Ns : Nat → Int32) (Na : Nat → Nat → Int32) (a0 : Int32) (a1 : Int32) : Option (Int32 × (Nat → Int32) × (Nat → Int32) × (Nat → Nat → Int32)) :=
  zb1 (fX4_isPeg Ns a0) (fun (r1 : Int32) => if r1 = 0 then some ((-101 : Int32), Xs, Ns, Na) else zb1 (fX0_has Gs a1) (fun (r4 : Int32) => if r4 = 0 then some ((-101 : Int32), Xs, Ns, Na) else zb1 (fX4_homeOf Ns Na a0) (fun (r7 : Int32) => if r7 = (-1 : Int32) then zb1 (fX4_isEmptyHole Ns Na Gs a1) (fun (r10 : Int32) => if r10 = 0 then some ((-103 : Int32), Xs, Ns, Na) else zb2 (fX4_set Ns Na Gs a0 a1) (fun (Ss_13 : Nat → Int32) (Sa_14 : Nat → Nat → Int32) => some ((Ss_13 3), (upd Xs 10 (0 : Int32)), Ss_13, Sa_14))) else some ((-103 : Int32), Xs, Ns, Na))))
noncomputable def fX5_plug (Xs : Nat → Int32) (Gs : Nat → Int32) (Ns : Nat → Int32) (Na : Nat → Nat → Int32) (a0 : Int32) : Option (Int32 × (Nat → Int32) × (Nat → Int32)) :=
  zb1 (fX0_has Gs a0) (fun (r1 : Int32) => if r1 = 0 then some ((-101 : Int32), Xs, Ns) else zb1 (fX4_isEmptyHole Ns Na Gs a0) (fun (r4 : Int32) => if r4 = 0 then some ((-103 : Int32), Xs, Ns) else zb1 (fJ6_bitCount_0f7a4 ((Ns 1) &&& (((1 : Int32) <<< (a0 &&& 31)) ^^^ (-1 : Int32)))) (fun (r7 : Int32) => some (r7, (upd Xs 10 (0 : Int32)), (upd Ns 1 ((Ns 1) &&& (((1 : Int32) <<< (a0 &&& 31)) ^^^ (-1 : Int32))))))))
noncomputable def fX5_bore (Xs : Nat → Int32) (Gs : Nat → Int32) (Ns : Nat → Int32) (a0 : Int32) : Option (Int32 × (Nat → Int32) × (Nat → Int32)) :=
  zb1 (fX0_has Gs a0) (fun (r1 : Int32) => if r1 = 0 then some ((-101 : Int32), Xs, Ns) else zb1 (fX4_isHole Ns Gs a0) (fun (r4 : Int32) => if r4 = 0 then zb1 (fJ6_bitCount_0f7a4 ((Ns 1) ||| ((1 : Int32) <<< (a0 &&& 31)))) (fun (r7 : Int32) => some (r7, (upd Xs 10 (0 : Int32)), (upd Ns 1 ((Ns 1) ||| ((1 : Int32) <<< (a0 &&& 31)))))) else some ((-103 : Int32), Xs, Ns)))
noncomputable def fX5_be (Xs : Nat → Int32) (Ns : Nat → Int32) (Na : Nat → Nat → Int32) (a0 : Int32) (a1 : Int32) : Option (Int32 × (Nat → Int32) × (Nat → Nat → Int32)) :=
  zb1 (fX4_isPeg Ns a0) (fun (r1 : Int32) => if r1 = 0 then some ((-101 : Int32), Xs, Na) else if a1 < 0 then some ((-102 : Int32), Xs, Na) else if a1 < (5 : Int32) then zb1 (fX4_kindOf Ns Na a0) (fun (r6 : Int32) => zb1 (fX4_turn Ns Na a0 a1) (fun (Sa_8 : Nat → Nat → Int32) => some (r6, (upd Xs 10 (0 : Int32)), Sa_8))) else some ((-102 : Int32), Xs, Na))
noncomputable def fX5_look_8 (Ss : Nat → Int32) (Sa : Nat → Nat → Int32) (os : Nat → Nat → Int32)  : Option ((Nat → Nat → Int32)) :=
  zb1 (fX1_begin (os 8)) (fun (Os_1 : Nat → Int32) => zb1 (if (Ss 2) ≤ (0 : Int32) then some () else some ()) (fun (_ : Unit) => zb1 (fX4_aloneBit Ss Sa) (fun (r4 : Int32) => zb1 (fX1_end Os_1 (Ss 3) r4) (fun (Os_6 : Nat → Int32) => some (va_up os 8 Os_6)))))
noncomputable def fX5_look_7 (Ss : Nat → Int32) (Sa : Nat → Nat → Int32) (Gs : Nat → Int32) (Ga : Nat → Nat → Int32) (os : Nat → Nat → Int32)  : Option ((Nat → Int32) × (Nat → Nat → Int32) × (Nat → Nat → Int32)) :=
  zb1 (fX1_begin (os 7)) (fun (Os_1 : Nat → Int32) => zb3 (zi4 (fun (x5_47h : Int32) (Ss_47h : Nat → Int32) (Sa_47h : Nat → Nat → Int32) (os_47h : Nat → Nat → Int32) => if (Ss_47h 2) ≤ x5_47h then some (.inr (Ss_47h, Sa_47h, os_47h)) else zb3 (zi4 (fun (x6_64h : Int32) (Ss_64h : Nat → Int32) (Sa_64h : Nat → Nat → Int32) (os_64h : Nat → Nat → Int32) => if (8 : Int32) ≤ x6_64h then some (.inr (Ss_64h, Sa_64h, os_64h)) else zb1 (fX4_targetOf Ss_64h Sa_64h Gs Ga x5_47h x6_64h) (fun (r9 : Int32) => zb3 (if r9 = (-1 : Int32) then some (Ss_64h, Sa_64h, os_64h) else zb1 (fX4_homeOf Ss_64h Sa_64h x5_47h) (fun (r13 : Int32) => zb1 (fX4_neighbourOf Ss_64h Sa_64h Gs Ga x5_47h x6_64h) (fun (r15 : Int32) => zb2 (fX4_leap Ss_64h Sa_64h Gs x5_47h r15 r9) (fun (Ss_17 : Nat → Int32) (Sa_18 : Nat → Nat → Int32) => zb1 (fX5_look_8 Ss_17 Sa_18 os_64h) (fun (os_21 : Nat → Nat → Int32) => zb2 (fX4_takeBack Ss_17 Sa_18 Gs Ga x5_47h r13 r15 x6_64h) (fun (Ss_23 : Nat → Int32) (Sa_24 : Nat → Nat → Int32) => zb1 (fX1_take (os_21 7) (os_21 8) (((100 : Int32) * x5_47h) + r9)) (fun (Os_26 : Nat → Int32) => some (Ss_23, Sa_24, (va_up os_21 7 Os_26))))))))) (fun (Ss_149 : Nat → Int32) (Sa_149 : Nat → Nat → Int32) (os_149 : Nat → Nat → Int32) => some (.inl ((x6_64h + (1 : Int32)), Ss_149, Sa_149, os_149))))) (0 : Int32) Ss_47h Sa_47h os_47h) (fun (Ss_155x64 : Nat → Int32) (Sa_155x64 : Nat → Nat → Int32) (os_155x64 : Nat → Nat → Int32) => some (.inl ((x5_47h + (1 : Int32)), Ss_155x64, Sa_155x64, os_155x64)))) (0 : Int32) Ss Sa (va_up os 7 Os_1)) (fun (Ss_161x47 : Nat → Int32) (Sa_161x47 : Nat → Nat → Int32) (os_161x47 : Nat → Nat → Int32) => zb1 (fX4_aloneBit Ss_161x47 Sa_161x47) (fun (r29 : Int32) => zb1 (fX1_end (os_161x47 7) (Ss_161x47 3) r29) (fun (Os_31 : Nat → Int32) => some (Ss_161x47, Sa_161x47, (va_up os_161x47 7 Os_31))))))
noncomputable def fX5_look_6 (Ss : Nat → Int32) (Sa : Nat → Nat → Int32) (Gs : Nat → Int32) (Ga : Nat → Nat → Int32) (os : Nat → Nat → Int32)  : Option ((Nat → Int32) × (Nat → Nat → Int32) × (Nat → Nat → Int32)) :=
  zb1 (fX1_begin (os 6)) (fun (Os_1 : Nat → Int32) => zb3 (zi4 (fun (x5_47h : Int32) (Ss_47h : Nat → Int32) (Sa_47h : Nat → Nat → Int32) (os_47h : Nat → Nat → Int32) => if (Ss_47h 2) ≤ x5_47h then some (.inr (Ss_47h, Sa_47h, os_47h)) else zb3 (zi4 (fun (x6_64h : Int32) (Ss_64h : Nat → Int32) (Sa_64h : Nat → Nat → Int32) (os_64h : Nat → Nat → Int32) => if (8 : Int32) ≤ x6_64h then some (.inr (Ss_64h, Sa_64h, os_64h)) else zb1 (fX4_targetOf Ss_64h Sa_64h Gs Ga x5_47h x6_64h) (fun (r9 : Int32) => zb3 (if r9 = (-1 : Int32) then some (Ss_64h, Sa_64h, os_64h) else zb1 (fX4_homeOf Ss_64h Sa_64h x5_47h) (fun (r13 : Int32) => zb1 (fX4_neighbourOf Ss_64h Sa_64h Gs Ga x5_47h x6_64h) (fun (r15 : Int32) => zb2 (fX4_leap Ss_64h Sa_64h Gs x5_47h r15 r9) (fun (Ss_17 : Nat → Int32) (Sa_18 : Nat → Nat → Int32) => zb3 (fX5_look_7 Ss_17 Sa_18 Gs Ga os_64h) (fun (Ss_21 : Nat → Int32) (Sa_22 : Nat → Nat → Int32) (os_23 : Nat → Nat → Int32) => zb2 (fX4_takeBack Ss_21 Sa_22 Gs Ga x5_47h r13 r15 x6_64h) (fun (Ss_25 : Nat → Int32) (Sa_26 : Nat → Nat → Int32) => zb1 (fX1_take (os_23 6) (os_23 7) (((100 : Int32) * x5_47h) + r9)) (fun (Os_28 : Nat → Int32) => some (Ss_25, Sa_26, (va_up os_23 6 Os_28))))))))) (fun (Ss_149 : Nat → Int32) (Sa_149 : Nat → Nat → Int32) (os_149 : Nat → Nat → Int32) => some (.inl ((x6_64h + (1 : Int32)), Ss_149, Sa_149, os_149))))) (0 : Int32) Ss_47h Sa_47h os_47h) (fun (Ss_155x64 : Nat → Int32) (Sa_155x64 : Nat → Nat → Int32) (os_155x64 : Nat → Nat → Int32) => some (.inl ((x5_47h + (1 : Int32)), Ss_155x64, Sa_155x64, os_155x64)))) (0 : Int32) Ss Sa (va_up os 6 Os_1)) (fun (Ss_161x47 : Nat → Int32) (Sa_161x47 : Nat → Nat → Int32) (os_161x47 : Nat → Nat → Int32) => zb1 (fX4_aloneBit Ss_161x47 Sa_161x47) (fun (r31 : Int32) => zb1 (fX1_end (os_161x47 6) (Ss_161x47 3) r31) (fun (Os_33 : Nat → Int32) => some (Ss_161x47, Sa_161x47, (va_up os_161x47 6 Os_33))))))
noncomputable def fX5_look_5 (Ss : Nat → Int32) (Sa : Nat → Nat → Int32) (Gs : Nat → Int32) (Ga : Nat → Nat → Int32) (os : Nat → Nat → Int32)  : Option ((Nat → Int32) × (Nat → Nat → Int32) × (Nat → Nat → Int32)) :=
  zb1 (fX1_begin (os 5)) (fun (Os_1 : Nat → Int32) => zb3 (zi4 (fun (x5_47h : Int32) (Ss_47h : Nat → Int32) (Sa_47h : Nat → Nat → Int32) (os_47h : Nat → Nat → Int32) => if (Ss_47h 2) ≤ x5_47h then some (.inr (Ss_47h, Sa_47h, os_47h)) else zb3 (zi4 (fun (x6_64h : Int32) (Ss_64h : Nat → Int32) (Sa_64h : Nat → Nat → Int32) (os_64h : Nat → Nat → Int32) => if (8 : Int32) ≤ x6_64h then some (.inr (Ss_64h, Sa_64h, os_64h)) else zb1 (fX4_targetOf Ss_64h Sa_64h Gs Ga x5_47h x6_64h) (fun (r9 : Int32) => zb3 (if r9 = (-1 : Int32) then some (Ss_64h, Sa_64h, os_64h) else zb1 (fX4_homeOf Ss_64h Sa_64h x5_47h) (fun (r13 : Int32) => zb1 (fX4_neighbourOf Ss_64h Sa_64h Gs Ga x5_47h x6_64h) (fun (r15 : Int32) => zb2 (fX4_leap Ss_64h Sa_64h Gs x5_47h r15 r9) (fun (Ss_17 : Nat → Int32) (Sa_18 : Nat → Nat → Int32) => zb3 (fX5_look_6 Ss_17 Sa_18 Gs Ga os_64h) (fun (Ss_21 : Nat → Int32) (Sa_22 : Nat → Nat → Int32) (os_23 : Nat → Nat → Int32) => zb2 (fX4_takeBack Ss_21 Sa_22 Gs Ga x5_47h r13 r15 x6_64h) (fun (Ss_25 : Nat → Int32) (Sa_26 : Nat → Nat → Int32) => zb1 (fX1_take (os_23 5) (os_23 6) (((100 : Int32) * x5_47h) + r9)) (fun (Os_28 : Nat → Int32) => some (Ss_25, Sa_26, (va_up os_23 5 Os_28))))))))) (fun (Ss_149 : Nat → Int32) (Sa_149 : Nat → Nat → Int32) (os_149 : Nat → Nat → Int32) => some (.inl ((x6_64h + (1 : Int32)), Ss_149, Sa_149, os_149))))) (0 : Int32) Ss_47h Sa_47h os_47h) (fun (Ss_155x64 : Nat → Int32) (Sa_155x64 : Nat → Nat → Int32) (os_155x64 : Nat → Nat → Int32) => some (.inl ((x5_47h + (1 : Int32)), Ss_155x64, Sa_155x64, os_155x64)))) (0 : Int32) Ss Sa (va_up os 5 Os_1)) (fun (Ss_161x47 : Nat → Int32) (Sa_161x47 : Nat → Nat → Int32) (os_161x47 : Nat → Nat → Int32) => zb1 (fX4_aloneBit Ss_161x47 Sa_161x47) (fun (r31 : Int32) => zb1 (fX1_end (os_161x47 5) (Ss_161x47 3) r31) (fun (Os_33 : Nat → Int32) => some (Ss_161x47, Sa_161x47, (va_up os_161x47 5 Os_33))))))
noncomputable def fX5_look_4 (Ss : Nat → Int32) (Sa : Nat → Nat → Int32) (Gs : Nat → Int32) (Ga : Nat → Nat → Int32) (os : Nat → Nat → Int32)  : Option ((Nat → Int32) × (Nat → Nat → Int32) × (Nat → Nat → Int32)) :=
  zb1 (fX1_begin (os 4)) (fun (Os_1 : Nat → Int32) => zb3 (zi4 (fun (x5_47h : Int32) (Ss_47h : Nat → Int32) (Sa_47h : Nat → Nat → Int32) (os_47h : Nat → Nat → Int32) => if (Ss_47h 2) ≤ x5_47h then some (.inr (Ss_47h, Sa_47h, os_47h)) else zb3 (zi4 (fun (x6_64h : Int32) (Ss_64h : Nat → Int32) (Sa_64h : Nat → Nat → Int32) (os_64h : Nat → Nat → Int32) => if (8 : Int32) ≤ x6_64h then some (.inr (Ss_64h, Sa_64h, os_64h)) else zb1 (fX4_targetOf Ss_64h Sa_64h Gs Ga x5_47h x6_64h) (fun (r9 : Int32) => zb3 (if r9 = (-1 : Int32) then some (Ss_64h, Sa_64h, os_64h) else zb1 (fX4_homeOf Ss_64h Sa_64h x5_47h) (fun (r13 : Int32) => zb1 (fX4_neighbourOf Ss_64h Sa_64h Gs Ga x5_47h x6_64h) (fun (r15 : Int32) => zb2 (fX4_leap Ss_64h Sa_64h Gs x5_47h r15 r9) (fun (Ss_17 : Nat → Int32) (Sa_18 : Nat → Nat → Int32) => zb3 (fX5_look_5 Ss_17 Sa_18 Gs Ga os_64h) (fun (Ss_21 : Nat → Int32) (Sa_22 : Nat → Nat → Int32) (os_23 : Nat → Nat → Int32) => zb2 (fX4_takeBack Ss_21 Sa_22 Gs Ga x5_47h r13 r15 x6_64h) (fun (Ss_25 : Nat → Int32) (Sa_26 : Nat → Nat → Int32) => zb1 (fX1_take (os_23 4) (os_23 5) (((100 : Int32) * x5_47h) + r9)) (fun (Os_28 : Nat → Int32) => some (Ss_25, Sa_26, (va_up os_23 4 Os_28))))))))) (fun (Ss_149 : Nat → Int32) (Sa_149 : Nat → Nat → Int32) (os_149 : Nat → Nat → Int32) => some (.inl ((x6_64h + (1 : Int32)), Ss_149, Sa_149, os_149))))) (0 : Int32) Ss_47h Sa_47h os_47h) (fun (Ss_155x64 : Nat → Int32) (Sa_155x64 : Nat → Nat → Int32) (os_155x64 : Nat → Nat → Int32) => some (.inl ((x5_47h + (1 : Int32)), Ss_155x64, Sa_155x64, os_155x64)))) (0 : Int32) Ss Sa (va_up os 4 Os_1)) (fun (Ss_161x47 : Nat → Int32) (Sa_161x47 : Nat → Nat → Int32) (os_161x47 : Nat → Nat → Int32) => zb1 (fX4_aloneBit Ss_161x47 Sa_161x47) (fun (r31 : Int32) => zb1 (fX1_end (os_161x47 4) (Ss_161x47 3) r31) (fun (Os_33 : Nat → Int32) => some (Ss_161x47, Sa_161x47, (va_up os_161x47 4 Os_33))))))
noncomputable def fX5_look_3 (Ss : Nat → Int32) (Sa : Nat → Nat → Int32) (Gs : Nat → Int32) (Ga : Nat → Nat → Int32) (os : Nat → Nat → Int32)  : Option ((Nat → Int32) × (Nat → Nat → Int32) × (Nat → Nat → Int32)) :=
  zb1 (fX1_begin (os 3)) (fun (Os_1 : Nat → Int32) => zb3 (zi4 (fun (x5_47h : Int32) (Ss_47h : Nat → Int32) (Sa_47h : Nat → Nat → Int32) (os_47h : Nat → Nat → Int32) => if (Ss_47h 2) ≤ x5_47h then some (.inr (Ss_47h, Sa_47h, os_47h)) else zb3 (zi4 (fun (x6_64h : Int32) (Ss_64h : Nat → Int32) (Sa_64h : Nat → Nat → Int32) (os_64h : Nat → Nat → Int32) => if (8 : Int32) ≤ x6_64h then some (.inr (Ss_64h, Sa_64h, os_64h)) else zb1 (fX4_targetOf Ss_64h Sa_64h Gs Ga x5_47h x6_64h) (fun (r9 : Int32) => zb3 (if r9 = (-1 : Int32) then some (Ss_64h, Sa_64h, os_64h) else zb1 (fX4_homeOf Ss_64h Sa_64h x5_47h) (fun (r13 : Int32) => zb1 (fX4_neighbourOf Ss_64h Sa_64h Gs Ga x5_47h x6_64h) (fun (r15 : Int32) => zb2 (fX4_leap Ss_64h Sa_64h Gs x5_47h r15 r9) (fun (Ss_17 : Nat → Int32) (Sa_18 : Nat → Nat → Int32) => zb3 (fX5_look_4 Ss_17 Sa_18 Gs Ga os_64h) (fun (Ss_21 : Nat → Int32) (Sa_22 : Nat → Nat → Int32) (os_23 : Nat → Nat → Int32) => zb2 (fX4_takeBack Ss_21 Sa_22 Gs Ga x5_47h r13 r15 x6_64h) (fun (Ss_25 : Nat → Int32) (Sa_26 : Nat → Nat → Int32) => zb1 (fX1_take (os_23 3) (os_23 4) (((100 : Int32) * x5_47h) + r9)) (fun (Os_28 : Nat → Int32) => some (Ss_25, Sa_26, (va_up os_23 3 Os_28))))))))) (fun (Ss_149 : Nat → Int32) (Sa_149 : Nat → Nat → Int32) (os_149 : Nat → Nat → Int32) => some (.inl ((x6_64h + (1 : Int32)), Ss_149, Sa_149, os_149))))) (0 : Int32) Ss_47h Sa_47h os_47h) (fun (Ss_155x64 : Nat → Int32) (Sa_155x64 : Nat → Nat → Int32) (os_155x64 : Nat → Nat → Int32) => some (.inl ((x5_47h + (1 : Int32)), Ss_155x64, Sa_155x64, os_155x64)))) (0 : Int32) Ss Sa (va_up os 3 Os_1)) (fun (Ss_161x47 : Nat → Int32) (Sa_161x47 : Nat → Nat → Int32) (os_161x47 : Nat → Nat → Int32) => zb1 (fX4_aloneBit Ss_161x47 Sa_161x47) (fun (r31 : Int32) => zb1 (fX1_end (os_161x47 3) (Ss_161x47 3) r31) (fun (Os_33 : Nat → Int32) => some (Ss_161x47, Sa_161x47, (va_up os_161x47 3 Os_33))))))
noncomputable def fX5_look_2 (Ss : Nat → Int32) (Sa : Nat → Nat → Int32) (Gs : Nat → Int32) (Ga : Nat → Nat → Int32) (os : Nat → Nat → Int32)  : Option ((Nat → Int32) × (Nat → Nat → Int32) × (Nat → Nat → Int32)) :=
  zb1 (fX1_begin (os 2)) (fun (Os_1 : Nat → Int32) => zb3 (zi4 (fun (x5_47h : Int32) (Ss_47h : Nat → Int32) (Sa_47h : Nat → Nat → Int32) (os_47h : Nat → Nat → Int32) => if (Ss_47h 2) ≤ x5_47h then some (.inr (Ss_47h, Sa_47h, os_47h)) else zb3 (zi4 (fun (x6_64h : Int32) (Ss_64h : Nat → Int32) (Sa_64h : Nat → Nat → Int32) (os_64h : Nat → Nat → Int32) => if (8 : Int32) ≤ x6_64h then some (.inr (Ss_64h, Sa_64h, os_64h)) else zb1 (fX4_targetOf Ss_64h Sa_64h Gs Ga x5_47h x6_64h) (fun (r9 : Int32) => zb3 (if r9 = (-1 : Int32) then some (Ss_64h, Sa_64h, os_64h) else zb1 (fX4_homeOf Ss_64h Sa_64h x5_47h) (fun (r13 : Int32) => zb1 (fX4_neighbourOf Ss_64h Sa_64h Gs Ga x5_47h x6_64h) (fun (r15 : Int32) => zb2 (fX4_leap Ss_64h Sa_64h Gs x5_47h r15 r9) (fun (Ss_17 : Nat → Int32) (Sa_18 : Nat → Nat → Int32) => zb3 (fX5_look_3 Ss_17 Sa_18 Gs Ga os_64h) (fun (Ss_21 : Nat → Int32) (Sa_22 : Nat → Nat → Int32) (os_23 : Nat → Nat → Int32) => zb2 (fX4_takeBack Ss_21 Sa_22 Gs Ga x5_47h r13 r15 x6_64h) (fun (Ss_25 : Nat → Int32) (Sa_26 : Nat → Nat → Int32) => zb1 (fX1_take (os_23 2) (os_23 3) (((100 : Int32) * x5_47h) + r9)) (fun (Os_28 : Nat → Int32) => some (Ss_25, Sa_26, (va_up os_23 2 Os_28))))))))) (fun (Ss_149 : Nat → Int32) (Sa_149 : Nat → Nat → Int32) (os_149 : Nat → Nat → Int32) => some (.inl ((x6_64h + (1 : Int32)), Ss_149, Sa_149, os_149))))) (0 : Int32) Ss_47h Sa_47h os_47h) (fun (Ss_155x64 : Nat → Int32) (Sa_155x64 : Nat → Nat → Int32) (os_155x64 : Nat → Nat → Int32) => some (.inl ((x5_47h + (1 : Int32)), Ss_155x64, Sa_155x64, os_155x64)))) (0 : Int32) Ss Sa (va_up os 2 Os_1)) (fun (Ss_161x47 : Nat → Int32) (Sa_161x47 : Nat → Nat → Int32) (os_161x47 : Nat → Nat → Int32) => zb1 (fX4_aloneBit Ss_161x47 Sa_161x47) (fun (r31 : Int32) => zb1 (fX1_end (os_161x47 2) (Ss_161x47 3) r31) (fun (Os_33 : Nat → Int32) => some (Ss_161x47, Sa_161x47, (va_up os_161x47 2 Os_33))))))
noncomputable def fX5_look_1 (Ss : Nat → Int32) (Sa : Nat → Nat → Int32) (Gs : Nat → Int32) (Ga : Nat → Nat → Int32) (os : Nat → Nat → Int32)  : Option ((Nat → Int32) × (Nat → Nat → Int32) × (Nat → Nat → Int32)) :=
  zb1 (fX1_begin (os 1)) (fun (Os_1 : Nat → Int32) => zb3 (zi4 (fun (x5_47h : Int32) (Ss_47h : Nat → Int32) (Sa_47h : Nat → Nat → Int32) (os_47h : Nat → Nat → Int32) => if (Ss_47h 2) ≤ x5_47h then some (.inr (Ss_47h, Sa_47h, os_47h)) else zb3 (zi4 (fun (x6_64h : Int32) (Ss_64h : Nat → Int32) (Sa_64h : Nat → Nat → Int32) (os_64h : Nat → Nat → Int32) => if (8 : Int32) ≤ x6_64h then some (.inr (Ss_64h, Sa_64h, os_64h)) else zb1 (fX4_targetOf Ss_64h Sa_64h Gs Ga x5_47h x6_64h) (fun (r9 : Int32) => zb3 (if r9 = (-1 : Int32) then some (Ss_64h, Sa_64h, os_64h) else zb1 (fX4_homeOf Ss_64h Sa_64h x5_47h) (fun (r13 : Int32) => zb1 (fX4_neighbourOf Ss_64h Sa_64h Gs Ga x5_47h x6_64h) (fun (r15 : Int32) => zb2 (fX4_leap Ss_64h Sa_64h Gs x5_47h r15 r9) (fun (Ss_17 : Nat → Int32) (Sa_18 : Nat → Nat → Int32) => zb3 (fX5_look_2 Ss_17 Sa_18 Gs Ga os_64h) (fun (Ss_21 : Nat → Int32) (Sa_22 : Nat → Nat → Int32) (os_23 : Nat → Nat → Int32) => zb2 (fX4_takeBack Ss_21 Sa_22 Gs Ga x5_47h r13 r15 x6_64h) (fun (Ss_25 : Nat → Int32) (Sa_26 : Nat → Nat → Int32) => zb1 (fX1_take (os_23 1) (os_23 2) (((100 : Int32) * x5_47h) + r9)) (fun (Os_28 : Nat → Int32) => some (Ss_25, Sa_26, (va_up os_23 1 Os_28))))))))) (fun (Ss_149 : Nat → Int32) (Sa_149 : Nat → Nat → Int32) (os_149 : Nat → Nat → Int32) => some (.inl ((x6_64h + (1 : Int32)), Ss_149, Sa_149, os_149))))) (0 : Int32) Ss_47h Sa_47h os_47h) (fun (Ss_155x64 : Nat → Int32) (Sa_155x64 : Nat → Nat → Int32) (os_155x64 : Nat → Nat → Int32) => some (.inl ((x5_47h + (1 : Int32)), Ss_155x64, Sa_155x64, os_155x64)))) (0 : Int32) Ss Sa (va_up os 1 Os_1)) (fun (Ss_161x47 : Nat → Int32) (Sa_161x47 : Nat → Nat → Int32) (os_161x47 : Nat → Nat → Int32) => zb1 (fX4_aloneBit Ss_161x47 Sa_161x47) (fun (r31 : Int32) => zb1 (fX1_end (os_161x47 1) (Ss_161x47 3) r31) (fun (Os_33 : Nat → Int32) => some (Ss_161x47, Sa_161x47, (va_up os_161x47 1 Os_33))))))
noncomputable def fX5_look_0 (Ss : Nat → Int32) (Sa : Nat → Nat → Int32) (Gs : Nat → Int32) (Ga : Nat → Nat → Int32) (os : Nat → Nat → Int32)  : Option ((Nat → Int32) × (Nat → Nat → Int32) × (Nat → Nat → Int32)) :=
  zb1 (fX1_begin (os 0)) (fun (Os_1 : Nat → Int32) => zb3 (zi4 (fun (x5_47h : Int32) (Ss_47h : Nat → Int32) (Sa_47h : Nat → Nat → Int32) (os_47h : Nat → Nat → Int32) => if (Ss_47h 2) ≤ x5_47h then some (.inr (Ss_47h, Sa_47h, os_47h)) else zb3 (zi4 (fun (x6_64h : Int32) (Ss_64h : Nat → Int32) (Sa_64h : Nat → Nat → Int32) (os_64h : Nat → Nat → Int32) => if (8 : Int32) ≤ x6_64h then some (.inr (Ss_64h, Sa_64h, os_64h)) else zb1 (fX4_targetOf Ss_64h Sa_64h Gs Ga x5_47h x6_64h) (fun (r9 : Int32) => zb3 (if r9 = (-1 : Int32) then some (Ss_64h, Sa_64h, os_64h) else zb1 (fX4_homeOf Ss_64h Sa_64h x5_47h) (fun (r13 : Int32) => zb1 (fX4_neighbourOf Ss_64h Sa_64h Gs Ga x5_47h x6_64h) (fun (r15 : Int32) => zb2 (fX4_leap Ss_64h Sa_64h Gs x5_47h r15 r9) (fun (Ss_17 : Nat → Int32) (Sa_18 : Nat → Nat → Int32) => zb3 (fX5_look_1 Ss_17 Sa_18 Gs Ga os_64h) (fun (Ss_21 : Nat → Int32) (Sa_22 : Nat → Nat → Int32) (os_23 : Nat → Nat → Int32) => zb2 (fX4_takeBack Ss_21 Sa_22 Gs Ga x5_47h r13 r15 x6_64h) (fun (Ss_25 : Nat → Int32) (Sa_26 : Nat → Nat → Int32) => zb1 (fX1_take (os_23 0) (os_23 1) (((100 : Int32) * x5_47h) + r9)) (fun (Os_28 : Nat → Int32) => some (Ss_25, Sa_26, (va_up os_23 0 Os_28))))))))) (fun (Ss_149 : Nat → Int32) (Sa_149 : Nat → Nat → Int32) (os_149 : Nat → Nat → Int32) => some (.inl ((x6_64h + (1 : Int32)), Ss_149, Sa_149, os_149))))) (0 : Int32) Ss_47h Sa_47h os_47h) (fun (Ss_155x64 : Nat → Int32) (Sa_155x64 : Nat → Nat → Int32) (os_155x64 : Nat → Nat → Int32) => some (.inl ((x5_47h + (1 : Int32)), Ss_155x64, Sa_155x64, os_155x64)))) (0 : Int32) Ss Sa (va_up os 0 Os_1)) (fun (Ss_161x47 : Nat → Int32) (Sa_161x47 : Nat → Nat → Int32) (os_161x47 : Nat → Nat → Int32) => zb1 (fX4_aloneBit Ss_161x47 Sa_161x47) (fun (r31 : Int32) => zb1 (fX1_end (os_161x47 0) (Ss_161x47 3) r31) (fun (Os_33 : Nat → Int32) => some (Ss_161x47, Sa_161x47, (va_up os_161x47 0 Os_33))))))
noncomputable def fX5_lookAhead (Xs : Nat → Int32) (Gs : Nat → Int32) (Ga : Nat → Nat → Int32) (Ns : Nat → Int32) (Na : Nat → Nat → Int32) (Ts : Nat → Int32) (Ta : Nat → Nat → Int32) (os : Nat → Nat → Int32)  : Option ((Nat → Int32) × (Nat → Int32) × (Nat → Nat → Int32) × (Nat → Nat → Int32)) :=
  if (Xs 10) = 0 then zb2 (fX4_copyFrom Ts Ta Ns Na) (fun (Ss_2 : Nat → Int32) (Sa_3 : Nat → Nat → Int32) => zb3 (fX5_look_0 Ss_2 Sa_3 Gs Ga os) (fun (Ss_5 : Nat → Int32) (Sa_6 : Nat → Nat → Int32) (os_7 : Nat → Nat → Int32) => some ((upd Xs 10 (1 : Int32)), Ss_5, Sa_6, os_7))) else some (Xs, Ts, Ta, os)
noncomputable def fX5_courses (Xs : Nat → Int32) (Gs : Nat → Int32) (Ga : Nat → Nat → Int32) (Ns : Nat → Int32) (Na : Nat → Nat → Int32) (Ts : Nat → Int32) (Ta : Nat → Nat → Int32) (os : Nat → Nat → Int32) (a0 : Int32) : Option (Int32 × (Nat → Int32) × (Nat → Int32) × (Nat → Nat → Int32) × (Nat → Nat → Int32)) :=
  if a0 < 0 then some ((-102 : Int32), Xs, Ts, Ta, os) else if a0 ≤ (5 : Int32) then if (Xs 11) = 0 then some ((-103 : Int32), Xs, Ts, Ta, os) else zb4 (fX5_lookAhead Xs Gs Ga Ns Na Ts Ta os) (fun (Xs_4 : Nat → Int32) (Ts_5 : Nat → Int32) (Ta_6 : Nat → Nat → Int32) (os_7 : Nat → Nat → Int32) => if a0 = (0 : Int32) then some (((os_7 0) 1), Xs_4, Ts_5, Ta_6, os_7) else if a0 = (1 : Int32) then some (((os_7 0) 2), Xs_4, Ts_5, Ta_6, os_7) else if a0 = (2 : Int32) then some (((os_7 0) 3), Xs_4, Ts_5, Ta_6, os_7) else if a0 = (3 : Int32) then some (((os_7 0) 4), Xs_4, Ts_5, Ta_6, os_7) else if a0 = (4 : Int32) then some (((os_7 0) 5), Xs_4, Ts_5, Ta_6, os_7) else some (((os_7 0) 6), Xs_4, Ts_5, Ta_6, os_7)) else some ((-102 : Int32), Xs, Ts, Ta, os)
noncomputable def fX5_wins (Xs : Nat → Int32) (Gs : Nat → Int32) (Ga : Nat → Nat → Int32) (Ns : Nat → Int32) (Na : Nat → Nat → Int32) (Ts : Nat → Int32) (Ta : Nat → Nat → Int32) (os : Nat → Nat → Int32) (a0 : Int32) : Option (Int32 × (Nat → Int32) × (Nat → Int32) × (Nat → Nat → Int32) × (Nat → Nat → Int32)) :=
  if a0 < 0 then some ((-102 : Int32), Xs, Ts, Ta, os) else if a0 ≤ (1 : Int32) then if (Xs 11) = 0 then some ((-103 : Int32), Xs, Ts, Ta, os) else zb4 (fX5_lookAhead Xs Gs Ga Ns Na Ts Ta os) (fun (Xs_4 : Nat → Int32) (Ts_5 : Nat → Int32) (Ta_6 : Nat → Nat → Int32) (os_7 : Nat → Nat → Int32) => if a0 = (1 : Int32) then some (((os_7 0) 7), Xs_4, Ts_5, Ta_6, os_7) else if ((os_7 0) 7) = (-1 : Int32) then some ((0 : Int32), Xs_4, Ts_5, Ta_6, os_7) else some ((1 : Int32), Xs_4, Ts_5, Ta_6, os_7)) else some ((-102 : Int32), Xs, Ts, Ta, os)
noncomputable def fX5_fewestWithOneMore (Gs : Nat → Int32) (Ga : Nat → Nat → Int32) (Ns : Nat → Int32) (Na : Nat → Nat → Int32) (Ts : Nat → Int32) (Ta : Nat → Nat → Int32) (os : Nat → Nat → Int32) (a0 : Int32) : Option (Int32 × (Nat → Int32) × (Nat → Nat → Int32) × (Nat → Nat → Int32)) :=
  zb2 (fX4_copyFrom Ts Ta Ns Na) (fun (Ss_1 : Nat → Int32) (Sa_2 : Nat → Nat → Int32) => zb2 (fX4_addPlain Ss_1 Sa_2 Gs a0) (fun (Ss_4 : Nat → Int32) (Sa_5 : Nat → Nat → Int32) => zb3 (fX5_look_0 Ss_4 Sa_5 Gs Ga os) (fun (Ss_7 : Nat → Int32) (Sa_8 : Nat → Nat → Int32) (os_9 : Nat → Nat → Int32) => some (((os_9 0) 1), Ss_7, Sa_8, os_9))))
noncomputable def fX5_add (Xs : Nat → Int32) (Gs : Nat → Int32) (Ga : Nat → Nat → Int32) (Ns : Nat → Int32) (Na : Nat → Nat → Int32) (Ts : Nat → Int32) (Ta : Nat → Nat → Int32) (os : Nat → Nat → Int32)  : Option (Int32 × (Nat → Int32) × (Nat → Int32) × (Nat → Nat → Int32) × (Nat → Nat → Int32)) :=
  if (Xs 11) = 0 then some ((-103 : Int32), Xs, Ts, Ta, os) else if (Xs 12) < (12 : Int32) then zbs (zi4 (fun (x1_36h : Int32) (Ts_36h : Nat → Int32) (Ta_36h : Nat → Nat → Int32) (os_36h : Nat → Nat → Int32) => if (12 : Int32) ≤ x1_36h then some (.inr (.inr (Ts_36h, Ta_36h, os_36h))) else zb1 (fX4_isEmptyHole Ns Na Gs x1_36h) (fun (r5 : Int32) => zjn (fun (Ts_64 : Nat → Int32) (Ta_64 : Nat → Nat → Int32) (os_64 : Nat → Nat → Int32) => some (.inl ((x1_36h + (1 : Int32)), Ts_64, Ta_64, os_64))) (fun J64 => if r5 = 0 then J64 Ts_36h Ta_36h os_36h else zb4 (fX5_fewestWithOneMore Gs Ga Ns Na Ts_36h Ta_36h os_36h x1_36h) (fun (r8 : Int32) (Ts_9 : Nat → Int32) (Ta_10 : Nat → Nat → Int32) (os_11 : Nat → Nat → Int32) => if r8 = (1 : Int32) then some (.inr (.inl (x1_36h, Ts_9, Ta_10, os_11))) else J64 Ts_9 Ta_10 os_11)))) (0 : Int32) Ts Ta os) (fun (q_ : Int32 × (Nat → Int32) × (Nat → Nat → Int32) × (Nat → Nat → Int32)) => zu4 (fun (x1_62x36 : Int32) (Ts_62x36 : Nat → Int32) (Ta_62x36 : Nat → Nat → Int32) (os_62x36 : Nat → Nat → Int32) => some (x1_62x36, (upd (upd Xs 12 ((Xs 12) + (1 : Int32))) 10 (0 : Int32)), Ts_62x36, Ta_62x36, os_62x36)) q_) (fun (q_ : (Nat → Int32) × (Nat → Nat → Int32) × (Nat → Nat → Int32)) => zu3 (fun (Ts_70x36 : Nat → Int32) (Ta_70x36 : Nat → Nat → Int32) (os_70x36 : Nat → Nat → Int32) => some ((-1 : Int32), (upd (upd Xs 12 ((Xs 12) + (1 : Int32))) 10 (0 : Int32)), Ts_70x36, Ta_70x36, os_70x36)) q_) else some ((-103 : Int32), Xs, Ts, Ta, os)
noncomputable def fX5_mean (Xs : Nat → Int32) (Gs : Nat → Int32) (Ga : Nat → Nat → Int32) (Ns : Nat → Int32) (Na : Nat → Nat → Int32) (Ts : Nat → Int32) (Ta : Nat → Nat → Int32) (os : Nat → Nat → Int32)  : Option (Int32 × (Nat → Int32) × (Nat → Int32) × (Nat → Nat → Int32) × (Nat → Nat → Int32)) :=
  if (Xs 11) = 0 then some ((-103 : Int32), Xs, Ts, Ta, os) else zb4 (fX5_lookAhead Xs Gs Ga Ns Na Ts Ta os) (fun (Xs_2 : Nat → Int32) (Ts_3 : Nat → Int32) (Ta_4 : Nat → Nat → Int32) (os_5 : Nat → Nat → Int32) => some (((os_5 0) 8), Xs_2, Ts_3, Ta_4, os_5))
noncomputable def fX5_see (Ns : Nat → Int32) (Qs : Nat → Int32) (Qa : Nat → Nat → Int32) (a0 : Int32) (a1 : Int32) (a2 : Int32) : Option (Int32 × (Nat → Int32) × (Nat → Nat → Int32)) :=
  zb1 (fX4_isPeg Ns a0) (fun (r1 : Int32) => if r1 = 0 then some ((-101 : Int32), Qs, Qa) else if a1 < 0 then some ((-102 : Int32), Qs, Qa) else if a1 < (4 : Int32) then zb1 (if a2 = 0 then zck (zin a1 4) (some ((31 : Int32) &&& ((zWC (a1).toNatClampNeg) ^^^ (-1 : Int32)))) else zck (zin a1 4) (some (zWC (a1).toNatClampNeg))) (fun (v48 : Int32) => zb3 (fX3_append Qs Qa a0 v48) (fun (r6 : Int32) (Qs_7 : Nat → Int32) (Qa_8 : Nat → Nat → Int32) => if r6 = 0 then some ((-104 : Int32), Qs_7, Qa_8) else some ((Qs_7 2), Qs_7, Qa_8))) else some ((-102 : Int32), Qs, Qa))
noncomputable def fX5_forget (Qs : Nat → Int32)  : Option (Int32 × (Nat → Int32)) :=
  zlt (Qs 2) (fun (x1_1 : Int32) => some (x1_1, (upd Qs 2 (0 : Int32))))
noncomputable def fX5_nextSeed  (a0 : Int64) : Option (Int64) :=
  some ((((1103515245 : Int64) * a0) + (12345 : Int64)) - (((1103515245 : Int64) * a0) + (12345 : Int64)) / (2147483648 : Int64) * (2147483648 : Int64))
noncomputable def fX5_runs (Xs : Nat → Int32) (Gs : Nat → Int32) (Ga : Nat → Nat → Int32) (Ns : Nat → Int32) (Na : Nat → Nat → Int32) (Ts : Nat → Int32) (Ta : Nat → Nat → Int32) (a0 : Int32) (a1 : Int32) (a2 : Int32) : Option (Int32 × (Nat → Int32) × (Nat → Nat → Int32)) :=
  if a0 < (1 : Int32) then some ((-102 : Int32), Ts, Ta) else if (40 : Int32) < a0 then some ((-102 : Int32), Ts, Ta) else if a1 < 0 then some ((-102 : Int32), Ts, Ta) else if a2 < 0 then some ((-102 : Int32), Ts, Ta) else if a2 ≤ (2 : Int32) then if (Xs 11) = 0 then some ((-103 : Int32), Ts, Ta) else zlt ((a1).toInt64) (fun (x4_7 : Int64) => zb5 (zi6 (fun (x4_50h : Int64) (x6_50h : Int32) (x7_50h : Int32) (x8_50h : Int32) (Ts_50h : Nat → Int32) (Ta_50h : Nat → Nat → Int32) => if a0 ≤ x8_50h then some (.inr (x4_50h, x6_50h, x7_50h, Ts_50h, Ta_50h)) else zb2 (fX4_copyFrom Ts_50h Ta_50h Ns Na) (fun (Ss_10 : Nat → Int32) (Sa_11 : Nat → Nat → Int32) => zb1 (fX4_choices Ss_10 Sa_11 Gs Ga) (fun (r13 : Int32) => zb4 (zi6 (fun (x4_79h : Int64) (x6_79h : Int32) (x9_79h : Int32) (x10_79h : Int32) (Ts_79h : Nat → Int32) (Ta_79h : Nat → Nat → Int32) => if (7 : Int32) ≤ x10_79h then some (.inr (x4_79h, x6_79h, Ts_79h, Ta_79h)) else if x9_79h ≤ 0 then some (.inr (x4_79h, x6_79h, Ts_79h, Ta_79h)) else zb1 (fX5_nextSeed x4_79h) (fun (r18 : Int64) => zck (znl (x9_79h).toInt64) (zb2 (fX4_leapByChoice Ts_79h Ta_79h Gs Ga ((((r18 / (65536 : Int64)) - (r18 / (65536 : Int64)) / (x9_79h).toInt64 * (x9_79h).toInt64)).toInt32)) (fun (Ss_21 : Nat → Int32) (Sa_22 : Nat → Nat → Int32) => zb1 (fX4_choices Ss_21 Sa_22 Gs Ga) (fun (r24 : Int32) => some (.inl (r18, (x6_79h + (1 : Int32)), r24, (x10_79h + (1 : Int32)), Ss_21, Sa_22))))))) x4_50h x6_50h r13 (0 : Int32) Ss_10 Sa_11) (fun (x4_134x79 : Int64) (x6_134x79 : Int32) (Ts_134x79 : Nat → Int32) (Ta_134x79 : Nat → Nat → Int32) => zb1 (if (Ts_134x79 3) = (1 : Int32) then some (x7_50h + (1 : Int32)) else some x7_50h) (fun (x7_148 : Int32) => some (.inl (x4_134x79, x6_134x79, x7_148, (x8_50h + (1 : Int32)), Ts_134x79, Ta_134x79))))))) x4_7 (0 : Int32) (0 : Int32) (0 : Int32) Ts Ta) (fun (x4_154x50 : Int64) (x6_154x50 : Int32) (x7_154x50 : Int32) (Ts_154x50 : Nat → Int32) (Ta_154x50 : Nat → Nat → Int32) => if a2 = 0 then some (x6_154x50, Ts_154x50, Ta_154x50) else if a2 = (1 : Int32) then some (x7_154x50, Ts_154x50, Ta_154x50) else some ((x4_154x50).toInt32, Ts_154x50, Ta_154x50))) else some ((-102 : Int32), Ts, Ta)
noncomputable def fX5_image (Xs : Nat → Int32) (Ns : Nat → Int32) (Na : Nat → Nat → Int32) (Qs : Nat → Int32) (Qa : Nat → Nat → Int32) (Ks : Nat → Int32) (Ka : Nat → Nat → Int32) (Ls : Nat → Int32) (La : Nat → Nat → Int32)  : Option (Int32 × (Nat → Int32) × (Nat → Int32) × (Nat → Nat → Int32) × (Nat → Int32) × (Nat → Nat → Int32)) :=
  if (Xs 11) = 0 then some ((-103 : Int32), Xs, Ks, Ka, Ls, La) else zb2 (fX4_copyFrom Ks Ka Ns Na) (fun (Ss_2 : Nat → Int32) (Sa_3 : Nat → Nat → Int32) => zb2 (fX3_copyFrom Ls La Qs Qa) (fun (Qs_5 : Nat → Int32) (Qa_6 : Nat → Nat → Int32) => some ((Ns 4), (upd Xs 6 (1 : Int32)), Ss_2, Sa_3, Qs_5, Qa_6)))
noncomputable def fX5_restore (Xs : Nat → Int32) (Ns : Nat → Int32) (Na : Nat → Nat → Int32) (Qs : Nat → Int32) (Qa : Nat → Nat → Int32) (Ks : Nat → Int32) (Ka : Nat → Nat → Int32) (Ls : Nat → Int32) (La : Nat → Nat → Int32)  : Option (Int32 × (Nat → Int32) × (Nat → Int32) × (Nat → Nat → Int32) × (Nat → Int32) × (Nat → Nat → Int32)) :=
  if (Xs 6) = 0 then some ((-103 : Int32), Xs, Ns, Na, Qs, Qa) else zb2 (fX4_copyFrom Ns Na Ks Ka) (fun (Ss_2 : Nat → Int32) (Sa_3 : Nat → Nat → Int32) => zb2 (fX3_copyFrom Qs Qa Ls La) (fun (Qs_5 : Nat → Int32) (Qa_6 : Nat → Nat → Int32) => some ((Ss_2 4), (upd Xs 10 (0 : Int32)), Ss_2, Sa_3, Qs_5, Qa_6)))
noncomputable def fX5_count (Xs : Nat → Int32) (Ps : Nat → Int32) (Gs : Nat → Int32) (Ga : Nat → Nat → Int32) (Ns : Nat → Int32) (Na : Nat → Nat → Int32) (Qs : Nat → Int32) (a0 : Int32) : Option (Int32) :=
  if a0 = (0 : Int32) then some (Gs 0) else if a0 = (1 : Int32) then some (Gs 1) else if a0 = (2 : Int32) then zb1 (fJ6_bitCount_0f7a4 (Ns 1)) (fun (r4 : Int32) => some r4) else if a0 = (3 : Int32) then some (Ns 2) else if a0 = (4 : Int32) then some (Ns 3) else if a0 = (5 : Int32) then zb1 (fX4_choices Ns Na Gs Ga) (fun (r9 : Int32) => some r9) else if a0 = (6 : Int32) then some (Ns 4) else if a0 = (7 : Int32) then some (Qs 2) else if a0 = (8 : Int32) then some (Ps 1) else if a0 = (9 : Int32) then some (Xs 11) else if a0 = (10 : Int32) then some (Xs 12) else some (-102 : Int32)
noncomputable def fX5_digest (Xs : Nat → Int32) (Ps : Nat → Int32) (Pa : Nat → Nat → Int32) (Gs : Nat → Int32) (Ga : Nat → Nat → Int32) (Ns : Nat → Int32) (Na : Nat → Nat → Int32) (Qs : Nat → Int32) (Qa : Nat → Nat → Int32) (Ts : Nat → Int32) (Ta : Nat → Nat → Int32) (os : Nat → Nat → Int32)  : Option (Int64 × (Nat → Int32) × (Nat → Int32) × (Nat → Nat → Int32) × (Nat → Nat → Int32)) :=
  zb1 (zi2 (fun (x1_6h : Int64) (x3_6h : Int32) => if (Ns 2) ≤ x3_6h then some (.inr x1_6h) else zb1 (zi2 (fun (x1_20h : Int64) (x4_20h : Int32) => if (4 : Int32) < x4_20h then some (.inr x1_20h) else zb1 (fX5_peg Gs Ga Ns Na Qs Qa x3_6h x4_20h) (fun (r5 : Int32) => zlt (((31 : Int64) * x1_20h) + (r5).toInt64) (fun (x1_7 : Int64) => some (.inl (x1_7, (x4_20h + (1 : Int32))))))) x1_6h (0 : Int32)) (fun (x1_47x20 : Int64) => some (.inl (x1_47x20, (x3_6h + (1 : Int32)))))) (1307 : Int64) (0 : Int32)) (fun (x1_53x6 : Int64) => zb1 (zi2 (fun (x1_55h : Int64) (x3_55h : Int32) => if (Gs 2) ≤ x3_55h then some (.inr x1_55h) else zb1 (fX5_place Gs Ns Na x3_55h (0 : Int32)) (fun (r11 : Int32) => zlt (((31 : Int64) * x1_55h) + (r11).toInt64) (fun (x1_13 : Int64) => zb1 (fX5_place Gs Ns Na x3_55h (1 : Int32)) (fun (r14 : Int32) => zlt (((31 : Int64) * x1_13) + (r14).toInt64) (fun (x1_16 : Int64) => some (.inl (x1_16, (x3_55h + (1 : Int32))))))))) x1_53x6 (0 : Int32)) (fun (x1_100x55 : Int64) => zb5 (if (Xs 11) ≤ 0 then some (x1_100x55, Xs, Ts, Ta, os) else zb5 (zi6 (fun (x1_109h : Int64) (x3_109h : Int32) (Xs_109h : Nat → Int32) (Ts_109h : Nat → Int32) (Ta_109h : Nat → Nat → Int32) (os_109h : Nat → Nat → Int32) => if (5 : Int32) < x3_109h then some (.inr (x1_109h, Xs_109h, Ts_109h, Ta_109h, os_109h)) else zb5 (fX5_courses Xs_109h Gs Ga Ns Na Ts_109h Ta_109h os_109h x3_109h) (fun (r33 : Int32) (Xs_34 : Nat → Int32) (Ts_35 : Nat → Int32) (Ta_36 : Nat → Nat → Int32) (os_37 : Nat → Nat → Int32) => zlt (((31 : Int64) * x1_109h) + (r33).toInt64) (fun (x1_39 : Int64) => some (.inl (x1_39, (x3_109h + (1 : Int32)), Xs_34, Ts_35, Ta_36, os_37))))) x1_100x55 (0 : Int32) Xs Ts Ta os) (fun (x1_133x109 : Int64) (Xs_133x109 : Nat → Int32) (Ts_133x109 : Nat → Int32) (Ta_133x109 : Nat → Nat → Int32) (os_133x109 : Nat → Nat → Int32) => zb5 (fX5_wins Xs_133x109 Gs Ga Ns Na Ts_133x109 Ta_133x109 os_133x109 (0 : Int32)) (fun (r40 : Int32) (Xs_41 : Nat → Int32) (Ts_42 : Nat → Int32) (Ta_43 : Nat → Nat → Int32) (os_44 : Nat → Nat → Int32) => zlt (((31 : Int64) * x1_133x109) + (r40).toInt64) (fun (x1_46 : Int64) => zb5 (fX5_wins Xs_41 Gs Ga Ns Na Ts_42 Ta_43 os_44 (1 : Int32)) (fun (r47 : Int32) (Xs_48 : Nat → Int32) (Ts_49 : Nat → Int32) (Ta_50 : Nat → Nat → Int32) (os_51 : Nat → Nat → Int32) => zlt (((31 : Int64) * x1_46) + (r47).toInt64) (fun (x1_53 : Int64) => zb5 (fX5_mean Xs_48 Gs Ga Ns Na Ts_49 Ta_50 os_51) (fun (r54 : Int32) (Xs_55 : Nat → Int32) (Ts_56 : Nat → Int32) (Ta_57 : Nat → Nat → Int32) (os_58 : Nat → Nat → Int32) => zlt (((31 : Int64) * x1_53) + (r54).toInt64) (fun (x1_60 : Int64) => some (x1_60, Xs_55, Ts_56, Ta_57, os_58))))))))) (fun (x1_171 : Int64) (Xs_171 : Nat → Int32) (Ts_171 : Nat → Int32) (Ta_171 : Nat → Nat → Int32) (os_171 : Nat → Nat → Int32) => zb1 (zi2 (fun (x1_173h : Int64) (x3_173h : Int32) => if (Ps 1) ≤ x3_173h then some (.inr x1_173h) else zb1 (fX2_codeAt Ps Pa x3_173h) (fun (r19 : Int32) => zlt (((31 : Int64) * x1_173h) + (r19).toInt64) (fun (x1_21 : Int64) => some (.inl (x1_21, (x3_173h + (1 : Int32))))))) x1_171 (0 : Int32)) (fun (x1_206x173 : Int64) => zb1 (zi2 (fun (x1_208h : Int64) (x3_208h : Int32) => if (10 : Int32) < x3_208h then some (.inr x1_208h) else zb1 (fX5_count Xs_171 Ps Gs Ga Ns Na Qs x3_208h) (fun (r24 : Int32) => zlt (((31 : Int64) * x1_208h) + (r24).toInt64) (fun (x1_26 : Int64) => some (.inl (x1_26, (x3_208h + (1 : Int32))))))) x1_206x173 (0 : Int32)) (fun (x1_233x208 : Int64) => some (x1_233x208, Xs_171, Ts_171, Ta_171, os_171))))))
noncomputable def fX6_within  (a0 : Int32) (a1 : Int32) (a2 : Int32) : Option (Int32) :=
  if a0 < a1 then some (0 : Int32) else if a2 < a0 then some (0 : Int32) else some (1 : Int32)
noncomputable def fX6_isIn  (a0 : Int32) (a1 : Int32) : Option (Int32) :=
  if ((a0 >>> (a1 &&& 31)) &&& (1 : Int32)) = (1 : Int32) then some (1 : Int32) else some (0 : Int32)
noncomputable def fX6_size  (a0 : Int32) : Option (Int32) :=
  zb1 (zi2 (fun (x1_4h : Int32) (x2_4h : Int32) => if (12 : Int32) ≤ x2_4h then some (.inr x1_4h) else zlt (x1_4h + ((a0 >>> (x2_4h &&& 31)) &&& (1 : Int32))) (fun (x1_3 : Int32) => some (.inl (x1_3, (x2_4h + (1 : Int32)))))) (0 : Int32) (0 : Int32)) (fun (x1_24x4 : Int32) => some x1_24x4)
noncomputable def fX6_letter (Ms : Nat → Int32) (Ma : Nat → Nat → Int32) (a0 : Int32) : Option (Int32 × (Nat → Int32) × (Nat → Nat → Int32)) :=
  zb1 (fX6_within a0 (32 : Int32) (126 : Int32)) (fun (r1 : Int32) => if r1 = 0 then some ((-102 : Int32), Ms, Ma) else if (Ms 13) = (18 : Int32) then some ((-104 : Int32), Ms, Ma) else zck (zin (Ms 13) 18) (some (((Ms 13) + (1 : Int32)), (upd Ms 13 ((Ms 13) + (1 : Int32))), (va_up Ma 14 (upd (Ma 14) ((Ms 13)).toNatClampNeg (vp_nar .byte (a0).toInt8.toInt32))))))
noncomputable def fX6_blank (Ms : Nat → Int32)  : Option (Int32 × (Nat → Int32)) :=
  zlt (Ms 13) (fun (x1_1 : Int32) => some (x1_1, (upd Ms 13 (0 : Int32))))
noncomputable def fX6_kindBy  (a0 : Int32) : Option (Int32) :=
  if a0 = (98 : Int32) then some (4 : Int32) else if a0 = (102 : Int32) then some (3 : Int32) else if a0 = (112 : Int32) then some (0 : Int32) else if a0 = (115 : Int32) then some (2 : Int32) else if a0 = (120 : Int32) then some (1 : Int32) else some (-1 : Int32)
noncomputable def fX6_at (Ms : Nat → Int32) (Ma : Nat → Nat → Int32) (a0 : Int32) : Option (Int32) :=
  if (Ms 13) ≤ a0 then some (0 : Int32) else zck (zin a0 18) (some ((Ma 14) (a0).toNatClampNeg))
noncomputable def fX6_readPlaces (Ms : Nat → Int32) (Ma : Nat → Nat → Int32) (a0 : Int32) : Option (Int32 × (Nat → Int32)) :=
  zbs (zi2 (fun (x2_2h : Int32) (Ms_2h : Nat → Int32) => if ((3 : Int32) + a0) ≤ x2_2h then some (.inr (.inr (x2_2h, Ms_2h))) else zb1 (fX6_at Ms_2h Ma x2_2h) (fun (r3 : Int32) => zb1 (fX6_kindBy r3) (fun (r5 : Int32) => zb1 (if r5 = (-1 : Int32) then some (0 : Int32) else some (1 : Int32)) (fun (v26 : Int32) => zjn (fun (_ : Unit) => zjn (fun (_ : Unit) => zb1 (if v26 = 0 then some (0 : Int32) else some (1 : Int32)) (fun (v80 : Int32) => some (.inl ((x2_2h + (1 : Int32)), (upd Ms_2h 16 ((Ms_2h 16) + v80)))))) (fun J66 => if v26 = 0 then J66 () else if (Ms_2h 16) = (7 : Int32) then some (.inr (.inl (x2_2h, Ms_2h))) else J66 ())) (fun J51 => if v26 = 0 then zb1 (fX6_at Ms_2h Ma x2_2h) (fun (r12 : Int32) => if r12 = (46 : Int32) then J51 () else zb1 (fX6_at Ms_2h Ma x2_2h) (fun (r15 : Int32) => if r15 = (35 : Int32) then J51 () else some (.inr (.inl (x2_2h, Ms_2h))))) else J51 ()))))) (3 : Int32) Ms) (fun (q_ : Int32 × (Nat → Int32)) => zu2 (fun (x2_64x2 : Int32) (Ms_64x2 : Nat → Int32) => some (x2_64x2, Ms_64x2)) q_) (fun (q_ : Int32 × (Nat → Int32)) => zu2 (fun (x2_90x2 : Int32) (Ms_90x2 : Nat → Int32) => zb1 (zjn (fun (_ : Unit) => some (0 : Int32)) (fun J110 => if (Ms_90x2 16) ≤ 0 then J110 () else if x2_90x2 = (Ms_90x2 13) then some (1 : Int32) else J110 ())) (fun (v111 : Int32) => zck (zbo v111) (some (x2_90x2, (upd Ms_90x2 15 v111))))) q_)
noncomputable def fX6_read (Ms : Nat → Int32) (Ma : Nat → Nat → Int32)  : Option (Int32 × (Nat → Int32)) :=
  zb1 (fX6_at (upd (upd Ms 15 (0 : Int32)) 16 (0 : Int32)) Ma (0 : Int32)) (fun (r1 : Int32) => zlt (r1 - (48 : Int32)) (fun (x1_3 : Int32) => zb1 (fX6_at (upd (upd Ms 15 (0 : Int32)) 16 (0 : Int32)) Ma (1 : Int32)) (fun (r4 : Int32) => zlt (r4 - (48 : Int32)) (fun (x2_6 : Int32) => zb1 (fX6_within x1_3 (2 : Int32) (4 : Int32)) (fun (r7 : Int32) => if r7 = 0 then some ((0 : Int32), (upd (upd Ms 15 (0 : Int32)) 16 (0 : Int32))) else zb1 (fX6_within x2_6 (2 : Int32) (4 : Int32)) (fun (r10 : Int32) => if r10 = 0 then some ((1 : Int32), (upd (upd Ms 15 (0 : Int32)) 16 (0 : Int32))) else if (x1_3 * x2_6) ≤ (12 : Int32) then zb1 (fX6_at (upd (upd Ms 15 (0 : Int32)) 16 (0 : Int32)) Ma (2 : Int32)) (fun (r14 : Int32) => if r14 = (59 : Int32) then zb2 (fX6_readPlaces (upd (upd Ms 15 (0 : Int32)) 16 (0 : Int32)) Ma (x1_3 * x2_6)) (fun (r17 : Int32) (Ms_18 : Nat → Int32) => some (r17, Ms_18)) else some ((2 : Int32), (upd (upd Ms 15 (0 : Int32)) 16 (0 : Int32)))) else some ((1 : Int32), (upd (upd Ms 15 (0 : Int32)) 16 (0 : Int32)))))))))
noncomputable def fX6_fault (Ms : Nat → Int32) (Ma : Nat → Nat → Int32)  : Option (Int32 × (Nat → Int32)) :=
  zb2 (fX6_read Ms Ma) (fun (r1 : Int32) (Ms_2 : Nat → Int32) => some (r1, Ms_2))
noncomputable def fX6_places (Ms : Nat → Int32)  : Option (Int32) :=
  some ((Ms 1) * (Ms 2))
noncomputable def fX6_board (Ms : Nat → Int32) (Ma : Nat → Nat → Int32)  : Option (Int32 × (Nat → Int32) × (Nat → Nat → Int32)) :=
  zb2 (fX6_read Ms Ma) (fun (r1 : Int32) (Ms_2 : Nat → Int32) => if (Ms_2 15) = 0 then some ((-103 : Int32), Ms_2, Ma) else zck (zin (0 : Int32) 18) (zck (zin (1 : Int32) 18) (zb2 (zi3 (fun (x1_53h : Int32) (Ms_53h : Nat → Int32) (Ma_53h : Nat → Nat → Int32) => zb1 (fX6_places Ms_53h) (fun (r8 : Int32) => if r8 ≤ x1_53h then some (.inr (Ms_53h, Ma_53h)) else zck (zin ((3 : Int32) + x1_53h) 18) (zlt ((Ma_53h 14) (((3 : Int32) + x1_53h)).toNatClampNeg) (fun (x2_12 : Int32) => zb1 (if x2_12 = (35 : Int32) then some (0 : Int32) else some ((1 : Int32) <<< (x1_53h &&& 31))) (fun (v88 : Int32) => zb1 (fX6_kindBy x2_12) (fun (r13 : Int32) => zb2 (if r13 = (-1 : Int32) then some ((upd Ms_53h 3 ((Ms_53h 3) ||| v88)), Ma_53h) else zb1 (fX6_kindBy x2_12) (fun (r17 : Int32) => zck (zin (Ms_53h 4) 8) (zck (zin (Ms_53h 4) 8) (some ((upd (upd Ms_53h 3 ((Ms_53h 3) ||| v88)) 4 ((Ms_53h 4) + (1 : Int32))), (va_up (va_up Ma_53h 5 (upd (Ma_53h 5) ((Ms_53h 4)).toNatClampNeg r17)) 6 (upd (Ma_53h 6) ((Ms_53h 4)).toNatClampNeg x1_53h))))))) (fun (Ms_133 : Nat → Int32) (Ma_133 : Nat → Nat → Int32) => some (.inl ((x1_53h + (1 : Int32)), Ms_133, Ma_133))))))))) (0 : Int32) (upd (upd (upd (upd Ms_2 1 (((Ma 14) ((0 : Int32)).toNatClampNeg) - (48 : Int32))) 2 (((Ma 14) ((1 : Int32)).toNatClampNeg) - (48 : Int32))) 3 (0 : Int32)) 4 (0 : Int32)) Ma) (fun (Ms_139x53 : Nat → Int32) (Ma_139x53 : Nat → Nat → Int32) => some ((Ms_139x53 4), (upd (upd (upd (upd Ms_139x53 7 (0 : Int32)) 0 ((Ms_139x53 0) + (1 : Int32))) 9 (0 : Int32)) 13 (0 : Int32)), Ma_139x53)))))
noncomputable def fX6_isPeg (Ms : Nat → Int32) (a0 : Int32) : Option (Int32) :=
  zb1 (fX6_within a0 (0 : Int32) ((Ms 4) - (1 : Int32))) (fun (r1 : Int32) => zck (zbo r1) (some r1))
noncomputable def fX6_isPlace (Ms : Nat → Int32) (a0 : Int32) : Option (Int32) :=
  zb1 (fX6_places Ms) (fun (r1 : Int32) => zb1 (fX6_within a0 (0 : Int32) (r1 - (1 : Int32))) (fun (r3 : Int32) => zck (zbo r3) (some r3)))
noncomputable def fX6_putDeep (Ms : Nat → Int32) (Ma : Nat → Nat → Int32)  : Option ((Nat → Nat → Int32)) :=
  zb1 (zi2 (fun (x1_2h : Int32) (Ma_2h : Nat → Nat → Int32) => if (8 : Int32) ≤ x1_2h then some (.inr Ma_2h) else zb1 (if (Ms 4) ≤ x1_2h then some (-1 : Int32) else zck (zin x1_2h 8) (some ((Ma_2h 6) (x1_2h).toNatClampNeg))) (fun (v31 : Int32) => zck (zin x1_2h 72) (some (.inl ((x1_2h + (1 : Int32)), (va_up Ma_2h 17 (upd (Ma_2h 17) (x1_2h).toNatClampNeg v31))))))) (0 : Int32) Ma) (fun (Ma_38x2 : Nat → Nat → Int32) => some Ma_38x2)
noncomputable def fX6_whoAt (Ms : Nat → Int32) (Ma : Nat → Nat → Int32) (a0 : Int32) (a1 : Int32) : Option (Int32) :=
  zb1 (zi2 (fun (x3_5h : Int32) (x4_5h : Int32) => if (Ms 4) ≤ x4_5h then some (.inr x3_5h) else zck (zin (((8 : Int32) * a0) + x4_5h) 72) (zb1 (if ((Ma 17) ((((8 : Int32) * a0) + x4_5h)).toNatClampNeg) = a1 then some x4_5h else some x3_5h) (fun (v36 : Int32) => some (.inl (v36, (x4_5h + (1 : Int32))))))) (-1 : Int32) (0 : Int32)) (fun (x3_43x5 : Int32) => some x3_43x5)
noncomputable def fX6_apart  (a0 : Int32) (a1 : Int32) : Option (Int32) :=
  if a0 ≤ a1 then some (a1 - a0) else some (a0 - a1)
noncomputable def fX6_goesBy  (a0 : Int32) (a1 : Int32) (a2 : Int32) : Option (Int32) :=
  zb1 (zjn (fun (_ : Unit) => some (0 : Int32)) (fun J16 => if (a1 + a2) = (2 : Int32) then if a1 = a2 then J16 () else some (1 : Int32) else J16 ())) (fun (v17 : Int32) => zb1 (zjn (fun (_ : Unit) => some (0 : Int32)) (fun J33 => if a1 = (2 : Int32) then if a2 = (2 : Int32) then some (1 : Int32) else J33 () else J33 ())) (fun (v34 : Int32) => if a0 = (1 : Int32) then zck (zbo v34) (some v34) else if a0 = (4 : Int32) then zjn (fun (_ : Unit) => some (1 : Int32)) (fun J61 => if v17 = 0 then if v34 = 0 then some (0 : Int32) else J61 () else J61 ()) else zck (zbo v17) (some v17)))
noncomputable def fX6_overBy (Ms : Nat → Int32) (Ma : Nat → Nat → Int32) (a0 : Int32) (a1 : Int32) (a2 : Int32) : Option (Int32) :=
  zck (zin (((8 : Int32) * a0) + a1) 72) (zlt ((Ma 17) ((((8 : Int32) * a0) + a1)).toNatClampNeg) (fun (x4_2 : Int32) => if x4_2 = (-1 : Int32) then some (-1 : Int32) else zb1 (fX6_isIn (Ms 3) a2) (fun (r4 : Int32) => if r4 = 0 then some (-1 : Int32) else zb1 (fX6_whoAt Ms Ma a0 a2) (fun (r7 : Int32) => if r7 = (-1 : Int32) then zck (zin a1 8) (zck (zne (Ms 2)) (zck (zne (Ms 2)) (zb1 (fX6_apart (x4_2 / (Ms 2)) (a2 / (Ms 2))) (fun (r13 : Int32) => zck (zne (Ms 2)) (zck (zne (Ms 2)) (zb1 (fX6_apart (x4_2 - x4_2 / (Ms 2) * (Ms 2)) (a2 - a2 / (Ms 2) * (Ms 2))) (fun (r17 : Int32) => zb1 (fX6_goesBy ((Ma 5) (a1).toNatClampNeg) r13 r17) (fun (r19 : Int32) => if r19 = 0 then some (-1 : Int32) else zb1 (fX6_whoAt Ms Ma a0 ((x4_2 + a2) / (2 : Int32))) (fun (r22 : Int32) => zjn (fun (_ : Unit) => some (-1 : Int32)) (fun J119 => if r22 = (-1 : Int32) then J119 () else zck (zin r22 8) (if ((Ma 5) (r22).toNatClampNeg) = (2 : Int32) then J119 () else some r22))))))))))) else some (-1 : Int32)))))
noncomputable def fX6_isJump (Ms : Nat → Int32) (Ma : Nat → Nat → Int32) (a0 : Int32) (a1 : Int32) (a2 : Int32) : Option (Int32) :=
  zb1 (fX6_overBy Ms Ma a0 a1 a2) (fun (r1 : Int32) => if r1 = (-1 : Int32) then some (0 : Int32) else some (1 : Int32))
noncomputable def fX6_goDeep (Ms : Nat → Int32) (Ma : Nat → Nat → Int32) (a0 : Int32) (a1 : Int32) (a2 : Int32) : Option ((Nat → Nat → Int32)) :=
  zb1 (fX6_overBy Ms Ma a0 a1 a2) (fun (r1 : Int32) => zb1 (zi2 (fun (x5_12h : Int32) (Ma_12h : Nat → Nat → Int32) => if (8 : Int32) ≤ x5_12h then some (.inr Ma_12h) else zck (zin (((8 : Int32) * a0) + x5_12h) 72) (zck (zin ((((8 : Int32) * a0) + (8 : Int32)) + x5_12h) 72) (some (.inl ((x5_12h + (1 : Int32)), (va_up Ma_12h 17 (upd (Ma_12h 17) (((((8 : Int32) * a0) + (8 : Int32)) + x5_12h)).toNatClampNeg ((Ma_12h 17) ((((8 : Int32) * a0) + x5_12h)).toNatClampNeg)))))))) (0 : Int32) Ma) (fun (Ma_52x12 : Nat → Nat → Int32) => zck (zin a1 8) (zb1 (if ((Ma_52x12 5) (a1).toNatClampNeg) = (3 : Int32) then some (-1 : Int32) else some a2) (fun (v80 : Int32) => zck (zin ((((8 : Int32) * a0) + (8 : Int32)) + a1) 72) (zck (zin ((((8 : Int32) * a0) + (8 : Int32)) + r1) 72) (some (va_up Ma_52x12 17 (upd (upd (Ma_52x12 17) (((((8 : Int32) * a0) + (8 : Int32)) + a1)).toNatClampNeg v80) (((((8 : Int32) * a0) + (8 : Int32)) + r1)).toNatClampNeg (-1 : Int32)))))))))
noncomputable def fX6_onBoard (Ms : Nat → Int32) (Ma : Nat → Nat → Int32) (a0 : Int32) : Option (Int32) :=
  zb1 (zi2 (fun (x2_4h : Int32) (x3_4h : Int32) => if (Ms 4) ≤ x3_4h then some (.inr x2_4h) else zck (zin (((8 : Int32) * a0) + x3_4h) 72) (zb1 (if ((Ma 17) ((((8 : Int32) * a0) + x3_4h)).toNatClampNeg) = (-1 : Int32) then some (0 : Int32) else some (1 : Int32)) (fun (v33 : Int32) => zlt (x2_4h + v33) (fun (x2_4 : Int32) => some (.inl (x2_4, (x3_4h + (1 : Int32)))))))) (0 : Int32) (0 : Int32)) (fun (x2_41x4 : Int32) => some x2_41x4)
noncomputable def fX6_goes (Ms : Nat → Int32) (Ma : Nat → Nat → Int32) (a0 : Int32) (a1 : Int32) : Option (Int32) :=
  zb1 (zi2 (fun (x3_5h : Int32) (x4_5h : Int32) => zb1 (fX6_places Ms) (fun (r2 : Int32) => if r2 ≤ x4_5h then some (.inr x3_5h) else zb1 (fX6_isJump Ms Ma a0 a1 x4_5h) (fun (r5 : Int32) => zb1 (if r5 = 0 then some (0 : Int32) else some ((1 : Int32) <<< (x4_5h &&& 31))) (fun (v34 : Int32) => zlt (x3_5h ||| v34) (fun (x3_7 : Int32) => some (.inl (x3_7, (x4_5h + (1 : Int32))))))))) (0 : Int32) (0 : Int32)) (fun (x3_42x5 : Int32) => some x3_42x5)
noncomputable def fX6_jumpsNow (Ms : Nat → Int32) (Ma : Nat → Nat → Int32) (a0 : Int32) : Option (Int32) :=
  zb1 (zi2 (fun (x2_4h : Int32) (x3_4h : Int32) => if (Ms 4) ≤ x3_4h then some (.inr x2_4h) else zb1 (fX6_goes Ms Ma a0 x3_4h) (fun (r3 : Int32) => zb1 (fX6_size r3) (fun (r5 : Int32) => zlt (x2_4h + r5) (fun (x2_7 : Int32) => some (.inl (x2_7, (x3_4h + (1 : Int32)))))))) (0 : Int32) (0 : Int32)) (fun (x2_30x4 : Int32) => some x2_30x4)
noncomputable def fX6_could  (a0 : Int32) (a1 : Int32) : Option (Int32) :=
  if a1 = (0 : Int32) then if a0 = (1 : Int32) then some (0 : Int32) else some (1 : Int32) else if a1 = (1 : Int32) then zjn (fun (_ : Unit) => some (1 : Int32)) (fun J49 => if a0 = (1 : Int32) then J49 () else if a0 = (4 : Int32) then J49 () else some (0 : Int32)) else if a1 = (2 : Int32) then if a0 = (2 : Int32) then some (0 : Int32) else some (1 : Int32) else if a0 = (3 : Int32) then some (0 : Int32) else some (1 : Int32)
noncomputable def fX6_sortsOf (Ms : Nat → Int32) (Ma : Nat → Nat → Int32) (a0 : Int32) : Option (Int32) :=
  zb1 (zi2 (fun (x2_4h : Int32) (x3_4h : Int32) => if (4 : Int32) < x3_4h then some (.inr x2_4h) else zb1 (zi2 (fun (x4_15h : Int32) (x5_15h : Int32) => if (Ms 9) ≤ x5_15h then some (.inr x4_15h) else zb1 (zjn (fun (_ : Unit) => some (0 : Int32)) (fun J74 => if x4_15h = 0 then J74 () else zck (zin x5_15h 6) (zjn (fun (_ : Unit) => some (1 : Int32)) (fun J70 => if ((Ma 10) (x5_15h).toNatClampNeg) = a0 then zck (zin x5_15h 6) (zb1 (fX6_could x3_4h ((Ma 11) (x5_15h).toNatClampNeg)) (fun (r10 : Int32) => zck (zin x5_15h 6) (zb1 (if ((Ma 12) (x5_15h).toNatClampNeg) = (1 : Int32) then some (1 : Int32) else some (0 : Int32)) (fun (v67 : Int32) => if r10 = v67 then J70 () else J74 ())))) else J70 ())))) (fun (v75 : Int32) => some (.inl (v75, (x5_15h + (1 : Int32)))))) (1 : Int32) (0 : Int32)) (fun (x4_83x15 : Int32) => zb1 (if x4_83x15 = 0 then some (0 : Int32) else some ((1 : Int32) <<< (x3_4h &&& 31))) (fun (v96 : Int32) => zlt (x2_4h ||| v96) (fun (x2_16 : Int32) => some (.inl (x2_16, (x3_4h + (1 : Int32)))))))) (0 : Int32) (0 : Int32)) (fun (x2_104x4 : Int32) => some x2_104x4)
noncomputable def fX6_askOf (Ms : Nat → Int32) (Ma : Nat → Nat → Int32) (a0 : Int32) : Option (Int32) :=
  zb1 (fX6_sortsOf Ms Ma a0) (fun (r1 : Int32) => zb1 (zi3 (fun (x3_15h : Int32) (x4_15h : Int32) (x5_15h : Int32) => if (4 : Int32) ≤ x5_15h then some (.inr x3_15h) else if r1 = 0 then some (.inr x3_15h) else zb1 (zi2 (fun (x6_31h : Int32) (x7_31h : Int32) => if (4 : Int32) < x7_31h then some (.inr x6_31h) else zb1 (fX6_isIn r1 x7_31h) (fun (r8 : Int32) => zb1 (zjn (fun (_ : Unit) => some (0 : Int32)) (fun J62 => if r8 = 0 then J62 () else zb1 (fX6_could x7_31h x5_15h) (fun (r13 : Int32) => if r13 = 0 then J62 () else some (1 : Int32)))) (fun (v63 : Int32) => zlt (x6_31h + v63) (fun (x6_10 : Int32) => some (.inl (x6_10, (x7_31h + (1 : Int32)))))))) (0 : Int32) (0 : Int32)) (fun (x6_72x31 : Int32) => zb1 (fX6_size r1) (fun (r16 : Int32) => zlt (r16 - x6_72x31) (fun (x7_18 : Int32) => zb1 (if x6_72x31 ≤ x7_18 then some x7_18 else some x6_72x31) (fun (v95 : Int32) => zb1 (if x4_15h ≤ v95 then some x3_15h else some x5_15h) (fun (v110 : Int32) => zb1 (if x4_15h ≤ v95 then some x4_15h else some v95) (fun (v125 : Int32) => some (.inl (v110, v125, (x5_15h + (1 : Int32))))))))))) (-1 : Int32) (268435456 : Int32) (0 : Int32)) (fun (x3_133x15 : Int32) => some x3_133x15))
noncomputable def fX6_pegNow (Ms : Nat → Int32) (Ma : Nat → Nat → Int32) (a0 : Int32) (a1 : Int32) : Option (Int32 × (Nat → Nat → Int32)) :=
  if a1 = (0 : Int32) then zck (zin a0 8) (some (((Ma 5) (a0).toNatClampNeg), Ma)) else if a1 = (1 : Int32) then zck (zin a0 8) (some (((Ma 6) (a0).toNatClampNeg), Ma)) else if a1 = (2 : Int32) then zb1 (fX6_putDeep Ms Ma) (fun (Ma_6 : Nat → Nat → Int32) => zb1 (fX6_goes Ms Ma_6 (0 : Int32) a0) (fun (r8 : Int32) => some (r8, Ma_6))) else if a1 = (3 : Int32) then zb1 (fX6_sortsOf Ms Ma a0) (fun (r11 : Int32) => some (r11, Ma)) else zb1 (fX6_askOf Ms Ma a0) (fun (r13 : Int32) => some (r13, Ma))
noncomputable def fX6_peg (Ms : Nat → Int32) (Ma : Nat → Nat → Int32) (a0 : Int32) (a1 : Int32) : Option (Int32 × (Nat → Nat → Int32)) :=
  zb1 (fX6_isPeg Ms a0) (fun (r1 : Int32) => if r1 = 0 then some ((-101 : Int32), Ma) else zb1 (fX6_within a1 (0 : Int32) (4 : Int32)) (fun (r4 : Int32) => if r4 = 0 then some ((-102 : Int32), Ma) else zb2 (fX6_pegNow Ms Ma a0 a1) (fun (r7 : Int32) (Ma_8 : Nat → Nat → Int32) => some (r7, Ma_8))))
noncomputable def fX6_as (Ms : Nat → Int32) (Ma : Nat → Nat → Int32) (a0 : Int32) (a1 : Int32) : Option (Int32) :=
  zb1 (fX6_isPeg Ms a0) (fun (r1 : Int32) => if r1 = 0 then some (-101 : Int32) else zb1 (fX6_within a1 (0 : Int32) (4 : Int32)) (fun (r4 : Int32) => if r4 = 0 then some (-102 : Int32) else zck (zin a0 8) (zlt ((Ma 5) (a0).toNatClampNeg) (fun (x3_8 : Int32) => zjn (fun (_ : Unit) => some a0) (fun J49 => if a1 = 0 then J49 () else if x3_8 = a1 then J49 () else if a1 = (1 : Int32) then if x3_8 = (4 : Int32) then J49 () else some (-1 : Int32) else some (-1 : Int32))))))
noncomputable def fX6_placeNow (Ms : Nat → Int32) (Ma : Nat → Nat → Int32) (a0 : Int32) (a1 : Int32) : Option (Int32 × (Nat → Nat → Int32)) :=
  zb1 (fX6_putDeep Ms Ma) (fun (Ma_1 : Nat → Nat → Int32) => if a1 = 0 then some ((((Ms 3) >>> (a0 &&& 31)) &&& (1 : Int32)), Ma_1) else zb1 (fX6_whoAt Ms Ma_1 (0 : Int32) a0) (fun (r4 : Int32) => some (r4, Ma_1)))
noncomputable def fX6_place (Ms : Nat → Int32) (Ma : Nat → Nat → Int32) (a0 : Int32) (a1 : Int32) : Option (Int32 × (Nat → Nat → Int32)) :=
  zb1 (fX6_isPlace Ms a0) (fun (r1 : Int32) => if r1 = 0 then some ((-101 : Int32), Ma) else zb1 (fX6_within a1 (0 : Int32) (1 : Int32)) (fun (r4 : Int32) => if r4 = 0 then some ((-102 : Int32), Ma) else zb2 (fX6_placeNow Ms Ma a0 a1) (fun (r7 : Int32) (Ma_8 : Nat → Nat → Int32) => some (r7, Ma_8))))
noncomputable def fX6_jump (Ms : Nat → Int32) (Ma : Nat → Nat → Int32) (a0 : Int32) (a1 : Int32) : Option (Int32 × (Nat → Int32) × (Nat → Nat → Int32)) :=
  zb1 (fX6_isPeg Ms a0) (fun (r1 : Int32) => if r1 = 0 then some ((-101 : Int32), Ms, Ma) else zb1 (fX6_isPlace Ms a1) (fun (r4 : Int32) => if r4 = 0 then some ((-101 : Int32), Ms, Ma) else zb1 (fX6_putDeep Ms Ma) (fun (Ma_7 : Nat → Nat → Int32) => zb1 (fX6_isJump Ms Ma_7 (0 : Int32) a0 a1) (fun (r9 : Int32) => if r9 = 0 then some ((-103 : Int32), Ms, Ma_7) else if (Ms 7) = (999 : Int32) then some ((-104 : Int32), Ms, Ma_7) else zb1 (fX6_goDeep Ms Ma_7 (0 : Int32) a0 a1) (fun (Ma_13 : Nat → Nat → Int32) => zb1 (zi2 (fun (x3_58h : Int32) (Ma_58h : Nat → Nat → Int32) => if (Ms 4) ≤ x3_58h then some (.inr Ma_58h) else zck (zin ((8 : Int32) + x3_58h) 72) (zck (zin x3_58h 8) (some (.inl ((x3_58h + (1 : Int32)), (va_up Ma_58h 6 (upd (Ma_58h 6) (x3_58h).toNatClampNeg ((Ma_58h 17) (((8 : Int32) + x3_58h)).toNatClampNeg)))))))) (0 : Int32) Ma_13) (fun (Ma_87x58 : Nat → Nat → Int32) => zb1 (fX6_onBoard (upd Ms 7 ((Ms 7) + (1 : Int32))) Ma_87x58 (1 : Int32)) (fun (r19 : Int32) => some (r19, (upd Ms 7 ((Ms 7) + (1 : Int32))), Ma_87x58))))))))
noncomputable def fX6_isEmpty (Ms : Nat → Int32) (Ma : Nat → Nat → Int32) (a0 : Int32) : Option (Int32 × (Nat → Nat → Int32)) :=
  zb1 (fX6_putDeep Ms Ma) (fun (Ma_1 : Nat → Nat → Int32) => zb1 (fX6_isIn (Ms 3) a0) (fun (r3 : Int32) => if r3 = 0 then some ((0 : Int32), Ma_1) else zb1 (fX6_whoAt Ms Ma_1 (0 : Int32) a0) (fun (r6 : Int32) => if r6 = (-1 : Int32) then some ((1 : Int32), Ma_1) else some ((0 : Int32), Ma_1))))
noncomputable def fX6_put (Ms : Nat → Int32) (Ma : Nat → Nat → Int32) (a0 : Int32) (a1 : Int32) : Option (Int32 × (Nat → Nat → Int32)) :=
  zb1 (fX6_isPeg Ms a0) (fun (r1 : Int32) => if r1 = 0 then some ((-101 : Int32), Ma) else zb1 (fX6_isPlace Ms a1) (fun (r4 : Int32) => if r4 = 0 then some ((-101 : Int32), Ma) else zck (zin a0 8) (if ((Ma 6) (a0).toNatClampNeg) = (-1 : Int32) then zb2 (fX6_isEmpty Ms Ma a1) (fun (r9 : Int32) (Ma_10 : Nat → Nat → Int32) => if r9 = 0 then some ((-103 : Int32), Ma_10) else zck (zin a0 8) (zb1 (fX6_putDeep Ms (va_up Ma_10 6 (upd (Ma_10 6) (a0).toNatClampNeg a1))) (fun (Ma_14 : Nat → Nat → Int32) => zb1 (fX6_onBoard Ms Ma_14 (0 : Int32)) (fun (r16 : Int32) => some (r16, Ma_14))))) else some ((-103 : Int32), Ma))))
noncomputable def fX6_plug (Ms : Nat → Int32) (Ma : Nat → Nat → Int32) (a0 : Int32) : Option (Int32 × (Nat → Int32) × (Nat → Nat → Int32)) :=
  zb1 (fX6_isPlace Ms a0) (fun (r1 : Int32) => if r1 = 0 then some ((-101 : Int32), Ms, Ma) else zb2 (fX6_isEmpty Ms Ma a0) (fun (r4 : Int32) (Ma_5 : Nat → Nat → Int32) => if r4 = 0 then some ((-103 : Int32), Ms, Ma_5) else zb1 (fX6_size ((Ms 3) &&& (((1 : Int32) <<< (a0 &&& 31)) ^^^ (-1 : Int32)))) (fun (r8 : Int32) => some (r8, (upd Ms 3 ((Ms 3) &&& (((1 : Int32) <<< (a0 &&& 31)) ^^^ (-1 : Int32)))), Ma_5))))
noncomputable def fX6_bore (Ms : Nat → Int32) (a0 : Int32) : Option (Int32 × (Nat → Int32)) :=
  zb1 (fX6_isPlace Ms a0) (fun (r1 : Int32) => if r1 = 0 then some ((-101 : Int32), Ms) else zb1 (fX6_isIn (Ms 3) a0) (fun (r4 : Int32) => if r4 = 0 then zb1 (fX6_size ((Ms 3) ||| ((1 : Int32) <<< (a0 &&& 31)))) (fun (r7 : Int32) => some (r7, (upd Ms 3 ((Ms 3) ||| ((1 : Int32) <<< (a0 &&& 31)))))) else some ((-103 : Int32), Ms)))
noncomputable def fX6_be (Ms : Nat → Int32) (Ma : Nat → Nat → Int32) (a0 : Int32) (a1 : Int32) : Option (Int32 × (Nat → Nat → Int32)) :=
  zb1 (fX6_isPeg Ms a0) (fun (r1 : Int32) => if r1 = 0 then some ((-101 : Int32), Ma) else zb1 (fX6_within a1 (0 : Int32) (4 : Int32)) (fun (r4 : Int32) => if r4 = 0 then some ((-102 : Int32), Ma) else zck (zin a0 8) (zlt ((Ma 5) (a0).toNatClampNeg) (fun (x3_8 : Int32) => zck (zin a0 8) (some (x3_8, (va_up Ma 5 (upd (Ma 5) (a0).toNatClampNeg a1))))))))
noncomputable def fX6_begin (Ma : Nat → Nat → Int32) (a0 : Int32) : Option ((Nat → Nat → Int32)) :=
  zck (zin a0 9) (zck (zin a0 9) (zck (zin a0 9) (zck (zin a0 9) (zck (zin a0 9) (zck (zin a0 9) (zck (zin a0 9) (zck (zin a0 9) (zck (zin a0 9) (zck (zin a0 9) (some (va_up (va_up (va_up (va_up (va_up (va_up (va_up (va_up (va_up (va_up Ma 18 (upd (Ma 18) (a0).toNatClampNeg (0 : Int32))) 19 (upd (Ma 19) (a0).toNatClampNeg (0 : Int32))) 20 (upd (Ma 20) (a0).toNatClampNeg (0 : Int32))) 21 (upd (Ma 21) (a0).toNatClampNeg (268435456 : Int32))) 22 (upd (Ma 22) (a0).toNatClampNeg (-1 : Int32))) 23 (upd (Ma 23) (a0).toNatClampNeg (-1 : Int32))) 24 (upd (Ma 24) (a0).toNatClampNeg (268435456 : Int32))) 25 (upd (Ma 25) (a0).toNatClampNeg (0 : Int32))) 26 (upd (Ma 26) (a0).toNatClampNeg (-1 : Int32))) 27 (upd (Ma 27) (a0).toNatClampNeg (0 : Int32)))))))))))))
noncomputable def fX6_nextCode (Ms : Nat → Int32) (Ma : Nat → Nat → Int32) (a0 : Int32) : Option (Int32 × (Nat → Nat → Int32)) :=
  zck (zin a0 9) (zlt ((Ma 18) (a0).toNatClampNeg) (fun (x2_2 : Int32) => zb1 (zi1 (fun (x2_7h : Int32) => if (96 : Int32) ≤ x2_7h then some (.inr x2_7h) else zb1 (fX6_places Ms) (fun (r5 : Int32) => zjn (fun (_ : Unit) => some (.inl (x2_7h + (1 : Int32)))) (fun J51 => if r5 ≤ (x2_7h - x2_7h / (12 : Int32) * (12 : Int32)) then J51 () else if (Ms 4) ≤ (x2_7h / (12 : Int32)) then J51 () else zb1 (fX6_isJump Ms Ma a0 (x2_7h / (12 : Int32)) (x2_7h - x2_7h / (12 : Int32) * (12 : Int32))) (fun (r9 : Int32) => if r9 = 0 then J51 () else some (.inr x2_7h))))) x2_2) (fun (x2_57x7 : Int32) => zck (zin a0 9) (if (96 : Int32) ≤ x2_57x7 then some ((-1 : Int32), (va_up Ma 18 (upd (Ma 18) (a0).toNatClampNeg (x2_57x7 + (1 : Int32))))) else some (x2_57x7, (va_up Ma 18 (upd (Ma 18) (a0).toNatClampNeg (x2_57x7 + (1 : Int32)))))))))
noncomputable def fX6_lastPlace (Ms : Nat → Int32) (Ma : Nat → Nat → Int32) (a0 : Int32) : Option (Int32) :=
  zb1 (zi2 (fun (x2_4h : Int32) (x3_4h : Int32) => if (Ms 4) ≤ x3_4h then some (.inr x2_4h) else zck (zin (((8 : Int32) * a0) + x3_4h) 72) (zb1 (if ((Ma 17) ((((8 : Int32) * a0) + x3_4h)).toNatClampNeg) = (-1 : Int32) then some (0 : Int32) else zck (zin (((8 : Int32) * a0) + x3_4h) 72) (some ((1 : Int32) <<< (((Ma 17) ((((8 : Int32) * a0) + x3_4h)).toNatClampNeg) &&& 31)))) (fun (v45 : Int32) => zlt (x2_4h ||| v45) (fun (x2_4 : Int32) => some (.inl (x2_4, (x3_4h + (1 : Int32)))))))) (0 : Int32) (0 : Int32)) (fun (x2_53x4 : Int32) => some x2_53x4)
noncomputable def fX6_end (Ms : Nat → Int32) (Ma : Nat → Nat → Int32) (a0 : Int32) : Option ((Nat → Nat → Int32)) :=
  zb1 (fX6_onBoard Ms Ma a0) (fun (r1 : Int32) => zck (zin a0 9) (zck (zin a0 9) (zck (zin a0 9) (zck (zin a0 9) (zb1 (if r1 = (1 : Int32) then zb1 (fX6_lastPlace Ms (va_up (va_up (va_up (va_up Ma 20 (upd (Ma 20) (a0).toNatClampNeg (1 : Int32))) 21 (upd (Ma 21) (a0).toNatClampNeg r1)) 23 (upd (Ma 23) (a0).toNatClampNeg (0 : Int32))) 24 (upd (Ma 24) (a0).toNatClampNeg (0 : Int32))) a0) (fun (r12 : Int32) => some r12) else some (0 : Int32)) (fun (v53 : Int32) => zck (zin a0 9) (zck (zin a0 9) (zck (zin a0 9) (some (va_up (va_up (va_up (va_up (va_up (va_up (va_up Ma 20 (upd (Ma 20) (a0).toNatClampNeg (1 : Int32))) 21 (upd (Ma 21) (a0).toNatClampNeg r1)) 23 (upd (Ma 23) (a0).toNatClampNeg (0 : Int32))) 24 (upd (Ma 24) (a0).toNatClampNeg (0 : Int32))) 25 (upd (Ma 25) (a0).toNatClampNeg v53)) 27 (upd (Ma 27) (a0).toNatClampNeg ((1000 : Int32) * r1))) 19 (upd (Ma 19) (a0).toNatClampNeg (1 : Int32))))))))))))
noncomputable def fX6_takeUp (Ma : Nat → Nat → Int32) (a0 : Int32) (a1 : Int32) : Option ((Nat → Nat → Int32)) :=
  zlt (a0 + (1 : Int32)) (fun (x3_1 : Int32) => zlt (((100 : Int32) * (a1 / (12 : Int32))) + (a1 - a1 / (12 : Int32) * (12 : Int32))) (fun (x4_2 : Int32) => zck (zin a0 9) (zck (zin a0 9) (zck (zin a0 9) (zck (zin x3_1 9) (zck (zin a0 9) (zck (zin x3_1 9) (zck (zin a0 9) (zb1 (if ((Ma 21) (a0).toNatClampNeg) ≤ ((Ma 21) (x3_1).toNatClampNeg) then zck (zin a0 9) (some ((Ma 22) (a0).toNatClampNeg)) else some x4_2) (fun (v74 : Int32) => zck (zin a0 9) (zck (zin x3_1 9) (zck (zin a0 9) (zb1 (if ((Ma 21) (a0).toNatClampNeg) ≤ ((Ma 21) (x3_1).toNatClampNeg) then zck (zin a0 9) (some ((Ma 21) (a0).toNatClampNeg)) else zck (zin x3_1 9) (some ((Ma 21) (x3_1).toNatClampNeg))) (fun (v110 : Int32) => zck (zin a0 9) (zck (zin x3_1 9) (zck (zin a0 9) (zb1 (if (((Ma 23) (x3_1).toNatClampNeg) + (1 : Int32)) ≤ ((Ma 23) (a0).toNatClampNeg) then zck (zin a0 9) (some ((Ma 23) (a0).toNatClampNeg)) else zck (zin x3_1 9) (some (((Ma 23) (x3_1).toNatClampNeg) + (1 : Int32)))) (fun (v150 : Int32) => zck (zin a0 9) (zck (zin x3_1 9) (zck (zin a0 9) (zb1 (if ((Ma 24) (a0).toNatClampNeg) ≤ (((Ma 24) (x3_1).toNatClampNeg) + (1 : Int32)) then zck (zin a0 9) (some ((Ma 24) (a0).toNatClampNeg)) else zck (zin x3_1 9) (some (((Ma 24) (x3_1).toNatClampNeg) + (1 : Int32)))) (fun (v190 : Int32) => zck (zin a0 9) (zck (zin a0 9) (zck (zin x3_1 9) (zck (zin a0 9) (zck (zin x3_1 9) (zb1 (zjn (fun (_ : Unit) => zck (zin a0 9) (some ((Ma 26) (a0).toNatClampNeg))) (fun J236 => if ((Ma 26) (x3_1).toNatClampNeg) = (-1 : Int32) then zck (zin a0 9) (if ((Ma 26) (a0).toNatClampNeg) = (-1 : Int32) then some x4_2 else J236 ()) else J236 ())) (fun (v242 : Int32) => zck (zin a0 9) (zck (zin a0 9) (zck (zin x3_1 9) (zck (zin x3_1 9) (zck (zne ((upd (Ma 19) (a0).toNatClampNeg (((Ma 19) (a0).toNatClampNeg) + (1 : Int32))) (x3_1).toNatClampNeg)) (zck (zin a0 9) (some (va_up (va_up (va_up (va_up (va_up (va_up (va_up (va_up (va_up Ma 19 (upd (Ma 19) (a0).toNatClampNeg (((Ma 19) (a0).toNatClampNeg) + (1 : Int32)))) 20 (upd (Ma 20) (a0).toNatClampNeg (((Ma 20) (a0).toNatClampNeg) + ((Ma 20) (x3_1).toNatClampNeg)))) 22 (upd (Ma 22) (a0).toNatClampNeg v74)) 21 (upd (Ma 21) (a0).toNatClampNeg v110)) 23 (upd (Ma 23) (a0).toNatClampNeg v150)) 24 (upd (Ma 24) (a0).toNatClampNeg v190)) 25 (upd (Ma 25) (a0).toNatClampNeg (((Ma 25) (a0).toNatClampNeg) ||| ((Ma 25) (x3_1).toNatClampNeg)))) 26 (upd (Ma 26) (a0).toNatClampNeg v242)) 27 (upd (Ma 27) (a0).toNatClampNeg (((Ma 27) (a0).toNatClampNeg) + (((Ma 27) (x3_1).toNatClampNeg) / ((upd (Ma 19) (a0).toNatClampNeg (((Ma 19) (a0).toNatClampNeg) + (1 : Int32))) (x3_1).toNatClampNeg)))))))))))))))))))))))))))))))))))))))
noncomputable def fX6_layCourses (Ms : Nat → Int32) (Ma : Nat → Nat → Int32)  : Option ((Nat → Nat → Int32)) :=
  zb1 (fX6_begin Ma (0 : Int32)) (fun (Ma_1 : Nat → Nat → Int32) => zb1 (zi2 (fun (x1_7h : Int32) (Ma_7h : Nat → Nat → Int32) => if x1_7h < 0 then some (.inr Ma_7h) else zb2 (fX6_nextCode Ms Ma_7h x1_7h) (fun (r5 : Int32) (Ma_6 : Nat → Nat → Int32) => zb2 (if r5 = (-1 : Int32) then zck (zin x1_7h 9) (zb1 (if ((Ma_6 19) (x1_7h).toNatClampNeg) = 0 then zb1 (fX6_end Ms Ma_6 x1_7h) (fun (Ma_17 : Nat → Nat → Int32) => some Ma_17) else some Ma_6) (fun (Ma_60 : Nat → Nat → Int32) => if (x1_7h + (-1 : Int32)) < 0 then some ((x1_7h + (-1 : Int32)), Ma_60) else zck (zin (x1_7h + (-1 : Int32)) 9) (zb1 (fX6_takeUp Ma_60 (x1_7h + (-1 : Int32)) (((Ma_60 18) ((x1_7h + (-1 : Int32))).toNatClampNeg) - (1 : Int32))) (fun (Ma_13 : Nat → Nat → Int32) => some ((x1_7h + (-1 : Int32)), Ma_13))))) else zb1 (fX6_goDeep Ms Ma_6 x1_7h (r5 / (12 : Int32)) (r5 - r5 / (12 : Int32) * (12 : Int32))) (fun (Ma_19 : Nat → Nat → Int32) => zb1 (fX6_begin Ma_19 (x1_7h + (1 : Int32))) (fun (Ma_21 : Nat → Nat → Int32) => some ((x1_7h + (1 : Int32)), Ma_21)))) (fun (x1_80 : Int32) (Ma_80 : Nat → Nat → Int32) => some (.inl (x1_80, Ma_80))))) (0 : Int32) Ma_1) (fun (Ma_83x7 : Nat → Nat → Int32) => some Ma_83x7))
noncomputable def fX6_coursesNow (Ms : Nat → Int32) (Ma : Nat → Nat → Int32) (a0 : Int32) : Option (Int32 × (Nat → Nat → Int32)) :=
  zb1 (fX6_putDeep Ms Ma) (fun (Ma_1 : Nat → Nat → Int32) => zb1 (fX6_layCourses Ms Ma_1) (fun (Ma_3 : Nat → Nat → Int32) => if a0 = (0 : Int32) then zck (zin (0 : Int32) 9) (some (((Ma_3 21) ((0 : Int32)).toNatClampNeg), Ma_3)) else if a0 = (1 : Int32) then zck (zin (0 : Int32) 9) (some (((Ma_3 22) ((0 : Int32)).toNatClampNeg), Ma_3)) else if a0 = (2 : Int32) then zck (zin (0 : Int32) 9) (some (((Ma_3 20) ((0 : Int32)).toNatClampNeg), Ma_3)) else if a0 = (3 : Int32) then zck (zin (0 : Int32) 9) (some (((Ma_3 23) ((0 : Int32)).toNatClampNeg), Ma_3)) else if a0 = (4 : Int32) then zck (zin (0 : Int32) 9) (some (((Ma_3 24) ((0 : Int32)).toNatClampNeg), Ma_3)) else zck (zin (0 : Int32) 9) (some (((Ma_3 25) ((0 : Int32)).toNatClampNeg), Ma_3))))
noncomputable def fX6_courses (Ms : Nat → Int32) (Ma : Nat → Nat → Int32) (a0 : Int32) : Option (Int32 × (Nat → Nat → Int32)) :=
  zb1 (fX6_within a0 (0 : Int32) (5 : Int32)) (fun (r1 : Int32) => if r1 = 0 then some ((-102 : Int32), Ma) else if (Ms 4) = 0 then some ((-103 : Int32), Ma) else zb2 (fX6_coursesNow Ms Ma a0) (fun (r5 : Int32) (Ma_6 : Nat → Nat → Int32) => some (r5, Ma_6)))
noncomputable def fX6_winsNow (Ms : Nat → Int32) (Ma : Nat → Nat → Int32) (a0 : Int32) : Option (Int32 × (Nat → Nat → Int32)) :=
  zb1 (fX6_putDeep Ms Ma) (fun (Ma_1 : Nat → Nat → Int32) => zb1 (fX6_layCourses Ms Ma_1) (fun (Ma_3 : Nat → Nat → Int32) => if a0 = (1 : Int32) then zck (zin (0 : Int32) 9) (some (((Ma_3 26) ((0 : Int32)).toNatClampNeg), Ma_3)) else zck (zin (0 : Int32) 9) (if ((Ma_3 26) ((0 : Int32)).toNatClampNeg) = (-1 : Int32) then some ((0 : Int32), Ma_3) else some ((1 : Int32), Ma_3))))
noncomputable def fX6_wins (Ms : Nat → Int32) (Ma : Nat → Nat → Int32) (a0 : Int32) : Option (Int32 × (Nat → Nat → Int32)) :=
  zb1 (fX6_within a0 (0 : Int32) (1 : Int32)) (fun (r1 : Int32) => if r1 = 0 then some ((-102 : Int32), Ma) else if (Ms 4) = 0 then some ((-103 : Int32), Ma) else zb2 (fX6_winsNow Ms Ma a0) (fun (r5 : Int32) (Ma_6 : Nat → Nat → Int32) => some (r5, Ma_6)))
noncomputable def fX6_addNow (Ms : Nat → Int32) (Ma : Nat → Nat → Int32)  : Option (Int32 × (Nat → Int32) × (Nat → Nat → Int32)) :=
  zb3 (zi4 (fun (x1_4h : Int32) (x2_4h : Int32) (Ms_4h : Nat → Int32) (Ma_4h : Nat → Nat → Int32) => zb1 (fX6_places Ms_4h) (fun (r2 : Int32) => if r2 ≤ x2_4h then some (.inr (x1_4h, Ms_4h, Ma_4h)) else if x1_4h = (-1 : Int32) then zb2 (fX6_isEmpty Ms_4h Ma_4h x2_4h) (fun (r6 : Int32) (Ma_7 : Nat → Nat → Int32) => zb3 (if r6 = 0 then some (x1_4h, Ms_4h, Ma_7) else zck (zin (Ms_4h 4) 8) (zck (zin (Ms_4h 4) 8) (zb2 (fX6_coursesNow (upd Ms_4h 4 ((Ms_4h 4) + (1 : Int32))) (va_up (va_up Ma_7 5 (upd (Ma_7 5) ((Ms_4h 4)).toNatClampNeg (0 : Int32))) 6 (upd (Ma_7 6) ((Ms_4h 4)).toNatClampNeg x2_4h)) (0 : Int32)) (fun (r13 : Int32) (Ma_14 : Nat → Nat → Int32) => zb1 (if r13 = (1 : Int32) then some x2_4h else some (-1 : Int32)) (fun (v69 : Int32) => some (v69, (upd Ms_4h 4 (((Ms_4h 4) + (1 : Int32)) - (1 : Int32))), Ma_14)))))) (fun (x1_80 : Int32) (Ms_80 : Nat → Int32) (Ma_80 : Nat → Nat → Int32) => some (.inl (x1_80, (x2_4h + (1 : Int32)), Ms_80, Ma_80)))) else some (.inr (x1_4h, Ms_4h, Ma_4h)))) (-1 : Int32) (0 : Int32) Ms Ma) (fun (x1_86x4 : Int32) (Ms_86x4 : Nat → Int32) (Ma_86x4 : Nat → Nat → Int32) => some (x1_86x4, Ms_86x4, Ma_86x4))
noncomputable def fX6_add (Ms : Nat → Int32) (Ma : Nat → Nat → Int32)  : Option (Int32 × (Nat → Int32) × (Nat → Nat → Int32)) :=
  if (Ms 4) = 0 then some ((-103 : Int32), Ms, Ma) else if (Ms 8) = (12 : Int32) then some ((-103 : Int32), Ms, Ma) else zb3 (fX6_addNow (upd Ms 8 ((Ms 8) + (1 : Int32))) Ma) (fun (r3 : Int32) (Ms_4 : Nat → Int32) (Ma_5 : Nat → Nat → Int32) => some (r3, Ms_4, Ma_5))
noncomputable def fX6_meanNow (Ms : Nat → Int32) (Ma : Nat → Nat → Int32)  : Option (Int32 × (Nat → Nat → Int32)) :=
  zb1 (fX6_putDeep Ms Ma) (fun (Ma_1 : Nat → Nat → Int32) => zb1 (fX6_layCourses Ms Ma_1) (fun (Ma_3 : Nat → Nat → Int32) => zck (zin (0 : Int32) 9) (zck (zin (0 : Int32) 9) (zck (zne ((Ma_3 19) ((0 : Int32)).toNatClampNeg)) (some ((((Ma_3 27) ((0 : Int32)).toNatClampNeg) / ((Ma_3 19) ((0 : Int32)).toNatClampNeg)), Ma_3))))))
noncomputable def fX6_mean (Ms : Nat → Int32) (Ma : Nat → Nat → Int32)  : Option (Int32 × (Nat → Nat → Int32)) :=
  if (Ms 4) = 0 then some ((-103 : Int32), Ma) else zb2 (fX6_meanNow Ms Ma) (fun (r2 : Int32) (Ma_3 : Nat → Nat → Int32) => some (r2, Ma_3))
noncomputable def fX6_see (Ms : Nat → Int32) (Ma : Nat → Nat → Int32) (a0 : Int32) (a1 : Int32) (a2 : Int32) : Option (Int32 × (Nat → Int32) × (Nat → Nat → Int32)) :=
  zb1 (fX6_isPeg Ms a0) (fun (r1 : Int32) => if r1 = 0 then some ((-101 : Int32), Ms, Ma) else zb1 (fX6_within a1 (0 : Int32) (3 : Int32)) (fun (r4 : Int32) => if r4 = 0 then some ((-102 : Int32), Ms, Ma) else if (Ms 9) = (6 : Int32) then some ((-104 : Int32), Ms, Ma) else zck (zin (Ms 9) 6) (zck (zin (Ms 9) 6) (zb1 (if a2 = 0 then some (0 : Int32) else some (1 : Int32)) (fun (v72 : Int32) => zck (zin (Ms 9) 6) (some (((Ms 9) + (1 : Int32)), (upd Ms 9 ((Ms 9) + (1 : Int32))), (va_up (va_up (va_up Ma 10 (upd (Ma 10) ((Ms 9)).toNatClampNeg a0)) 11 (upd (Ma 11) ((Ms 9)).toNatClampNeg a1)) 12 (upd (Ma 12) ((Ms 9)).toNatClampNeg v72)))))))))
noncomputable def fX6_forget (Ms : Nat → Int32)  : Option (Int32 × (Nat → Int32)) :=
  zlt (Ms 9) (fun (x1_1 : Int32) => some (x1_1, (upd Ms 9 (0 : Int32))))
noncomputable def fX6_draw (Mj : Nat → Int64) (a0 : Int32) : Option (Int32 × (Nat → Int64)) :=
  zck (znl (a0).toInt64) (some ((((((((1103515245 : Int64) * (Mj 28)) + (12345 : Int64)) &&& (2147483647 : Int64)) / (65536 : Int64)) - (((((1103515245 : Int64) * (Mj 28)) + (12345 : Int64)) &&& (2147483647 : Int64)) / (65536 : Int64)) / (a0).toInt64 * (a0).toInt64)).toInt32, (va_up Mj 28 ((((1103515245 : Int64) * (Mj 28)) + (12345 : Int64)) &&& (2147483647 : Int64)))))
noncomputable def fX6_codeBy (Ms : Nat → Int32) (Ma : Nat → Nat → Int32) (a0 : Int32) (a1 : Int32) : Option (Int32 × (Nat → Nat → Int32)) :=
  zck (zin a0 9) (zb2 (fX6_nextCode Ms (va_up Ma 18 (upd (Ma 18) (a0).toNatClampNeg (0 : Int32))) a0) (fun (r2 : Int32) (Ma_3 : Nat → Nat → Int32) => zb2 (zi3 (fun (x3_16h : Int32) (x4_16h : Int32) (Ma_16h : Nat → Nat → Int32) => if a1 ≤ x4_16h then some (.inr (x3_16h, Ma_16h)) else zb2 (fX6_nextCode Ms Ma_16h a0) (fun (r7 : Int32) (Ma_8 : Nat → Nat → Int32) => some (.inl (r7, (x4_16h + (1 : Int32)), Ma_8)))) r2 (0 : Int32) Ma_3) (fun (x3_34x16 : Int32) (Ma_34x16 : Nat → Nat → Int32) => some (x3_34x16, Ma_34x16))))
noncomputable def fX6_runsNow (Ms : Nat → Int32) (Mj : Nat → Int64) (Ma : Nat → Nat → Int32) (a0 : Int32) (a1 : Int32) (a2 : Int32) : Option (Int32 × (Nat → Int64) × (Nat → Nat → Int32)) :=
  zb4 (zi5 (fun (x4_15h : Int32) (x5_15h : Int32) (x6_15h : Int32) (Mj_15h : Nat → Int64) (Ma_15h : Nat → Nat → Int32) => if a0 ≤ x6_15h then some (.inr (x4_15h, x5_15h, Mj_15h, Ma_15h)) else zb1 (fX6_putDeep Ms Ma_15h) (fun (Ma_3 : Nat → Nat → Int32) => zb1 (fX6_jumpsNow Ms Ma_3 (0 : Int32)) (fun (r5 : Int32) => zb4 (zi5 (fun (x4_35h : Int32) (x7_35h : Int32) (x8_35h : Int32) (Mj_35h : Nat → Int64) (Ma_35h : Nat → Nat → Int32) => if x8_35h ≤ 0 then some (.inr (x4_35h, x7_35h, Mj_35h, Ma_35h)) else zb2 (fX6_draw Mj_35h x8_35h) (fun (r9 : Int32) (Mj_10 : Nat → Int64) => zb2 (fX6_codeBy Ms Ma_35h x7_35h r9) (fun (r12 : Int32) (Ma_13 : Nat → Nat → Int32) => zb1 (fX6_goDeep Ms Ma_13 x7_35h (r12 / (12 : Int32)) (r12 - r12 / (12 : Int32) * (12 : Int32))) (fun (Ma_15 : Nat → Nat → Int32) => zb1 (fX6_jumpsNow Ms Ma_15 (x7_35h + (1 : Int32))) (fun (r17 : Int32) => some (.inl ((x4_35h + (1 : Int32)), (x7_35h + (1 : Int32)), r17, Mj_10, Ma_15))))))) x4_15h (0 : Int32) r5 Mj_15h Ma_3) (fun (x4_87x35 : Int32) (x7_87x35 : Int32) (Mj_87x35 : Nat → Int64) (Ma_87x35 : Nat → Nat → Int32) => zb1 (fX6_onBoard Ms Ma_87x35 x7_87x35) (fun (r19 : Int32) => zb1 (if r19 = (1 : Int32) then some (1 : Int32) else some (0 : Int32)) (fun (v104 : Int32) => zlt (x5_15h + v104) (fun (x5_21 : Int32) => some (.inl (x4_87x35, x5_21, (x6_15h + (1 : Int32)), Mj_87x35, Ma_87x35))))))))) (0 : Int32) (0 : Int32) (0 : Int32) (va_up Mj 28 (a1).toInt64) Ma) (fun (x4_113x15 : Int32) (x5_113x15 : Int32) (Mj_113x15 : Nat → Int64) (Ma_113x15 : Nat → Nat → Int32) => if a2 = 0 then some (x4_113x15, Mj_113x15, Ma_113x15) else if a2 = (1 : Int32) then some (x5_113x15, Mj_113x15, Ma_113x15) else some (((Mj_113x15 28)).toInt32, Mj_113x15, Ma_113x15))
noncomputable def fX6_runs (Ms : Nat → Int32) (Mj : Nat → Int64) (Ma : Nat → Nat → Int32) (a0 : Int32) (a1 : Int32) (a2 : Int32) : Option (Int32 × (Nat → Int64) × (Nat → Nat → Int32)) :=
  zb1 (fX6_within a0 (1 : Int32) (40 : Int32)) (fun (r1 : Int32) => if r1 = 0 then some ((-102 : Int32), Mj, Ma) else if a1 < 0 then some ((-102 : Int32), Mj, Ma) else zb1 (fX6_within a2 (0 : Int32) (2 : Int32)) (fun (r5 : Int32) => if r5 = 0 then some ((-102 : Int32), Mj, Ma) else if (Ms 4) = 0 then some ((-103 : Int32), Mj, Ma) else zb3 (fX6_runsNow Ms Mj Ma a0 a1 a2) (fun (r9 : Int32) (Mj_10 : Nat → Int64) (Ma_11 : Nat → Nat → Int32) => some (r9, Mj_10, Ma_11))))
noncomputable def fX6_image (Ms : Nat → Int32) (Ma : Nat → Nat → Int32)  : Option (Int32 × (Nat → Int32) × (Nat → Nat → Int32)) :=
  if (Ms 4) = 0 then some ((-103 : Int32), Ms, Ma) else zb1 (zi2 (fun (x1_49h : Int32) (Ma_49h : Nat → Nat → Int32) => if (7 : Int32) ≤ x1_49h then some (.inr Ma_49h) else zck (zin x1_49h 8) (zck (zin x1_49h 8) (zck (zin x1_49h 8) (zck (zin x1_49h 8) (some (.inl ((x1_49h + (1 : Int32)), (va_up (va_up Ma_49h 34 (upd (Ma_49h 34) (x1_49h).toNatClampNeg ((Ma_49h 5) (x1_49h).toNatClampNeg))) 35 (upd (Ma_49h 35) (x1_49h).toNatClampNeg ((Ma_49h 6) (x1_49h).toNatClampNeg)))))))))) (0 : Int32) Ma) (fun (Ma_85x49 : Nat → Nat → Int32) => zb1 (zi2 (fun (x1_87h : Int32) (Ma_87h : Nat → Nat → Int32) => if (6 : Int32) ≤ x1_87h then some (.inr Ma_87h) else zck (zin x1_87h 6) (zck (zin x1_87h 6) (zck (zin x1_87h 6) (zck (zin x1_87h 6) (zck (zin x1_87h 6) (zck (zin x1_87h 6) (some (.inl ((x1_87h + (1 : Int32)), (va_up (va_up (va_up Ma_87h 36 (upd (Ma_87h 36) (x1_87h).toNatClampNeg ((Ma_87h 10) (x1_87h).toNatClampNeg))) 37 (upd (Ma_87h 37) (x1_87h).toNatClampNeg ((Ma_87h 11) (x1_87h).toNatClampNeg))) 38 (upd (Ma_87h 38) (x1_87h).toNatClampNeg ((Ma_87h 12) (x1_87h).toNatClampNeg)))))))))))) (0 : Int32) Ma_85x49) (fun (Ma_135x87 : Nat → Nat → Int32) => some ((Ms 7), (upd (upd (upd (upd (upd Ms 29 (1 : Int32)) 30 (Ms 0)) 31 (Ms 3)) 32 (Ms 7)) 33 (Ms 9)), Ma_135x87)))
noncomputable def fX6_restore (Ms : Nat → Int32) (Ma : Nat → Nat → Int32)  : Option (Int32 × (Nat → Int32) × (Nat → Nat → Int32)) :=
  if (Ms 29) = 0 then some ((-103 : Int32), Ms, Ma) else if (Ms 30) = (Ms 0) then zb1 (zi2 (fun (x1_47h : Int32) (Ma_47h : Nat → Nat → Int32) => if (7 : Int32) ≤ x1_47h then some (.inr Ma_47h) else zck (zin x1_47h 8) (zck (zin x1_47h 8) (zck (zin x1_47h 8) (zck (zin x1_47h 8) (some (.inl ((x1_47h + (1 : Int32)), (va_up (va_up Ma_47h 5 (upd (Ma_47h 5) (x1_47h).toNatClampNeg ((Ma_47h 34) (x1_47h).toNatClampNeg))) 6 (upd (Ma_47h 6) (x1_47h).toNatClampNeg ((Ma_47h 35) (x1_47h).toNatClampNeg)))))))))) (0 : Int32) Ma) (fun (Ma_83x47 : Nat → Nat → Int32) => zb1 (zi2 (fun (x1_85h : Int32) (Ma_85h : Nat → Nat → Int32) => if (6 : Int32) ≤ x1_85h then some (.inr Ma_85h) else zck (zin x1_85h 6) (zck (zin x1_85h 6) (zck (zin x1_85h 6) (zck (zin x1_85h 6) (zck (zin x1_85h 6) (zck (zin x1_85h 6) (some (.inl ((x1_85h + (1 : Int32)), (va_up (va_up (va_up Ma_85h 10 (upd (Ma_85h 10) (x1_85h).toNatClampNeg ((Ma_85h 36) (x1_85h).toNatClampNeg))) 11 (upd (Ma_85h 11) (x1_85h).toNatClampNeg ((Ma_85h 37) (x1_85h).toNatClampNeg))) 12 (upd (Ma_85h 12) (x1_85h).toNatClampNeg ((Ma_85h 38) (x1_85h).toNatClampNeg)))))))))))) (0 : Int32) Ma_83x47) (fun (Ma_133x85 : Nat → Nat → Int32) => some ((Ms 32), (upd (upd (upd Ms 3 (Ms 31)) 7 (Ms 32)) 9 (Ms 33)), Ma_133x85))) else some ((-103 : Int32), Ms, Ma)
noncomputable def fX6_ofBoard (Ms : Nat → Int32) (Ma : Nat → Nat → Int32) (a0 : Int32) : Option (Int32 × (Nat → Nat → Int32)) :=
  zb1 (fX6_putDeep Ms Ma) (fun (Ma_1 : Nat → Nat → Int32) => if a0 = (0 : Int32) then some ((Ms 1), Ma_1) else if a0 = (1 : Int32) then some ((Ms 2), Ma_1) else if a0 = (2 : Int32) then zb1 (fX6_size (Ms 3)) (fun (r6 : Int32) => some (r6, Ma_1)) else if a0 = (3 : Int32) then some ((Ms 4), Ma_1) else if a0 = (4 : Int32) then zb1 (fX6_onBoard Ms Ma_1 (0 : Int32)) (fun (r10 : Int32) => some (r10, Ma_1)) else zb1 (fX6_jumpsNow Ms Ma_1 (0 : Int32)) (fun (r12 : Int32) => some (r12, Ma_1)))
noncomputable def fX6_howMany (Ms : Nat → Int32) (Ma : Nat → Nat → Int32) (a0 : Int32) : Option (Int32 × (Nat → Nat → Int32)) :=
  if a0 = (6 : Int32) then some ((Ms 7), Ma) else if a0 = (7 : Int32) then some ((Ms 9), Ma) else if a0 = (8 : Int32) then some ((Ms 13), Ma) else if a0 = (9 : Int32) then some ((Ms 0), Ma) else if a0 = (10 : Int32) then some ((Ms 8), Ma) else zb1 (fX6_within a0 (0 : Int32) (5 : Int32)) (fun (r6 : Int32) => if r6 = 0 then some ((-102 : Int32), Ma) else zb2 (fX6_ofBoard Ms Ma a0) (fun (r9 : Int32) (Ma_10 : Nat → Nat → Int32) => some (r9, Ma_10)))
noncomputable def fX6_count (Ms : Nat → Int32) (Ma : Nat → Nat → Int32) (a0 : Int32) : Option (Int32 × (Nat → Nat → Int32)) :=
  zb2 (fX6_howMany Ms Ma a0) (fun (r1 : Int32) (Ma_2 : Nat → Nat → Int32) => some (r1, Ma_2))
noncomputable def fX6_mix (Mj : Nat → Int64) (a0 : Int64) : Option ((Nat → Int64)) :=
  some (va_up Mj 39 (((31 : Int64) * (Mj 39)) + a0))
noncomputable def fX6_mixBoard (Ms : Nat → Int32) (Mj : Nat → Int64) (Ma : Nat → Nat → Int32)  : Option ((Nat → Int64) × (Nat → Nat → Int32)) :=
  zb2 (zi3 (fun (x1_2h : Int32) (Mj_2h : Nat → Int64) (Ma_2h : Nat → Nat → Int32) => if (6 : Int32) ≤ x1_2h then some (.inr (Mj_2h, Ma_2h)) else zb2 (fX6_coursesNow Ms Ma_2h x1_2h) (fun (r3 : Int32) (Ma_4 : Nat → Nat → Int32) => zb1 (fX6_mix Mj_2h ((r3).toInt64)) (fun (Mj_6 : Nat → Int64) => some (.inl ((x1_2h + (1 : Int32)), Mj_6, Ma_4))))) (0 : Int32) Mj Ma) (fun (Mj_24x2 : Nat → Int64) (Ma_24x2 : Nat → Nat → Int32) => zb2 (fX6_winsNow Ms Ma_24x2 (0 : Int32)) (fun (r8 : Int32) (Ma_9 : Nat → Nat → Int32) => zb1 (fX6_mix Mj_24x2 ((r8).toInt64)) (fun (Mj_11 : Nat → Int64) => zb2 (fX6_winsNow Ms Ma_9 (1 : Int32)) (fun (r13 : Int32) (Ma_14 : Nat → Nat → Int32) => zb1 (fX6_mix Mj_11 ((r13).toInt64)) (fun (Mj_16 : Nat → Int64) => zb2 (fX6_meanNow Ms Ma_14) (fun (r18 : Int32) (Ma_19 : Nat → Nat → Int32) => zb1 (fX6_mix Mj_16 ((r18).toInt64)) (fun (Mj_21 : Nat → Int64) => some (Mj_21, Ma_19))))))))
noncomputable def fX6_digest (Ms : Nat → Int32) (Mj : Nat → Int64) (Ma : Nat → Nat → Int32)  : Option (Int64 × (Nat → Int64) × (Nat → Nat → Int32)) :=
  zb2 (zi3 (fun (x1_9h : Int32) (Mj_9h : Nat → Int64) (Ma_9h : Nat → Nat → Int32) => if (Ms 4) ≤ x1_9h then some (.inr (Mj_9h, Ma_9h)) else zb2 (zi3 (fun (x2_19h : Int32) (Mj_19h : Nat → Int64) (Ma_19h : Nat → Nat → Int32) => if (5 : Int32) ≤ x2_19h then some (.inr (Mj_19h, Ma_19h)) else zb2 (fX6_pegNow Ms Ma_19h x1_9h x2_19h) (fun (r5 : Int32) (Ma_6 : Nat → Nat → Int32) => zb1 (fX6_mix Mj_19h ((r5).toInt64)) (fun (Mj_8 : Nat → Int64) => some (.inl ((x2_19h + (1 : Int32)), Mj_8, Ma_6))))) (0 : Int32) Mj_9h Ma_9h) (fun (Mj_41x19 : Nat → Int64) (Ma_41x19 : Nat → Nat → Int32) => some (.inl ((x1_9h + (1 : Int32)), Mj_41x19, Ma_41x19)))) (0 : Int32) (va_up Mj 39 (1307 : Int64)) Ma) (fun (Mj_47x9 : Nat → Int64) (Ma_47x9 : Nat → Nat → Int32) => zb2 (zi3 (fun (x1_49h : Int32) (Mj_49h : Nat → Int64) (Ma_49h : Nat → Nat → Int32) => zb1 (fX6_places Ms) (fun (r12 : Int32) => if r12 ≤ x1_49h then some (.inr (Mj_49h, Ma_49h)) else zb2 (zi3 (fun (x2_59h : Int32) (Mj_59h : Nat → Int64) (Ma_59h : Nat → Nat → Int32) => if (2 : Int32) ≤ x2_59h then some (.inr (Mj_59h, Ma_59h)) else zb2 (fX6_placeNow Ms Ma_59h x1_49h x2_59h) (fun (r17 : Int32) (Ma_18 : Nat → Nat → Int32) => zb1 (fX6_mix Mj_59h ((r17).toInt64)) (fun (Mj_20 : Nat → Int64) => some (.inl ((x2_59h + (1 : Int32)), Mj_20, Ma_18))))) (0 : Int32) Mj_49h Ma_49h) (fun (Mj_81x59 : Nat → Int64) (Ma_81x59 : Nat → Nat → Int32) => some (.inl ((x1_49h + (1 : Int32)), Mj_81x59, Ma_81x59))))) (0 : Int32) Mj_47x9 Ma_47x9) (fun (Mj_87x49 : Nat → Int64) (Ma_87x49 : Nat → Nat → Int32) => zb2 (if (Ms 4) ≤ 0 then some (Mj_87x49, Ma_87x49) else zb2 (fX6_mixBoard Ms Mj_87x49 Ma_87x49) (fun (Mj_39 : Nat → Int64) (Ma_40 : Nat → Nat → Int32) => some (Mj_39, Ma_40))) (fun (Mj_98 : Nat → Int64) (Ma_98 : Nat → Nat → Int32) => zb1 (zi2 (fun (x1_100h : Int32) (Mj_100h : Nat → Int64) => if (Ms 13) ≤ x1_100h then some (.inr Mj_100h) else zck (zin x1_100h 18) (zb1 (fX6_mix Mj_100h ((((Ma_98 14) (x1_100h).toNatClampNeg)).toInt64)) (fun (Mj_26 : Nat → Int64) => some (.inl ((x1_100h + (1 : Int32)), Mj_26))))) (0 : Int32) Mj_98) (fun (Mj_125x100 : Nat → Int64) => zb2 (zi3 (fun (x1_127h : Int32) (Mj_127h : Nat → Int64) (Ma_127h : Nat → Nat → Int32) => if (11 : Int32) ≤ x1_127h then some (.inr (Mj_127h, Ma_127h)) else zb2 (fX6_howMany Ms Ma_127h x1_127h) (fun (r30 : Int32) (Ma_31 : Nat → Nat → Int32) => zb1 (fX6_mix Mj_127h ((r30).toInt64)) (fun (Mj_33 : Nat → Int64) => some (.inl ((x1_127h + (1 : Int32)), Mj_33, Ma_31))))) (0 : Int32) Mj_125x100 Ma_98) (fun (Mj_149x127 : Nat → Int64) (Ma_149x127 : Nat → Nat → Int32) => some ((Mj_149x127 39), Mj_149x127, Ma_149x127))))))
theorem kV_X0_placeAt : yX0_placeAt.cls = RX0 ∧ yX0_placeAt.cls ≠ "java/lang/invoke/MethodHandle" ∧ yX0_placeAt.cls ≠ "java/lang/invoke/VarHandle" ∧ (parseMethodDescriptor yX0_placeAt.desc).map (fun d => d.parameters.length) = some 2 := by decide +kernel
theorem kS_X0_placeAt : yX0_placeAt.cls ≠ "java/lang/invoke/MethodHandle" ∧ yX0_placeAt.cls ≠ "java/lang/invoke/VarHandle" ∧ (parseMethodDescriptor yX0_placeAt.desc).map (fun d => d.parameters.length) = some 2 := kV_X0_placeAt.2
theorem kV_X0_lay : yX0_lay.cls = RX0 ∧ yX0_lay.cls ≠ "java/lang/invoke/MethodHandle" ∧ yX0_lay.cls ≠ "java/lang/invoke/VarHandle" ∧ (parseMethodDescriptor yX0_lay.desc).map (fun d => d.parameters.length) = some 2 := by decide +kernel
theorem kS_X0_lay : yX0_lay.cls ≠ "java/lang/invoke/MethodHandle" ∧ yX0_lay.cls ≠ "java/lang/invoke/VarHandle" ∧ (parseMethodDescriptor yX0_lay.desc).map (fun d => d.parameters.length) = some 2 := kV_X0_lay.2
theorem kV_X0_has : yX0_has.cls = RX0 ∧ yX0_has.cls ≠ "java/lang/invoke/MethodHandle" ∧ yX0_has.cls ≠ "java/lang/invoke/VarHandle" ∧ (parseMethodDescriptor yX0_has.desc).map (fun d => d.parameters.length) = some 1 := by decide +kernel
theorem kS_X0_has : yX0_has.cls ≠ "java/lang/invoke/MethodHandle" ∧ yX0_has.cls ≠ "java/lang/invoke/VarHandle" ∧ (parseMethodDescriptor yX0_has.desc).map (fun d => d.parameters.length) = some 1 := kV_X0_has.2
theorem kV_X0_next : yX0_next.cls = RX0 ∧ yX0_next.cls ≠ "java/lang/invoke/MethodHandle" ∧ yX0_next.cls ≠ "java/lang/invoke/VarHandle" ∧ (parseMethodDescriptor yX0_next.desc).map (fun d => d.parameters.length) = some 2 := by decide +kernel
theorem kS_X0_next : yX0_next.cls ≠ "java/lang/invoke/MethodHandle" ∧ yX0_next.cls ≠ "java/lang/invoke/VarHandle" ∧ (parseMethodDescriptor yX0_next.desc).map (fun d => d.parameters.length) = some 2 := kV_X0_next.2
theorem kV_X1_begin : yX1_begin.cls = RX1 ∧ yX1_begin.cls ≠ "java/lang/invoke/MethodHandle" ∧ yX1_begin.cls ≠ "java/lang/invoke/VarHandle" ∧ (parseMethodDescriptor yX1_begin.desc).map (fun d => d.parameters.length) = some 0 := by decide +kernel
theorem kS_X1_begin : yX1_begin.cls ≠ "java/lang/invoke/MethodHandle" ∧ yX1_begin.cls ≠ "java/lang/invoke/VarHandle" ∧ (parseMethodDescriptor yX1_begin.desc).map (fun d => d.parameters.length) = some 0 := kV_X1_begin.2
theorem kV_X1_take : yX1_take.cls = RX1 ∧ yX1_take.cls ≠ "java/lang/invoke/MethodHandle" ∧ yX1_take.cls ≠ "java/lang/invoke/VarHandle" ∧ (parseMethodDescriptor yX1_take.desc).map (fun d => d.parameters.length) = some 2 := by decide +kernel
theorem kS_X1_take : yX1_take.cls ≠ "java/lang/invoke/MethodHandle" ∧ yX1_take.cls ≠ "java/lang/invoke/VarHandle" ∧ (parseMethodDescriptor yX1_take.desc).map (fun d => d.parameters.length) = some 2 := kV_X1_take.2
theorem kV_X1_end : yX1_end.cls = RX1 ∧ yX1_end.cls ≠ "java/lang/invoke/MethodHandle" ∧ yX1_end.cls ≠ "java/lang/invoke/VarHandle" ∧ (parseMethodDescriptor yX1_end.desc).map (fun d => d.parameters.length) = some 2 := by decide +kernel
theorem kS_X1_end : yX1_end.cls ≠ "java/lang/invoke/MethodHandle" ∧ yX1_end.cls ≠ "java/lang/invoke/VarHandle" ∧ (parseMethodDescriptor yX1_end.desc).map (fun d => d.parameters.length) = some 2 := kV_X1_end.2
theorem kV_X2_append : yX2_append.cls = RX2 ∧ yX2_append.cls ≠ "java/lang/invoke/MethodHandle" ∧ yX2_append.cls ≠ "java/lang/invoke/VarHandle" ∧ (parseMethodDescriptor yX2_append.desc).map (fun d => d.parameters.length) = some 1 := by decide +kernel
theorem kS_X2_append : yX2_append.cls ≠ "java/lang/invoke/MethodHandle" ∧ yX2_append.cls ≠ "java/lang/invoke/VarHandle" ∧ (parseMethodDescriptor yX2_append.desc).map (fun d => d.parameters.length) = some 1 := kV_X2_append.2
theorem kV_X2_codeAt : yX2_codeAt.cls = RX2 ∧ yX2_codeAt.cls ≠ "java/lang/invoke/MethodHandle" ∧ yX2_codeAt.cls ≠ "java/lang/invoke/VarHandle" ∧ (parseMethodDescriptor yX2_codeAt.desc).map (fun d => d.parameters.length) = some 1 := by decide +kernel
theorem kS_X2_codeAt : yX2_codeAt.cls ≠ "java/lang/invoke/MethodHandle" ∧ yX2_codeAt.cls ≠ "java/lang/invoke/VarHandle" ∧ (parseMethodDescriptor yX2_codeAt.desc).map (fun d => d.parameters.length) = some 1 := kV_X2_codeAt.2
theorem kV_X2_digitAt : yX2_digitAt.cls = RX2 ∧ yX2_digitAt.cls ≠ "java/lang/invoke/MethodHandle" ∧ yX2_digitAt.cls ≠ "java/lang/invoke/VarHandle" ∧ (parseMethodDescriptor yX2_digitAt.desc).map (fun d => d.parameters.length) = some 1 := by decide +kernel
theorem kS_X2_digitAt : yX2_digitAt.cls ≠ "java/lang/invoke/MethodHandle" ∧ yX2_digitAt.cls ≠ "java/lang/invoke/VarHandle" ∧ (parseMethodDescriptor yX2_digitAt.desc).map (fun d => d.parameters.length) = some 1 := kV_X2_digitAt.2
theorem kV_X2_kindAt : yX2_kindAt.cls = RX2 ∧ yX2_kindAt.cls ≠ "java/lang/invoke/MethodHandle" ∧ yX2_kindAt.cls ≠ "java/lang/invoke/VarHandle" ∧ (parseMethodDescriptor yX2_kindAt.desc).map (fun d => d.parameters.length) = some 1 := by decide +kernel
theorem kS_X2_kindAt : yX2_kindAt.cls ≠ "java/lang/invoke/MethodHandle" ∧ yX2_kindAt.cls ≠ "java/lang/invoke/VarHandle" ∧ (parseMethodDescriptor yX2_kindAt.desc).map (fun d => d.parameters.length) = some 1 := kV_X2_kindAt.2
theorem kV_X2_placesTold : yX2_placesTold.cls = RX2 ∧ yX2_placesTold.cls ≠ "java/lang/invoke/MethodHandle" ∧ yX2_placesTold.cls ≠ "java/lang/invoke/VarHandle" ∧ (parseMethodDescriptor yX2_placesTold.desc).map (fun d => d.parameters.length) = some 0 := by decide +kernel
theorem kS_X2_placesTold : yX2_placesTold.cls ≠ "java/lang/invoke/MethodHandle" ∧ yX2_placesTold.cls ≠ "java/lang/invoke/VarHandle" ∧ (parseMethodDescriptor yX2_placesTold.desc).map (fun d => d.parameters.length) = some 0 := kV_X2_placesTold.2
theorem kV_X2_pegsBefore : yX2_pegsBefore.cls = RX2 ∧ yX2_pegsBefore.cls ≠ "java/lang/invoke/MethodHandle" ∧ yX2_pegsBefore.cls ≠ "java/lang/invoke/VarHandle" ∧ (parseMethodDescriptor yX2_pegsBefore.desc).map (fun d => d.parameters.length) = some 1 := by decide +kernel
theorem kS_X2_pegsBefore : yX2_pegsBefore.cls ≠ "java/lang/invoke/MethodHandle" ∧ yX2_pegsBefore.cls ≠ "java/lang/invoke/VarHandle" ∧ (parseMethodDescriptor yX2_pegsBefore.desc).map (fun d => d.parameters.length) = some 1 := kV_X2_pegsBefore.2
theorem kV_X2_fits : yX2_fits.cls = RX2 ∧ yX2_fits.cls ≠ "java/lang/invoke/MethodHandle" ∧ yX2_fits.cls ≠ "java/lang/invoke/VarHandle" ∧ (parseMethodDescriptor yX2_fits.desc).map (fun d => d.parameters.length) = some 1 := by decide +kernel
theorem kS_X2_fits : yX2_fits.cls ≠ "java/lang/invoke/MethodHandle" ∧ yX2_fits.cls ≠ "java/lang/invoke/VarHandle" ∧ (parseMethodDescriptor yX2_fits.desc).map (fun d => d.parameters.length) = some 1 := kV_X2_fits.2
theorem kV_X2_firstFault : yX2_firstFault.cls = RX2 ∧ yX2_firstFault.cls ≠ "java/lang/invoke/MethodHandle" ∧ yX2_firstFault.cls ≠ "java/lang/invoke/VarHandle" ∧ (parseMethodDescriptor yX2_firstFault.desc).map (fun d => d.parameters.length) = some 0 := by decide +kernel
theorem kS_X2_firstFault : yX2_firstFault.cls ≠ "java/lang/invoke/MethodHandle" ∧ yX2_firstFault.cls ≠ "java/lang/invoke/VarHandle" ∧ (parseMethodDescriptor yX2_firstFault.desc).map (fun d => d.parameters.length) = some 0 := kV_X2_firstFault.2
theorem kV_X2_isBoard : yX2_isBoard.cls = RX2 ∧ yX2_isBoard.cls ≠ "java/lang/invoke/MethodHandle" ∧ yX2_isBoard.cls ≠ "java/lang/invoke/VarHandle" ∧ (parseMethodDescriptor yX2_isBoard.desc).map (fun d => d.parameters.length) = some 0 := by decide +kernel
theorem kS_X2_isBoard : yX2_isBoard.cls ≠ "java/lang/invoke/MethodHandle" ∧ yX2_isBoard.cls ≠ "java/lang/invoke/VarHandle" ∧ (parseMethodDescriptor yX2_isBoard.desc).map (fun d => d.parameters.length) = some 0 := kV_X2_isBoard.2
theorem kV_X3_append : yX3_append.cls = RX3 ∧ yX3_append.cls ≠ "java/lang/invoke/MethodHandle" ∧ yX3_append.cls ≠ "java/lang/invoke/VarHandle" ∧ (parseMethodDescriptor yX3_append.desc).map (fun d => d.parameters.length) = some 2 := by decide +kernel
theorem kS_X3_append : yX3_append.cls ≠ "java/lang/invoke/MethodHandle" ∧ yX3_append.cls ≠ "java/lang/invoke/VarHandle" ∧ (parseMethodDescriptor yX3_append.desc).map (fun d => d.parameters.length) = some 2 := kV_X3_append.2
theorem kV_X3_sortsOf : yX3_sortsOf.cls = RX3 ∧ yX3_sortsOf.cls ≠ "java/lang/invoke/MethodHandle" ∧ yX3_sortsOf.cls ≠ "java/lang/invoke/VarHandle" ∧ (parseMethodDescriptor yX3_sortsOf.desc).map (fun d => d.parameters.length) = some 1 := by decide +kernel
theorem kS_X3_sortsOf : yX3_sortsOf.cls ≠ "java/lang/invoke/MethodHandle" ∧ yX3_sortsOf.cls ≠ "java/lang/invoke/VarHandle" ∧ (parseMethodDescriptor yX3_sortsOf.desc).map (fun d => d.parameters.length) = some 1 := kV_X3_sortsOf.2
theorem kV_X3_copyFrom : yX3_copyFrom.cls = RX3 ∧ yX3_copyFrom.cls ≠ "java/lang/invoke/MethodHandle" ∧ yX3_copyFrom.cls ≠ "java/lang/invoke/VarHandle" ∧ (parseMethodDescriptor yX3_copyFrom.desc).map (fun d => d.parameters.length) = some 1 := by decide +kernel
theorem kS_X3_copyFrom : yX3_copyFrom.cls ≠ "java/lang/invoke/MethodHandle" ∧ yX3_copyFrom.cls ≠ "java/lang/invoke/VarHandle" ∧ (parseMethodDescriptor yX3_copyFrom.desc).map (fun d => d.parameters.length) = some 1 := kV_X3_copyFrom.2
theorem kV_X4_isPeg : yX4_isPeg.cls = RX4 ∧ yX4_isPeg.cls ≠ "java/lang/invoke/MethodHandle" ∧ yX4_isPeg.cls ≠ "java/lang/invoke/VarHandle" ∧ (parseMethodDescriptor yX4_isPeg.desc).map (fun d => d.parameters.length) = some 1 := by decide +kernel
theorem kS_X4_isPeg : yX4_isPeg.cls ≠ "java/lang/invoke/MethodHandle" ∧ yX4_isPeg.cls ≠ "java/lang/invoke/VarHandle" ∧ (parseMethodDescriptor yX4_isPeg.desc).map (fun d => d.parameters.length) = some 1 := kV_X4_isPeg.2
theorem kV_X4_set : yX4_set.cls = RX4 ∧ yX4_set.cls ≠ "java/lang/invoke/MethodHandle" ∧ yX4_set.cls ≠ "java/lang/invoke/VarHandle" ∧ (parseMethodDescriptor yX4_set.desc).map (fun d => d.parameters.length) = some 2 := by decide +kernel
theorem kS_X4_set : yX4_set.cls ≠ "java/lang/invoke/MethodHandle" ∧ yX4_set.cls ≠ "java/lang/invoke/VarHandle" ∧ (parseMethodDescriptor yX4_set.desc).map (fun d => d.parameters.length) = some 2 := kV_X4_set.2
theorem kV_X4_addPeg : yX4_addPeg.cls = RX4 ∧ yX4_addPeg.cls ≠ "java/lang/invoke/MethodHandle" ∧ yX4_addPeg.cls ≠ "java/lang/invoke/VarHandle" ∧ (parseMethodDescriptor yX4_addPeg.desc).map (fun d => d.parameters.length) = some 2 := by decide +kernel
theorem kS_X4_addPeg : yX4_addPeg.cls ≠ "java/lang/invoke/MethodHandle" ∧ yX4_addPeg.cls ≠ "java/lang/invoke/VarHandle" ∧ (parseMethodDescriptor yX4_addPeg.desc).map (fun d => d.parameters.length) = some 2 := kV_X4_addPeg.2
theorem kV_X4_read : yX4_read.cls = RX4 ∧ yX4_read.cls ≠ "java/lang/invoke/MethodHandle" ∧ yX4_read.cls ≠ "java/lang/invoke/VarHandle" ∧ (parseMethodDescriptor yX4_read.desc).map (fun d => d.parameters.length) = some 1 := by decide +kernel
theorem kS_X4_read : yX4_read.cls ≠ "java/lang/invoke/MethodHandle" ∧ yX4_read.cls ≠ "java/lang/invoke/VarHandle" ∧ (parseMethodDescriptor yX4_read.desc).map (fun d => d.parameters.length) = some 1 := kV_X4_read.2
theorem kV_X4_addPlain : yX4_addPlain.cls = RX4 ∧ yX4_addPlain.cls ≠ "java/lang/invoke/MethodHandle" ∧ yX4_addPlain.cls ≠ "java/lang/invoke/VarHandle" ∧ (parseMethodDescriptor yX4_addPlain.desc).map (fun d => d.parameters.length) = some 1 := by decide +kernel
theorem kS_X4_addPlain : yX4_addPlain.cls ≠ "java/lang/invoke/MethodHandle" ∧ yX4_addPlain.cls ≠ "java/lang/invoke/VarHandle" ∧ (parseMethodDescriptor yX4_addPlain.desc).map (fun d => d.parameters.length) = some 1 := kV_X4_addPlain.2
theorem kV_X4_copyFrom : yX4_copyFrom.cls = RX4 ∧ yX4_copyFrom.cls ≠ "java/lang/invoke/MethodHandle" ∧ yX4_copyFrom.cls ≠ "java/lang/invoke/VarHandle" ∧ (parseMethodDescriptor yX4_copyFrom.desc).map (fun d => d.parameters.length) = some 1 := by decide +kernel
theorem kS_X4_copyFrom : yX4_copyFrom.cls ≠ "java/lang/invoke/MethodHandle" ∧ yX4_copyFrom.cls ≠ "java/lang/invoke/VarHandle" ∧ (parseMethodDescriptor yX4_copyFrom.desc).map (fun d => d.parameters.length) = some 1 := kV_X4_copyFrom.2
theorem kV_X4_kindOf : yX4_kindOf.cls = RX4 ∧ yX4_kindOf.cls ≠ "java/lang/invoke/MethodHandle" ∧ yX4_kindOf.cls ≠ "java/lang/invoke/VarHandle" ∧ (parseMethodDescriptor yX4_kindOf.desc).map (fun d => d.parameters.length) = some 1 := by decide +kernel
theorem kS_X4_kindOf : yX4_kindOf.cls ≠ "java/lang/invoke/MethodHandle" ∧ yX4_kindOf.cls ≠ "java/lang/invoke/VarHandle" ∧ (parseMethodDescriptor yX4_kindOf.desc).map (fun d => d.parameters.length) = some 1 := kV_X4_kindOf.2
theorem kV_X4_homeOf : yX4_homeOf.cls = RX4 ∧ yX4_homeOf.cls ≠ "java/lang/invoke/MethodHandle" ∧ yX4_homeOf.cls ≠ "java/lang/invoke/VarHandle" ∧ (parseMethodDescriptor yX4_homeOf.desc).map (fun d => d.parameters.length) = some 1 := by decide +kernel
theorem kS_X4_homeOf : yX4_homeOf.cls ≠ "java/lang/invoke/MethodHandle" ∧ yX4_homeOf.cls ≠ "java/lang/invoke/VarHandle" ∧ (parseMethodDescriptor yX4_homeOf.desc).map (fun d => d.parameters.length) = some 1 := kV_X4_homeOf.2
theorem kV_X4_turn : yX4_turn.cls = RX4 ∧ yX4_turn.cls ≠ "java/lang/invoke/MethodHandle" ∧ yX4_turn.cls ≠ "java/lang/invoke/VarHandle" ∧ (parseMethodDescriptor yX4_turn.desc).map (fun d => d.parameters.length) = some 2 := by decide +kernel
theorem kS_X4_turn : yX4_turn.cls ≠ "java/lang/invoke/MethodHandle" ∧ yX4_turn.cls ≠ "java/lang/invoke/VarHandle" ∧ (parseMethodDescriptor yX4_turn.desc).map (fun d => d.parameters.length) = some 2 := kV_X4_turn.2
theorem kV_X5_hasBit : yX5_hasBit.cls = RX5 ∧ yX5_hasBit.cls ≠ "java/lang/invoke/MethodHandle" ∧ yX5_hasBit.cls ≠ "java/lang/invoke/VarHandle" ∧ (parseMethodDescriptor yX5_hasBit.desc).map (fun d => d.parameters.length) = some 2 := by decide +kernel
theorem kS_X5_hasBit : yX5_hasBit.cls ≠ "java/lang/invoke/MethodHandle" ∧ yX5_hasBit.cls ≠ "java/lang/invoke/VarHandle" ∧ (parseMethodDescriptor yX5_hasBit.desc).map (fun d => d.parameters.length) = some 2 := kV_X5_hasBit.2
theorem kV_X4_isHole : yX4_isHole.cls = RX4 ∧ yX4_isHole.cls ≠ "java/lang/invoke/MethodHandle" ∧ yX4_isHole.cls ≠ "java/lang/invoke/VarHandle" ∧ (parseMethodDescriptor yX4_isHole.desc).map (fun d => d.parameters.length) = some 1 := by decide +kernel
theorem kS_X4_isHole : yX4_isHole.cls ≠ "java/lang/invoke/MethodHandle" ∧ yX4_isHole.cls ≠ "java/lang/invoke/VarHandle" ∧ (parseMethodDescriptor yX4_isHole.desc).map (fun d => d.parameters.length) = some 1 := kV_X4_isHole.2
theorem kV_X4_pegIn : yX4_pegIn.cls = RX4 ∧ yX4_pegIn.cls ≠ "java/lang/invoke/MethodHandle" ∧ yX4_pegIn.cls ≠ "java/lang/invoke/VarHandle" ∧ (parseMethodDescriptor yX4_pegIn.desc).map (fun d => d.parameters.length) = some 1 := by decide +kernel
theorem kS_X4_pegIn : yX4_pegIn.cls ≠ "java/lang/invoke/MethodHandle" ∧ yX4_pegIn.cls ≠ "java/lang/invoke/VarHandle" ∧ (parseMethodDescriptor yX4_pegIn.desc).map (fun d => d.parameters.length) = some 1 := kV_X4_pegIn.2
theorem kV_X4_isEmptyHole : yX4_isEmptyHole.cls = RX4 ∧ yX4_isEmptyHole.cls ≠ "java/lang/invoke/MethodHandle" ∧ yX4_isEmptyHole.cls ≠ "java/lang/invoke/VarHandle" ∧ (parseMethodDescriptor yX4_isEmptyHole.desc).map (fun d => d.parameters.length) = some 1 := by decide +kernel
theorem kS_X4_isEmptyHole : yX4_isEmptyHole.cls ≠ "java/lang/invoke/MethodHandle" ∧ yX4_isEmptyHole.cls ≠ "java/lang/invoke/VarHandle" ∧ (parseMethodDescriptor yX4_isEmptyHole.desc).map (fun d => d.parameters.length) = some 1 := kV_X4_isEmptyHole.2
theorem kV_X4_lift : yX4_lift.cls = RX4 ∧ yX4_lift.cls ≠ "java/lang/invoke/MethodHandle" ∧ yX4_lift.cls ≠ "java/lang/invoke/VarHandle" ∧ (parseMethodDescriptor yX4_lift.desc).map (fun d => d.parameters.length) = some 1 := by decide +kernel
theorem kS_X4_lift : yX4_lift.cls ≠ "java/lang/invoke/MethodHandle" ∧ yX4_lift.cls ≠ "java/lang/invoke/VarHandle" ∧ (parseMethodDescriptor yX4_lift.desc).map (fun d => d.parameters.length) = some 1 := kV_X4_lift.2
theorem kV_X4_neighbourOf : yX4_neighbourOf.cls = RX4 ∧ yX4_neighbourOf.cls ≠ "java/lang/invoke/MethodHandle" ∧ yX4_neighbourOf.cls ≠ "java/lang/invoke/VarHandle" ∧ (parseMethodDescriptor yX4_neighbourOf.desc).map (fun d => d.parameters.length) = some 2 := by decide +kernel
theorem kS_X4_neighbourOf : yX4_neighbourOf.cls ≠ "java/lang/invoke/MethodHandle" ∧ yX4_neighbourOf.cls ≠ "java/lang/invoke/VarHandle" ∧ (parseMethodDescriptor yX4_neighbourOf.desc).map (fun d => d.parameters.length) = some 2 := kV_X4_neighbourOf.2
theorem kV_X5_kindGoes : yX5_kindGoes.cls = RX5 ∧ yX5_kindGoes.cls ≠ "java/lang/invoke/MethodHandle" ∧ yX5_kindGoes.cls ≠ "java/lang/invoke/VarHandle" ∧ (parseMethodDescriptor yX5_kindGoes.desc).map (fun d => d.parameters.length) = some 2 := by decide +kernel
theorem kS_X5_kindGoes : yX5_kindGoes.cls ≠ "java/lang/invoke/MethodHandle" ∧ yX5_kindGoes.cls ≠ "java/lang/invoke/VarHandle" ∧ (parseMethodDescriptor yX5_kindGoes.desc).map (fun d => d.parameters.length) = some 2 := kV_X5_kindGoes.2
theorem kV_X5_kindCould : yX5_kindCould.cls = RX5 ∧ yX5_kindCould.cls ≠ "java/lang/invoke/MethodHandle" ∧ yX5_kindCould.cls ≠ "java/lang/invoke/VarHandle" ∧ (parseMethodDescriptor yX5_kindCould.desc).map (fun d => d.parameters.length) = some 2 := by decide +kernel
theorem kS_X5_kindCould : yX5_kindCould.cls ≠ "java/lang/invoke/MethodHandle" ∧ yX5_kindCould.cls ≠ "java/lang/invoke/VarHandle" ∧ (parseMethodDescriptor yX5_kindCould.desc).map (fun d => d.parameters.length) = some 2 := kV_X5_kindCould.2
theorem kV_X4_targetOf : yX4_targetOf.cls = RX4 ∧ yX4_targetOf.cls ≠ "java/lang/invoke/MethodHandle" ∧ yX4_targetOf.cls ≠ "java/lang/invoke/VarHandle" ∧ (parseMethodDescriptor yX4_targetOf.desc).map (fun d => d.parameters.length) = some 2 := by decide +kernel
theorem kS_X4_targetOf : yX4_targetOf.cls ≠ "java/lang/invoke/MethodHandle" ∧ yX4_targetOf.cls ≠ "java/lang/invoke/VarHandle" ∧ (parseMethodDescriptor yX4_targetOf.desc).map (fun d => d.parameters.length) = some 2 := kV_X4_targetOf.2
theorem kV_X4_targetsOf : yX4_targetsOf.cls = RX4 ∧ yX4_targetsOf.cls ≠ "java/lang/invoke/MethodHandle" ∧ yX4_targetsOf.cls ≠ "java/lang/invoke/VarHandle" ∧ (parseMethodDescriptor yX4_targetsOf.desc).map (fun d => d.parameters.length) = some 1 := by decide +kernel
theorem kS_X4_targetsOf : yX4_targetsOf.cls ≠ "java/lang/invoke/MethodHandle" ∧ yX4_targetsOf.cls ≠ "java/lang/invoke/VarHandle" ∧ (parseMethodDescriptor yX4_targetsOf.desc).map (fun d => d.parameters.length) = some 1 := kV_X4_targetsOf.2
theorem kV_X4_directionTo : yX4_directionTo.cls = RX4 ∧ yX4_directionTo.cls ≠ "java/lang/invoke/MethodHandle" ∧ yX4_directionTo.cls ≠ "java/lang/invoke/VarHandle" ∧ (parseMethodDescriptor yX4_directionTo.desc).map (fun d => d.parameters.length) = some 2 := by decide +kernel
theorem kS_X4_directionTo : yX4_directionTo.cls ≠ "java/lang/invoke/MethodHandle" ∧ yX4_directionTo.cls ≠ "java/lang/invoke/VarHandle" ∧ (parseMethodDescriptor yX4_directionTo.desc).map (fun d => d.parameters.length) = some 2 := kV_X4_directionTo.2
theorem kV_J6_bitCount_0f7a4 : yJ6_bitCount_0f7a4.cls = RJ6 ∧ yJ6_bitCount_0f7a4.cls ≠ "java/lang/invoke/MethodHandle" ∧ yJ6_bitCount_0f7a4.cls ≠ "java/lang/invoke/VarHandle" ∧ (parseMethodDescriptor yJ6_bitCount_0f7a4.desc).map (fun d => d.parameters.length) = some 1 := by decide +kernel
theorem kS_J6_bitCount_0f7a4 : yJ6_bitCount_0f7a4.cls ≠ "java/lang/invoke/MethodHandle" ∧ yJ6_bitCount_0f7a4.cls ≠ "java/lang/invoke/VarHandle" ∧ (parseMethodDescriptor yJ6_bitCount_0f7a4.desc).map (fun d => d.parameters.length) = some 1 := kV_J6_bitCount_0f7a4.2
theorem kV_X4_choices : yX4_choices.cls = RX4 ∧ yX4_choices.cls ≠ "java/lang/invoke/MethodHandle" ∧ yX4_choices.cls ≠ "java/lang/invoke/VarHandle" ∧ (parseMethodDescriptor yX4_choices.desc).map (fun d => d.parameters.length) = some 0 := by decide +kernel
theorem kS_X4_choices : yX4_choices.cls ≠ "java/lang/invoke/MethodHandle" ∧ yX4_choices.cls ≠ "java/lang/invoke/VarHandle" ∧ (parseMethodDescriptor yX4_choices.desc).map (fun d => d.parameters.length) = some 0 := kV_X4_choices.2
theorem kV_X4_leap : yX4_leap.cls = RX4 ∧ yX4_leap.cls ≠ "java/lang/invoke/MethodHandle" ∧ yX4_leap.cls ≠ "java/lang/invoke/VarHandle" ∧ (parseMethodDescriptor yX4_leap.desc).map (fun d => d.parameters.length) = some 3 := by decide +kernel
theorem kS_X4_leap : yX4_leap.cls ≠ "java/lang/invoke/MethodHandle" ∧ yX4_leap.cls ≠ "java/lang/invoke/VarHandle" ∧ (parseMethodDescriptor yX4_leap.desc).map (fun d => d.parameters.length) = some 3 := kV_X4_leap.2
theorem kV_X4_leapByChoice : yX4_leapByChoice.cls = RX4 ∧ yX4_leapByChoice.cls ≠ "java/lang/invoke/MethodHandle" ∧ yX4_leapByChoice.cls ≠ "java/lang/invoke/VarHandle" ∧ (parseMethodDescriptor yX4_leapByChoice.desc).map (fun d => d.parameters.length) = some 1 := by decide +kernel
theorem kS_X4_leapByChoice : yX4_leapByChoice.cls ≠ "java/lang/invoke/MethodHandle" ∧ yX4_leapByChoice.cls ≠ "java/lang/invoke/VarHandle" ∧ (parseMethodDescriptor yX4_leapByChoice.desc).map (fun d => d.parameters.length) = some 1 := kV_X4_leapByChoice.2
theorem kV_X4_takeBack : yX4_takeBack.cls = RX4 ∧ yX4_takeBack.cls ≠ "java/lang/invoke/MethodHandle" ∧ yX4_takeBack.cls ≠ "java/lang/invoke/VarHandle" ∧ (parseMethodDescriptor yX4_takeBack.desc).map (fun d => d.parameters.length) = some 4 := by decide +kernel
theorem kS_X4_takeBack : yX4_takeBack.cls ≠ "java/lang/invoke/MethodHandle" ∧ yX4_takeBack.cls ≠ "java/lang/invoke/VarHandle" ∧ (parseMethodDescriptor yX4_takeBack.desc).map (fun d => d.parameters.length) = some 4 := kV_X4_takeBack.2
theorem kV_X4_aloneBit : yX4_aloneBit.cls = RX4 ∧ yX4_aloneBit.cls ≠ "java/lang/invoke/MethodHandle" ∧ yX4_aloneBit.cls ≠ "java/lang/invoke/VarHandle" ∧ (parseMethodDescriptor yX4_aloneBit.desc).map (fun d => d.parameters.length) = some 0 := by decide +kernel
theorem kS_X4_aloneBit : yX4_aloneBit.cls ≠ "java/lang/invoke/MethodHandle" ∧ yX4_aloneBit.cls ≠ "java/lang/invoke/VarHandle" ∧ (parseMethodDescriptor yX4_aloneBit.desc).map (fun d => d.parameters.length) = some 0 := kV_X4_aloneBit.2
theorem kV_X5_letter : yX5_letter.cls = RX5 ∧ yX5_letter.cls ≠ "java/lang/invoke/MethodHandle" ∧ yX5_letter.cls ≠ "java/lang/invoke/VarHandle" ∧ (parseMethodDescriptor yX5_letter.desc).map (fun d => d.parameters.length) = some 1 := by decide +kernel
theorem kS_X5_letter : yX5_letter.cls ≠ "java/lang/invoke/MethodHandle" ∧ yX5_letter.cls ≠ "java/lang/invoke/VarHandle" ∧ (parseMethodDescriptor yX5_letter.desc).map (fun d => d.parameters.length) = some 1 := kV_X5_letter.2
theorem kV_X5_blank : yX5_blank.cls = RX5 ∧ yX5_blank.cls ≠ "java/lang/invoke/MethodHandle" ∧ yX5_blank.cls ≠ "java/lang/invoke/VarHandle" ∧ (parseMethodDescriptor yX5_blank.desc).map (fun d => d.parameters.length) = some 0 := by decide +kernel
theorem kS_X5_blank : yX5_blank.cls ≠ "java/lang/invoke/MethodHandle" ∧ yX5_blank.cls ≠ "java/lang/invoke/VarHandle" ∧ (parseMethodDescriptor yX5_blank.desc).map (fun d => d.parameters.length) = some 0 := kV_X5_blank.2
theorem kV_X5_fault : yX5_fault.cls = RX5 ∧ yX5_fault.cls ≠ "java/lang/invoke/MethodHandle" ∧ yX5_fault.cls ≠ "java/lang/invoke/VarHandle" ∧ (parseMethodDescriptor yX5_fault.desc).map (fun d => d.parameters.length) = some 0 := by decide +kernel
theorem kS_X5_fault : yX5_fault.cls ≠ "java/lang/invoke/MethodHandle" ∧ yX5_fault.cls ≠ "java/lang/invoke/VarHandle" ∧ (parseMethodDescriptor yX5_fault.desc).map (fun d => d.parameters.length) = some 0 := kV_X5_fault.2
theorem kV_X5_board : yX5_board.cls = RX5 ∧ yX5_board.cls ≠ "java/lang/invoke/MethodHandle" ∧ yX5_board.cls ≠ "java/lang/invoke/VarHandle" ∧ (parseMethodDescriptor yX5_board.desc).map (fun d => d.parameters.length) = some 0 := by decide +kernel
theorem kS_X5_board : yX5_board.cls ≠ "java/lang/invoke/MethodHandle" ∧ yX5_board.cls ≠ "java/lang/invoke/VarHandle" ∧ (parseMethodDescriptor yX5_board.desc).map (fun d => d.parameters.length) = some 0 := kV_X5_board.2
theorem kV_X5_bestQuestion : yX5_bestQuestion.cls = RX5 ∧ yX5_bestQuestion.cls ≠ "java/lang/invoke/MethodHandle" ∧ yX5_bestQuestion.cls ≠ "java/lang/invoke/VarHandle" ∧ (parseMethodDescriptor yX5_bestQuestion.desc).map (fun d => d.parameters.length) = some 1 := by decide +kernel
theorem kS_X5_bestQuestion : yX5_bestQuestion.cls ≠ "java/lang/invoke/MethodHandle" ∧ yX5_bestQuestion.cls ≠ "java/lang/invoke/VarHandle" ∧ (parseMethodDescriptor yX5_bestQuestion.desc).map (fun d => d.parameters.length) = some 1 := kV_X5_bestQuestion.2
theorem kV_X5_peg : yX5_peg.cls = RX5 ∧ yX5_peg.cls ≠ "java/lang/invoke/MethodHandle" ∧ yX5_peg.cls ≠ "java/lang/invoke/VarHandle" ∧ (parseMethodDescriptor yX5_peg.desc).map (fun d => d.parameters.length) = some 2 := by decide +kernel
theorem kS_X5_peg : yX5_peg.cls ≠ "java/lang/invoke/MethodHandle" ∧ yX5_peg.cls ≠ "java/lang/invoke/VarHandle" ∧ (parseMethodDescriptor yX5_peg.desc).map (fun d => d.parameters.length) = some 2 := kV_X5_peg.2
theorem kV_X5_as : yX5_as.cls = RX5 ∧ yX5_as.cls ≠ "java/lang/invoke/MethodHandle" ∧ yX5_as.cls ≠ "java/lang/invoke/VarHandle" ∧ (parseMethodDescriptor yX5_as.desc).map (fun d => d.parameters.length) = some 2 := by decide +kernel
theorem kS_X5_as : yX5_as.cls ≠ "java/lang/invoke/MethodHandle" ∧ yX5_as.cls ≠ "java/lang/invoke/VarHandle" ∧ (parseMethodDescriptor yX5_as.desc).map (fun d => d.parameters.length) = some 2 := kV_X5_as.2
theorem kV_X5_place : yX5_place.cls = RX5 ∧ yX5_place.cls ≠ "java/lang/invoke/MethodHandle" ∧ yX5_place.cls ≠ "java/lang/invoke/VarHandle" ∧ (parseMethodDescriptor yX5_place.desc).map (fun d => d.parameters.length) = some 2 := by decide +kernel
theorem kS_X5_place : yX5_place.cls ≠ "java/lang/invoke/MethodHandle" ∧ yX5_place.cls ≠ "java/lang/invoke/VarHandle" ∧ (parseMethodDescriptor yX5_place.desc).map (fun d => d.parameters.length) = some 2 := kV_X5_place.2
theorem kV_X5_jump : yX5_jump.cls = RX5 ∧ yX5_jump.cls ≠ "java/lang/invoke/MethodHandle" ∧ yX5_jump.cls ≠ "java/lang/invoke/VarHandle" ∧ (parseMethodDescriptor yX5_jump.desc).map (fun d => d.parameters.length) = some 2 := by decide +kernel
theorem kS_X5_jump : yX5_jump.cls ≠ "java/lang/invoke/MethodHandle" ∧ yX5_jump.cls ≠ "java/lang/invoke/VarHandle" ∧ (parseMethodDescriptor yX5_jump.desc).map (fun d => d.parameters.length) = some 2 := kV_X5_jump.2
theorem kV_X5_put : yX5_put.cls = RX5 ∧ yX5_put.cls ≠ "java/lang/invoke/MethodHandle" ∧ yX5_put.cls ≠ "java/lang/invoke/VarHandle" ∧ (parseMethodDescriptor yX5_put.desc).map (fun d => d.parameters.length) = some 2 := by decide +kernel
theorem kS_X5_put : yX5_put.cls ≠ "java/lang/invoke/MethodHandle" ∧ yX5_put.cls ≠ "java/lang/invoke/VarHandle" ∧ (parseMethodDescriptor yX5_put.desc).map (fun d => d.parameters.length) = some 2 := kV_X5_put.2
theorem kV_X5_plug : yX5_plug.cls = RX5 ∧ yX5_plug.cls ≠ "java/lang/invoke/MethodHandle" ∧ yX5_plug.cls ≠ "java/lang/invoke/VarHandle" ∧ (parseMethodDescriptor yX5_plug.desc).map (fun d => d.parameters.length) = some 1 := by decide +kernel
theorem kS_X5_plug : yX5_plug.cls ≠ "java/lang/invoke/MethodHandle" ∧ yX5_plug.cls ≠ "java/lang/invoke/VarHandle" ∧ (parseMethodDescriptor yX5_plug.desc).map (fun d => d.parameters.length) = some 1 := kV_X5_plug.2
theorem kV_X5_bore : yX5_bore.cls = RX5 ∧ yX5_bore.cls ≠ "java/lang/invoke/MethodHandle" ∧ yX5_bore.cls ≠ "java/lang/invoke/VarHandle" ∧ (parseMethodDescriptor yX5_bore.desc).map (fun d => d.parameters.length) = some 1 := by decide +kernel
theorem kS_X5_bore : yX5_bore.cls ≠ "java/lang/invoke/MethodHandle" ∧ yX5_bore.cls ≠ "java/lang/invoke/VarHandle" ∧ (parseMethodDescriptor yX5_bore.desc).map (fun d => d.parameters.length) = some 1 := kV_X5_bore.2
theorem kV_X5_be : yX5_be.cls = RX5 ∧ yX5_be.cls ≠ "java/lang/invoke/MethodHandle" ∧ yX5_be.cls ≠ "java/lang/invoke/VarHandle" ∧ (parseMethodDescriptor yX5_be.desc).map (fun d => d.parameters.length) = some 2 := by decide +kernel
theorem kS_X5_be : yX5_be.cls ≠ "java/lang/invoke/MethodHandle" ∧ yX5_be.cls ≠ "java/lang/invoke/VarHandle" ∧ (parseMethodDescriptor yX5_be.desc).map (fun d => d.parameters.length) = some 2 := kV_X5_be.2
theorem kV_X5_look : yX5_look.cls = RX5 ∧ yX5_look.cls ≠ "java/lang/invoke/MethodHandle" ∧ yX5_look.cls ≠ "java/lang/invoke/VarHandle" ∧ (parseMethodDescriptor yX5_look.desc).map (fun d => d.parameters.length) = some 3 := by decide +kernel
theorem kS_X5_look : yX5_look.cls ≠ "java/lang/invoke/MethodHandle" ∧ yX5_look.cls ≠ "java/lang/invoke/VarHandle" ∧ (parseMethodDescriptor yX5_look.desc).map (fun d => d.parameters.length) = some 3 := kV_X5_look.2
theorem kV_X5_lookAhead : yX5_lookAhead.cls = RX5 ∧ yX5_lookAhead.cls ≠ "java/lang/invoke/MethodHandle" ∧ yX5_lookAhead.cls ≠ "java/lang/invoke/VarHandle" ∧ (parseMethodDescriptor yX5_lookAhead.desc).map (fun d => d.parameters.length) = some 0 := by decide +kernel
theorem kS_X5_lookAhead : yX5_lookAhead.cls ≠ "java/lang/invoke/MethodHandle" ∧ yX5_lookAhead.cls ≠ "java/lang/invoke/VarHandle" ∧ (parseMethodDescriptor yX5_lookAhead.desc).map (fun d => d.parameters.length) = some 0 := kV_X5_lookAhead.2
theorem kV_X5_courses : yX5_courses.cls = RX5 ∧ yX5_courses.cls ≠ "java/lang/invoke/MethodHandle" ∧ yX5_courses.cls ≠ "java/lang/invoke/VarHandle" ∧ (parseMethodDescriptor yX5_courses.desc).map (fun d => d.parameters.length) = some 1 := by decide +kernel
theorem kS_X5_courses : yX5_courses.cls ≠ "java/lang/invoke/MethodHandle" ∧ yX5_courses.cls ≠ "java/lang/invoke/VarHandle" ∧ (parseMethodDescriptor yX5_courses.desc).map (fun d => d.parameters.length) = some 1 := kV_X5_courses.2
theorem kV_X5_wins : yX5_wins.cls = RX5 ∧ yX5_wins.cls ≠ "java/lang/invoke/MethodHandle" ∧ yX5_wins.cls ≠ "java/lang/invoke/VarHandle" ∧ (parseMethodDescriptor yX5_wins.desc).map (fun d => d.parameters.length) = some 1 := by decide +kernel
theorem kS_X5_wins : yX5_wins.cls ≠ "java/lang/invoke/MethodHandle" ∧ yX5_wins.cls ≠ "java/lang/invoke/VarHandle" ∧ (parseMethodDescriptor yX5_wins.desc).map (fun d => d.parameters.length) = some 1 := kV_X5_wins.2
theorem kV_X5_fewestWithOneMore : yX5_fewestWithOneMore.cls = RX5 ∧ yX5_fewestWithOneMore.cls ≠ "java/lang/invoke/MethodHandle" ∧ yX5_fewestWithOneMore.cls ≠ "java/lang/invoke/VarHandle" ∧ (parseMethodDescriptor yX5_fewestWithOneMore.desc).map (fun d => d.parameters.length) = some 1 := by decide +kernel
theorem kS_X5_fewestWithOneMore : yX5_fewestWithOneMore.cls ≠ "java/lang/invoke/MethodHandle" ∧ yX5_fewestWithOneMore.cls ≠ "java/lang/invoke/VarHandle" ∧ (parseMethodDescriptor yX5_fewestWithOneMore.desc).map (fun d => d.parameters.length) = some 1 := kV_X5_fewestWithOneMore.2
theorem kV_X5_add : yX5_add.cls = RX5 ∧ yX5_add.cls ≠ "java/lang/invoke/MethodHandle" ∧ yX5_add.cls ≠ "java/lang/invoke/VarHandle" ∧ (parseMethodDescriptor yX5_add.desc).map (fun d => d.parameters.length) = some 0 := by decide +kernel
theorem kS_X5_add : yX5_add.cls ≠ "java/lang/invoke/MethodHandle" ∧ yX5_add.cls ≠ "java/lang/invoke/VarHandle" ∧ (parseMethodDescriptor yX5_add.desc).map (fun d => d.parameters.length) = some 0 := kV_X5_add.2
theorem kV_X5_mean : yX5_mean.cls = RX5 ∧ yX5_mean.cls ≠ "java/lang/invoke/MethodHandle" ∧ yX5_mean.cls ≠ "java/lang/invoke/VarHandle" ∧ (parseMethodDescriptor yX5_mean.desc).map (fun d => d.parameters.length) = some 0 := by decide +kernel
theorem kS_X5_mean : yX5_mean.cls ≠ "java/lang/invoke/MethodHandle" ∧ yX5_mean.cls ≠ "java/lang/invoke/VarHandle" ∧ (parseMethodDescriptor yX5_mean.desc).map (fun d => d.parameters.length) = some 0 := kV_X5_mean.2
theorem kV_X5_see : yX5_see.cls = RX5 ∧ yX5_see.cls ≠ "java/lang/invoke/MethodHandle" ∧ yX5_see.cls ≠ "java/lang/invoke/VarHandle" ∧ (parseMethodDescriptor yX5_see.desc).map (fun d => d.parameters.length) = some 3 := by decide +kernel
theorem kS_X5_see : yX5_see.cls ≠ "java/lang/invoke/MethodHandle" ∧ yX5_see.cls ≠ "java/lang/invoke/VarHandle" ∧ (parseMethodDescriptor yX5_see.desc).map (fun d => d.parameters.length) = some 3 := kV_X5_see.2
theorem kV_X5_forget : yX5_forget.cls = RX5 ∧ yX5_forget.cls ≠ "java/lang/invoke/MethodHandle" ∧ yX5_forget.cls ≠ "java/lang/invoke/VarHandle" ∧ (parseMethodDescriptor yX5_forget.desc).map (fun d => d.parameters.length) = some 0 := by decide +kernel
theorem kS_X5_forget : yX5_forget.cls ≠ "java/lang/invoke/MethodHandle" ∧ yX5_forget.cls ≠ "java/lang/invoke/VarHandle" ∧ (parseMethodDescriptor yX5_forget.desc).map (fun d => d.parameters.length) = some 0 := kV_X5_forget.2
theorem kV_X5_nextSeed : yX5_nextSeed.cls = RX5 ∧ yX5_nextSeed.cls ≠ "java/lang/invoke/MethodHandle" ∧ yX5_nextSeed.cls ≠ "java/lang/invoke/VarHandle" ∧ (parseMethodDescriptor yX5_nextSeed.desc).map (fun d => d.parameters.length) = some 1 := by decide +kernel
theorem kS_X5_nextSeed : yX5_nextSeed.cls ≠ "java/lang/invoke/MethodHandle" ∧ yX5_nextSeed.cls ≠ "java/lang/invoke/VarHandle" ∧ (parseMethodDescriptor yX5_nextSeed.desc).map (fun d => d.parameters.length) = some 1 := kV_X5_nextSeed.2
theorem kV_X5_runs : yX5_runs.cls = RX5 ∧ yX5_runs.cls ≠ "java/lang/invoke/MethodHandle" ∧ yX5_runs.cls ≠ "java/lang/invoke/VarHandle" ∧ (parseMethodDescriptor yX5_runs.desc).map (fun d => d.parameters.length) = some 3 := by decide +kernel
theorem kS_X5_runs : yX5_runs.cls ≠ "java/lang/invoke/MethodHandle" ∧ yX5_runs.cls ≠ "java/lang/invoke/VarHandle" ∧ (parseMethodDescriptor yX5_runs.desc).map (fun d => d.parameters.length) = some 3 := kV_X5_runs.2
theorem kV_X5_image : yX5_image.cls = RX5 ∧ yX5_image.cls ≠ "java/lang/invoke/MethodHandle" ∧ yX5_image.cls ≠ "java/lang/invoke/VarHandle" ∧ (parseMethodDescriptor yX5_image.desc).map (fun d => d.parameters.length) = some 0 := by decide +kernel
theorem kS_X5_image : yX5_image.cls ≠ "java/lang/invoke/MethodHandle" ∧ yX5_image.cls ≠ "java/lang/invoke/VarHandle" ∧ (parseMethodDescriptor yX5_image.desc).map (fun d => d.parameters.length) = some 0 := kV_X5_image.2
theorem kV_X5_restore : yX5_restore.cls = RX5 ∧ yX5_restore.cls ≠ "java/lang/invoke/MethodHandle" ∧ yX5_restore.cls ≠ "java/lang/invoke/VarHandle" ∧ (parseMethodDescriptor yX5_restore.desc).map (fun d => d.parameters.length) = some 0 := by decide +kernel
theorem kS_X5_restore : yX5_restore.cls ≠ "java/lang/invoke/MethodHandle" ∧ yX5_restore.cls ≠ "java/lang/invoke/VarHandle" ∧ (parseMethodDescriptor yX5_restore.desc).map (fun d => d.parameters.length) = some 0 := kV_X5_restore.2
theorem kV_X5_count : yX5_count.cls = RX5 ∧ yX5_count.cls ≠ "java/lang/invoke/MethodHandle" ∧ yX5_count.cls ≠ "java/lang/invoke/VarHandle" ∧ (parseMethodDescriptor yX5_count.desc).map (fun d => d.parameters.length) = some 1 := by decide +kernel
theorem kS_X5_count : yX5_count.cls ≠ "java/lang/invoke/MethodHandle" ∧ yX5_count.cls ≠ "java/lang/invoke/VarHandle" ∧ (parseMethodDescriptor yX5_count.desc).map (fun d => d.parameters.length) = some 1 := kV_X5_count.2
theorem kV_X5_digest : yX5_digest.cls = RX5 ∧ yX5_digest.cls ≠ "java/lang/invoke/MethodHandle" ∧ yX5_digest.cls ≠ "java/lang/invoke/VarHandle" ∧ (parseMethodDescriptor yX5_digest.desc).map (fun d => d.parameters.length) = some 0 := by decide +kernel
theorem kS_X5_digest : yX5_digest.cls ≠ "java/lang/invoke/MethodHandle" ∧ yX5_digest.cls ≠ "java/lang/invoke/VarHandle" ∧ (parseMethodDescriptor yX5_digest.desc).map (fun d => d.parameters.length) = some 0 := kV_X5_digest.2
theorem kV_X6_within : yX6_within.cls = RX6 ∧ yX6_within.cls ≠ "java/lang/invoke/MethodHandle" ∧ yX6_within.cls ≠ "java/lang/invoke/VarHandle" ∧ (parseMethodDescriptor yX6_within.desc).map (fun d => d.parameters.length) = some 3 := by decide +kernel
theorem kS_X6_within : yX6_within.cls ≠ "java/lang/invoke/MethodHandle" ∧ yX6_within.cls ≠ "java/lang/invoke/VarHandle" ∧ (parseMethodDescriptor yX6_within.desc).map (fun d => d.parameters.length) = some 3 := kV_X6_within.2
theorem kV_X6_isIn : yX6_isIn.cls = RX6 ∧ yX6_isIn.cls ≠ "java/lang/invoke/MethodHandle" ∧ yX6_isIn.cls ≠ "java/lang/invoke/VarHandle" ∧ (parseMethodDescriptor yX6_isIn.desc).map (fun d => d.parameters.length) = some 2 := by decide +kernel
theorem kS_X6_isIn : yX6_isIn.cls ≠ "java/lang/invoke/MethodHandle" ∧ yX6_isIn.cls ≠ "java/lang/invoke/VarHandle" ∧ (parseMethodDescriptor yX6_isIn.desc).map (fun d => d.parameters.length) = some 2 := kV_X6_isIn.2
theorem kV_X6_size : yX6_size.cls = RX6 ∧ yX6_size.cls ≠ "java/lang/invoke/MethodHandle" ∧ yX6_size.cls ≠ "java/lang/invoke/VarHandle" ∧ (parseMethodDescriptor yX6_size.desc).map (fun d => d.parameters.length) = some 1 := by decide +kernel
theorem kS_X6_size : yX6_size.cls ≠ "java/lang/invoke/MethodHandle" ∧ yX6_size.cls ≠ "java/lang/invoke/VarHandle" ∧ (parseMethodDescriptor yX6_size.desc).map (fun d => d.parameters.length) = some 1 := kV_X6_size.2
theorem kV_X6_letter : yX6_letter.cls = RX6 ∧ yX6_letter.cls ≠ "java/lang/invoke/MethodHandle" ∧ yX6_letter.cls ≠ "java/lang/invoke/VarHandle" ∧ (parseMethodDescriptor yX6_letter.desc).map (fun d => d.parameters.length) = some 1 := by decide +kernel
theorem kS_X6_letter : yX6_letter.cls ≠ "java/lang/invoke/MethodHandle" ∧ yX6_letter.cls ≠ "java/lang/invoke/VarHandle" ∧ (parseMethodDescriptor yX6_letter.desc).map (fun d => d.parameters.length) = some 1 := kV_X6_letter.2
theorem kV_X6_blank : yX6_blank.cls = RX6 ∧ yX6_blank.cls ≠ "java/lang/invoke/MethodHandle" ∧ yX6_blank.cls ≠ "java/lang/invoke/VarHandle" ∧ (parseMethodDescriptor yX6_blank.desc).map (fun d => d.parameters.length) = some 0 := by decide +kernel
theorem kS_X6_blank : yX6_blank.cls ≠ "java/lang/invoke/MethodHandle" ∧ yX6_blank.cls ≠ "java/lang/invoke/VarHandle" ∧ (parseMethodDescriptor yX6_blank.desc).map (fun d => d.parameters.length) = some 0 := kV_X6_blank.2
theorem kV_X6_kindBy : yX6_kindBy.cls = RX6 ∧ yX6_kindBy.cls ≠ "java/lang/invoke/MethodHandle" ∧ yX6_kindBy.cls ≠ "java/lang/invoke/VarHandle" ∧ (parseMethodDescriptor yX6_kindBy.desc).map (fun d => d.parameters.length) = some 1 := by decide +kernel
theorem kS_X6_kindBy : yX6_kindBy.cls ≠ "java/lang/invoke/MethodHandle" ∧ yX6_kindBy.cls ≠ "java/lang/invoke/VarHandle" ∧ (parseMethodDescriptor yX6_kindBy.desc).map (fun d => d.parameters.length) = some 1 := kV_X6_kindBy.2
theorem kV_X6_at : yX6_at.cls = RX6 ∧ yX6_at.cls ≠ "java/lang/invoke/MethodHandle" ∧ yX6_at.cls ≠ "java/lang/invoke/VarHandle" ∧ (parseMethodDescriptor yX6_at.desc).map (fun d => d.parameters.length) = some 1 := by decide +kernel
theorem kS_X6_at : yX6_at.cls ≠ "java/lang/invoke/MethodHandle" ∧ yX6_at.cls ≠ "java/lang/invoke/VarHandle" ∧ (parseMethodDescriptor yX6_at.desc).map (fun d => d.parameters.length) = some 1 := kV_X6_at.2
theorem kV_X6_readPlaces : yX6_readPlaces.cls = RX6 ∧ yX6_readPlaces.cls ≠ "java/lang/invoke/MethodHandle" ∧ yX6_readPlaces.cls ≠ "java/lang/invoke/VarHandle" ∧ (parseMethodDescriptor yX6_readPlaces.desc).map (fun d => d.parameters.length) = some 1 := by decide +kernel
theorem kS_X6_readPlaces : yX6_readPlaces.cls ≠ "java/lang/invoke/MethodHandle" ∧ yX6_readPlaces.cls ≠ "java/lang/invoke/VarHandle" ∧ (parseMethodDescriptor yX6_readPlaces.desc).map (fun d => d.parameters.length) = some 1 := kV_X6_readPlaces.2
theorem kV_X6_read : yX6_read.cls = RX6 ∧ yX6_read.cls ≠ "java/lang/invoke/MethodHandle" ∧ yX6_read.cls ≠ "java/lang/invoke/VarHandle" ∧ (parseMethodDescriptor yX6_read.desc).map (fun d => d.parameters.length) = some 0 := by decide +kernel
theorem kS_X6_read : yX6_read.cls ≠ "java/lang/invoke/MethodHandle" ∧ yX6_read.cls ≠ "java/lang/invoke/VarHandle" ∧ (parseMethodDescriptor yX6_read.desc).map (fun d => d.parameters.length) = some 0 := kV_X6_read.2
theorem kV_X6_fault : yX6_fault.cls = RX6 ∧ yX6_fault.cls ≠ "java/lang/invoke/MethodHandle" ∧ yX6_fault.cls ≠ "java/lang/invoke/VarHandle" ∧ (parseMethodDescriptor yX6_fault.desc).map (fun d => d.parameters.length) = some 0 := by decide +kernel
theorem kS_X6_fault : yX6_fault.cls ≠ "java/lang/invoke/MethodHandle" ∧ yX6_fault.cls ≠ "java/lang/invoke/VarHandle" ∧ (parseMethodDescriptor yX6_fault.desc).map (fun d => d.parameters.length) = some 0 := kV_X6_fault.2
theorem kV_X6_places : yX6_places.cls = RX6 ∧ yX6_places.cls ≠ "java/lang/invoke/MethodHandle" ∧ yX6_places.cls ≠ "java/lang/invoke/VarHandle" ∧ (parseMethodDescriptor yX6_places.desc).map (fun d => d.parameters.length) = some 0 := by decide +kernel
theorem kS_X6_places : yX6_places.cls ≠ "java/lang/invoke/MethodHandle" ∧ yX6_places.cls ≠ "java/lang/invoke/VarHandle" ∧ (parseMethodDescriptor yX6_places.desc).map (fun d => d.parameters.length) = some 0 := kV_X6_places.2
theorem kV_X6_board : yX6_board.cls = RX6 ∧ yX6_board.cls ≠ "java/lang/invoke/MethodHandle" ∧ yX6_board.cls ≠ "java/lang/invoke/VarHandle" ∧ (parseMethodDescriptor yX6_board.desc).map (fun d => d.parameters.length) = some 0 := by decide +kernel
theorem kS_X6_board : yX6_board.cls ≠ "java/lang/invoke/MethodHandle" ∧ yX6_board.cls ≠ "java/lang/invoke/VarHandle" ∧ (parseMethodDescriptor yX6_board.desc).map (fun d => d.parameters.length) = some 0 := kV_X6_board.2
theorem kV_X6_isPeg : yX6_isPeg.cls = RX6 ∧ yX6_isPeg.cls ≠ "java/lang/invoke/MethodHandle" ∧ yX6_isPeg.cls ≠ "java/lang/invoke/VarHandle" ∧ (parseMethodDescriptor yX6_isPeg.desc).map (fun d => d.parameters.length) = some 1 := by decide +kernel
theorem kS_X6_isPeg : yX6_isPeg.cls ≠ "java/lang/invoke/MethodHandle" ∧ yX6_isPeg.cls ≠ "java/lang/invoke/VarHandle" ∧ (parseMethodDescriptor yX6_isPeg.desc).map (fun d => d.parameters.length) = some 1 := kV_X6_isPeg.2
theorem kV_X6_isPlace : yX6_isPlace.cls = RX6 ∧ yX6_isPlace.cls ≠ "java/lang/invoke/MethodHandle" ∧ yX6_isPlace.cls ≠ "java/lang/invoke/VarHandle" ∧ (parseMethodDescriptor yX6_isPlace.desc).map (fun d => d.parameters.length) = some 1 := by decide +kernel
theorem kS_X6_isPlace : yX6_isPlace.cls ≠ "java/lang/invoke/MethodHandle" ∧ yX6_isPlace.cls ≠ "java/lang/invoke/VarHandle" ∧ (parseMethodDescriptor yX6_isPlace.desc).map (fun d => d.parameters.length) = some 1 := kV_X6_isPlace.2
theorem kV_X6_putDeep : yX6_putDeep.cls = RX6 ∧ yX6_putDeep.cls ≠ "java/lang/invoke/MethodHandle" ∧ yX6_putDeep.cls ≠ "java/lang/invoke/VarHandle" ∧ (parseMethodDescriptor yX6_putDeep.desc).map (fun d => d.parameters.length) = some 0 := by decide +kernel
theorem kS_X6_putDeep : yX6_putDeep.cls ≠ "java/lang/invoke/MethodHandle" ∧ yX6_putDeep.cls ≠ "java/lang/invoke/VarHandle" ∧ (parseMethodDescriptor yX6_putDeep.desc).map (fun d => d.parameters.length) = some 0 := kV_X6_putDeep.2
theorem kV_X6_whoAt : yX6_whoAt.cls = RX6 ∧ yX6_whoAt.cls ≠ "java/lang/invoke/MethodHandle" ∧ yX6_whoAt.cls ≠ "java/lang/invoke/VarHandle" ∧ (parseMethodDescriptor yX6_whoAt.desc).map (fun d => d.parameters.length) = some 2 := by decide +kernel
theorem kS_X6_whoAt : yX6_whoAt.cls ≠ "java/lang/invoke/MethodHandle" ∧ yX6_whoAt.cls ≠ "java/lang/invoke/VarHandle" ∧ (parseMethodDescriptor yX6_whoAt.desc).map (fun d => d.parameters.length) = some 2 := kV_X6_whoAt.2
theorem kV_X6_apart : yX6_apart.cls = RX6 ∧ yX6_apart.cls ≠ "java/lang/invoke/MethodHandle" ∧ yX6_apart.cls ≠ "java/lang/invoke/VarHandle" ∧ (parseMethodDescriptor yX6_apart.desc).map (fun d => d.parameters.length) = some 2 := by decide +kernel
theorem kS_X6_apart : yX6_apart.cls ≠ "java/lang/invoke/MethodHandle" ∧ yX6_apart.cls ≠ "java/lang/invoke/VarHandle" ∧ (parseMethodDescriptor yX6_apart.desc).map (fun d => d.parameters.length) = some 2 := kV_X6_apart.2
theorem kV_X6_goesBy : yX6_goesBy.cls = RX6 ∧ yX6_goesBy.cls ≠ "java/lang/invoke/MethodHandle" ∧ yX6_goesBy.cls ≠ "java/lang/invoke/VarHandle" ∧ (parseMethodDescriptor yX6_goesBy.desc).map (fun d => d.parameters.length) = some 3 := by decide +kernel
theorem kS_X6_goesBy : yX6_goesBy.cls ≠ "java/lang/invoke/MethodHandle" ∧ yX6_goesBy.cls ≠ "java/lang/invoke/VarHandle" ∧ (parseMethodDescriptor yX6_goesBy.desc).map (fun d => d.parameters.length) = some 3 := kV_X6_goesBy.2
theorem kV_X6_overBy : yX6_overBy.cls = RX6 ∧ yX6_overBy.cls ≠ "java/lang/invoke/MethodHandle" ∧ yX6_overBy.cls ≠ "java/lang/invoke/VarHandle" ∧ (parseMethodDescriptor yX6_overBy.desc).map (fun d => d.parameters.length) = some 3 := by decide +kernel
theorem kS_X6_overBy : yX6_overBy.cls ≠ "java/lang/invoke/MethodHandle" ∧ yX6_overBy.cls ≠ "java/lang/invoke/VarHandle" ∧ (parseMethodDescriptor yX6_overBy.desc).map (fun d => d.parameters.length) = some 3 := kV_X6_overBy.2
theorem kV_X6_isJump : yX6_isJump.cls = RX6 ∧ yX6_isJump.cls ≠ "java/lang/invoke/MethodHandle" ∧ yX6_isJump.cls ≠ "java/lang/invoke/VarHandle" ∧ (parseMethodDescriptor yX6_isJump.desc).map (fun d => d.parameters.length) = some 3 := by decide +kernel
theorem kS_X6_isJump : yX6_isJump.cls ≠ "java/lang/invoke/MethodHandle" ∧ yX6_isJump.cls ≠ "java/lang/invoke/VarHandle" ∧ (parseMethodDescriptor yX6_isJump.desc).map (fun d => d.parameters.length) = some 3 := kV_X6_isJump.2
theorem kV_X6_goDeep : yX6_goDeep.cls = RX6 ∧ yX6_goDeep.cls ≠ "java/lang/invoke/MethodHandle" ∧ yX6_goDeep.cls ≠ "java/lang/invoke/VarHandle" ∧ (parseMethodDescriptor yX6_goDeep.desc).map (fun d => d.parameters.length) = some 3 := by decide +kernel
theorem kS_X6_goDeep : yX6_goDeep.cls ≠ "java/lang/invoke/MethodHandle" ∧ yX6_goDeep.cls ≠ "java/lang/invoke/VarHandle" ∧ (parseMethodDescriptor yX6_goDeep.desc).map (fun d => d.parameters.length) = some 3 := kV_X6_goDeep.2
theorem kV_X6_onBoard : yX6_onBoard.cls = RX6 ∧ yX6_onBoard.cls ≠ "java/lang/invoke/MethodHandle" ∧ yX6_onBoard.cls ≠ "java/lang/invoke/VarHandle" ∧ (parseMethodDescriptor yX6_onBoard.desc).map (fun d => d.parameters.length) = some 1 := by decide +kernel
theorem kS_X6_onBoard : yX6_onBoard.cls ≠ "java/lang/invoke/MethodHandle" ∧ yX6_onBoard.cls ≠ "java/lang/invoke/VarHandle" ∧ (parseMethodDescriptor yX6_onBoard.desc).map (fun d => d.parameters.length) = some 1 := kV_X6_onBoard.2
theorem kV_X6_goes : yX6_goes.cls = RX6 ∧ yX6_goes.cls ≠ "java/lang/invoke/MethodHandle" ∧ yX6_goes.cls ≠ "java/lang/invoke/VarHandle" ∧ (parseMethodDescriptor yX6_goes.desc).map (fun d => d.parameters.length) = some 2 := by decide +kernel
theorem kS_X6_goes : yX6_goes.cls ≠ "java/lang/invoke/MethodHandle" ∧ yX6_goes.cls ≠ "java/lang/invoke/VarHandle" ∧ (parseMethodDescriptor yX6_goes.desc).map (fun d => d.parameters.length) = some 2 := kV_X6_goes.2
theorem kV_X6_jumpsNow : yX6_jumpsNow.cls = RX6 ∧ yX6_jumpsNow.cls ≠ "java/lang/invoke/MethodHandle" ∧ yX6_jumpsNow.cls ≠ "java/lang/invoke/VarHandle" ∧ (parseMethodDescriptor yX6_jumpsNow.desc).map (fun d => d.parameters.length) = some 1 := by decide +kernel
theorem kS_X6_jumpsNow : yX6_jumpsNow.cls ≠ "java/lang/invoke/MethodHandle" ∧ yX6_jumpsNow.cls ≠ "java/lang/invoke/VarHandle" ∧ (parseMethodDescriptor yX6_jumpsNow.desc).map (fun d => d.parameters.length) = some 1 := kV_X6_jumpsNow.2
theorem kV_X6_could : yX6_could.cls = RX6 ∧ yX6_could.cls ≠ "java/lang/invoke/MethodHandle" ∧ yX6_could.cls ≠ "java/lang/invoke/VarHandle" ∧ (parseMethodDescriptor yX6_could.desc).map (fun d => d.parameters.length) = some 2 := by decide +kernel
theorem kS_X6_could : yX6_could.cls ≠ "java/lang/invoke/MethodHandle" ∧ yX6_could.cls ≠ "java/lang/invoke/VarHandle" ∧ (parseMethodDescriptor yX6_could.desc).map (fun d => d.parameters.length) = some 2 := kV_X6_could.2
theorem kV_X6_sortsOf : yX6_sortsOf.cls = RX6 ∧ yX6_sortsOf.cls ≠ "java/lang/invoke/MethodHandle" ∧ yX6_sortsOf.cls ≠ "java/lang/invoke/VarHandle" ∧ (parseMethodDescriptor yX6_sortsOf.desc).map (fun d => d.parameters.length) = some 1 := by decide +kernel
theorem kS_X6_sortsOf : yX6_sortsOf.cls ≠ "java/lang/invoke/MethodHandle" ∧ yX6_sortsOf.cls ≠ "java/lang/invoke/VarHandle" ∧ (parseMethodDescriptor yX6_sortsOf.desc).map (fun d => d.parameters.length) = some 1 := kV_X6_sortsOf.2
theorem kV_X6_askOf : yX6_askOf.cls = RX6 ∧ yX6_askOf.cls ≠ "java/lang/invoke/MethodHandle" ∧ yX6_askOf.cls ≠ "java/lang/invoke/VarHandle" ∧ (parseMethodDescriptor yX6_askOf.desc).map (fun d => d.parameters.length) = some 1 := by decide +kernel
theorem kS_X6_askOf : yX6_askOf.cls ≠ "java/lang/invoke/MethodHandle" ∧ yX6_askOf.cls ≠ "java/lang/invoke/VarHandle" ∧ (parseMethodDescriptor yX6_askOf.desc).map (fun d => d.parameters.length) = some 1 := kV_X6_askOf.2
theorem kV_X6_pegNow : yX6_pegNow.cls = RX6 ∧ yX6_pegNow.cls ≠ "java/lang/invoke/MethodHandle" ∧ yX6_pegNow.cls ≠ "java/lang/invoke/VarHandle" ∧ (parseMethodDescriptor yX6_pegNow.desc).map (fun d => d.parameters.length) = some 2 := by decide +kernel
theorem kS_X6_pegNow : yX6_pegNow.cls ≠ "java/lang/invoke/MethodHandle" ∧ yX6_pegNow.cls ≠ "java/lang/invoke/VarHandle" ∧ (parseMethodDescriptor yX6_pegNow.desc).map (fun d => d.parameters.length) = some 2 := kV_X6_pegNow.2
theorem kV_X6_peg : yX6_peg.cls = RX6 ∧ yX6_peg.cls ≠ "java/lang/invoke/MethodHandle" ∧ yX6_peg.cls ≠ "java/lang/invoke/VarHandle" ∧ (parseMethodDescriptor yX6_peg.desc).map (fun d => d.parameters.length) = some 2 := by decide +kernel
theorem kS_X6_peg : yX6_peg.cls ≠ "java/lang/invoke/MethodHandle" ∧ yX6_peg.cls ≠ "java/lang/invoke/VarHandle" ∧ (parseMethodDescriptor yX6_peg.desc).map (fun d => d.parameters.length) = some 2 := kV_X6_peg.2
theorem kV_X6_as : yX6_as.cls = RX6 ∧ yX6_as.cls ≠ "java/lang/invoke/MethodHandle" ∧ yX6_as.cls ≠ "java/lang/invoke/VarHandle" ∧ (parseMethodDescriptor yX6_as.desc).map (fun d => d.parameters.length) = some 2 := by decide +kernel
theorem kS_X6_as : yX6_as.cls ≠ "java/lang/invoke/MethodHandle" ∧ yX6_as.cls ≠ "java/lang/invoke/VarHandle" ∧ (parseMethodDescriptor yX6_as.desc).map (fun d => d.parameters.length) = some 2 := kV_X6_as.2
theorem kV_X6_placeNow : yX6_placeNow.cls = RX6 ∧ yX6_placeNow.cls ≠ "java/lang/invoke/MethodHandle" ∧ yX6_placeNow.cls ≠ "java/lang/invoke/VarHandle" ∧ (parseMethodDescriptor yX6_placeNow.desc).map (fun d => d.parameters.length) = some 2 := by decide +kernel
theorem kS_X6_placeNow : yX6_placeNow.cls ≠ "java/lang/invoke/MethodHandle" ∧ yX6_placeNow.cls ≠ "java/lang/invoke/VarHandle" ∧ (parseMethodDescriptor yX6_placeNow.desc).map (fun d => d.parameters.length) = some 2 := kV_X6_placeNow.2
theorem kV_X6_place : yX6_place.cls = RX6 ∧ yX6_place.cls ≠ "java/lang/invoke/MethodHandle" ∧ yX6_place.cls ≠ "java/lang/invoke/VarHandle" ∧ (parseMethodDescriptor yX6_place.desc).map (fun d => d.parameters.length) = some 2 := by decide +kernel
theorem kS_X6_place : yX6_place.cls ≠ "java/lang/invoke/MethodHandle" ∧ yX6_place.cls ≠ "java/lang/invoke/VarHandle" ∧ (parseMethodDescriptor yX6_place.desc).map (fun d => d.parameters.length) = some 2 := kV_X6_place.2
theorem kV_X6_jump : yX6_jump.cls = RX6 ∧ yX6_jump.cls ≠ "java/lang/invoke/MethodHandle" ∧ yX6_jump.cls ≠ "java/lang/invoke/VarHandle" ∧ (parseMethodDescriptor yX6_jump.desc).map (fun d => d.parameters.length) = some 2 := by decide +kernel
theorem kS_X6_jump : yX6_jump.cls ≠ "java/lang/invoke/MethodHandle" ∧ yX6_jump.cls ≠ "java/lang/invoke/VarHandle" ∧ (parseMethodDescriptor yX6_jump.desc).map (fun d => d.parameters.length) = some 2 := kV_X6_jump.2
theorem kV_X6_isEmpty : yX6_isEmpty.cls = RX6 ∧ yX6_isEmpty.cls ≠ "java/lang/invoke/MethodHandle" ∧ yX6_isEmpty.cls ≠ "java/lang/invoke/VarHandle" ∧ (parseMethodDescriptor yX6_isEmpty.desc).map (fun d => d.parameters.length) = some 1 := by decide +kernel
theorem kS_X6_isEmpty : yX6_isEmpty.cls ≠ "java/lang/invoke/MethodHandle" ∧ yX6_isEmpty.cls ≠ "java/lang/invoke/VarHandle" ∧ (parseMethodDescriptor yX6_isEmpty.desc).map (fun d => d.parameters.length) = some 1 := kV_X6_isEmpty.2
theorem kV_X6_put : yX6_put.cls = RX6 ∧ yX6_put.cls ≠ "java/lang/invoke/MethodHandle" ∧ yX6_put.cls ≠ "java/lang/invoke/VarHandle" ∧ (parseMethodDescriptor yX6_put.desc).map (fun d => d.parameters.length) = some 2 := by decide +kernel
theorem kS_X6_put : yX6_put.cls ≠ "java/lang/invoke/MethodHandle" ∧ yX6_put.cls ≠ "java/lang/invoke/VarHandle" ∧ (parseMethodDescriptor yX6_put.desc).map (fun d => d.parameters.length) = some 2 := kV_X6_put.2
theorem kV_X6_plug : yX6_plug.cls = RX6 ∧ yX6_plug.cls ≠ "java/lang/invoke/MethodHandle" ∧ yX6_plug.cls ≠ "java/lang/invoke/VarHandle" ∧ (parseMethodDescriptor yX6_plug.desc).map (fun d => d.parameters.length) = some 1 := by decide +kernel
theorem kS_X6_plug : yX6_plug.cls ≠ "java/lang/invoke/MethodHandle" ∧ yX6_plug.cls ≠ "java/lang/invoke/VarHandle" ∧ (parseMethodDescriptor yX6_plug.desc).map (fun d => d.parameters.length) = some 1 := kV_X6_plug.2
theorem kV_X6_bore : yX6_bore.cls = RX6 ∧ yX6_bore.cls ≠ "java/lang/invoke/MethodHandle" ∧ yX6_bore.cls ≠ "java/lang/invoke/VarHandle" ∧ (parseMethodDescriptor yX6_bore.desc).map (fun d => d.parameters.length) = some 1 := by decide +kernel
theorem kS_X6_bore : yX6_bore.cls ≠ "java/lang/invoke/MethodHandle" ∧ yX6_bore.cls ≠ "java/lang/invoke/VarHandle" ∧ (parseMethodDescriptor yX6_bore.desc).map (fun d => d.parameters.length) = some 1 := kV_X6_bore.2
theorem kV_X6_be : yX6_be.cls = RX6 ∧ yX6_be.cls ≠ "java/lang/invoke/MethodHandle" ∧ yX6_be.cls ≠ "java/lang/invoke/VarHandle" ∧ (parseMethodDescriptor yX6_be.desc).map (fun d => d.parameters.length) = some 2 := by decide +kernel
theorem kS_X6_be : yX6_be.cls ≠ "java/lang/invoke/MethodHandle" ∧ yX6_be.cls ≠ "java/lang/invoke/VarHandle" ∧ (parseMethodDescriptor yX6_be.desc).map (fun d => d.parameters.length) = some 2 := kV_X6_be.2
theorem kV_X6_begin : yX6_begin.cls = RX6 ∧ yX6_begin.cls ≠ "java/lang/invoke/MethodHandle" ∧ yX6_begin.cls ≠ "java/lang/invoke/VarHandle" ∧ (parseMethodDescriptor yX6_begin.desc).map (fun d => d.parameters.length) = some 1 := by decide +kernel
theorem kS_X6_begin : yX6_begin.cls ≠ "java/lang/invoke/MethodHandle" ∧ yX6_begin.cls ≠ "java/lang/invoke/VarHandle" ∧ (parseMethodDescriptor yX6_begin.desc).map (fun d => d.parameters.length) = some 1 := kV_X6_begin.2
theorem kV_X6_nextCode : yX6_nextCode.cls = RX6 ∧ yX6_nextCode.cls ≠ "java/lang/invoke/MethodHandle" ∧ yX6_nextCode.cls ≠ "java/lang/invoke/VarHandle" ∧ (parseMethodDescriptor yX6_nextCode.desc).map (fun d => d.parameters.length) = some 1 := by decide +kernel
theorem kS_X6_nextCode : yX6_nextCode.cls ≠ "java/lang/invoke/MethodHandle" ∧ yX6_nextCode.cls ≠ "java/lang/invoke/VarHandle" ∧ (parseMethodDescriptor yX6_nextCode.desc).map (fun d => d.parameters.length) = some 1 := kV_X6_nextCode.2
theorem kV_X6_lastPlace : yX6_lastPlace.cls = RX6 ∧ yX6_lastPlace.cls ≠ "java/lang/invoke/MethodHandle" ∧ yX6_lastPlace.cls ≠ "java/lang/invoke/VarHandle" ∧ (parseMethodDescriptor yX6_lastPlace.desc).map (fun d => d.parameters.length) = some 1 := by decide +kernel
theorem kS_X6_lastPlace : yX6_lastPlace.cls ≠ "java/lang/invoke/MethodHandle" ∧ yX6_lastPlace.cls ≠ "java/lang/invoke/VarHandle" ∧ (parseMethodDescriptor yX6_lastPlace.desc).map (fun d => d.parameters.length) = some 1 := kV_X6_lastPlace.2
theorem kV_X6_end : yX6_end.cls = RX6 ∧ yX6_end.cls ≠ "java/lang/invoke/MethodHandle" ∧ yX6_end.cls ≠ "java/lang/invoke/VarHandle" ∧ (parseMethodDescriptor yX6_end.desc).map (fun d => d.parameters.length) = some 1 := by decide +kernel
theorem kS_X6_end : yX6_end.cls ≠ "java/lang/invoke/MethodHandle" ∧ yX6_end.cls ≠ "java/lang/invoke/VarHandle" ∧ (parseMethodDescriptor yX6_end.desc).map (fun d => d.parameters.length) = some 1 := kV_X6_end.2
theorem kV_X6_takeUp : yX6_takeUp.cls = RX6 ∧ yX6_takeUp.cls ≠ "java/lang/invoke/MethodHandle" ∧ yX6_takeUp.cls ≠ "java/lang/invoke/VarHandle" ∧ (parseMethodDescriptor yX6_takeUp.desc).map (fun d => d.parameters.length) = some 2 := by decide +kernel
theorem kS_X6_takeUp : yX6_takeUp.cls ≠ "java/lang/invoke/MethodHandle" ∧ yX6_takeUp.cls ≠ "java/lang/invoke/VarHandle" ∧ (parseMethodDescriptor yX6_takeUp.desc).map (fun d => d.parameters.length) = some 2 := kV_X6_takeUp.2
theorem kV_X6_layCourses : yX6_layCourses.cls = RX6 ∧ yX6_layCourses.cls ≠ "java/lang/invoke/MethodHandle" ∧ yX6_layCourses.cls ≠ "java/lang/invoke/VarHandle" ∧ (parseMethodDescriptor yX6_layCourses.desc).map (fun d => d.parameters.length) = some 0 := by decide +kernel
theorem kS_X6_layCourses : yX6_layCourses.cls ≠ "java/lang/invoke/MethodHandle" ∧ yX6_layCourses.cls ≠ "java/lang/invoke/VarHandle" ∧ (parseMethodDescriptor yX6_layCourses.desc).map (fun d => d.parameters.length) = some 0 := kV_X6_layCourses.2
theorem kV_X6_coursesNow : yX6_coursesNow.cls = RX6 ∧ yX6_coursesNow.cls ≠ "java/lang/invoke/MethodHandle" ∧ yX6_coursesNow.cls ≠ "java/lang/invoke/VarHandle" ∧ (parseMethodDescriptor yX6_coursesNow.desc).map (fun d => d.parameters.length) = some 1 := by decide +kernel
theorem kS_X6_coursesNow : yX6_coursesNow.cls ≠ "java/lang/invoke/MethodHandle" ∧ yX6_coursesNow.cls ≠ "java/lang/invoke/VarHandle" ∧ (parseMethodDescriptor yX6_coursesNow.desc).map (fun d => d.parameters.length) = some 1 := kV_X6_coursesNow.2
theorem kV_X6_courses : yX6_courses.cls = RX6 ∧ yX6_courses.cls ≠ "java/lang/invoke/MethodHandle" ∧ yX6_courses.cls ≠ "java/lang/invoke/VarHandle" ∧ (parseMethodDescriptor yX6_courses.desc).map (fun d => d.parameters.length) = some 1 := by decide +kernel
theorem kS_X6_courses : yX6_courses.cls ≠ "java/lang/invoke/MethodHandle" ∧ yX6_courses.cls ≠ "java/lang/invoke/VarHandle" ∧ (parseMethodDescriptor yX6_courses.desc).map (fun d => d.parameters.length) = some 1 := kV_X6_courses.2
theorem kV_X6_winsNow : yX6_winsNow.cls = RX6 ∧ yX6_winsNow.cls ≠ "java/lang/invoke/MethodHandle" ∧ yX6_winsNow.cls ≠ "java/lang/invoke/VarHandle" ∧ (parseMethodDescriptor yX6_winsNow.desc).map (fun d => d.parameters.length) = some 1 := by decide +kernel
theorem kS_X6_winsNow : yX6_winsNow.cls ≠ "java/lang/invoke/MethodHandle" ∧ yX6_winsNow.cls ≠ "java/lang/invoke/VarHandle" ∧ (parseMethodDescriptor yX6_winsNow.desc).map (fun d => d.parameters.length) = some 1 := kV_X6_winsNow.2
theorem kV_X6_wins : yX6_wins.cls = RX6 ∧ yX6_wins.cls ≠ "java/lang/invoke/MethodHandle" ∧ yX6_wins.cls ≠ "java/lang/invoke/VarHandle" ∧ (parseMethodDescriptor yX6_wins.desc).map (fun d => d.parameters.length) = some 1 := by decide +kernel
theorem kS_X6_wins : yX6_wins.cls ≠ "java/lang/invoke/MethodHandle" ∧ yX6_wins.cls ≠ "java/lang/invoke/VarHandle" ∧ (parseMethodDescriptor yX6_wins.desc).map (fun d => d.parameters.length) = some 1 := kV_X6_wins.2
theorem kV_X6_addNow : yX6_addNow.cls = RX6 ∧ yX6_addNow.cls ≠ "java/lang/invoke/MethodHandle" ∧ yX6_addNow.cls ≠ "java/lang/invoke/VarHandle" ∧ (parseMethodDescriptor yX6_addNow.desc).map (fun d => d.parameters.length) = some 0 := by decide +kernel
theorem kS_X6_addNow : yX6_addNow.cls ≠ "java/lang/invoke/MethodHandle" ∧ yX6_addNow.cls ≠ "java/lang/invoke/VarHandle" ∧ (parseMethodDescriptor yX6_addNow.desc).map (fun d => d.parameters.length) = some 0 := kV_X6_addNow.2
theorem kV_X6_add : yX6_add.cls = RX6 ∧ yX6_add.cls ≠ "java/lang/invoke/MethodHandle" ∧ yX6_add.cls ≠ "java/lang/invoke/VarHandle" ∧ (parseMethodDescriptor yX6_add.desc).map (fun d => d.parameters.length) = some 0 := by decide +kernel
theorem kS_X6_add : yX6_add.cls ≠ "java/lang/invoke/MethodHandle" ∧ yX6_add.cls ≠ "java/lang/invoke/VarHandle" ∧ (parseMethodDescriptor yX6_add.desc).map (fun d => d.parameters.length) = some 0 := kV_X6_add.2
theorem kV_X6_meanNow : yX6_meanNow.cls = RX6 ∧ yX6_meanNow.cls ≠ "java/lang/invoke/MethodHandle" ∧ yX6_meanNow.cls ≠ "java/lang/invoke/VarHandle" ∧ (parseMethodDescriptor yX6_meanNow.desc).map (fun d => d.parameters.length) = some 0 := by decide +kernel
theorem kS_X6_meanNow : yX6_meanNow.cls ≠ "java/lang/invoke/MethodHandle" ∧ yX6_meanNow.cls ≠ "java/lang/invoke/VarHandle" ∧ (parseMethodDescriptor yX6_meanNow.desc).map (fun d => d.parameters.length) = some 0 := kV_X6_meanNow.2
theorem kV_X6_mean : yX6_mean.cls = RX6 ∧ yX6_mean.cls ≠ "java/lang/invoke/MethodHandle" ∧ yX6_mean.cls ≠ "java/lang/invoke/VarHandle" ∧ (parseMethodDescriptor yX6_mean.desc).map (fun d => d.parameters.length) = some 0 := by decide +kernel
theorem kS_X6_mean : yX6_mean.cls ≠ "java/lang/invoke/MethodHandle" ∧ yX6_mean.cls ≠ "java/lang/invoke/VarHandle" ∧ (parseMethodDescriptor yX6_mean.desc).map (fun d => d.parameters.length) = some 0 := kV_X6_mean.2
theorem kV_X6_see : yX6_see.cls = RX6 ∧ yX6_see.cls ≠ "java/lang/invoke/MethodHandle" ∧ yX6_see.cls ≠ "java/lang/invoke/VarHandle" ∧ (parseMethodDescriptor yX6_see.desc).map (fun d => d.parameters.length) = some 3 := by decide +kernel
theorem kS_X6_see : yX6_see.cls ≠ "java/lang/invoke/MethodHandle" ∧ yX6_see.cls ≠ "java/lang/invoke/VarHandle" ∧ (parseMethodDescriptor yX6_see.desc).map (fun d => d.parameters.length) = some 3 := kV_X6_see.2
theorem kV_X6_forget : yX6_forget.cls = RX6 ∧ yX6_forget.cls ≠ "java/lang/invoke/MethodHandle" ∧ yX6_forget.cls ≠ "java/lang/invoke/VarHandle" ∧ (parseMethodDescriptor yX6_forget.desc).map (fun d => d.parameters.length) = some 0 := by decide +kernel
theorem kS_X6_forget : yX6_forget.cls ≠ "java/lang/invoke/MethodHandle" ∧ yX6_forget.cls ≠ "java/lang/invoke/VarHandle" ∧ (parseMethodDescriptor yX6_forget.desc).map (fun d => d.parameters.length) = some 0 := kV_X6_forget.2
theorem kV_X6_draw : yX6_draw.cls = RX6 ∧ yX6_draw.cls ≠ "java/lang/invoke/MethodHandle" ∧ yX6_draw.cls ≠ "java/lang/invoke/VarHandle" ∧ (parseMethodDescriptor yX6_draw.desc).map (fun d => d.parameters.length) = some 1 := by decide +kernel
theorem kS_X6_draw : yX6_draw.cls ≠ "java/lang/invoke/MethodHandle" ∧ yX6_draw.cls ≠ "java/lang/invoke/VarHandle" ∧ (parseMethodDescriptor yX6_draw.desc).map (fun d => d.parameters.length) = some 1 := kV_X6_draw.2
theorem kV_X6_codeBy : yX6_codeBy.cls = RX6 ∧ yX6_codeBy.cls ≠ "java/lang/invoke/MethodHandle" ∧ yX6_codeBy.cls ≠ "java/lang/invoke/VarHandle" ∧ (parseMethodDescriptor yX6_codeBy.desc).map (fun d => d.parameters.length) = some 2 := by decide +kernel
theorem kS_X6_codeBy : yX6_codeBy.cls ≠ "java/lang/invoke/MethodHandle" ∧ yX6_codeBy.cls ≠ "java/lang/invoke/VarHandle" ∧ (parseMethodDescriptor yX6_codeBy.desc).map (fun d => d.parameters.length) = some 2 := kV_X6_codeBy.2
theorem kV_X6_runsNow : yX6_runsNow.cls = RX6 ∧ yX6_runsNow.cls ≠ "java/lang/invoke/MethodHandle" ∧ yX6_runsNow.cls ≠ "java/lang/invoke/VarHandle" ∧ (parseMethodDescriptor yX6_runsNow.desc).map (fun d => d.parameters.length) = some 3 := by decide +kernel
theorem kS_X6_runsNow : yX6_runsNow.cls ≠ "java/lang/invoke/MethodHandle" ∧ yX6_runsNow.cls ≠ "java/lang/invoke/VarHandle" ∧ (parseMethodDescriptor yX6_runsNow.desc).map (fun d => d.parameters.length) = some 3 := kV_X6_runsNow.2
theorem kV_X6_runs : yX6_runs.cls = RX6 ∧ yX6_runs.cls ≠ "java/lang/invoke/MethodHandle" ∧ yX6_runs.cls ≠ "java/lang/invoke/VarHandle" ∧ (parseMethodDescriptor yX6_runs.desc).map (fun d => d.parameters.length) = some 3 := by decide +kernel
theorem kS_X6_runs : yX6_runs.cls ≠ "java/lang/invoke/MethodHandle" ∧ yX6_runs.cls ≠ "java/lang/invoke/VarHandle" ∧ (parseMethodDescriptor yX6_runs.desc).map (fun d => d.parameters.length) = some 3 := kV_X6_runs.2
theorem kV_X6_image : yX6_image.cls = RX6 ∧ yX6_image.cls ≠ "java/lang/invoke/MethodHandle" ∧ yX6_image.cls ≠ "java/lang/invoke/VarHandle" ∧ (parseMethodDescriptor yX6_image.desc).map (fun d => d.parameters.length) = some 0 := by decide +kernel
theorem kS_X6_image : yX6_image.cls ≠ "java/lang/invoke/MethodHandle" ∧ yX6_image.cls ≠ "java/lang/invoke/VarHandle" ∧ (parseMethodDescriptor yX6_image.desc).map (fun d => d.parameters.length) = some 0 := kV_X6_image.2
theorem kV_X6_restore : yX6_restore.cls = RX6 ∧ yX6_restore.cls ≠ "java/lang/invoke/MethodHandle" ∧ yX6_restore.cls ≠ "java/lang/invoke/VarHandle" ∧ (parseMethodDescriptor yX6_restore.desc).map (fun d => d.parameters.length) = some 0 := by decide +kernel
theorem kS_X6_restore : yX6_restore.cls ≠ "java/lang/invoke/MethodHandle" ∧ yX6_restore.cls ≠ "java/lang/invoke/VarHandle" ∧ (parseMethodDescriptor yX6_restore.desc).map (fun d => d.parameters.length) = some 0 := kV_X6_restore.2
theorem kV_X6_ofBoard : yX6_ofBoard.cls = RX6 ∧ yX6_ofBoard.cls ≠ "java/lang/invoke/MethodHandle" ∧ yX6_ofBoard.cls ≠ "java/lang/invoke/VarHandle" ∧ (parseMethodDescriptor yX6_ofBoard.desc).map (fun d => d.parameters.length) = some 1 := by decide +kernel
theorem kS_X6_ofBoard : yX6_ofBoard.cls ≠ "java/lang/invoke/MethodHandle" ∧ yX6_ofBoard.cls ≠ "java/lang/invoke/VarHandle" ∧ (parseMethodDescriptor yX6_ofBoard.desc).map (fun d => d.parameters.length) = some 1 := kV_X6_ofBoard.2
theorem kV_X6_howMany : yX6_howMany.cls = RX6 ∧ yX6_howMany.cls ≠ "java/lang/invoke/MethodHandle" ∧ yX6_howMany.cls ≠ "java/lang/invoke/VarHandle" ∧ (parseMethodDescriptor yX6_howMany.desc).map (fun d => d.parameters.length) = some 1 := by decide +kernel
theorem kS_X6_howMany : yX6_howMany.cls ≠ "java/lang/invoke/MethodHandle" ∧ yX6_howMany.cls ≠ "java/lang/invoke/VarHandle" ∧ (parseMethodDescriptor yX6_howMany.desc).map (fun d => d.parameters.length) = some 1 := kV_X6_howMany.2
theorem kV_X6_count : yX6_count.cls = RX6 ∧ yX6_count.cls ≠ "java/lang/invoke/MethodHandle" ∧ yX6_count.cls ≠ "java/lang/invoke/VarHandle" ∧ (parseMethodDescriptor yX6_count.desc).map (fun d => d.parameters.length) = some 1 := by decide +kernel
theorem kS_X6_count : yX6_count.cls ≠ "java/lang/invoke/MethodHandle" ∧ yX6_count.cls ≠ "java/lang/invoke/VarHandle" ∧ (parseMethodDescriptor yX6_count.desc).map (fun d => d.parameters.length) = some 1 := kV_X6_count.2
theorem kV_X6_mix : yX6_mix.cls = RX6 ∧ yX6_mix.cls ≠ "java/lang/invoke/MethodHandle" ∧ yX6_mix.cls ≠ "java/lang/invoke/VarHandle" ∧ (parseMethodDescriptor yX6_mix.desc).map (fun d => d.parameters.length) = some 1 := by decide +kernel
theorem kS_X6_mix : yX6_mix.cls ≠ "java/lang/invoke/MethodHandle" ∧ yX6_mix.cls ≠ "java/lang/invoke/VarHandle" ∧ (parseMethodDescriptor yX6_mix.desc).map (fun d => d.parameters.length) = some 1 := kV_X6_mix.2
theorem kV_X6_mixBoard : yX6_mixBoard.cls = RX6 ∧ yX6_mixBoard.cls ≠ "java/lang/invoke/MethodHandle" ∧ yX6_mixBoard.cls ≠ "java/lang/invoke/VarHandle" ∧ (parseMethodDescriptor yX6_mixBoard.desc).map (fun d => d.parameters.length) = some 0 := by decide +kernel
theorem kS_X6_mixBoard : yX6_mixBoard.cls ≠ "java/lang/invoke/MethodHandle" ∧ yX6_mixBoard.cls ≠ "java/lang/invoke/VarHandle" ∧ (parseMethodDescriptor yX6_mixBoard.desc).map (fun d => d.parameters.length) = some 0 := kV_X6_mixBoard.2
theorem kV_X6_digest : yX6_digest.cls = RX6 ∧ yX6_digest.cls ≠ "java/lang/invoke/MethodHandle" ∧ yX6_digest.cls ≠ "java/lang/invoke/VarHandle" ∧ (parseMethodDescriptor yX6_digest.desc).map (fun d => d.parameters.length) = some 0 := by decide +kernel
theorem kS_X6_digest : yX6_digest.cls ≠ "java/lang/invoke/MethodHandle" ∧ yX6_digest.cls ≠ "java/lang/invoke/VarHandle" ∧ (parseMethodDescriptor yX6_digest.desc).map (fun d => d.parameters.length) = some 0 := kV_X6_digest.2
end
section
theorem zm_0 {w : Cond} (h : w ∈ k2_sels lw_privs) : w ∈ lw_tbl := List.mem_append_left _ h
theorem zm_1 {w : Cond} (h : w ∈ tables_1_1) : w ∈ lw_tbl := List.mem_append_right _ (List.mem_append_left _ h)
theorem zm_2 {w : Cond} (h : w ∈ tables_1_2) : w ∈ lw_tbl := List.mem_append_right _ (List.mem_append_right _ (List.mem_append_left _ h))
theorem zm_3 {w : Cond} (h : w ∈ tables_1_3) : w ∈ lw_tbl := List.mem_append_right _ (List.mem_append_right _ (List.mem_append_right _ (List.mem_append_left _ h)))
theorem zm_4 {w : Cond} (h : w ∈ tables_1_4) : w ∈ lw_tbl := List.mem_append_right _ (List.mem_append_right _ (List.mem_append_right _ (List.mem_append_right _ h)))
theorem zin_r1 : ∀ w ∈ wsL_law_r1, w ∈ lw_tbl := (List.forall_mem_cons.mpr ⟨(zm_1 (List.mem_of_getElem? (i := 10) (by decide +kernel))), (List.forall_mem_cons.mpr ⟨(zm_1 (List.mem_of_getElem? (i := 11) (by decide +kernel))), (List.forall_mem_cons.mpr ⟨(zm_1 (List.mem_of_getElem? (i := 1) (by decide +kernel))), (List.forall_mem_cons.mpr ⟨(zm_3 (List.mem_of_getElem? (i := 46) (by decide +kernel))), (List.forall_mem_cons.mpr ⟨(zm_3 (List.mem_of_getElem? (i := 47) (by decide +kernel))), (List.forall_mem_cons.mpr ⟨(zm_1 (List.mem_of_getElem? (i := 7) (by decide +kernel))), (List.forall_mem_cons.mpr ⟨(zm_1 (List.mem_of_getElem? (i := 12) (by decide +kernel))), (List.forall_mem_cons.mpr ⟨(zm_1 (List.mem_of_getElem? (i := 13) (by decide +kernel))), (List.forall_mem_cons.mpr ⟨(zm_1 (List.mem_of_getElem? (i := 14) (by decide +kernel))), (List.forall_mem_cons.mpr ⟨(zm_1 (List.mem_of_getElem? (i := 15) (by decide +kernel))), (List.forall_mem_cons.mpr ⟨(zm_1 (List.mem_of_getElem? (i := 16) (by decide +kernel))), (List.forall_mem_cons.mpr ⟨(zm_1 (List.mem_of_getElem? (i := 17) (by decide +kernel))), (List.forall_mem_cons.mpr ⟨(zm_1 (List.mem_of_getElem? (i := 18) (by decide +kernel))), (List.forall_mem_cons.mpr ⟨(zm_1 (List.mem_of_getElem? (i := 19) (by decide +kernel))), (List.forall_mem_cons.mpr ⟨(zm_1 (List.mem_of_getElem? (i := 2) (by decide +kernel))), (List.forall_mem_cons.mpr ⟨(zm_1 (List.mem_of_getElem? (i := 151) (by decide +kernel))), (List.forall_mem_cons.mpr ⟨(zm_1 (List.mem_of_getElem? (i := 33) (by decide +kernel))), (List.forall_mem_cons.mpr ⟨(zm_1 (List.mem_of_getElem? (i := 34) (by decide +kernel))), (List.forall_mem_cons.mpr ⟨(zm_1 (List.mem_of_getElem? (i := 3) (by decide +kernel))), (List.forall_mem_cons.mpr ⟨(zm_1 (List.mem_of_getElem? (i := 152) (by decide +kernel))), (List.forall_mem_cons.mpr ⟨(zm_1 (List.mem_of_getElem? (i := 56) (by decide +kernel))), (List.forall_mem_cons.mpr ⟨(zm_1 (List.mem_of_getElem? (i := 57) (by decide +kernel))), (List.forall_mem_cons.mpr ⟨(zm_1 (List.mem_of_getElem? (i := 4) (by decide +kernel))), (List.forall_mem_cons.mpr ⟨(zm_1 (List.mem_of_getElem? (i := 153) (by decide +kernel))), (fun _ h => absurd h List.not_mem_nil)⟩)⟩)⟩)⟩)⟩)⟩)⟩)⟩)⟩)⟩)⟩)⟩)⟩)⟩)⟩)⟩)⟩)⟩)⟩)⟩)⟩)⟩)⟩)⟩)
theorem zin_r2 : ∀ w ∈ wsL_law_r2, w ∈ lw_tbl := (List.forall_mem_cons.mpr ⟨(zm_1 (List.mem_of_getElem? (i := 91) (by decide +kernel))), (List.forall_mem_cons.mpr ⟨(zm_1 (List.mem_of_getElem? (i := 92) (by decide +kernel))), (List.forall_mem_cons.mpr ⟨(zm_1 (List.mem_of_getElem? (i := 5) (by decide +kernel))), (List.forall_mem_cons.mpr ⟨(zm_1 (List.mem_of_getElem? (i := 154) (by decide +kernel))), (List.forall_mem_cons.mpr ⟨(zm_1 (List.mem_of_getElem? (i := 155) (by decide +kernel))), (List.forall_mem_cons.mpr ⟨(zm_1 (List.mem_of_getElem? (i := 156) (by decide +kernel))), (List.forall_mem_cons.mpr ⟨(zm_1 (List.mem_of_getElem? (i := 158) (by decide +kernel))), (List.forall_mem_cons.mpr ⟨(zm_1 (List.mem_of_getElem? (i := 108) (by decide +kernel))), (List.forall_mem_cons.mpr ⟨(zm_1 (List.mem_of_getElem? (i := 109) (by decide +kernel))), (List.forall_mem_cons.mpr ⟨(zm_1 (List.mem_of_getElem? (i := 6) (by decide +kernel))), (List.forall_mem_cons.mpr ⟨(zm_1 (List.mem_of_getElem? (i := 159) (by decide +kernel))), (List.forall_mem_cons.mpr ⟨(zm_1 (List.mem_of_getElem? (i := 160) (by decide +kernel))), (List.forall_mem_cons.mpr ⟨(zm_1 (List.mem_of_getElem? (i := 21) (by decide +kernel))), (List.forall_mem_cons.mpr ⟨(zm_1 (List.mem_of_getElem? (i := 22) (by decide +kernel))), (List.forall_mem_cons.mpr ⟨(zm_1 (List.mem_of_getElem? (i := 23) (by decide +kernel))), (List.forall_mem_cons.mpr ⟨(zm_1 (List.mem_of_getElem? (i := 32) (by decide +kernel))), (List.forall_mem_cons.mpr ⟨(zm_1 (List.mem_of_getElem? (i := 24) (by decide +kernel))), (List.forall_mem_cons.mpr ⟨(zm_1 (List.mem_of_getElem? (i := 36) (by decide +kernel))), (List.forall_mem_cons.mpr ⟨(zm_1 (List.mem_of_getElem? (i := 37) (by decide +kernel))), (List.forall_mem_cons.mpr ⟨(zm_1 (List.mem_of_getElem? (i := 38) (by decide +kernel))), (List.forall_mem_cons.mpr ⟨(zm_1 (List.mem_of_getElem? (i := 46) (by decide +kernel))), (List.forall_mem_cons.mpr ⟨(zm_1 (List.mem_of_getElem? (i := 58) (by decide +kernel))), (List.forall_mem_cons.mpr ⟨(zm_1 (List.mem_of_getElem? (i := 59) (by decide +kernel))), (List.forall_mem_cons.mpr ⟨(zm_1 (List.mem_of_getElem? (i := 60) (by decide +kernel))), (fun _ h => absurd h List.not_mem_nil)⟩)⟩)⟩)⟩)⟩)⟩)⟩)⟩)⟩)⟩)⟩)⟩)⟩)⟩)⟩)⟩)⟩)⟩)⟩)⟩)⟩)⟩)⟩)⟩)
theorem zin_r3 : ∀ w ∈ wsL_law_r3, w ∈ lw_tbl := (List.forall_mem_cons.mpr ⟨(zm_1 (List.mem_of_getElem? (i := 61) (by decide +kernel))), (List.forall_mem_cons.mpr ⟨(zm_1 (List.mem_of_getElem? (i := 71) (by decide +kernel))), (List.forall_mem_cons.mpr ⟨(zm_1 (List.mem_of_getElem? (i := 72) (by decide +kernel))), (List.forall_mem_cons.mpr ⟨(zm_1 (List.mem_of_getElem? (i := 73) (by decide +kernel))), (List.forall_mem_cons.mpr ⟨(zm_1 (List.mem_of_getElem? (i := 62) (by decide +kernel))), (List.forall_mem_cons.mpr ⟨(zm_1 (List.mem_of_getElem? (i := 94) (by decide +kernel))), (List.forall_mem_cons.mpr ⟨(zm_1 (List.mem_of_getElem? (i := 95) (by decide +kernel))), (List.forall_mem_cons.mpr ⟨(zm_1 (List.mem_of_getElem? (i := 96) (by decide +kernel))), (List.forall_mem_cons.mpr ⟨(zm_1 (List.mem_of_getElem? (i := 97) (by decide +kernel))), (List.forall_mem_cons.mpr ⟨(zm_1 (List.mem_of_getElem? (i := 98) (by decide +kernel))), (List.forall_mem_cons.mpr ⟨(zm_1 (List.mem_of_getElem? (i := 111) (by decide +kernel))), (List.forall_mem_cons.mpr ⟨(zm_1 (List.mem_of_getElem? (i := 112) (by decide +kernel))), (List.forall_mem_cons.mpr ⟨(zm_1 (List.mem_of_getElem? (i := 113) (by decide +kernel))), (List.forall_mem_cons.mpr ⟨(zm_3 (List.mem_of_getElem? (i := 48) (by decide +kernel))), (List.forall_mem_cons.mpr ⟨(zm_3 (List.mem_of_getElem? (i := 49) (by decide +kernel))), (List.forall_mem_cons.mpr ⟨(zm_3 (List.mem_of_getElem? (i := 50) (by decide +kernel))), (List.forall_mem_cons.mpr ⟨(zm_3 (List.mem_of_getElem? (i := 51) (by decide +kernel))), (List.forall_mem_cons.mpr ⟨(zm_3 (List.mem_of_getElem? (i := 57) (by decide +kernel))), (List.forall_mem_cons.mpr ⟨(zm_3 (List.mem_of_getElem? (i := 58) (by decide +kernel))), (List.forall_mem_cons.mpr ⟨(zm_3 (List.mem_of_getElem? (i := 62) (by decide +kernel))), (List.forall_mem_cons.mpr ⟨(zm_3 (List.mem_of_getElem? (i := 63) (by decide +kernel))), (List.forall_mem_cons.mpr ⟨(zm_3 (List.mem_of_getElem? (i := 64) (by decide +kernel))), (List.forall_mem_cons.mpr ⟨(zm_3 (List.mem_of_getElem? (i := 173) (by decide +kernel))), (List.forall_mem_cons.mpr ⟨(zm_3 (List.mem_of_getElem? (i := 66) (by decide +kernel))), (fun _ h => absurd h List.not_mem_nil)⟩)⟩)⟩)⟩)⟩)⟩)⟩)⟩)⟩)⟩)⟩)⟩)⟩)⟩)⟩)⟩)⟩)⟩)⟩)⟩)⟩)⟩)⟩)⟩)
theorem zin_r4 : ∀ w ∈ wsL_law_r4, w ∈ lw_tbl := (List.forall_mem_cons.mpr ⟨(zm_3 (List.mem_of_getElem? (i := 69) (by decide +kernel))), (List.forall_mem_cons.mpr ⟨(zm_3 (List.mem_of_getElem? (i := 70) (by decide +kernel))), (List.forall_mem_cons.mpr ⟨(zm_3 (List.mem_of_getElem? (i := 71) (by decide +kernel))), (List.forall_mem_cons.mpr ⟨(zm_3 (List.mem_of_getElem? (i := 72) (by decide +kernel))), (List.forall_mem_cons.mpr ⟨(zm_3 (List.mem_of_getElem? (i := 73) (by decide +kernel))), (List.forall_mem_cons.mpr ⟨(zm_3 (List.mem_of_getElem? (i := 74) (by decide +kernel))), (List.forall_mem_cons.mpr ⟨(zm_3 (List.mem_of_getElem? (i := 75) (by decide +kernel))), (List.forall_mem_cons.mpr ⟨(zm_3 (List.mem_of_getElem? (i := 76) (by decide +kernel))), (List.forall_mem_cons.mpr ⟨(zm_3 (List.mem_of_getElem? (i := 77) (by decide +kernel))), (List.forall_mem_cons.mpr ⟨(zm_3 (List.mem_of_getElem? (i := 78) (by decide +kernel))), (List.forall_mem_cons.mpr ⟨(zm_3 (List.mem_of_getElem? (i := 79) (by decide +kernel))), (List.forall_mem_cons.mpr ⟨(zm_3 (List.mem_of_getElem? (i := 86) (by decide +kernel))), (List.forall_mem_cons.mpr ⟨(zm_3 (List.mem_of_getElem? (i := 87) (by decide +kernel))), (List.forall_mem_cons.mpr ⟨(zm_3 (List.mem_of_getElem? (i := 88) (by decide +kernel))), (List.forall_mem_cons.mpr ⟨(zm_3 (List.mem_of_getElem? (i := 89) (by decide +kernel))), (List.forall_mem_cons.mpr ⟨(zm_3 (List.mem_of_getElem? (i := 90) (by decide +kernel))), (List.forall_mem_cons.mpr ⟨(zm_1 (List.mem_of_getElem? (i := 191) (by decide +kernel))), (List.forall_mem_cons.mpr ⟨(zm_1 (List.mem_of_getElem? (i := 192) (by decide +kernel))), (List.forall_mem_cons.mpr ⟨(zm_1 (List.mem_of_getElem? (i := 193) (by decide +kernel))), (List.forall_mem_cons.mpr ⟨(zm_1 (List.mem_of_getElem? (i := 194) (by decide +kernel))), (List.forall_mem_cons.mpr ⟨(zm_1 (List.mem_of_getElem? (i := 195) (by decide +kernel))), (List.forall_mem_cons.mpr ⟨(zm_1 (List.mem_of_getElem? (i := 196) (by decide +kernel))), (List.forall_mem_cons.mpr ⟨(zm_1 (List.mem_of_getElem? (i := 197) (by decide +kernel))), (List.forall_mem_cons.mpr ⟨(zm_1 (List.mem_of_getElem? (i := 198) (by decide +kernel))), (fun _ h => absurd h List.not_mem_nil)⟩)⟩)⟩)⟩)⟩)⟩)⟩)⟩)⟩)⟩)⟩)⟩)⟩)⟩)⟩)⟩)⟩)⟩)⟩)⟩)⟩)⟩)⟩)⟩)
theorem zin_r5 : ∀ w ∈ wsL_law_r5, w ∈ lw_tbl := (List.forall_mem_cons.mpr ⟨(zm_1 (List.mem_of_getElem? (i := 25) (by decide +kernel))), (List.forall_mem_cons.mpr ⟨(zm_3 (List.mem_of_getElem? (i := 174) (by decide +kernel))), (List.forall_mem_cons.mpr ⟨(zm_3 (List.mem_of_getElem? (i := 175) (by decide +kernel))), (List.forall_mem_cons.mpr ⟨(zm_3 (List.mem_of_getElem? (i := 176) (by decide +kernel))), (List.forall_mem_cons.mpr ⟨(zm_3 (List.mem_of_getElem? (i := 177) (by decide +kernel))), (List.forall_mem_cons.mpr ⟨(zm_3 (List.mem_of_getElem? (i := 65) (by decide +kernel))), (List.forall_mem_cons.mpr ⟨(zm_3 (List.mem_of_getElem? (i := 178) (by decide +kernel))), (List.forall_mem_cons.mpr ⟨(zm_3 (List.mem_of_getElem? (i := 179) (by decide +kernel))), (List.forall_mem_cons.mpr ⟨(zm_3 (List.mem_of_getElem? (i := 180) (by decide +kernel))), (List.forall_mem_cons.mpr ⟨(zm_1 (List.mem_of_getElem? (i := 199) (by decide +kernel))), (List.forall_mem_cons.mpr ⟨(zm_1 (List.mem_of_getElem? (i := 200) (by decide +kernel))), (List.forall_mem_cons.mpr ⟨(zm_1 (List.mem_of_getElem? (i := 201) (by decide +kernel))), (List.forall_mem_cons.mpr ⟨(zm_1 (List.mem_of_getElem? (i := 202) (by decide +kernel))), (List.forall_mem_cons.mpr ⟨(zm_3 (List.mem_of_getElem? (i := 181) (by decide +kernel))), (List.forall_mem_cons.mpr ⟨(zm_3 (List.mem_of_getElem? (i := 182) (by decide +kernel))), (List.forall_mem_cons.mpr ⟨(zm_3 (List.mem_of_getElem? (i := 183) (by decide +kernel))), (List.forall_mem_cons.mpr ⟨(zm_3 (List.mem_of_getElem? (i := 184) (by decide +kernel))), (List.forall_mem_cons.mpr ⟨(zm_1 (List.mem_of_getElem? (i := 203) (by decide +kernel))), (List.forall_mem_cons.mpr ⟨(zm_1 (List.mem_of_getElem? (i := 204) (by decide +kernel))), (List.forall_mem_cons.mpr ⟨(zm_1 (List.mem_of_getElem? (i := 205) (by decide +kernel))), (List.forall_mem_cons.mpr ⟨(zm_1 (List.mem_of_getElem? (i := 206) (by decide +kernel))), (List.forall_mem_cons.mpr ⟨(zm_1 (List.mem_of_getElem? (i := 207) (by decide +kernel))), (List.forall_mem_cons.mpr ⟨(zm_1 (List.mem_of_getElem? (i := 208) (by decide +kernel))), (List.forall_mem_cons.mpr ⟨(zm_1 (List.mem_of_getElem? (i := 209) (by decide +kernel))), (fun _ h => absurd h List.not_mem_nil)⟩)⟩)⟩)⟩)⟩)⟩)⟩)⟩)⟩)⟩)⟩)⟩)⟩)⟩)⟩)⟩)⟩)⟩)⟩)⟩)⟩)⟩)⟩)⟩)
theorem zin_r6 : ∀ w ∈ wsL_law_r6, w ∈ lw_tbl := (List.forall_mem_cons.mpr ⟨(zm_1 (List.mem_of_getElem? (i := 210) (by decide +kernel))), (List.forall_mem_cons.mpr ⟨(zm_1 (List.mem_of_getElem? (i := 211) (by decide +kernel))), (List.forall_mem_cons.mpr ⟨(zm_1 (List.mem_of_getElem? (i := 213) (by decide +kernel))), (List.forall_mem_cons.mpr ⟨(zm_0 (List.mem_of_getElem? (i := 0) (by decide +kernel))), (List.forall_mem_cons.mpr ⟨(zm_1 (List.mem_of_getElem? (i := 214) (by decide +kernel))), (List.forall_mem_cons.mpr ⟨(zm_1 (List.mem_of_getElem? (i := 215) (by decide +kernel))), (List.forall_mem_cons.mpr ⟨(zm_1 (List.mem_of_getElem? (i := 216) (by decide +kernel))), (List.forall_mem_cons.mpr ⟨(zm_1 (List.mem_of_getElem? (i := 217) (by decide +kernel))), (List.forall_mem_cons.mpr ⟨(zm_1 (List.mem_of_getElem? (i := 218) (by decide +kernel))), (List.forall_mem_cons.mpr ⟨(zm_1 (List.mem_of_getElem? (i := 219) (by decide +kernel))), (List.forall_mem_cons.mpr ⟨(zm_1 (List.mem_of_getElem? (i := 220) (by decide +kernel))), (List.forall_mem_cons.mpr ⟨(zm_1 (List.mem_of_getElem? (i := 221) (by decide +kernel))), (List.forall_mem_cons.mpr ⟨(zm_1 (List.mem_of_getElem? (i := 222) (by decide +kernel))), (List.forall_mem_cons.mpr ⟨(zm_1 (List.mem_of_getElem? (i := 223) (by decide +kernel))), (List.forall_mem_cons.mpr ⟨(zm_1 (List.mem_of_getElem? (i := 224) (by decide +kernel))), (List.forall_mem_cons.mpr ⟨(zm_1 (List.mem_of_getElem? (i := 225) (by decide +kernel))), (List.forall_mem_cons.mpr ⟨(zm_1 (List.mem_of_getElem? (i := 226) (by decide +kernel))), (List.forall_mem_cons.mpr ⟨(zm_1 (List.mem_of_getElem? (i := 227) (by decide +kernel))), (List.forall_mem_cons.mpr ⟨(zm_1 (List.mem_of_getElem? (i := 228) (by decide +kernel))), (List.forall_mem_cons.mpr ⟨(zm_1 (List.mem_of_getElem? (i := 229) (by decide +kernel))), (List.forall_mem_cons.mpr ⟨(zm_1 (List.mem_of_getElem? (i := 230) (by decide +kernel))), (List.forall_mem_cons.mpr ⟨(zm_1 (List.mem_of_getElem? (i := 233) (by decide +kernel))), (List.forall_mem_cons.mpr ⟨(zm_1 (List.mem_of_getElem? (i := 235) (by decide +kernel))), (List.forall_mem_cons.mpr ⟨(zm_0 (List.mem_of_getElem? (i := 1) (by decide +kernel))), (fun _ h => absurd h List.not_mem_nil)⟩)⟩)⟩)⟩)⟩)⟩)⟩)⟩)⟩)⟩)⟩)⟩)⟩)⟩)⟩)⟩)⟩)⟩)⟩)⟩)⟩)⟩)⟩)⟩)
theorem zin_r7 : ∀ w ∈ wsL_law_r7, w ∈ lw_tbl := (List.forall_mem_cons.mpr ⟨(zm_1 (List.mem_of_getElem? (i := 236) (by decide +kernel))), (List.forall_mem_cons.mpr ⟨(zm_3 (List.mem_of_getElem? (i := 185) (by decide +kernel))), (List.forall_mem_cons.mpr ⟨(zm_3 (List.mem_of_getElem? (i := 186) (by decide +kernel))), (List.forall_mem_cons.mpr ⟨(zm_3 (List.mem_of_getElem? (i := 187) (by decide +kernel))), (List.forall_mem_cons.mpr ⟨(zm_3 (List.mem_of_getElem? (i := 188) (by decide +kernel))), (List.forall_mem_cons.mpr ⟨(zm_3 (List.mem_of_getElem? (i := 189) (by decide +kernel))), (List.forall_mem_cons.mpr ⟨(zm_3 (List.mem_of_getElem? (i := 191) (by decide +kernel))), (List.forall_mem_cons.mpr ⟨(zm_0 (List.mem_of_getElem? (i := 7) (by decide +kernel))), (List.forall_mem_cons.mpr ⟨(zm_3 (List.mem_of_getElem? (i := 192) (by decide +kernel))), (List.forall_mem_cons.mpr ⟨(zm_3 (List.mem_of_getElem? (i := 67) (by decide +kernel))), (List.forall_mem_cons.mpr ⟨(zm_3 (List.mem_of_getElem? (i := 68) (by decide +kernel))), (List.forall_mem_cons.mpr ⟨(zm_3 (List.mem_of_getElem? (i := 193) (by decide +kernel))), (List.forall_mem_cons.mpr ⟨(zm_3 (List.mem_of_getElem? (i := 195) (by decide +kernel))), (List.forall_mem_cons.mpr ⟨(zm_0 (List.mem_of_getElem? (i := 8) (by decide +kernel))), (List.forall_mem_cons.mpr ⟨(zm_3 (List.mem_of_getElem? (i := 196) (by decide +kernel))), (List.forall_mem_cons.mpr ⟨(zm_3 (List.mem_of_getElem? (i := 197) (by decide +kernel))), (List.forall_mem_cons.mpr ⟨(zm_3 (List.mem_of_getElem? (i := 199) (by decide +kernel))), (List.forall_mem_cons.mpr ⟨(zm_0 (List.mem_of_getElem? (i := 9) (by decide +kernel))), (List.forall_mem_cons.mpr ⟨(zm_3 (List.mem_of_getElem? (i := 200) (by decide +kernel))), (List.forall_mem_cons.mpr ⟨(zm_3 (List.mem_of_getElem? (i := 201) (by decide +kernel))), (List.forall_mem_cons.mpr ⟨(zm_3 (List.mem_of_getElem? (i := 202) (by decide +kernel))), (List.forall_mem_cons.mpr ⟨(zm_3 (List.mem_of_getElem? (i := 203) (by decide +kernel))), (List.forall_mem_cons.mpr ⟨(zm_1 (List.mem_of_getElem? (i := 237) (by decide +kernel))), (List.forall_mem_cons.mpr ⟨(zm_1 (List.mem_of_getElem? (i := 238) (by decide +kernel))), (fun _ h => absurd h List.not_mem_nil)⟩)⟩)⟩)⟩)⟩)⟩)⟩)⟩)⟩)⟩)⟩)⟩)⟩)⟩)⟩)⟩)⟩)⟩)⟩)⟩)⟩)⟩)⟩)⟩)
theorem zin_r8 : ∀ w ∈ wsL_law_r8, w ∈ lw_tbl := (List.forall_mem_cons.mpr ⟨(zm_1 (List.mem_of_getElem? (i := 239) (by decide +kernel))), (List.forall_mem_cons.mpr ⟨(zm_2 (List.mem_of_getElem? (i := 0) (by decide +kernel))), (List.forall_mem_cons.mpr ⟨(zm_1 (List.mem_of_getElem? (i := 157) (by decide +kernel))), (List.forall_mem_cons.mpr ⟨(zm_1 (List.mem_of_getElem? (i := 161) (by decide +kernel))), (List.forall_mem_cons.mpr ⟨(zm_1 (List.mem_of_getElem? (i := 162) (by decide +kernel))), (List.forall_mem_cons.mpr ⟨(zm_2 (List.mem_of_getElem? (i := 1) (by decide +kernel))), (List.forall_mem_cons.mpr ⟨(zm_2 (List.mem_of_getElem? (i := 2) (by decide +kernel))), (List.forall_mem_cons.mpr ⟨(zm_2 (List.mem_of_getElem? (i := 3) (by decide +kernel))), (List.forall_mem_cons.mpr ⟨(zm_2 (List.mem_of_getElem? (i := 4) (by decide +kernel))), (List.forall_mem_cons.mpr ⟨(zm_2 (List.mem_of_getElem? (i := 5) (by decide +kernel))), (List.forall_mem_cons.mpr ⟨(zm_2 (List.mem_of_getElem? (i := 6) (by decide +kernel))), (List.forall_mem_cons.mpr ⟨(zm_2 (List.mem_of_getElem? (i := 7) (by decide +kernel))), (List.forall_mem_cons.mpr ⟨(zm_2 (List.mem_of_getElem? (i := 8) (by decide +kernel))), (List.forall_mem_cons.mpr ⟨(zm_2 (List.mem_of_getElem? (i := 9) (by decide +kernel))), (List.forall_mem_cons.mpr ⟨(zm_2 (List.mem_of_getElem? (i := 10) (by decide +kernel))), (List.forall_mem_cons.mpr ⟨(zm_1 (List.mem_of_getElem? (i := 39) (by decide +kernel))), (List.forall_mem_cons.mpr ⟨(zm_1 (List.mem_of_getElem? (i := 41) (by decide +kernel))), (List.forall_mem_cons.mpr ⟨(zm_1 (List.mem_of_getElem? (i := 44) (by decide +kernel))), (List.forall_mem_cons.mpr ⟨(zm_2 (List.mem_of_getElem? (i := 15) (by decide +kernel))), (List.forall_mem_cons.mpr ⟨(zm_2 (List.mem_of_getElem? (i := 17) (by decide +kernel))), (List.forall_mem_cons.mpr ⟨(zm_0 (List.mem_of_getElem? (i := 2) (by decide +kernel))), (List.forall_mem_cons.mpr ⟨(zm_2 (List.mem_of_getElem? (i := 18) (by decide +kernel))), (List.forall_mem_cons.mpr ⟨(zm_2 (List.mem_of_getElem? (i := 19) (by decide +kernel))), (List.forall_mem_cons.mpr ⟨(zm_2 (List.mem_of_getElem? (i := 20) (by decide +kernel))), (fun _ h => absurd h List.not_mem_nil)⟩)⟩)⟩)⟩)⟩)⟩)⟩)⟩)⟩)⟩)⟩)⟩)⟩)⟩)⟩)⟩)⟩)⟩)⟩)⟩)⟩)⟩)⟩)⟩)
theorem zin_r9 : ∀ w ∈ wsL_law_r9, w ∈ lw_tbl := (List.forall_mem_cons.mpr ⟨(zm_2 (List.mem_of_getElem? (i := 21) (by decide +kernel))), (List.forall_mem_cons.mpr ⟨(zm_2 (List.mem_of_getElem? (i := 22) (by decide +kernel))), (List.forall_mem_cons.mpr ⟨(zm_1 (List.mem_of_getElem? (i := 63) (by decide +kernel))), (List.forall_mem_cons.mpr ⟨(zm_1 (List.mem_of_getElem? (i := 65) (by decide +kernel))), (List.forall_mem_cons.mpr ⟨(zm_1 (List.mem_of_getElem? (i := 67) (by decide +kernel))), (List.forall_mem_cons.mpr ⟨(zm_1 (List.mem_of_getElem? (i := 69) (by decide +kernel))), (List.forall_mem_cons.mpr ⟨(zm_2 (List.mem_of_getElem? (i := 23) (by decide +kernel))), (List.forall_mem_cons.mpr ⟨(zm_2 (List.mem_of_getElem? (i := 24) (by decide +kernel))), (List.forall_mem_cons.mpr ⟨(zm_2 (List.mem_of_getElem? (i := 25) (by decide +kernel))), (List.forall_mem_cons.mpr ⟨(zm_2 (List.mem_of_getElem? (i := 27) (by decide +kernel))), (List.forall_mem_cons.mpr ⟨(zm_0 (List.mem_of_getElem? (i := 3) (by decide +kernel))), (List.forall_mem_cons.mpr ⟨(zm_2 (List.mem_of_getElem? (i := 28) (by decide +kernel))), (List.forall_mem_cons.mpr ⟨(zm_2 (List.mem_of_getElem? (i := 29) (by decide +kernel))), (List.forall_mem_cons.mpr ⟨(zm_2 (List.mem_of_getElem? (i := 30) (by decide +kernel))), (List.forall_mem_cons.mpr ⟨(zm_2 (List.mem_of_getElem? (i := 31) (by decide +kernel))), (List.forall_mem_cons.mpr ⟨(zm_2 (List.mem_of_getElem? (i := 32) (by decide +kernel))), (List.forall_mem_cons.mpr ⟨(zm_2 (List.mem_of_getElem? (i := 33) (by decide +kernel))), (List.forall_mem_cons.mpr ⟨(zm_2 (List.mem_of_getElem? (i := 34) (by decide +kernel))), (List.forall_mem_cons.mpr ⟨(zm_2 (List.mem_of_getElem? (i := 35) (by decide +kernel))), (List.forall_mem_cons.mpr ⟨(zm_2 (List.mem_of_getElem? (i := 36) (by decide +kernel))), (List.forall_mem_cons.mpr ⟨(zm_2 (List.mem_of_getElem? (i := 37) (by decide +kernel))), (List.forall_mem_cons.mpr ⟨(zm_2 (List.mem_of_getElem? (i := 38) (by decide +kernel))), (List.forall_mem_cons.mpr ⟨(zm_2 (List.mem_of_getElem? (i := 39) (by decide +kernel))), (List.forall_mem_cons.mpr ⟨(zm_2 (List.mem_of_getElem? (i := 40) (by decide +kernel))), (fun _ h => absurd h List.not_mem_nil)⟩)⟩)⟩)⟩)⟩)⟩)⟩)⟩)⟩)⟩)⟩)⟩)⟩)⟩)⟩)⟩)⟩)⟩)⟩)⟩)⟩)⟩)⟩)⟩)
theorem zin_r10 : ∀ w ∈ wsL_law_r10, w ∈ lw_tbl := (List.forall_mem_cons.mpr ⟨(zm_3 (List.mem_of_getElem? (i := 204) (by decide +kernel))), (List.forall_mem_cons.mpr ⟨(zm_3 (List.mem_of_getElem? (i := 205) (by decide +kernel))), (List.forall_mem_cons.mpr ⟨(zm_3 (List.mem_of_getElem? (i := 206) (by decide +kernel))), (List.forall_mem_cons.mpr ⟨(zm_3 (List.mem_of_getElem? (i := 207) (by decide +kernel))), (List.forall_mem_cons.mpr ⟨(zm_3 (List.mem_of_getElem? (i := 53) (by decide +kernel))), (List.forall_mem_cons.mpr ⟨(zm_3 (List.mem_of_getElem? (i := 54) (by decide +kernel))), (List.forall_mem_cons.mpr ⟨(zm_3 (List.mem_of_getElem? (i := 55) (by decide +kernel))), (List.forall_mem_cons.mpr ⟨(zm_3 (List.mem_of_getElem? (i := 56) (by decide +kernel))), (List.forall_mem_cons.mpr ⟨(zm_3 (List.mem_of_getElem? (i := 59) (by decide +kernel))), (List.forall_mem_cons.mpr ⟨(zm_3 (List.mem_of_getElem? (i := 52) (by decide +kernel))), (List.forall_mem_cons.mpr ⟨(zm_3 (List.mem_of_getElem? (i := 61) (by decide +kernel))), (List.forall_mem_cons.mpr ⟨(zm_3 (List.mem_of_getElem? (i := 208) (by decide +kernel))), (List.forall_mem_cons.mpr ⟨(zm_3 (List.mem_of_getElem? (i := 210) (by decide +kernel))), (List.forall_mem_cons.mpr ⟨(zm_0 (List.mem_of_getElem? (i := 10) (by decide +kernel))), (List.forall_mem_cons.mpr ⟨(zm_3 (List.mem_of_getElem? (i := 211) (by decide +kernel))), (List.forall_mem_cons.mpr ⟨(zm_2 (List.mem_of_getElem? (i := 41) (by decide +kernel))), (List.forall_mem_cons.mpr ⟨(zm_2 (List.mem_of_getElem? (i := 42) (by decide +kernel))), (List.forall_mem_cons.mpr ⟨(zm_2 (List.mem_of_getElem? (i := 43) (by decide +kernel))), (List.forall_mem_cons.mpr ⟨(zm_2 (List.mem_of_getElem? (i := 44) (by decide +kernel))), (List.forall_mem_cons.mpr ⟨(zm_2 (List.mem_of_getElem? (i := 45) (by decide +kernel))), (List.forall_mem_cons.mpr ⟨(zm_2 (List.mem_of_getElem? (i := 46) (by decide +kernel))), (List.forall_mem_cons.mpr ⟨(zm_2 (List.mem_of_getElem? (i := 47) (by decide +kernel))), (List.forall_mem_cons.mpr ⟨(zm_2 (List.mem_of_getElem? (i := 48) (by decide +kernel))), (List.forall_mem_cons.mpr ⟨(zm_2 (List.mem_of_getElem? (i := 49) (by decide +kernel))), (fun _ h => absurd h List.not_mem_nil)⟩)⟩)⟩)⟩)⟩)⟩)⟩)⟩)⟩)⟩)⟩)⟩)⟩)⟩)⟩)⟩)⟩)⟩)⟩)⟩)⟩)⟩)⟩)⟩)
theorem zin_r11 : ∀ w ∈ wsL_law_r11, w ∈ lw_tbl := (List.forall_mem_cons.mpr ⟨(zm_2 (List.mem_of_getElem? (i := 50) (by decide +kernel))), (List.forall_mem_cons.mpr ⟨(zm_2 (List.mem_of_getElem? (i := 51) (by decide +kernel))), (List.forall_mem_cons.mpr ⟨(zm_2 (List.mem_of_getElem? (i := 52) (by decide +kernel))), (List.forall_mem_cons.mpr ⟨(zm_2 (List.mem_of_getElem? (i := 53) (by decide +kernel))), (List.forall_mem_cons.mpr ⟨(zm_2 (List.mem_of_getElem? (i := 54) (by decide +kernel))), (List.forall_mem_cons.mpr ⟨(zm_2 (List.mem_of_getElem? (i := 55) (by decide +kernel))), (List.forall_mem_cons.mpr ⟨(zm_2 (List.mem_of_getElem? (i := 56) (by decide +kernel))), (List.forall_mem_cons.mpr ⟨(zm_2 (List.mem_of_getElem? (i := 57) (by decide +kernel))), (List.forall_mem_cons.mpr ⟨(zm_2 (List.mem_of_getElem? (i := 58) (by decide +kernel))), (List.forall_mem_cons.mpr ⟨(zm_2 (List.mem_of_getElem? (i := 59) (by decide +kernel))), (List.forall_mem_cons.mpr ⟨(zm_2 (List.mem_of_getElem? (i := 60) (by decide +kernel))), (List.forall_mem_cons.mpr ⟨(zm_2 (List.mem_of_getElem? (i := 61) (by decide +kernel))), (List.forall_mem_cons.mpr ⟨(zm_2 (List.mem_of_getElem? (i := 62) (by decide +kernel))), (List.forall_mem_cons.mpr ⟨(zm_2 (List.mem_of_getElem? (i := 63) (by decide +kernel))), (List.forall_mem_cons.mpr ⟨(zm_2 (List.mem_of_getElem? (i := 64) (by decide +kernel))), (List.forall_mem_cons.mpr ⟨(zm_2 (List.mem_of_getElem? (i := 65) (by decide +kernel))), (List.forall_mem_cons.mpr ⟨(zm_2 (List.mem_of_getElem? (i := 66) (by decide +kernel))), (List.forall_mem_cons.mpr ⟨(zm_2 (List.mem_of_getElem? (i := 67) (by decide +kernel))), (List.forall_mem_cons.mpr ⟨(zm_2 (List.mem_of_getElem? (i := 68) (by decide +kernel))), (List.forall_mem_cons.mpr ⟨(zm_2 (List.mem_of_getElem? (i := 69) (by decide +kernel))), (List.forall_mem_cons.mpr ⟨(zm_2 (List.mem_of_getElem? (i := 70) (by decide +kernel))), (List.forall_mem_cons.mpr ⟨(zm_2 (List.mem_of_getElem? (i := 71) (by decide +kernel))), (List.forall_mem_cons.mpr ⟨(zm_2 (List.mem_of_getElem? (i := 72) (by decide +kernel))), (List.forall_mem_cons.mpr ⟨(zm_2 (List.mem_of_getElem? (i := 74) (by decide +kernel))), (fun _ h => absurd h List.not_mem_nil)⟩)⟩)⟩)⟩)⟩)⟩)⟩)⟩)⟩)⟩)⟩)⟩)⟩)⟩)⟩)⟩)⟩)⟩)⟩)⟩)⟩)⟩)⟩)⟩)
theorem zin_r12 : ∀ w ∈ wsL_law_r12, w ∈ lw_tbl := (List.forall_mem_cons.mpr ⟨(zm_2 (List.mem_of_getElem? (i := 75) (by decide +kernel))), (List.forall_mem_cons.mpr ⟨(zm_2 (List.mem_of_getElem? (i := 76) (by decide +kernel))), (List.forall_mem_cons.mpr ⟨(zm_2 (List.mem_of_getElem? (i := 78) (by decide +kernel))), (List.forall_mem_cons.mpr ⟨(zm_2 (List.mem_of_getElem? (i := 79) (by decide +kernel))), (List.forall_mem_cons.mpr ⟨(zm_2 (List.mem_of_getElem? (i := 80) (by decide +kernel))), (List.forall_mem_cons.mpr ⟨(zm_2 (List.mem_of_getElem? (i := 82) (by decide +kernel))), (List.forall_mem_cons.mpr ⟨(zm_2 (List.mem_of_getElem? (i := 83) (by decide +kernel))), (List.forall_mem_cons.mpr ⟨(zm_2 (List.mem_of_getElem? (i := 84) (by decide +kernel))), (List.forall_mem_cons.mpr ⟨(zm_2 (List.mem_of_getElem? (i := 86) (by decide +kernel))), (List.forall_mem_cons.mpr ⟨(zm_2 (List.mem_of_getElem? (i := 87) (by decide +kernel))), (List.forall_mem_cons.mpr ⟨(zm_2 (List.mem_of_getElem? (i := 88) (by decide +kernel))), (List.forall_mem_cons.mpr ⟨(zm_2 (List.mem_of_getElem? (i := 89) (by decide +kernel))), (List.forall_mem_cons.mpr ⟨(zm_2 (List.mem_of_getElem? (i := 91) (by decide +kernel))), (List.forall_mem_cons.mpr ⟨(zm_2 (List.mem_of_getElem? (i := 92) (by decide +kernel))), (List.forall_mem_cons.mpr ⟨(zm_2 (List.mem_of_getElem? (i := 93) (by decide +kernel))), (List.forall_mem_cons.mpr ⟨(zm_2 (List.mem_of_getElem? (i := 94) (by decide +kernel))), (List.forall_mem_cons.mpr ⟨(zm_1 (List.mem_of_getElem? (i := 99) (by decide +kernel))), (List.forall_mem_cons.mpr ⟨(zm_2 (List.mem_of_getElem? (i := 95) (by decide +kernel))), (List.forall_mem_cons.mpr ⟨(zm_2 (List.mem_of_getElem? (i := 96) (by decide +kernel))), (List.forall_mem_cons.mpr ⟨(zm_2 (List.mem_of_getElem? (i := 97) (by decide +kernel))), (List.forall_mem_cons.mpr ⟨(zm_2 (List.mem_of_getElem? (i := 104) (by decide +kernel))), (List.forall_mem_cons.mpr ⟨(zm_2 (List.mem_of_getElem? (i := 105) (by decide +kernel))), (List.forall_mem_cons.mpr ⟨(zm_1 (List.mem_of_getElem? (i := 9) (by decide +kernel))), (List.forall_mem_cons.mpr ⟨(zm_2 (List.mem_of_getElem? (i := 106) (by decide +kernel))), (fun _ h => absurd h List.not_mem_nil)⟩)⟩)⟩)⟩)⟩)⟩)⟩)⟩)⟩)⟩)⟩)⟩)⟩)⟩)⟩)⟩)⟩)⟩)⟩)⟩)⟩)⟩)⟩)⟩)
theorem zin_r13 : ∀ w ∈ wsL_law_r13, w ∈ lw_tbl := (List.forall_mem_cons.mpr ⟨(zm_2 (List.mem_of_getElem? (i := 98) (by decide +kernel))), (List.forall_mem_cons.mpr ⟨(zm_2 (List.mem_of_getElem? (i := 99) (by decide +kernel))), (List.forall_mem_cons.mpr ⟨(zm_1 (List.mem_of_getElem? (i := 8) (by decide +kernel))), (List.forall_mem_cons.mpr ⟨(zm_2 (List.mem_of_getElem? (i := 100) (by decide +kernel))), (List.forall_mem_cons.mpr ⟨(zm_2 (List.mem_of_getElem? (i := 101) (by decide +kernel))), (List.forall_mem_cons.mpr ⟨(zm_2 (List.mem_of_getElem? (i := 102) (by decide +kernel))), (List.forall_mem_cons.mpr ⟨(zm_2 (List.mem_of_getElem? (i := 103) (by decide +kernel))), (List.forall_mem_cons.mpr ⟨(zm_3 (List.mem_of_getElem? (i := 212) (by decide +kernel))), (List.forall_mem_cons.mpr ⟨(zm_3 (List.mem_of_getElem? (i := 213) (by decide +kernel))), (List.forall_mem_cons.mpr ⟨(zm_3 (List.mem_of_getElem? (i := 214) (by decide +kernel))), (List.forall_mem_cons.mpr ⟨(zm_3 (List.mem_of_getElem? (i := 215) (by decide +kernel))), (List.forall_mem_cons.mpr ⟨(zm_3 (List.mem_of_getElem? (i := 216) (by decide +kernel))), (List.forall_mem_cons.mpr ⟨(zm_3 (List.mem_of_getElem? (i := 218) (by decide +kernel))), (List.forall_mem_cons.mpr ⟨(zm_0 (List.mem_of_getElem? (i := 11) (by decide +kernel))), (List.forall_mem_cons.mpr ⟨(zm_3 (List.mem_of_getElem? (i := 219) (by decide +kernel))), (List.forall_mem_cons.mpr ⟨(zm_3 (List.mem_of_getElem? (i := 220) (by decide +kernel))), (List.forall_mem_cons.mpr ⟨(zm_3 (List.mem_of_getElem? (i := 222) (by decide +kernel))), (List.forall_mem_cons.mpr ⟨(zm_0 (List.mem_of_getElem? (i := 12) (by decide +kernel))), (List.forall_mem_cons.mpr ⟨(zm_3 (List.mem_of_getElem? (i := 223) (by decide +kernel))), (List.forall_mem_cons.mpr ⟨(zm_3 (List.mem_of_getElem? (i := 224) (by decide +kernel))), (List.forall_mem_cons.mpr ⟨(zm_3 (List.mem_of_getElem? (i := 226) (by decide +kernel))), (List.forall_mem_cons.mpr ⟨(zm_0 (List.mem_of_getElem? (i := 13) (by decide +kernel))), (List.forall_mem_cons.mpr ⟨(zm_3 (List.mem_of_getElem? (i := 227) (by decide +kernel))), (List.forall_mem_cons.mpr ⟨(zm_3 (List.mem_of_getElem? (i := 228) (by decide +kernel))), (fun _ h => absurd h List.not_mem_nil)⟩)⟩)⟩)⟩)⟩)⟩)⟩)⟩)⟩)⟩)⟩)⟩)⟩)⟩)⟩)⟩)⟩)⟩)⟩)⟩)⟩)⟩)⟩)⟩)
theorem zin_r14 : ∀ w ∈ wsL_law_r14, w ∈ lw_tbl := (List.forall_mem_cons.mpr ⟨(zm_3 (List.mem_of_getElem? (i := 230) (by decide +kernel))), (List.forall_mem_cons.mpr ⟨(zm_0 (List.mem_of_getElem? (i := 14) (by decide +kernel))), (List.forall_mem_cons.mpr ⟨(zm_3 (List.mem_of_getElem? (i := 231) (by decide +kernel))), (List.forall_mem_cons.mpr ⟨(zm_3 (List.mem_of_getElem? (i := 232) (by decide +kernel))), (List.forall_mem_cons.mpr ⟨(zm_3 (List.mem_of_getElem? (i := 234) (by decide +kernel))), (List.forall_mem_cons.mpr ⟨(zm_0 (List.mem_of_getElem? (i := 15) (by decide +kernel))), (List.forall_mem_cons.mpr ⟨(zm_3 (List.mem_of_getElem? (i := 235) (by decide +kernel))), (List.forall_mem_cons.mpr ⟨(zm_3 (List.mem_of_getElem? (i := 236) (by decide +kernel))), (List.forall_mem_cons.mpr ⟨(zm_3 (List.mem_of_getElem? (i := 238) (by decide +kernel))), (List.forall_mem_cons.mpr ⟨(zm_0 (List.mem_of_getElem? (i := 16) (by decide +kernel))), (List.forall_mem_cons.mpr ⟨(zm_3 (List.mem_of_getElem? (i := 239) (by decide +kernel))), (List.forall_mem_cons.mpr ⟨(zm_4 (List.mem_of_getElem? (i := 0) (by decide +kernel))), (List.forall_mem_cons.mpr ⟨(zm_4 (List.mem_of_getElem? (i := 1) (by decide +kernel))), (List.forall_mem_cons.mpr ⟨(zm_4 (List.mem_of_getElem? (i := 2) (by decide +kernel))), (List.forall_mem_cons.mpr ⟨(zm_4 (List.mem_of_getElem? (i := 3) (by decide +kernel))), (List.forall_mem_cons.mpr ⟨(zm_4 (List.mem_of_getElem? (i := 5) (by decide +kernel))), (List.forall_mem_cons.mpr ⟨(zm_0 (List.mem_of_getElem? (i := 17) (by decide +kernel))), (List.forall_mem_cons.mpr ⟨(zm_4 (List.mem_of_getElem? (i := 6) (by decide +kernel))), (List.forall_mem_cons.mpr ⟨(zm_4 (List.mem_of_getElem? (i := 7) (by decide +kernel))), (List.forall_mem_cons.mpr ⟨(zm_4 (List.mem_of_getElem? (i := 8) (by decide +kernel))), (List.forall_mem_cons.mpr ⟨(zm_4 (List.mem_of_getElem? (i := 9) (by decide +kernel))), (List.forall_mem_cons.mpr ⟨(zm_4 (List.mem_of_getElem? (i := 10) (by decide +kernel))), (List.forall_mem_cons.mpr ⟨(zm_4 (List.mem_of_getElem? (i := 12) (by decide +kernel))), (List.forall_mem_cons.mpr ⟨(zm_0 (List.mem_of_getElem? (i := 18) (by decide +kernel))), (fun _ h => absurd h List.not_mem_nil)⟩)⟩)⟩)⟩)⟩)⟩)⟩)⟩)⟩)⟩)⟩)⟩)⟩)⟩)⟩)⟩)⟩)⟩)⟩)⟩)⟩)⟩)⟩)⟩)
theorem zin_r15 : ∀ w ∈ wsL_law_r15, w ∈ lw_tbl := (List.forall_mem_cons.mpr ⟨(zm_4 (List.mem_of_getElem? (i := 13) (by decide +kernel))), (List.forall_mem_cons.mpr ⟨(zm_4 (List.mem_of_getElem? (i := 14) (by decide +kernel))), (List.forall_mem_cons.mpr ⟨(zm_4 (List.mem_of_getElem? (i := 16) (by decide +kernel))), (List.forall_mem_cons.mpr ⟨(zm_0 (List.mem_of_getElem? (i := 19) (by decide +kernel))), (List.forall_mem_cons.mpr ⟨(zm_4 (List.mem_of_getElem? (i := 17) (by decide +kernel))), (List.forall_mem_cons.mpr ⟨(zm_4 (List.mem_of_getElem? (i := 18) (by decide +kernel))), (List.forall_mem_cons.mpr ⟨(zm_4 (List.mem_of_getElem? (i := 19) (by decide +kernel))), (List.forall_mem_cons.mpr ⟨(zm_4 (List.mem_of_getElem? (i := 20) (by decide +kernel))), (List.forall_mem_cons.mpr ⟨(zm_4 (List.mem_of_getElem? (i := 21) (by decide +kernel))), (List.forall_mem_cons.mpr ⟨(zm_4 (List.mem_of_getElem? (i := 23) (by decide +kernel))), (List.forall_mem_cons.mpr ⟨(zm_0 (List.mem_of_getElem? (i := 20) (by decide +kernel))), (List.forall_mem_cons.mpr ⟨(zm_4 (List.mem_of_getElem? (i := 24) (by decide +kernel))), (List.forall_mem_cons.mpr ⟨(zm_4 (List.mem_of_getElem? (i := 25) (by decide +kernel))), (List.forall_mem_cons.mpr ⟨(zm_4 (List.mem_of_getElem? (i := 26) (by decide +kernel))), (List.forall_mem_cons.mpr ⟨(zm_4 (List.mem_of_getElem? (i := 27) (by decide +kernel))), (List.forall_mem_cons.mpr ⟨(zm_4 (List.mem_of_getElem? (i := 28) (by decide +kernel))), (List.forall_mem_cons.mpr ⟨(zm_2 (List.mem_of_getElem? (i := 107) (by decide +kernel))), (List.forall_mem_cons.mpr ⟨(zm_2 (List.mem_of_getElem? (i := 108) (by decide +kernel))), (List.forall_mem_cons.mpr ⟨(zm_2 (List.mem_of_getElem? (i := 109) (by decide +kernel))), (List.forall_mem_cons.mpr ⟨(zm_2 (List.mem_of_getElem? (i := 110) (by decide +kernel))), (List.forall_mem_cons.mpr ⟨(zm_2 (List.mem_of_getElem? (i := 111) (by decide +kernel))), (List.forall_mem_cons.mpr ⟨(zm_4 (List.mem_of_getElem? (i := 29) (by decide +kernel))), (List.forall_mem_cons.mpr ⟨(zm_4 (List.mem_of_getElem? (i := 30) (by decide +kernel))), (List.forall_mem_cons.mpr ⟨(zm_4 (List.mem_of_getElem? (i := 31) (by decide +kernel))), (fun _ h => absurd h List.not_mem_nil)⟩)⟩)⟩)⟩)⟩)⟩)⟩)⟩)⟩)⟩)⟩)⟩)⟩)⟩)⟩)⟩)⟩)⟩)⟩)⟩)⟩)⟩)⟩)⟩)
theorem zin_r16 : ∀ w ∈ wsL_law_r16, w ∈ lw_tbl := (List.forall_mem_cons.mpr ⟨(zm_4 (List.mem_of_getElem? (i := 32) (by decide +kernel))), (List.forall_mem_cons.mpr ⟨(zm_2 (List.mem_of_getElem? (i := 113) (by decide +kernel))), (List.forall_mem_cons.mpr ⟨(zm_2 (List.mem_of_getElem? (i := 114) (by decide +kernel))), (List.forall_mem_cons.mpr ⟨(zm_2 (List.mem_of_getElem? (i := 115) (by decide +kernel))), (List.forall_mem_cons.mpr ⟨(zm_2 (List.mem_of_getElem? (i := 116) (by decide +kernel))), (List.forall_mem_cons.mpr ⟨(zm_2 (List.mem_of_getElem? (i := 117) (by decide +kernel))), (List.forall_mem_cons.mpr ⟨(zm_2 (List.mem_of_getElem? (i := 118) (by decide +kernel))), (List.forall_mem_cons.mpr ⟨(zm_2 (List.mem_of_getElem? (i := 119) (by decide +kernel))), (List.forall_mem_cons.mpr ⟨(zm_2 (List.mem_of_getElem? (i := 120) (by decide +kernel))), (List.forall_mem_cons.mpr ⟨(zm_2 (List.mem_of_getElem? (i := 121) (by decide +kernel))), (List.forall_mem_cons.mpr ⟨(zm_2 (List.mem_of_getElem? (i := 122) (by decide +kernel))), (List.forall_mem_cons.mpr ⟨(zm_4 (List.mem_of_getElem? (i := 33) (by decide +kernel))), (List.forall_mem_cons.mpr ⟨(zm_4 (List.mem_of_getElem? (i := 34) (by decide +kernel))), (List.forall_mem_cons.mpr ⟨(zm_4 (List.mem_of_getElem? (i := 35) (by decide +kernel))), (List.forall_mem_cons.mpr ⟨(zm_4 (List.mem_of_getElem? (i := 36) (by decide +kernel))), (List.forall_mem_cons.mpr ⟨(zm_4 (List.mem_of_getElem? (i := 37) (by decide +kernel))), (List.forall_mem_cons.mpr ⟨(zm_4 (List.mem_of_getElem? (i := 39) (by decide +kernel))), (List.forall_mem_cons.mpr ⟨(zm_0 (List.mem_of_getElem? (i := 21) (by decide +kernel))), (List.forall_mem_cons.mpr ⟨(zm_4 (List.mem_of_getElem? (i := 40) (by decide +kernel))), (List.forall_mem_cons.mpr ⟨(zm_4 (List.mem_of_getElem? (i := 41) (by decide +kernel))), (List.forall_mem_cons.mpr ⟨(zm_4 (List.mem_of_getElem? (i := 43) (by decide +kernel))), (List.forall_mem_cons.mpr ⟨(zm_0 (List.mem_of_getElem? (i := 22) (by decide +kernel))), (List.forall_mem_cons.mpr ⟨(zm_4 (List.mem_of_getElem? (i := 44) (by decide +kernel))), (List.forall_mem_cons.mpr ⟨(zm_2 (List.mem_of_getElem? (i := 123) (by decide +kernel))), (fun _ h => absurd h List.not_mem_nil)⟩)⟩)⟩)⟩)⟩)⟩)⟩)⟩)⟩)⟩)⟩)⟩)⟩)⟩)⟩)⟩)⟩)⟩)⟩)⟩)⟩)⟩)⟩)⟩)
theorem zin_r17 : ∀ w ∈ wsL_law_r17, w ∈ lw_tbl := (List.forall_mem_cons.mpr ⟨(zm_2 (List.mem_of_getElem? (i := 124) (by decide +kernel))), (List.forall_mem_cons.mpr ⟨(zm_2 (List.mem_of_getElem? (i := 125) (by decide +kernel))), (List.forall_mem_cons.mpr ⟨(zm_2 (List.mem_of_getElem? (i := 126) (by decide +kernel))), (List.forall_mem_cons.mpr ⟨(zm_2 (List.mem_of_getElem? (i := 127) (by decide +kernel))), (List.forall_mem_cons.mpr ⟨(zm_2 (List.mem_of_getElem? (i := 128) (by decide +kernel))), (List.forall_mem_cons.mpr ⟨(zm_2 (List.mem_of_getElem? (i := 129) (by decide +kernel))), (List.forall_mem_cons.mpr ⟨(zm_2 (List.mem_of_getElem? (i := 130) (by decide +kernel))), (List.forall_mem_cons.mpr ⟨(zm_2 (List.mem_of_getElem? (i := 131) (by decide +kernel))), (List.forall_mem_cons.mpr ⟨(zm_2 (List.mem_of_getElem? (i := 132) (by decide +kernel))), (List.forall_mem_cons.mpr ⟨(zm_2 (List.mem_of_getElem? (i := 133) (by decide +kernel))), (List.forall_mem_cons.mpr ⟨(zm_2 (List.mem_of_getElem? (i := 134) (by decide +kernel))), (List.forall_mem_cons.mpr ⟨(zm_2 (List.mem_of_getElem? (i := 135) (by decide +kernel))), (List.forall_mem_cons.mpr ⟨(zm_2 (List.mem_of_getElem? (i := 136) (by decide +kernel))), (List.forall_mem_cons.mpr ⟨(zm_2 (List.mem_of_getElem? (i := 137) (by decide +kernel))), (List.forall_mem_cons.mpr ⟨(zm_2 (List.mem_of_getElem? (i := 138) (by decide +kernel))), (List.forall_mem_cons.mpr ⟨(zm_2 (List.mem_of_getElem? (i := 139) (by decide +kernel))), (List.forall_mem_cons.mpr ⟨(zm_2 (List.mem_of_getElem? (i := 141) (by decide +kernel))), (List.forall_mem_cons.mpr ⟨(zm_0 (List.mem_of_getElem? (i := 4) (by decide +kernel))), (List.forall_mem_cons.mpr ⟨(zm_2 (List.mem_of_getElem? (i := 142) (by decide +kernel))), (List.forall_mem_cons.mpr ⟨(zm_4 (List.mem_of_getElem? (i := 45) (by decide +kernel))), (List.forall_mem_cons.mpr ⟨(zm_4 (List.mem_of_getElem? (i := 46) (by decide +kernel))), (List.forall_mem_cons.mpr ⟨(zm_4 (List.mem_of_getElem? (i := 47) (by decide +kernel))), (List.forall_mem_cons.mpr ⟨(zm_4 (List.mem_of_getElem? (i := 48) (by decide +kernel))), (List.forall_mem_cons.mpr ⟨(zm_4 (List.mem_of_getElem? (i := 49) (by decide +kernel))), (fun _ h => absurd h List.not_mem_nil)⟩)⟩)⟩)⟩)⟩)⟩)⟩)⟩)⟩)⟩)⟩)⟩)⟩)⟩)⟩)⟩)⟩)⟩)⟩)⟩)⟩)⟩)⟩)⟩)
theorem zin_r18 : ∀ w ∈ wsL_law_r18, w ∈ lw_tbl := (List.forall_mem_cons.mpr ⟨(zm_4 (List.mem_of_getElem? (i := 51) (by decide +kernel))), (List.forall_mem_cons.mpr ⟨(zm_0 (List.mem_of_getElem? (i := 23) (by decide +kernel))), (List.forall_mem_cons.mpr ⟨(zm_4 (List.mem_of_getElem? (i := 52) (by decide +kernel))), (List.forall_mem_cons.mpr ⟨(zm_4 (List.mem_of_getElem? (i := 53) (by decide +kernel))), (List.forall_mem_cons.mpr ⟨(zm_4 (List.mem_of_getElem? (i := 55) (by decide +kernel))), (List.forall_mem_cons.mpr ⟨(zm_0 (List.mem_of_getElem? (i := 24) (by decide +kernel))), (List.forall_mem_cons.mpr ⟨(zm_4 (List.mem_of_getElem? (i := 56) (by decide +kernel))), (List.forall_mem_cons.mpr ⟨(zm_2 (List.mem_of_getElem? (i := 143) (by decide +kernel))), (List.forall_mem_cons.mpr ⟨(zm_2 (List.mem_of_getElem? (i := 144) (by decide +kernel))), (List.forall_mem_cons.mpr ⟨(zm_2 (List.mem_of_getElem? (i := 145) (by decide +kernel))), (List.forall_mem_cons.mpr ⟨(zm_2 (List.mem_of_getElem? (i := 146) (by decide +kernel))), (List.forall_mem_cons.mpr ⟨(zm_2 (List.mem_of_getElem? (i := 147) (by decide +kernel))), (List.forall_mem_cons.mpr ⟨(zm_2 (List.mem_of_getElem? (i := 148) (by decide +kernel))), (List.forall_mem_cons.mpr ⟨(zm_4 (List.mem_of_getElem? (i := 57) (by decide +kernel))), (List.forall_mem_cons.mpr ⟨(zm_4 (List.mem_of_getElem? (i := 58) (by decide +kernel))), (List.forall_mem_cons.mpr ⟨(zm_4 (List.mem_of_getElem? (i := 59) (by decide +kernel))), (List.forall_mem_cons.mpr ⟨(zm_4 (List.mem_of_getElem? (i := 60) (by decide +kernel))), (List.forall_mem_cons.mpr ⟨(zm_4 (List.mem_of_getElem? (i := 61) (by decide +kernel))), (List.forall_mem_cons.mpr ⟨(zm_4 (List.mem_of_getElem? (i := 63) (by decide +kernel))), (List.forall_mem_cons.mpr ⟨(zm_0 (List.mem_of_getElem? (i := 25) (by decide +kernel))), (List.forall_mem_cons.mpr ⟨(zm_4 (List.mem_of_getElem? (i := 64) (by decide +kernel))), (List.forall_mem_cons.mpr ⟨(zm_2 (List.mem_of_getElem? (i := 149) (by decide +kernel))), (List.forall_mem_cons.mpr ⟨(zm_2 (List.mem_of_getElem? (i := 150) (by decide +kernel))), (List.forall_mem_cons.mpr ⟨(zm_2 (List.mem_of_getElem? (i := 151) (by decide +kernel))), (fun _ h => absurd h List.not_mem_nil)⟩)⟩)⟩)⟩)⟩)⟩)⟩)⟩)⟩)⟩)⟩)⟩)⟩)⟩)⟩)⟩)⟩)⟩)⟩)⟩)⟩)⟩)⟩)⟩)
theorem zin_r19 : ∀ w ∈ wsL_law_r19, w ∈ lw_tbl := (List.forall_mem_cons.mpr ⟨(zm_2 (List.mem_of_getElem? (i := 152) (by decide +kernel))), (List.forall_mem_cons.mpr ⟨(zm_4 (List.mem_of_getElem? (i := 65) (by decide +kernel))), (List.forall_mem_cons.mpr ⟨(zm_4 (List.mem_of_getElem? (i := 66) (by decide +kernel))), (List.forall_mem_cons.mpr ⟨(zm_4 (List.mem_of_getElem? (i := 67) (by decide +kernel))), (List.forall_mem_cons.mpr ⟨(zm_4 (List.mem_of_getElem? (i := 68) (by decide +kernel))), (List.forall_mem_cons.mpr ⟨(zm_2 (List.mem_of_getElem? (i := 153) (by decide +kernel))), (List.forall_mem_cons.mpr ⟨(zm_2 (List.mem_of_getElem? (i := 154) (by decide +kernel))), (List.forall_mem_cons.mpr ⟨(zm_2 (List.mem_of_getElem? (i := 155) (by decide +kernel))), (List.forall_mem_cons.mpr ⟨(zm_2 (List.mem_of_getElem? (i := 156) (by decide +kernel))), (List.forall_mem_cons.mpr ⟨(zm_4 (List.mem_of_getElem? (i := 69) (by decide +kernel))), (List.forall_mem_cons.mpr ⟨(zm_4 (List.mem_of_getElem? (i := 70) (by decide +kernel))), (List.forall_mem_cons.mpr ⟨(zm_4 (List.mem_of_getElem? (i := 71) (by decide +kernel))), (List.forall_mem_cons.mpr ⟨(zm_4 (List.mem_of_getElem? (i := 72) (by decide +kernel))), (List.forall_mem_cons.mpr ⟨(zm_2 (List.mem_of_getElem? (i := 157) (by decide +kernel))), (List.forall_mem_cons.mpr ⟨(zm_2 (List.mem_of_getElem? (i := 158) (by decide +kernel))), (List.forall_mem_cons.mpr ⟨(zm_2 (List.mem_of_getElem? (i := 159) (by decide +kernel))), (List.forall_mem_cons.mpr ⟨(zm_2 (List.mem_of_getElem? (i := 160) (by decide +kernel))), (List.forall_mem_cons.mpr ⟨(zm_2 (List.mem_of_getElem? (i := 161) (by decide +kernel))), (List.forall_mem_cons.mpr ⟨(zm_2 (List.mem_of_getElem? (i := 162) (by decide +kernel))), (List.forall_mem_cons.mpr ⟨(zm_2 (List.mem_of_getElem? (i := 163) (by decide +kernel))), (List.forall_mem_cons.mpr ⟨(zm_2 (List.mem_of_getElem? (i := 164) (by decide +kernel))), (List.forall_mem_cons.mpr ⟨(zm_4 (List.mem_of_getElem? (i := 73) (by decide +kernel))), (List.forall_mem_cons.mpr ⟨(zm_4 (List.mem_of_getElem? (i := 74) (by decide +kernel))), (List.forall_mem_cons.mpr ⟨(zm_4 (List.mem_of_getElem? (i := 75) (by decide +kernel))), (fun _ h => absurd h List.not_mem_nil)⟩)⟩)⟩)⟩)⟩)⟩)⟩)⟩)⟩)⟩)⟩)⟩)⟩)⟩)⟩)⟩)⟩)⟩)⟩)⟩)⟩)⟩)⟩)⟩)
theorem zin_r20 : ∀ w ∈ wsL_law_r20, w ∈ lw_tbl := (List.forall_mem_cons.mpr ⟨(zm_4 (List.mem_of_getElem? (i := 76) (by decide +kernel))), (List.forall_mem_cons.mpr ⟨(zm_2 (List.mem_of_getElem? (i := 165) (by decide +kernel))), (List.forall_mem_cons.mpr ⟨(zm_2 (List.mem_of_getElem? (i := 166) (by decide +kernel))), (List.forall_mem_cons.mpr ⟨(zm_2 (List.mem_of_getElem? (i := 167) (by decide +kernel))), (List.forall_mem_cons.mpr ⟨(zm_2 (List.mem_of_getElem? (i := 168) (by decide +kernel))), (List.forall_mem_cons.mpr ⟨(zm_2 (List.mem_of_getElem? (i := 169) (by decide +kernel))), (List.forall_mem_cons.mpr ⟨(zm_2 (List.mem_of_getElem? (i := 171) (by decide +kernel))), (List.forall_mem_cons.mpr ⟨(zm_0 (List.mem_of_getElem? (i := 5) (by decide +kernel))), (List.forall_mem_cons.mpr ⟨(zm_2 (List.mem_of_getElem? (i := 172) (by decide +kernel))), (List.forall_mem_cons.mpr ⟨(zm_2 (List.mem_of_getElem? (i := 173) (by decide +kernel))), (List.forall_mem_cons.mpr ⟨(zm_2 (List.mem_of_getElem? (i := 174) (by decide +kernel))), (List.forall_mem_cons.mpr ⟨(zm_2 (List.mem_of_getElem? (i := 175) (by decide +kernel))), (List.forall_mem_cons.mpr ⟨(zm_2 (List.mem_of_getElem? (i := 176) (by decide +kernel))), (List.forall_mem_cons.mpr ⟨(zm_2 (List.mem_of_getElem? (i := 177) (by decide +kernel))), (List.forall_mem_cons.mpr ⟨(zm_2 (List.mem_of_getElem? (i := 178) (by decide +kernel))), (List.forall_mem_cons.mpr ⟨(zm_2 (List.mem_of_getElem? (i := 179) (by decide +kernel))), (List.forall_mem_cons.mpr ⟨(zm_2 (List.mem_of_getElem? (i := 180) (by decide +kernel))), (List.forall_mem_cons.mpr ⟨(zm_2 (List.mem_of_getElem? (i := 181) (by decide +kernel))), (List.forall_mem_cons.mpr ⟨(zm_2 (List.mem_of_getElem? (i := 182) (by decide +kernel))), (List.forall_mem_cons.mpr ⟨(zm_2 (List.mem_of_getElem? (i := 183) (by decide +kernel))), (List.forall_mem_cons.mpr ⟨(zm_1 (List.mem_of_getElem? (i := 114) (by decide +kernel))), (List.forall_mem_cons.mpr ⟨(zm_1 (List.mem_of_getElem? (i := 115) (by decide +kernel))), (List.forall_mem_cons.mpr ⟨(zm_1 (List.mem_of_getElem? (i := 117) (by decide +kernel))), (List.forall_mem_cons.mpr ⟨(zm_1 (List.mem_of_getElem? (i := 119) (by decide +kernel))), (fun _ h => absurd h List.not_mem_nil)⟩)⟩)⟩)⟩)⟩)⟩)⟩)⟩)⟩)⟩)⟩)⟩)⟩)⟩)⟩)⟩)⟩)⟩)⟩)⟩)⟩)⟩)⟩)⟩)
theorem zin_r21 : ∀ w ∈ wsL_law_r21, w ∈ lw_tbl := (List.forall_mem_cons.mpr ⟨(zm_1 (List.mem_of_getElem? (i := 121) (by decide +kernel))), (List.forall_mem_cons.mpr ⟨(zm_1 (List.mem_of_getElem? (i := 123) (by decide +kernel))), (List.forall_mem_cons.mpr ⟨(zm_1 (List.mem_of_getElem? (i := 125) (by decide +kernel))), (List.forall_mem_cons.mpr ⟨(zm_1 (List.mem_of_getElem? (i := 127) (by decide +kernel))), (List.forall_mem_cons.mpr ⟨(zm_1 (List.mem_of_getElem? (i := 129) (by decide +kernel))), (List.forall_mem_cons.mpr ⟨(zm_2 (List.mem_of_getElem? (i := 184) (by decide +kernel))), (List.forall_mem_cons.mpr ⟨(zm_2 (List.mem_of_getElem? (i := 185) (by decide +kernel))), (List.forall_mem_cons.mpr ⟨(zm_2 (List.mem_of_getElem? (i := 186) (by decide +kernel))), (List.forall_mem_cons.mpr ⟨(zm_2 (List.mem_of_getElem? (i := 187) (by decide +kernel))), (List.forall_mem_cons.mpr ⟨(zm_2 (List.mem_of_getElem? (i := 188) (by decide +kernel))), (List.forall_mem_cons.mpr ⟨(zm_2 (List.mem_of_getElem? (i := 189) (by decide +kernel))), (List.forall_mem_cons.mpr ⟨(zm_2 (List.mem_of_getElem? (i := 190) (by decide +kernel))), (List.forall_mem_cons.mpr ⟨(zm_2 (List.mem_of_getElem? (i := 191) (by decide +kernel))), (List.forall_mem_cons.mpr ⟨(zm_2 (List.mem_of_getElem? (i := 192) (by decide +kernel))), (List.forall_mem_cons.mpr ⟨(zm_2 (List.mem_of_getElem? (i := 193) (by decide +kernel))), (List.forall_mem_cons.mpr ⟨(zm_2 (List.mem_of_getElem? (i := 194) (by decide +kernel))), (List.forall_mem_cons.mpr ⟨(zm_2 (List.mem_of_getElem? (i := 195) (by decide +kernel))), (List.forall_mem_cons.mpr ⟨(zm_2 (List.mem_of_getElem? (i := 196) (by decide +kernel))), (List.forall_mem_cons.mpr ⟨(zm_2 (List.mem_of_getElem? (i := 197) (by decide +kernel))), (List.forall_mem_cons.mpr ⟨(zm_2 (List.mem_of_getElem? (i := 198) (by decide +kernel))), (List.forall_mem_cons.mpr ⟨(zm_2 (List.mem_of_getElem? (i := 199) (by decide +kernel))), (List.forall_mem_cons.mpr ⟨(zm_2 (List.mem_of_getElem? (i := 200) (by decide +kernel))), (List.forall_mem_cons.mpr ⟨(zm_2 (List.mem_of_getElem? (i := 201) (by decide +kernel))), (List.forall_mem_cons.mpr ⟨(zm_4 (List.mem_of_getElem? (i := 77) (by decide +kernel))), (fun _ h => absurd h List.not_mem_nil)⟩)⟩)⟩)⟩)⟩)⟩)⟩)⟩)⟩)⟩)⟩)⟩)⟩)⟩)⟩)⟩)⟩)⟩)⟩)⟩)⟩)⟩)⟩)⟩)
theorem zin_r22 : ∀ w ∈ wsL_law_r22, w ∈ lw_tbl := (List.forall_mem_cons.mpr ⟨(zm_4 (List.mem_of_getElem? (i := 78) (by decide +kernel))), (List.forall_mem_cons.mpr ⟨(zm_4 (List.mem_of_getElem? (i := 79) (by decide +kernel))), (List.forall_mem_cons.mpr ⟨(zm_4 (List.mem_of_getElem? (i := 80) (by decide +kernel))), (List.forall_mem_cons.mpr ⟨(zm_4 (List.mem_of_getElem? (i := 81) (by decide +kernel))), (List.forall_mem_cons.mpr ⟨(zm_4 (List.mem_of_getElem? (i := 83) (by decide +kernel))), (List.forall_mem_cons.mpr ⟨(zm_0 (List.mem_of_getElem? (i := 26) (by decide +kernel))), (List.forall_mem_cons.mpr ⟨(zm_4 (List.mem_of_getElem? (i := 84) (by decide +kernel))), (List.forall_mem_cons.mpr ⟨(zm_4 (List.mem_of_getElem? (i := 85) (by decide +kernel))), (List.forall_mem_cons.mpr ⟨(zm_4 (List.mem_of_getElem? (i := 87) (by decide +kernel))), (List.forall_mem_cons.mpr ⟨(zm_0 (List.mem_of_getElem? (i := 27) (by decide +kernel))), (List.forall_mem_cons.mpr ⟨(zm_4 (List.mem_of_getElem? (i := 88) (by decide +kernel))), (List.forall_mem_cons.mpr ⟨(zm_4 (List.mem_of_getElem? (i := 89) (by decide +kernel))), (List.forall_mem_cons.mpr ⟨(zm_4 (List.mem_of_getElem? (i := 91) (by decide +kernel))), (List.forall_mem_cons.mpr ⟨(zm_0 (List.mem_of_getElem? (i := 28) (by decide +kernel))), (List.forall_mem_cons.mpr ⟨(zm_4 (List.mem_of_getElem? (i := 92) (by decide +kernel))), (List.forall_mem_cons.mpr ⟨(zm_4 (List.mem_of_getElem? (i := 93) (by decide +kernel))), (List.forall_mem_cons.mpr ⟨(zm_4 (List.mem_of_getElem? (i := 95) (by decide +kernel))), (List.forall_mem_cons.mpr ⟨(zm_0 (List.mem_of_getElem? (i := 29) (by decide +kernel))), (List.forall_mem_cons.mpr ⟨(zm_4 (List.mem_of_getElem? (i := 96) (by decide +kernel))), (List.forall_mem_cons.mpr ⟨(zm_4 (List.mem_of_getElem? (i := 97) (by decide +kernel))), (List.forall_mem_cons.mpr ⟨(zm_4 (List.mem_of_getElem? (i := 99) (by decide +kernel))), (List.forall_mem_cons.mpr ⟨(zm_0 (List.mem_of_getElem? (i := 30) (by decide +kernel))), (List.forall_mem_cons.mpr ⟨(zm_4 (List.mem_of_getElem? (i := 100) (by decide +kernel))), (List.forall_mem_cons.mpr ⟨(zm_4 (List.mem_of_getElem? (i := 101) (by decide +kernel))), (fun _ h => absurd h List.not_mem_nil)⟩)⟩)⟩)⟩)⟩)⟩)⟩)⟩)⟩)⟩)⟩)⟩)⟩)⟩)⟩)⟩)⟩)⟩)⟩)⟩)⟩)⟩)⟩)⟩)
theorem zin_r23 : ∀ w ∈ wsL_law_r23, w ∈ lw_tbl := (List.forall_mem_cons.mpr ⟨(zm_4 (List.mem_of_getElem? (i := 103) (by decide +kernel))), (List.forall_mem_cons.mpr ⟨(zm_0 (List.mem_of_getElem? (i := 31) (by decide +kernel))), (List.forall_mem_cons.mpr ⟨(zm_4 (List.mem_of_getElem? (i := 104) (by decide +kernel))), (List.forall_mem_cons.mpr ⟨(zm_4 (List.mem_of_getElem? (i := 105) (by decide +kernel))), (List.forall_mem_cons.mpr ⟨(zm_4 (List.mem_of_getElem? (i := 107) (by decide +kernel))), (List.forall_mem_cons.mpr ⟨(zm_0 (List.mem_of_getElem? (i := 32) (by decide +kernel))), (List.forall_mem_cons.mpr ⟨(zm_4 (List.mem_of_getElem? (i := 108) (by decide +kernel))), (List.forall_mem_cons.mpr ⟨(zm_2 (List.mem_of_getElem? (i := 202) (by decide +kernel))), (List.forall_mem_cons.mpr ⟨(zm_2 (List.mem_of_getElem? (i := 203) (by decide +kernel))), (List.forall_mem_cons.mpr ⟨(zm_2 (List.mem_of_getElem? (i := 204) (by decide +kernel))), (List.forall_mem_cons.mpr ⟨(zm_2 (List.mem_of_getElem? (i := 205) (by decide +kernel))), (List.forall_mem_cons.mpr ⟨(zm_4 (List.mem_of_getElem? (i := 109) (by decide +kernel))), (List.forall_mem_cons.mpr ⟨(zm_4 (List.mem_of_getElem? (i := 110) (by decide +kernel))), (List.forall_mem_cons.mpr ⟨(zm_4 (List.mem_of_getElem? (i := 111) (by decide +kernel))), (List.forall_mem_cons.mpr ⟨(zm_4 (List.mem_of_getElem? (i := 112) (by decide +kernel))), (List.forall_mem_cons.mpr ⟨(zm_4 (List.mem_of_getElem? (i := 113) (by decide +kernel))), (List.forall_mem_cons.mpr ⟨(zm_4 (List.mem_of_getElem? (i := 115) (by decide +kernel))), (List.forall_mem_cons.mpr ⟨(zm_0 (List.mem_of_getElem? (i := 33) (by decide +kernel))), (List.forall_mem_cons.mpr ⟨(zm_4 (List.mem_of_getElem? (i := 116) (by decide +kernel))), (List.forall_mem_cons.mpr ⟨(zm_2 (List.mem_of_getElem? (i := 206) (by decide +kernel))), (List.forall_mem_cons.mpr ⟨(zm_2 (List.mem_of_getElem? (i := 207) (by decide +kernel))), (List.forall_mem_cons.mpr ⟨(zm_2 (List.mem_of_getElem? (i := 208) (by decide +kernel))), (List.forall_mem_cons.mpr ⟨(zm_2 (List.mem_of_getElem? (i := 209) (by decide +kernel))), (List.forall_mem_cons.mpr ⟨(zm_1 (List.mem_of_getElem? (i := 163) (by decide +kernel))), (fun _ h => absurd h List.not_mem_nil)⟩)⟩)⟩)⟩)⟩)⟩)⟩)⟩)⟩)⟩)⟩)⟩)⟩)⟩)⟩)⟩)⟩)⟩)⟩)⟩)⟩)⟩)⟩)⟩)
theorem zin_r24 : ∀ w ∈ wsL_law_r24, w ∈ lw_tbl := (List.forall_mem_cons.mpr ⟨(zm_2 (List.mem_of_getElem? (i := 210) (by decide +kernel))), (List.forall_mem_cons.mpr ⟨(zm_2 (List.mem_of_getElem? (i := 212) (by decide +kernel))), (List.forall_mem_cons.mpr ⟨(zm_0 (List.mem_of_getElem? (i := 6) (by decide +kernel))), (List.forall_mem_cons.mpr ⟨(zm_2 (List.mem_of_getElem? (i := 213) (by decide +kernel))), (List.forall_mem_cons.mpr ⟨(zm_2 (List.mem_of_getElem? (i := 214) (by decide +kernel))), (List.forall_mem_cons.mpr ⟨(zm_2 (List.mem_of_getElem? (i := 215) (by decide +kernel))), (List.forall_mem_cons.mpr ⟨(zm_2 (List.mem_of_getElem? (i := 216) (by decide +kernel))), (List.forall_mem_cons.mpr ⟨(zm_2 (List.mem_of_getElem? (i := 217) (by decide +kernel))), (List.forall_mem_cons.mpr ⟨(zm_4 (List.mem_of_getElem? (i := 117) (by decide +kernel))), (List.forall_mem_cons.mpr ⟨(zm_4 (List.mem_of_getElem? (i := 118) (by decide +kernel))), (List.forall_mem_cons.mpr ⟨(zm_4 (List.mem_of_getElem? (i := 119) (by decide +kernel))), (List.forall_mem_cons.mpr ⟨(zm_4 (List.mem_of_getElem? (i := 120) (by decide +kernel))), (List.forall_mem_cons.mpr ⟨(zm_3 (List.mem_of_getElem? (i := 60) (by decide +kernel))), (List.forall_mem_cons.mpr ⟨(zm_4 (List.mem_of_getElem? (i := 121) (by decide +kernel))), (List.forall_mem_cons.mpr ⟨(zm_4 (List.mem_of_getElem? (i := 123) (by decide +kernel))), (List.forall_mem_cons.mpr ⟨(zm_0 (List.mem_of_getElem? (i := 34) (by decide +kernel))), (List.forall_mem_cons.mpr ⟨(zm_4 (List.mem_of_getElem? (i := 124) (by decide +kernel))), (List.forall_mem_cons.mpr ⟨(zm_2 (List.mem_of_getElem? (i := 218) (by decide +kernel))), (List.forall_mem_cons.mpr ⟨(zm_2 (List.mem_of_getElem? (i := 219) (by decide +kernel))), (List.forall_mem_cons.mpr ⟨(zm_2 (List.mem_of_getElem? (i := 220) (by decide +kernel))), (List.forall_mem_cons.mpr ⟨(zm_2 (List.mem_of_getElem? (i := 221) (by decide +kernel))), (List.forall_mem_cons.mpr ⟨(zm_4 (List.mem_of_getElem? (i := 125) (by decide +kernel))), (List.forall_mem_cons.mpr ⟨(zm_4 (List.mem_of_getElem? (i := 126) (by decide +kernel))), (List.forall_mem_cons.mpr ⟨(zm_4 (List.mem_of_getElem? (i := 127) (by decide +kernel))), (fun _ h => absurd h List.not_mem_nil)⟩)⟩)⟩)⟩)⟩)⟩)⟩)⟩)⟩)⟩)⟩)⟩)⟩)⟩)⟩)⟩)⟩)⟩)⟩)⟩)⟩)⟩)⟩)⟩)
theorem zin_r25 : ∀ w ∈ wsL_law_r25, w ∈ lw_tbl := (List.forall_mem_cons.mpr ⟨(zm_4 (List.mem_of_getElem? (i := 128) (by decide +kernel))), (List.forall_mem_cons.mpr ⟨(zm_4 (List.mem_of_getElem? (i := 129) (by decide +kernel))), (List.forall_mem_cons.mpr ⟨(zm_4 (List.mem_of_getElem? (i := 131) (by decide +kernel))), (List.forall_mem_cons.mpr ⟨(zm_0 (List.mem_of_getElem? (i := 35) (by decide +kernel))), (List.forall_mem_cons.mpr ⟨(zm_4 (List.mem_of_getElem? (i := 132) (by decide +kernel))), (List.forall_mem_cons.mpr ⟨(zm_2 (List.mem_of_getElem? (i := 222) (by decide +kernel))), (List.forall_mem_cons.mpr ⟨(zm_2 (List.mem_of_getElem? (i := 223) (by decide +kernel))), (List.forall_mem_cons.mpr ⟨(zm_2 (List.mem_of_getElem? (i := 224) (by decide +kernel))), (List.forall_mem_cons.mpr ⟨(zm_2 (List.mem_of_getElem? (i := 225) (by decide +kernel))), (List.forall_mem_cons.mpr ⟨(zm_2 (List.mem_of_getElem? (i := 226) (by decide +kernel))), (List.forall_mem_cons.mpr ⟨(zm_2 (List.mem_of_getElem? (i := 227) (by decide +kernel))), (List.forall_mem_cons.mpr ⟨(zm_2 (List.mem_of_getElem? (i := 228) (by decide +kernel))), (List.forall_mem_cons.mpr ⟨(zm_2 (List.mem_of_getElem? (i := 229) (by decide +kernel))), (List.forall_mem_cons.mpr ⟨(zm_4 (List.mem_of_getElem? (i := 133) (by decide +kernel))), (List.forall_mem_cons.mpr ⟨(zm_4 (List.mem_of_getElem? (i := 134) (by decide +kernel))), (List.forall_mem_cons.mpr ⟨(zm_4 (List.mem_of_getElem? (i := 135) (by decide +kernel))), (List.forall_mem_cons.mpr ⟨(zm_4 (List.mem_of_getElem? (i := 136) (by decide +kernel))), (List.forall_mem_cons.mpr ⟨(zm_2 (List.mem_of_getElem? (i := 230) (by decide +kernel))), (List.forall_mem_cons.mpr ⟨(zm_2 (List.mem_of_getElem? (i := 231) (by decide +kernel))), (List.forall_mem_cons.mpr ⟨(zm_2 (List.mem_of_getElem? (i := 232) (by decide +kernel))), (List.forall_mem_cons.mpr ⟨(zm_2 (List.mem_of_getElem? (i := 233) (by decide +kernel))), (List.forall_mem_cons.mpr ⟨(zm_4 (List.mem_of_getElem? (i := 137) (by decide +kernel))), (List.forall_mem_cons.mpr ⟨(zm_4 (List.mem_of_getElem? (i := 138) (by decide +kernel))), (List.forall_mem_cons.mpr ⟨(zm_4 (List.mem_of_getElem? (i := 139) (by decide +kernel))), (fun _ h => absurd h List.not_mem_nil)⟩)⟩)⟩)⟩)⟩)⟩)⟩)⟩)⟩)⟩)⟩)⟩)⟩)⟩)⟩)⟩)⟩)⟩)⟩)⟩)⟩)⟩)⟩)⟩)
theorem zin_r26 : ∀ w ∈ wsL_law_r26, w ∈ lw_tbl := (List.forall_mem_cons.mpr ⟨(zm_4 (List.mem_of_getElem? (i := 140) (by decide +kernel))), (List.forall_mem_cons.mpr ⟨(zm_2 (List.mem_of_getElem? (i := 234) (by decide +kernel))), (List.forall_mem_cons.mpr ⟨(zm_2 (List.mem_of_getElem? (i := 235) (by decide +kernel))), (List.forall_mem_cons.mpr ⟨(zm_2 (List.mem_of_getElem? (i := 236) (by decide +kernel))), (List.forall_mem_cons.mpr ⟨(zm_2 (List.mem_of_getElem? (i := 237) (by decide +kernel))), (List.forall_mem_cons.mpr ⟨(zm_3 (List.mem_of_getElem? (i := 10) (by decide +kernel))), (List.forall_mem_cons.mpr ⟨(zm_2 (List.mem_of_getElem? (i := 238) (by decide +kernel))), (List.forall_mem_cons.mpr ⟨(zm_2 (List.mem_of_getElem? (i := 239) (by decide +kernel))), (List.forall_mem_cons.mpr ⟨(zm_3 (List.mem_of_getElem? (i := 0) (by decide +kernel))), (List.forall_mem_cons.mpr ⟨(zm_3 (List.mem_of_getElem? (i := 1) (by decide +kernel))), (List.forall_mem_cons.mpr ⟨(zm_3 (List.mem_of_getElem? (i := 2) (by decide +kernel))), (List.forall_mem_cons.mpr ⟨(zm_3 (List.mem_of_getElem? (i := 3) (by decide +kernel))), (List.forall_mem_cons.mpr ⟨(zm_3 (List.mem_of_getElem? (i := 4) (by decide +kernel))), (List.forall_mem_cons.mpr ⟨(zm_3 (List.mem_of_getElem? (i := 5) (by decide +kernel))), (List.forall_mem_cons.mpr ⟨(zm_3 (List.mem_of_getElem? (i := 6) (by decide +kernel))), (List.forall_mem_cons.mpr ⟨(zm_3 (List.mem_of_getElem? (i := 7) (by decide +kernel))), (List.forall_mem_cons.mpr ⟨(zm_3 (List.mem_of_getElem? (i := 8) (by decide +kernel))), (List.forall_mem_cons.mpr ⟨(zm_3 (List.mem_of_getElem? (i := 9) (by decide +kernel))), (List.forall_mem_cons.mpr ⟨(zm_3 (List.mem_of_getElem? (i := 11) (by decide +kernel))), (List.forall_mem_cons.mpr ⟨(zm_3 (List.mem_of_getElem? (i := 12) (by decide +kernel))), (List.forall_mem_cons.mpr ⟨(zm_3 (List.mem_of_getElem? (i := 13) (by decide +kernel))), (List.forall_mem_cons.mpr ⟨(zm_3 (List.mem_of_getElem? (i := 14) (by decide +kernel))), (List.forall_mem_cons.mpr ⟨(zm_3 (List.mem_of_getElem? (i := 15) (by decide +kernel))), (List.forall_mem_cons.mpr ⟨(zm_3 (List.mem_of_getElem? (i := 16) (by decide +kernel))), (fun _ h => absurd h List.not_mem_nil)⟩)⟩)⟩)⟩)⟩)⟩)⟩)⟩)⟩)⟩)⟩)⟩)⟩)⟩)⟩)⟩)⟩)⟩)⟩)⟩)⟩)⟩)⟩)⟩)
theorem zin_r27 : ∀ w ∈ wsL_law_r27, w ∈ lw_tbl := (List.forall_mem_cons.mpr ⟨(zm_4 (List.mem_of_getElem? (i := 141) (by decide +kernel))), (List.forall_mem_cons.mpr ⟨(zm_4 (List.mem_of_getElem? (i := 142) (by decide +kernel))), (List.forall_mem_cons.mpr ⟨(zm_4 (List.mem_of_getElem? (i := 143) (by decide +kernel))), (List.forall_mem_cons.mpr ⟨(zm_4 (List.mem_of_getElem? (i := 144) (by decide +kernel))), (List.forall_mem_cons.mpr ⟨(zm_4 (List.mem_of_getElem? (i := 145) (by decide +kernel))), (List.forall_mem_cons.mpr ⟨(zm_4 (List.mem_of_getElem? (i := 147) (by decide +kernel))), (List.forall_mem_cons.mpr ⟨(zm_0 (List.mem_of_getElem? (i := 36) (by decide +kernel))), (List.forall_mem_cons.mpr ⟨(zm_4 (List.mem_of_getElem? (i := 148) (by decide +kernel))), (List.forall_mem_cons.mpr ⟨(zm_3 (List.mem_of_getElem? (i := 80) (by decide +kernel))), (List.forall_mem_cons.mpr ⟨(zm_4 (List.mem_of_getElem? (i := 149) (by decide +kernel))), (List.forall_mem_cons.mpr ⟨(zm_4 (List.mem_of_getElem? (i := 151) (by decide +kernel))), (List.forall_mem_cons.mpr ⟨(zm_0 (List.mem_of_getElem? (i := 37) (by decide +kernel))), (List.forall_mem_cons.mpr ⟨(zm_4 (List.mem_of_getElem? (i := 152) (by decide +kernel))), (List.forall_mem_cons.mpr ⟨(zm_4 (List.mem_of_getElem? (i := 153) (by decide +kernel))), (List.forall_mem_cons.mpr ⟨(zm_4 (List.mem_of_getElem? (i := 155) (by decide +kernel))), (List.forall_mem_cons.mpr ⟨(zm_0 (List.mem_of_getElem? (i := 38) (by decide +kernel))), (List.forall_mem_cons.mpr ⟨(zm_4 (List.mem_of_getElem? (i := 156) (by decide +kernel))), (List.forall_mem_cons.mpr ⟨(zm_4 (List.mem_of_getElem? (i := 157) (by decide +kernel))), (List.forall_mem_cons.mpr ⟨(zm_4 (List.mem_of_getElem? (i := 158) (by decide +kernel))), (List.forall_mem_cons.mpr ⟨(zm_4 (List.mem_of_getElem? (i := 159) (by decide +kernel))), (List.forall_mem_cons.mpr ⟨(zm_4 (List.mem_of_getElem? (i := 160) (by decide +kernel))), (List.forall_mem_cons.mpr ⟨(zm_4 (List.mem_of_getElem? (i := 161) (by decide +kernel))), (List.forall_mem_cons.mpr ⟨(zm_4 (List.mem_of_getElem? (i := 163) (by decide +kernel))), (List.forall_mem_cons.mpr ⟨(zm_0 (List.mem_of_getElem? (i := 39) (by decide +kernel))), (fun _ h => absurd h List.not_mem_nil)⟩)⟩)⟩)⟩)⟩)⟩)⟩)⟩)⟩)⟩)⟩)⟩)⟩)⟩)⟩)⟩)⟩)⟩)⟩)⟩)⟩)⟩)⟩)⟩)
theorem zin_r28 : ∀ w ∈ wsL_law_r28, w ∈ lw_tbl := (List.forall_mem_cons.mpr ⟨(zm_4 (List.mem_of_getElem? (i := 164) (by decide +kernel))), (List.forall_mem_cons.mpr ⟨(zm_3 (List.mem_of_getElem? (i := 17) (by decide +kernel))), (List.forall_mem_cons.mpr ⟨(zm_3 (List.mem_of_getElem? (i := 18) (by decide +kernel))), (List.forall_mem_cons.mpr ⟨(zm_3 (List.mem_of_getElem? (i := 19) (by decide +kernel))), (List.forall_mem_cons.mpr ⟨(zm_3 (List.mem_of_getElem? (i := 20) (by decide +kernel))), (List.forall_mem_cons.mpr ⟨(zm_3 (List.mem_of_getElem? (i := 21) (by decide +kernel))), (List.forall_mem_cons.mpr ⟨(zm_3 (List.mem_of_getElem? (i := 22) (by decide +kernel))), (List.forall_mem_cons.mpr ⟨(zm_3 (List.mem_of_getElem? (i := 23) (by decide +kernel))), (List.forall_mem_cons.mpr ⟨(zm_3 (List.mem_of_getElem? (i := 24) (by decide +kernel))), (List.forall_mem_cons.mpr ⟨(zm_4 (List.mem_of_getElem? (i := 165) (by decide +kernel))), (List.forall_mem_cons.mpr ⟨(zm_4 (List.mem_of_getElem? (i := 166) (by decide +kernel))), (List.forall_mem_cons.mpr ⟨(zm_4 (List.mem_of_getElem? (i := 167) (by decide +kernel))), (List.forall_mem_cons.mpr ⟨(zm_4 (List.mem_of_getElem? (i := 168) (by decide +kernel))), (List.forall_mem_cons.mpr ⟨(zm_3 (List.mem_of_getElem? (i := 81) (by decide +kernel))), (List.forall_mem_cons.mpr ⟨(zm_3 (List.mem_of_getElem? (i := 82) (by decide +kernel))), (List.forall_mem_cons.mpr ⟨(zm_3 (List.mem_of_getElem? (i := 83) (by decide +kernel))), (List.forall_mem_cons.mpr ⟨(zm_3 (List.mem_of_getElem? (i := 84) (by decide +kernel))), (List.forall_mem_cons.mpr ⟨(zm_3 (List.mem_of_getElem? (i := 85) (by decide +kernel))), (List.forall_mem_cons.mpr ⟨(zm_3 (List.mem_of_getElem? (i := 25) (by decide +kernel))), (List.forall_mem_cons.mpr ⟨(zm_3 (List.mem_of_getElem? (i := 26) (by decide +kernel))), (List.forall_mem_cons.mpr ⟨(zm_3 (List.mem_of_getElem? (i := 27) (by decide +kernel))), (List.forall_mem_cons.mpr ⟨(zm_3 (List.mem_of_getElem? (i := 28) (by decide +kernel))), (List.forall_mem_cons.mpr ⟨(zm_4 (List.mem_of_getElem? (i := 169) (by decide +kernel))), (List.forall_mem_cons.mpr ⟨(zm_4 (List.mem_of_getElem? (i := 170) (by decide +kernel))), (fun _ h => absurd h List.not_mem_nil)⟩)⟩)⟩)⟩)⟩)⟩)⟩)⟩)⟩)⟩)⟩)⟩)⟩)⟩)⟩)⟩)⟩)⟩)⟩)⟩)⟩)⟩)⟩)⟩)
theorem zin_r29 : ∀ w ∈ wsL_law_r29, w ∈ lw_tbl := (List.forall_mem_cons.mpr ⟨(zm_4 (List.mem_of_getElem? (i := 171) (by decide +kernel))), (List.forall_mem_cons.mpr ⟨(zm_4 (List.mem_of_getElem? (i := 172) (by decide +kernel))), (List.forall_mem_cons.mpr ⟨(zm_3 (List.mem_of_getElem? (i := 29) (by decide +kernel))), (List.forall_mem_cons.mpr ⟨(zm_3 (List.mem_of_getElem? (i := 30) (by decide +kernel))), (List.forall_mem_cons.mpr ⟨(zm_3 (List.mem_of_getElem? (i := 31) (by decide +kernel))), (List.forall_mem_cons.mpr ⟨(zm_3 (List.mem_of_getElem? (i := 32) (by decide +kernel))), (List.forall_mem_cons.mpr ⟨(zm_4 (List.mem_of_getElem? (i := 173) (by decide +kernel))), (List.forall_mem_cons.mpr ⟨(zm_4 (List.mem_of_getElem? (i := 174) (by decide +kernel))), (List.forall_mem_cons.mpr ⟨(zm_4 (List.mem_of_getElem? (i := 175) (by decide +kernel))), (List.forall_mem_cons.mpr ⟨(zm_4 (List.mem_of_getElem? (i := 176) (by decide +kernel))), (List.forall_mem_cons.mpr ⟨(zm_4 (List.mem_of_getElem? (i := 177) (by decide +kernel))), (List.forall_mem_cons.mpr ⟨(zm_4 (List.mem_of_getElem? (i := 179) (by decide +kernel))), (List.forall_mem_cons.mpr ⟨(zm_0 (List.mem_of_getElem? (i := 40) (by decide +kernel))), (List.forall_mem_cons.mpr ⟨(zm_4 (List.mem_of_getElem? (i := 180) (by decide +kernel))), (List.forall_mem_cons.mpr ⟨(zm_4 (List.mem_of_getElem? (i := 181) (by decide +kernel))), (List.forall_mem_cons.mpr ⟨(zm_4 (List.mem_of_getElem? (i := 183) (by decide +kernel))), (List.forall_mem_cons.mpr ⟨(zm_0 (List.mem_of_getElem? (i := 41) (by decide +kernel))), (List.forall_mem_cons.mpr ⟨(zm_4 (List.mem_of_getElem? (i := 184) (by decide +kernel))), (List.forall_mem_cons.mpr ⟨(zm_3 (List.mem_of_getElem? (i := 33) (by decide +kernel))), (List.forall_mem_cons.mpr ⟨(zm_3 (List.mem_of_getElem? (i := 34) (by decide +kernel))), (List.forall_mem_cons.mpr ⟨(zm_3 (List.mem_of_getElem? (i := 35) (by decide +kernel))), (List.forall_mem_cons.mpr ⟨(zm_3 (List.mem_of_getElem? (i := 36) (by decide +kernel))), (List.forall_mem_cons.mpr ⟨(zm_3 (List.mem_of_getElem? (i := 37) (by decide +kernel))), (List.forall_mem_cons.mpr ⟨(zm_3 (List.mem_of_getElem? (i := 38) (by decide +kernel))), (fun _ h => absurd h List.not_mem_nil)⟩)⟩)⟩)⟩)⟩)⟩)⟩)⟩)⟩)⟩)⟩)⟩)⟩)⟩)⟩)⟩)⟩)⟩)⟩)⟩)⟩)⟩)⟩)⟩)
theorem zin_r30 : ∀ w ∈ wsL_law_r30, w ∈ lw_tbl := (List.forall_mem_cons.mpr ⟨(zm_3 (List.mem_of_getElem? (i := 39) (by decide +kernel))), (List.forall_mem_cons.mpr ⟨(zm_3 (List.mem_of_getElem? (i := 40) (by decide +kernel))), (List.forall_mem_cons.mpr ⟨(zm_3 (List.mem_of_getElem? (i := 41) (by decide +kernel))), (List.forall_mem_cons.mpr ⟨(zm_3 (List.mem_of_getElem? (i := 42) (by decide +kernel))), (List.forall_mem_cons.mpr ⟨(zm_3 (List.mem_of_getElem? (i := 43) (by decide +kernel))), (List.forall_mem_cons.mpr ⟨(zm_3 (List.mem_of_getElem? (i := 44) (by decide +kernel))), (List.forall_mem_cons.mpr ⟨(zm_3 (List.mem_of_getElem? (i := 45) (by decide +kernel))), (List.forall_mem_cons.mpr ⟨(zm_4 (List.mem_of_getElem? (i := 185) (by decide +kernel))), (List.forall_mem_cons.mpr ⟨(zm_4 (List.mem_of_getElem? (i := 186) (by decide +kernel))), (List.forall_mem_cons.mpr ⟨(zm_4 (List.mem_of_getElem? (i := 187) (by decide +kernel))), (List.forall_mem_cons.mpr ⟨(zm_4 (List.mem_of_getElem? (i := 188) (by decide +kernel))), (List.forall_mem_cons.mpr ⟨(zm_4 (List.mem_of_getElem? (i := 189) (by decide +kernel))), (List.forall_mem_cons.mpr ⟨(zm_3 (List.mem_of_getElem? (i := 91) (by decide +kernel))), (List.forall_mem_cons.mpr ⟨(zm_4 (List.mem_of_getElem? (i := 190) (by decide +kernel))), (List.forall_mem_cons.mpr ⟨(zm_4 (List.mem_of_getElem? (i := 192) (by decide +kernel))), (List.forall_mem_cons.mpr ⟨(zm_0 (List.mem_of_getElem? (i := 42) (by decide +kernel))), (List.forall_mem_cons.mpr ⟨(zm_4 (List.mem_of_getElem? (i := 193) (by decide +kernel))), (List.forall_mem_cons.mpr ⟨(zm_4 (List.mem_of_getElem? (i := 194) (by decide +kernel))), (List.forall_mem_cons.mpr ⟨(zm_4 (List.mem_of_getElem? (i := 195) (by decide +kernel))), (List.forall_mem_cons.mpr ⟨(zm_4 (List.mem_of_getElem? (i := 197) (by decide +kernel))), (List.forall_mem_cons.mpr ⟨(zm_0 (List.mem_of_getElem? (i := 43) (by decide +kernel))), (List.forall_mem_cons.mpr ⟨(zm_4 (List.mem_of_getElem? (i := 198) (by decide +kernel))), (fun _ h => absurd h List.not_mem_nil)⟩)⟩)⟩)⟩)⟩)⟩)⟩)⟩)⟩)⟩)⟩)⟩)⟩)⟩)⟩)⟩)⟩)⟩)⟩)⟩)⟩)⟩)
theorem zin_x0 : ∀ w ∈ wsX00, w ∈ lw_tbl := by
  show ∀ w ∈ ([u_lay RX0 TX0 0, u_lay RX0 TX0 1, u_lay RX0 TX0 2, u_lay RX0 TX0 3] : List Cond), w ∈ lw_tbl
  exact (List.forall_mem_cons.mpr ⟨(zm_1 (List.mem_of_getElem? (i := 47) (by decide +kernel))), (List.forall_mem_cons.mpr ⟨(zm_1 (List.mem_of_getElem? (i := 49) (by decide +kernel))), (List.forall_mem_cons.mpr ⟨(zm_1 (List.mem_of_getElem? (i := 51) (by decide +kernel))), (List.forall_mem_cons.mpr ⟨(zm_1 (List.mem_of_getElem? (i := 53) (by decide +kernel))), (fun _ h => absurd h List.not_mem_nil)⟩)⟩)⟩)⟩)
theorem zin_x1 : ∀ w ∈ wsX10, w ∈ lw_tbl := by
  show ∀ w ∈ ([u_lay RX1 TX1 0, u_lay RX1 TX1 1, u_lay RX1 TX1 2, u_lay RX1 TX1 3, u_lay RX1 TX1 4, u_lay RX1 TX1 5, u_lay RX1 TX1 6, u_lay RX1 TX1 7, u_lay RX1 TX1 8] : List Cond), w ∈ lw_tbl
  exact (List.forall_mem_cons.mpr ⟨(zm_1 (List.mem_of_getElem? (i := 131) (by decide +kernel))), (List.forall_mem_cons.mpr ⟨(zm_1 (List.mem_of_getElem? (i := 133) (by decide +kernel))), (List.forall_mem_cons.mpr ⟨(zm_1 (List.mem_of_getElem? (i := 135) (by decide +kernel))), (List.forall_mem_cons.mpr ⟨(zm_1 (List.mem_of_getElem? (i := 137) (by decide +kernel))), (List.forall_mem_cons.mpr ⟨(zm_1 (List.mem_of_getElem? (i := 139) (by decide +kernel))), (List.forall_mem_cons.mpr ⟨(zm_1 (List.mem_of_getElem? (i := 141) (by decide +kernel))), (List.forall_mem_cons.mpr ⟨(zm_1 (List.mem_of_getElem? (i := 143) (by decide +kernel))), (List.forall_mem_cons.mpr ⟨(zm_1 (List.mem_of_getElem? (i := 145) (by decide +kernel))), (List.forall_mem_cons.mpr ⟨(zm_1 (List.mem_of_getElem? (i := 147) (by decide +kernel))), (fun _ h => absurd h List.not_mem_nil)⟩)⟩)⟩)⟩)⟩)⟩)⟩)⟩)⟩)
theorem zin_x2 : ∀ w ∈ wsX20, w ∈ lw_tbl := by
  show ∀ w ∈ ([u_lay RX2 TX2 0, u_lay RX2 TX2 1] : List Cond), w ∈ lw_tbl
  exact (List.forall_mem_cons.mpr ⟨(zm_1 (List.mem_of_getElem? (i := 27) (by decide +kernel))), (List.forall_mem_cons.mpr ⟨(zm_1 (List.mem_of_getElem? (i := 29) (by decide +kernel))), (fun _ h => absurd h List.not_mem_nil)⟩)⟩)
theorem zin_x3 : ∀ w ∈ wsX30, w ∈ lw_tbl := by
  show ∀ w ∈ ([u_lay RX3 TX3 0, u_lay RX3 TX3 1, u_lay RX3 TX3 2] : List Cond), w ∈ lw_tbl
  exact (List.forall_mem_cons.mpr ⟨(zm_1 (List.mem_of_getElem? (i := 101) (by decide +kernel))), (List.forall_mem_cons.mpr ⟨(zm_1 (List.mem_of_getElem? (i := 103) (by decide +kernel))), (List.forall_mem_cons.mpr ⟨(zm_1 (List.mem_of_getElem? (i := 105) (by decide +kernel))), (fun _ h => absurd h List.not_mem_nil)⟩)⟩)⟩)
theorem zin_x4 : ∀ w ∈ wsX40, w ∈ lw_tbl := by
  show ∀ w ∈ ([u_lay RX4 TX4 0, u_lay RX4 TX4 1, u_lay RX4 TX4 2, u_lay RX4 TX4 3, u_lay RX4 TX4 4, u_lay RX4 TX4 5, u_lay RX4 TX4 6, u_lay RX4 TX4 7] : List Cond), w ∈ lw_tbl
  exact (List.forall_mem_cons.mpr ⟨(zm_1 (List.mem_of_getElem? (i := 74) (by decide +kernel))), (List.forall_mem_cons.mpr ⟨(zm_1 (List.mem_of_getElem? (i := 76) (by decide +kernel))), (List.forall_mem_cons.mpr ⟨(zm_1 (List.mem_of_getElem? (i := 78) (by decide +kernel))), (List.forall_mem_cons.mpr ⟨(zm_1 (List.mem_of_getElem? (i := 80) (by decide +kernel))), (List.forall_mem_cons.mpr ⟨(zm_1 (List.mem_of_getElem? (i := 82) (by decide +kernel))), (List.forall_mem_cons.mpr ⟨(zm_1 (List.mem_of_getElem? (i := 84) (by decide +kernel))), (List.forall_mem_cons.mpr ⟨(zm_1 (List.mem_of_getElem? (i := 86) (by decide +kernel))), (List.forall_mem_cons.mpr ⟨(zm_1 (List.mem_of_getElem? (i := 88) (by decide +kernel))), (fun _ h => absurd h List.not_mem_nil)⟩)⟩)⟩)⟩)⟩)⟩)⟩)⟩)
theorem zin_x5 : ∀ w ∈ wsX50, w ∈ lw_tbl := by
  show ∀ w ∈ ([u_lay RX5 TX5 0, u_lay RX5 TX5 1, u_lay RX5 TX5 2, u_lay RX5 TX5 3, u_lay RX5 TX5 4, u_lay RX5 TX5 5, u_lay RX5 TX5 6, u_lay RX5 TX5 7, u_lay RX5 TX5 8, u_lay RX5 TX5 9, u_lay RX5 TX5 10, u_lay RX5 TX5 11, u_lay RX5 TX5 12] : List Cond), w ∈ lw_tbl
  exact (List.forall_mem_cons.mpr ⟨(zm_1 (List.mem_of_getElem? (i := 164) (by decide +kernel))), (List.forall_mem_cons.mpr ⟨(zm_1 (List.mem_of_getElem? (i := 166) (by decide +kernel))), (List.forall_mem_cons.mpr ⟨(zm_1 (List.mem_of_getElem? (i := 168) (by decide +kernel))), (List.forall_mem_cons.mpr ⟨(zm_1 (List.mem_of_getElem? (i := 170) (by decide +kernel))), (List.forall_mem_cons.mpr ⟨(zm_1 (List.mem_of_getElem? (i := 172) (by decide +kernel))), (List.forall_mem_cons.mpr ⟨(zm_1 (List.mem_of_getElem? (i := 174) (by decide +kernel))), (List.forall_mem_cons.mpr ⟨(zm_1 (List.mem_of_getElem? (i := 176) (by decide +kernel))), (List.forall_mem_cons.mpr ⟨(zm_1 (List.mem_of_getElem? (i := 178) (by decide +kernel))), (List.forall_mem_cons.mpr ⟨(zm_1 (List.mem_of_getElem? (i := 180) (by decide +kernel))), (List.forall_mem_cons.mpr ⟨(zm_1 (List.mem_of_getElem? (i := 182) (by decide +kernel))), (List.forall_mem_cons.mpr ⟨(zm_1 (List.mem_of_getElem? (i := 184) (by decide +kernel))), (List.forall_mem_cons.mpr ⟨(zm_1 (List.mem_of_getElem? (i := 186) (by decide +kernel))), (List.forall_mem_cons.mpr ⟨(zm_1 (List.mem_of_getElem? (i := 188) (by decide +kernel))), (fun _ h => absurd h List.not_mem_nil)⟩)⟩)⟩)⟩)⟩)⟩)⟩)⟩)⟩)⟩)⟩)⟩)⟩)
theorem zin_x6 : ∀ w ∈ wsX60, w ∈ lw_tbl := by
  show ∀ w ∈ ([u_lay RX6 TX6 0, u_lay RX6 TX6 1, u_lay RX6 TX6 2, u_lay RX6 TX6 3, u_lay RX6 TX6 4, u_lay RX6 TX6 5, u_lay RX6 TX6 6, u_lay RX6 TX6 7, u_lay RX6 TX6 8, u_lay RX6 TX6 9, u_lay RX6 TX6 10, u_lay RX6 TX6 11, u_lay RX6 TX6 12, u_lay RX6 TX6 13, u_lay RX6 TX6 14, u_lay RX6 TX6 15, u_lay RX6 TX6 16, u_lay RX6 TX6 17, u_lay RX6 TX6 18, u_lay RX6 TX6 19, u_lay RX6 TX6 20, u_lay RX6 TX6 21, u_lay RX6 TX6 22, u_lay RX6 TX6 23, u_lay RX6 TX6 24, u_lay RX6 TX6 25, u_lay RX6 TX6 26, u_lay RX6 TX6 27, u_lay RX6 TX6 28, u_lay RX6 TX6 29, u_lay RX6 TX6 30, u_lay RX6 TX6 31, u_lay RX6 TX6 32, u_lay RX6 TX6 33, u_lay RX6 TX6 34, u_lay RX6 TX6 35, u_lay RX6 TX6 36, u_lay RX6 TX6 37, u_lay RX6 TX6 38, u_lay RX6 TX6 39] : List Cond), w ∈ lw_tbl
  exact (List.forall_mem_cons.mpr ⟨(zm_3 (List.mem_of_getElem? (i := 92) (by decide +kernel))), (List.forall_mem_cons.mpr ⟨(zm_3 (List.mem_of_getElem? (i := 94) (by decide +kernel))), (List.forall_mem_cons.mpr ⟨(zm_3 (List.mem_of_getElem? (i := 96) (by decide +kernel))), (List.forall_mem_cons.mpr ⟨(zm_3 (List.mem_of_getElem? (i := 98) (by decide +kernel))), (List.forall_mem_cons.mpr ⟨(zm_3 (List.mem_of_getElem? (i := 100) (by decide +kernel))), (List.forall_mem_cons.mpr ⟨(zm_3 (List.mem_of_getElem? (i := 102) (by decide +kernel))), (List.forall_mem_cons.mpr ⟨(zm_3 (List.mem_of_getElem? (i := 104) (by decide +kernel))), (List.forall_mem_cons.mpr ⟨(zm_3 (List.mem_of_getElem? (i := 106) (by decide +kernel))), (List.forall_mem_cons.mpr ⟨(zm_3 (List.mem_of_getElem? (i := 108) (by decide +kernel))), (List.forall_mem_cons.mpr ⟨(zm_3 (List.mem_of_getElem? (i := 110) (by decide +kernel))), (List.forall_mem_cons.mpr ⟨(zm_3 (List.mem_of_getElem? (i := 112) (by decide +kernel))), (List.forall_mem_cons.mpr ⟨(zm_3 (List.mem_of_getElem? (i := 114) (by decide +kernel))), (List.forall_mem_cons.mpr ⟨(zm_3 (List.mem_of_getElem? (i := 116) (by decide +kernel))), (List.forall_mem_cons.mpr ⟨(zm_3 (List.mem_of_getElem? (i := 118) (by decide +kernel))), (List.forall_mem_cons.mpr ⟨(zm_3 (List.mem_of_getElem? (i := 120) (by decide +kernel))), (List.forall_mem_cons.mpr ⟨(zm_3 (List.mem_of_getElem? (i := 122) (by decide +kernel))), (List.forall_mem_cons.mpr ⟨(zm_3 (List.mem_of_getElem? (i := 124) (by decide +kernel))), (List.forall_mem_cons.mpr ⟨(zm_3 (List.mem_of_getElem? (i := 126) (by decide +kernel))), (List.forall_mem_cons.mpr ⟨(zm_3 (List.mem_of_getElem? (i := 128) (by decide +kernel))), (List.forall_mem_cons.mpr ⟨(zm_3 (List.mem_of_getElem? (i := 130) (by decide +kernel))), (List.forall_mem_cons.mpr ⟨(zm_3 (List.mem_of_getElem? (i := 132) (by decide +kernel))), (List.forall_mem_cons.mpr ⟨(zm_3 (List.mem_of_getElem? (i := 134) (by decide +kernel))), (List.forall_mem_cons.mpr ⟨(zm_3 (List.mem_of_getElem? (i := 136) (by decide +kernel))), (List.forall_mem_cons.mpr ⟨(zm_3 (List.mem_of_getElem? (i := 138) (by decide +kernel))), (List.forall_mem_cons.mpr ⟨(zm_3 (List.mem_of_getElem? (i := 140) (by decide +kernel))), (List.forall_mem_cons.mpr ⟨(zm_3 (List.mem_of_getElem? (i := 142) (by decide +kernel))), (List.forall_mem_cons.mpr ⟨(zm_3 (List.mem_of_getElem? (i := 144) (by decide +kernel))), (List.forall_mem_cons.mpr ⟨(zm_3 (List.mem_of_getElem? (i := 146) (by decide +kernel))), (List.forall_mem_cons.mpr ⟨(zm_3 (List.mem_of_getElem? (i := 148) (by decide +kernel))), (List.forall_mem_cons.mpr ⟨(zm_3 (List.mem_of_getElem? (i := 150) (by decide +kernel))), (List.forall_mem_cons.mpr ⟨(zm_3 (List.mem_of_getElem? (i := 152) (by decide +kernel))), (List.forall_mem_cons.mpr ⟨(zm_3 (List.mem_of_getElem? (i := 154) (by decide +kernel))), (List.forall_mem_cons.mpr ⟨(zm_3 (List.mem_of_getElem? (i := 156) (by decide +kernel))), (List.forall_mem_cons.mpr ⟨(zm_3 (List.mem_of_getElem? (i := 158) (by decide +kernel))), (List.forall_mem_cons.mpr ⟨(zm_3 (List.mem_of_getElem? (i := 160) (by decide +kernel))), (List.forall_mem_cons.mpr ⟨(zm_3 (List.mem_of_getElem? (i := 162) (by decide +kernel))), (List.forall_mem_cons.mpr ⟨(zm_3 (List.mem_of_getElem? (i := 164) (by decide +kernel))), (List.forall_mem_cons.mpr ⟨(zm_3 (List.mem_of_getElem? (i := 166) (by decide +kernel))), (List.forall_mem_cons.mpr ⟨(zm_3 (List.mem_of_getElem? (i := 168) (by decide +kernel))), (List.forall_mem_cons.mpr ⟨(zm_3 (List.mem_of_getElem? (i := 170) (by decide +kernel))), (fun _ h => absurd h List.not_mem_nil)⟩)⟩)⟩)⟩)⟩)⟩)⟩)⟩)⟩)⟩)⟩)⟩)⟩)⟩)⟩)⟩)⟩)⟩)⟩)⟩)⟩)⟩)⟩)⟩)⟩)⟩)⟩)⟩)⟩)⟩)⟩)⟩)⟩)⟩)⟩)⟩)⟩)⟩)⟩)⟩)
theorem wsL_law_in : ∀ w ∈ wsL_law, w ∈ lw_tbl := (List.forall_mem_append.mpr ⟨(List.forall_mem_append.mpr ⟨(List.forall_mem_append.mpr ⟨(List.forall_mem_append.mpr ⟨(List.forall_mem_append.mpr ⟨(List.forall_mem_append.mpr ⟨(List.forall_mem_append.mpr ⟨(List.forall_mem_append.mpr ⟨(List.forall_mem_append.mpr ⟨zin_r1, (List.forall_mem_append.mpr ⟨zin_r2, (List.forall_mem_append.mpr ⟨zin_r3, (List.forall_mem_append.mpr ⟨zin_r4, (List.forall_mem_append.mpr ⟨zin_r5, (List.forall_mem_append.mpr ⟨zin_r6, (List.forall_mem_append.mpr ⟨zin_r7, (List.forall_mem_append.mpr ⟨zin_r8, (List.forall_mem_append.mpr ⟨zin_r9, (List.forall_mem_append.mpr ⟨zin_r10, (List.forall_mem_append.mpr ⟨zin_r11, (List.forall_mem_append.mpr ⟨zin_r12, (List.forall_mem_append.mpr ⟨zin_r13, (List.forall_mem_append.mpr ⟨zin_r14, (List.forall_mem_append.mpr ⟨zin_r15, (List.forall_mem_append.mpr ⟨zin_r16, (List.forall_mem_append.mpr ⟨zin_r17, (List.forall_mem_append.mpr ⟨zin_r18, (List.forall_mem_append.mpr ⟨zin_r19, (List.forall_mem_append.mpr ⟨zin_r20, (List.forall_mem_append.mpr ⟨zin_r21, (List.forall_mem_append.mpr ⟨zin_r22, (List.forall_mem_append.mpr ⟨zin_r23, (List.forall_mem_append.mpr ⟨zin_r24, (List.forall_mem_append.mpr ⟨zin_r25, (List.forall_mem_append.mpr ⟨zin_r26, (List.forall_mem_append.mpr ⟨zin_r27, (List.forall_mem_append.mpr ⟨zin_r28, (List.forall_mem_append.mpr ⟨zin_r29, zin_r30⟩)⟩)⟩)⟩)⟩)⟩)⟩)⟩)⟩)⟩)⟩)⟩)⟩)⟩)⟩)⟩)⟩)⟩)⟩)⟩)⟩)⟩)⟩)⟩)⟩)⟩)⟩)⟩)⟩), zin_x5⟩), zin_x6⟩), zin_x2⟩), zin_x0⟩), zin_x4⟩), zin_x3⟩), zin_x1⟩), fun _ h => absurd h List.not_mem_nil⟩)
theorem inlX0 : ∀ w ∈ wsX00, w ∈ wsL_law := fun _ h => List.mem_append_left _ (List.mem_append_left _ (List.mem_append_left _ (List.mem_append_left _ (List.mem_append_right _ h))))
theorem inX0 : ∀ w ∈ wsX00, w ∈ lw_tbl := fun w h => wsL_law_in w (inlX0 w h)
theorem inlX1 : ∀ w ∈ wsX10, w ∈ wsL_law := fun _ h => List.mem_append_left _ (List.mem_append_right _ h)
theorem inX1 : ∀ w ∈ wsX10, w ∈ lw_tbl := fun w h => wsL_law_in w (inlX1 w h)
theorem inlX2 : ∀ w ∈ wsX20, w ∈ wsL_law := fun _ h => List.mem_append_left _ (List.mem_append_left _ (List.mem_append_left _ (List.mem_append_left _ (List.mem_append_left _ (List.mem_append_right _ h)))))
theorem inX2 : ∀ w ∈ wsX20, w ∈ lw_tbl := fun w h => wsL_law_in w (inlX2 w h)
theorem inlX3 : ∀ w ∈ wsX30, w ∈ wsL_law := fun _ h => List.mem_append_left _ (List.mem_append_left _ (List.mem_append_right _ h))
theorem inX3 : ∀ w ∈ wsX30, w ∈ lw_tbl := fun w h => wsL_law_in w (inlX3 w h)
theorem inlX4 : ∀ w ∈ wsX40, w ∈ wsL_law := fun _ h => List.mem_append_left _ (List.mem_append_left _ (List.mem_append_left _ (List.mem_append_right _ h)))
theorem inX4 : ∀ w ∈ wsX40, w ∈ lw_tbl := fun w h => wsL_law_in w (inlX4 w h)
theorem inlX5 : ∀ w ∈ wsX50, w ∈ wsL_law := fun _ h => List.mem_append_left _ (List.mem_append_left _ (List.mem_append_left _ (List.mem_append_left _ (List.mem_append_left _ (List.mem_append_left _ (List.mem_append_left _ (List.mem_append_right _ h)))))))
theorem inX5 : ∀ w ∈ wsX50, w ∈ lw_tbl := fun w h => wsL_law_in w (inlX5 w h)
theorem inlX6 : ∀ w ∈ wsX60, w ∈ wsL_law := fun _ h => List.mem_append_left _ (List.mem_append_left _ (List.mem_append_left _ (List.mem_append_left _ (List.mem_append_left _ (List.mem_append_left _ (List.mem_append_right _ h))))))
theorem inX6 : ∀ w ∈ wsX60, w ∈ lw_tbl := fun w h => wsL_law_in w (inlX6 w h)
theorem inJ6 : ∀ w ∈ wsJ60, w ∈ lw_tbl := by decide +kernel
theorem inJ9 : ∀ w ∈ wsJ90, w ∈ lw_tbl := by decide +kernel
end
section
theorem dX0_init_0 : decode cX0_init 0 = .ok (.aload_n 0, 1) := by decide +kernel
theorem dX0_init_1 : decode cX0_init 1 = .ok (.invokespecial 3, 3) := by decide +kernel
theorem dX0_init_4 : decode cX0_init 4 = .ok (.aload_n 0, 1) := by decide +kernel
theorem dX0_init_5 : decode cX0_init 5 = .ok (.bipush 96, 2) := by decide +kernel
theorem dX0_init_7 : decode cX0_init 7 = .ok (.newarray .int, 2) := by decide +kernel
theorem dX0_init_9 : decode cX0_init 9 = .ok (.putfield 9, 3) := by decide +kernel
theorem dX0_init_12 : decode cX0_init 12 = .ok (.return_, 1) := by decide +kernel
set_option maxRecDepth 20000 in
theorem ggX0_lay_X0_placeAt : GoodIn wsX0_lay wsX0_placeAt := goodIn_r _ [9, 1, 2, 10, 11, 12, 13] (by decide +kernel) (by decide +kernel)
set_option maxRecDepth 20000 in
theorem gX0_lay_X0_placeAt : GoodIn wsX0_lay (wsV RX0 31 RX0 yX0_placeAt wsX0_placeAt) := goodIn_app (goodIn_of _ (by decide +kernel)) ggX0_lay_X0_placeAt
theorem dX0_lay_0 : decode cX0_lay 0 = .ok (.iload_n 1, 1) := by decide +kernel
theorem dX0_lay_1 : decode cX0_lay 1 = .ok (.ifCond .le 21, 3) := by decide +kernel
theorem dX0_lay_4 : decode cX0_lay 4 = .ok (.iload_n 1, 1) := by decide +kernel
theorem dX0_lay_5 : decode cX0_lay 5 = .ok (.iconst 4, 1) := by decide +kernel
theorem dX0_lay_6 : decode cX0_lay 6 = .ok (.if_icmp .gt 16, 3) := by decide +kernel
theorem dX0_lay_9 : decode cX0_lay 9 = .ok (.iload_n 2, 1) := by decide +kernel
theorem dX0_lay_10 : decode cX0_lay 10 = .ok (.ifCond .le 12, 3) := by decide +kernel
theorem dX0_lay_13 : decode cX0_lay 13 = .ok (.iload_n 2, 1) := by decide +kernel
theorem dX0_lay_14 : decode cX0_lay 14 = .ok (.iconst 4, 1) := by decide +kernel
theorem dX0_lay_15 : decode cX0_lay 15 = .ok (.if_icmp .gt 7, 3) := by decide +kernel
theorem dX0_lay_18 : decode cX0_lay 18 = .ok (.iconst 1, 1) := by decide +kernel
theorem dX0_lay_19 : decode cX0_lay 19 = .ok (.goto 4, 3) := by decide +kernel
theorem dX0_lay_22 : decode cX0_lay 22 = .ok (.iconst 0, 1) := by decide +kernel
theorem dX0_lay_23 : decode cX0_lay 23 = .ok (.istore_n 3, 1) := by decide +kernel
theorem dX0_lay_24 : decode cX0_lay 24 = .ok (.iload_n 3, 1) := by decide +kernel
theorem dX0_lay_25 : decode cX0_lay 25 = .ok (.ifCond .eq 11, 3) := by decide +kernel
theorem dX0_lay_28 : decode cX0_lay 28 = .ok (.iload_n 1, 1) := by decide +kernel
theorem dX0_lay_29 : decode cX0_lay 29 = .ok (.iload_n 2, 1) := by decide +kernel
theorem dX0_lay_30 : decode cX0_lay 30 = .ok (.imul, 1) := by decide +kernel
theorem dX0_lay_31 : decode cX0_lay 31 = .ok (.bipush 12, 2) := by decide +kernel
theorem dX0_lay_33 : decode cX0_lay 33 = .ok (.if_icmp .le 4, 3) := by decide +kernel
theorem dX0_lay_36 : decode cX0_lay 36 = .ok (.return_, 1) := by decide +kernel
theorem dX0_lay_37 : decode cX0_lay 37 = .ok (.aload_n 0, 1) := by decide +kernel
theorem dX0_lay_38 : decode cX0_lay 38 = .ok (.iload_n 1, 1) := by decide +kernel
theorem dX0_lay_39 : decode cX0_lay 39 = .ok (.putfield 15, 3) := by decide +kernel
theorem dX0_lay_42 : decode cX0_lay 42 = .ok (.aload_n 0, 1) := by decide +kernel
theorem dX0_lay_43 : decode cX0_lay 43 = .ok (.iload_n 2, 1) := by decide +kernel
theorem dX0_lay_44 : decode cX0_lay 44 = .ok (.putfield 19, 3) := by decide +kernel
theorem dX0_lay_47 : decode cX0_lay 47 = .ok (.aload_n 0, 1) := by decide +kernel
theorem dX0_lay_48 : decode cX0_lay 48 = .ok (.iload_n 1, 1) := by decide +kernel
theorem dX0_lay_49 : decode cX0_lay 49 = .ok (.iload_n 2, 1) := by decide +kernel
theorem dX0_lay_50 : decode cX0_lay 50 = .ok (.imul, 1) := by decide +kernel
theorem dX0_lay_51 : decode cX0_lay 51 = .ok (.putfield 22, 3) := by decide +kernel
theorem dX0_lay_54 : decode cX0_lay 54 = .ok (.iconst 0, 1) := by decide +kernel
theorem dX0_lay_55 : decode cX0_lay 55 = .ok (.istore 4, 2) := by decide +kernel
theorem dX0_lay_57 : decode cX0_lay 57 = .ok (.iload 4, 2) := by decide +kernel
theorem dX0_lay_59 : decode cX0_lay 59 = .ok (.aload_n 0, 1) := by decide +kernel
theorem dX0_lay_60 : decode cX0_lay 60 = .ok (.getfield 15, 3) := by decide +kernel
theorem dX0_lay_63 : decode cX0_lay 63 = .ok (.if_icmp .ge 86, 3) := by decide +kernel
theorem dX0_lay_66 : decode cX0_lay 66 = .ok (.iconst 0, 1) := by decide +kernel
theorem dX0_lay_67 : decode cX0_lay 67 = .ok (.istore 5, 2) := by decide +kernel
theorem dX0_lay_69 : decode cX0_lay 69 = .ok (.iload 5, 2) := by decide +kernel
theorem dX0_lay_71 : decode cX0_lay 71 = .ok (.aload_n 0, 1) := by decide +kernel
theorem dX0_lay_72 : decode cX0_lay 72 = .ok (.getfield 19, 3) := by decide +kernel
theorem dX0_lay_75 : decode cX0_lay 75 = .ok (.if_icmp .ge 68, 3) := by decide +kernel
theorem dX0_lay_78 : decode cX0_lay 78 = .ok (.iconst 0, 1) := by decide +kernel
theorem dX0_lay_79 : decode cX0_lay 79 = .ok (.istore 6, 2) := by decide +kernel
theorem dX0_lay_81 : decode cX0_lay 81 = .ok (.iload 6, 2) := by decide +kernel
theorem dX0_lay_83 : decode cX0_lay 83 = .ok (.bipush 8, 2) := by decide +kernel
theorem dX0_lay_85 : decode cX0_lay 85 = .ok (.if_icmp .ge 52, 3) := by decide +kernel
theorem dX0_lay_88 : decode cX0_lay 88 = .ok (.aload_n 0, 1) := by decide +kernel
theorem dX0_lay_89 : decode cX0_lay 89 = .ok (.getfield 9, 3) := by decide +kernel
theorem dX0_lay_92 : decode cX0_lay 92 = .ok (.iload 4, 2) := by decide +kernel
theorem dX0_lay_94 : decode cX0_lay 94 = .ok (.aload_n 0, 1) := by decide +kernel
theorem dX0_lay_95 : decode cX0_lay 95 = .ok (.getfield 19, 3) := by decide +kernel
theorem dX0_lay_98 : decode cX0_lay 98 = .ok (.imul, 1) := by decide +kernel
theorem dX0_lay_99 : decode cX0_lay 99 = .ok (.iload 5, 2) := by decide +kernel
theorem dX0_lay_101 : decode cX0_lay 101 = .ok (.iadd, 1) := by decide +kernel
theorem dX0_lay_102 : decode cX0_lay 102 = .ok (.bipush 8, 2) := by decide +kernel
theorem dX0_lay_104 : decode cX0_lay 104 = .ok (.imul, 1) := by decide +kernel
theorem dX0_lay_105 : decode cX0_lay 105 = .ok (.iload 6, 2) := by decide +kernel
theorem dX0_lay_107 : decode cX0_lay 107 = .ok (.iadd, 1) := by decide +kernel
theorem dX0_lay_108 : decode cX0_lay 108 = .ok (.aload_n 0, 1) := by decide +kernel
theorem dX0_lay_109 : decode cX0_lay 109 = .ok (.iload 4, 2) := by decide +kernel
theorem dX0_lay_111 : decode cX0_lay 111 = .ok (.getstatic 25, 3) := by decide +kernel
theorem dX0_lay_114 : decode cX0_lay 114 = .ok (.iload 6, 2) := by decide +kernel
theorem dX0_lay_116 : decode cX0_lay 116 = .ok (.iaload, 1) := by decide +kernel
theorem dX0_lay_117 : decode cX0_lay 117 = .ok (.iadd, 1) := by decide +kernel
theorem dX0_lay_118 : decode cX0_lay 118 = .ok (.iload 5, 2) := by decide +kernel
theorem dX0_lay_120 : decode cX0_lay 120 = .ok (.getstatic 28, 3) := by decide +kernel
theorem dX0_lay_123 : decode cX0_lay 123 = .ok (.iload 6, 2) := by decide +kernel
theorem dX0_lay_125 : decode cX0_lay 125 = .ok (.iaload, 1) := by decide +kernel
theorem dX0_lay_126 : decode cX0_lay 126 = .ok (.iadd, 1) := by decide +kernel
theorem dX0_lay_127 : decode cX0_lay 127 = .ok (.invokevirtual 31, 3) := by decide +kernel
theorem dX0_lay_130 : decode cX0_lay 130 = .ok (.iastore, 1) := by decide +kernel
theorem dX0_lay_131 : decode cX0_lay 131 = .ok (.iinc 6 1, 3) := by decide +kernel
theorem dX0_lay_134 : decode cX0_lay 134 = .ok (.goto (-53), 3) := by decide +kernel
theorem dX0_lay_137 : decode cX0_lay 137 = .ok (.iinc 5 1, 3) := by decide +kernel
theorem dX0_lay_140 : decode cX0_lay 140 = .ok (.goto (-71), 3) := by decide +kernel
theorem dX0_lay_143 : decode cX0_lay 143 = .ok (.iinc 4 1, 3) := by decide +kernel
theorem dX0_lay_146 : decode cX0_lay 146 = .ok (.goto (-89), 3) := by decide +kernel
theorem dX0_lay_149 : decode cX0_lay 149 = .ok (.return_, 1) := by decide +kernel
theorem dX0_placeAt_0 : decode cX0_placeAt 0 = .ok (.iload_n 1, 1) := by decide +kernel
theorem dX0_placeAt_1 : decode cX0_placeAt 1 = .ok (.ifCond .lt 27, 3) := by decide +kernel
theorem dX0_placeAt_4 : decode cX0_placeAt 4 = .ok (.iload_n 1, 1) := by decide +kernel
theorem dX0_placeAt_5 : decode cX0_placeAt 5 = .ok (.aload_n 0, 1) := by decide +kernel
theorem dX0_placeAt_6 : decode cX0_placeAt 6 = .ok (.getfield 15, 3) := by decide +kernel
theorem dX0_placeAt_9 : decode cX0_placeAt 9 = .ok (.if_icmp .ge 19, 3) := by decide +kernel
theorem dX0_placeAt_12 : decode cX0_placeAt 12 = .ok (.iload_n 2, 1) := by decide +kernel
theorem dX0_placeAt_13 : decode cX0_placeAt 13 = .ok (.ifCond .lt 15, 3) := by decide +kernel
theorem dX0_placeAt_16 : decode cX0_placeAt 16 = .ok (.iload_n 2, 1) := by decide +kernel
theorem dX0_placeAt_17 : decode cX0_placeAt 17 = .ok (.aload_n 0, 1) := by decide +kernel
theorem dX0_placeAt_18 : decode cX0_placeAt 18 = .ok (.getfield 19, 3) := by decide +kernel
theorem dX0_placeAt_21 : decode cX0_placeAt 21 = .ok (.if_icmp .ge 7, 3) := by decide +kernel
theorem dX0_placeAt_24 : decode cX0_placeAt 24 = .ok (.iconst 1, 1) := by decide +kernel
theorem dX0_placeAt_25 : decode cX0_placeAt 25 = .ok (.goto 4, 3) := by decide +kernel
theorem dX0_placeAt_28 : decode cX0_placeAt 28 = .ok (.iconst 0, 1) := by decide +kernel
theorem dX0_placeAt_29 : decode cX0_placeAt 29 = .ok (.istore_n 3, 1) := by decide +kernel
theorem dX0_placeAt_30 : decode cX0_placeAt 30 = .ok (.iload_n 3, 1) := by decide +kernel
theorem dX0_placeAt_31 : decode cX0_placeAt 31 = .ok (.ifCond .eq 14, 3) := by decide +kernel
theorem dX0_placeAt_34 : decode cX0_placeAt 34 = .ok (.iload_n 1, 1) := by decide +kernel
theorem dX0_placeAt_35 : decode cX0_placeAt 35 = .ok (.aload_n 0, 1) := by decide +kernel
theorem dX0_placeAt_36 : decode cX0_placeAt 36 = .ok (.getfield 19, 3) := by decide +kernel
theorem dX0_placeAt_39 : decode cX0_placeAt 39 = .ok (.imul, 1) := by decide +kernel
theorem dX0_placeAt_40 : decode cX0_placeAt 40 = .ok (.iload_n 2, 1) := by decide +kernel
theorem dX0_placeAt_41 : decode cX0_placeAt 41 = .ok (.iadd, 1) := by decide +kernel
theorem dX0_placeAt_42 : decode cX0_placeAt 42 = .ok (.goto 4, 3) := by decide +kernel
theorem dX0_placeAt_45 : decode cX0_placeAt 45 = .ok (.iconst (-1), 1) := by decide +kernel
theorem dX0_placeAt_46 : decode cX0_placeAt 46 = .ok (.ireturn, 1) := by decide +kernel
theorem dX0_has_0 : decode cX0_has 0 = .ok (.iload_n 1, 1) := by decide +kernel
theorem dX0_has_1 : decode cX0_has 1 = .ok (.ifCond .lt 21, 3) := by decide +kernel
theorem dX0_has_4 : decode cX0_has 4 = .ok (.iload_n 1, 1) := by decide +kernel
theorem dX0_has_5 : decode cX0_has 5 = .ok (.bipush 12, 2) := by decide +kernel
theorem dX0_has_7 : decode cX0_has 7 = .ok (.if_icmp .ge 15, 3) := by decide +kernel
theorem dX0_has_10 : decode cX0_has 10 = .ok (.iload_n 1, 1) := by decide +kernel
theorem dX0_has_11 : decode cX0_has 11 = .ok (.aload_n 0, 1) := by decide +kernel
theorem dX0_has_12 : decode cX0_has 12 = .ok (.getfield 22, 3) := by decide +kernel
theorem dX0_has_15 : decode cX0_has 15 = .ok (.if_icmp .ge 7, 3) := by decide +kernel
theorem dX0_has_18 : decode cX0_has 18 = .ok (.iconst 1, 1) := by decide +kernel
theorem dX0_has_19 : decode cX0_has 19 = .ok (.goto 4, 3) := by decide +kernel
theorem dX0_has_22 : decode cX0_has 22 = .ok (.iconst 0, 1) := by decide +kernel
theorem dX0_has_23 : decode cX0_has 23 = .ok (.ireturn, 1) := by decide +kernel
set_option maxRecDepth 20000 in
theorem ggX0_next_X0_has : GoodIn wsX0_next wsX0_has := goodIn_r _ [6, 7, 8, 9, 10, 11] (by decide +kernel) (by decide +kernel)
set_option maxRecDepth 20000 in
theorem gX0_next_X0_has : GoodIn wsX0_next (wsV RX0 35 RX0 yX0_has wsX0_has) := goodIn_app (goodIn_of _ (by decide +kernel)) ggX0_next_X0_has
theorem dX0_next_0 : decode cX0_next 0 = .ok (.aload_n 0, 1) := by decide +kernel
theorem dX0_next_1 : decode cX0_next 1 = .ok (.iload_n 1, 1) := by decide +kernel
theorem dX0_next_2 : decode cX0_next 2 = .ok (.invokevirtual 35, 3) := by decide +kernel
theorem dX0_next_5 : decode cX0_next 5 = .ok (.ifCond .eq 17, 3) := by decide +kernel
theorem dX0_next_8 : decode cX0_next 8 = .ok (.iload_n 2, 1) := by decide +kernel
theorem dX0_next_9 : decode cX0_next 9 = .ok (.ifCond .lt 13, 3) := by decide +kernel
theorem dX0_next_12 : decode cX0_next 12 = .ok (.iload_n 2, 1) := by decide +kernel
theorem dX0_next_13 : decode cX0_next 13 = .ok (.bipush 8, 2) := by decide +kernel
theorem dX0_next_15 : decode cX0_next 15 = .ok (.if_icmp .ge 7, 3) := by decide +kernel
theorem dX0_next_18 : decode cX0_next 18 = .ok (.iconst 1, 1) := by decide +kernel
theorem dX0_next_19 : decode cX0_next 19 = .ok (.goto 4, 3) := by decide +kernel
theorem dX0_next_22 : decode cX0_next 22 = .ok (.iconst 0, 1) := by decide +kernel
theorem dX0_next_23 : decode cX0_next 23 = .ok (.istore_n 3, 1) := by decide +kernel
theorem dX0_next_24 : decode cX0_next 24 = .ok (.iload_n 3, 1) := by decide +kernel
theorem dX0_next_25 : decode cX0_next 25 = .ok (.ifCond .eq 17, 3) := by decide +kernel
theorem dX0_next_28 : decode cX0_next 28 = .ok (.aload_n 0, 1) := by decide +kernel
theorem dX0_next_29 : decode cX0_next 29 = .ok (.getfield 9, 3) := by decide +kernel
theorem dX0_next_32 : decode cX0_next 32 = .ok (.iload_n 1, 1) := by decide +kernel
theorem dX0_next_33 : decode cX0_next 33 = .ok (.bipush 8, 2) := by decide +kernel
theorem dX0_next_35 : decode cX0_next 35 = .ok (.imul, 1) := by decide +kernel
theorem dX0_next_36 : decode cX0_next 36 = .ok (.iload_n 2, 1) := by decide +kernel
theorem dX0_next_37 : decode cX0_next 37 = .ok (.iadd, 1) := by decide +kernel
theorem dX0_next_38 : decode cX0_next 38 = .ok (.iaload, 1) := by decide +kernel
theorem dX0_next_39 : decode cX0_next 39 = .ok (.goto 4, 3) := by decide +kernel
theorem dX0_next_42 : decode cX0_next 42 = .ok (.iconst (-1), 1) := by decide +kernel
theorem dX0_next_43 : decode cX0_next 43 = .ok (.ireturn, 1) := by decide +kernel
theorem dX1_init_0 : decode cX1_init 0 = .ok (.aload_n 0, 1) := by decide +kernel
theorem dX1_init_1 : decode cX1_init 1 = .ok (.invokespecial 3, 3) := by decide +kernel
theorem dX1_init_4 : decode cX1_init 4 = .ok (.return_, 1) := by decide +kernel
theorem dX1_begin_0 : decode cX1_begin 0 = .ok (.aload_n 0, 1) := by decide +kernel
theorem dX1_begin_1 : decode cX1_begin 1 = .ok (.iconst 0, 1) := by decide +kernel
theorem dX1_begin_2 : decode cX1_begin 2 = .ok (.putfield 9, 3) := by decide +kernel
theorem dX1_begin_5 : decode cX1_begin 5 = .ok (.aload_n 0, 1) := by decide +kernel
theorem dX1_begin_6 : decode cX1_begin 6 = .ok (.iconst 0, 1) := by decide +kernel
theorem dX1_begin_7 : decode cX1_begin 7 = .ok (.putfield 15, 3) := by decide +kernel
theorem dX1_begin_10 : decode cX1_begin 10 = .ok (.aload_n 0, 1) := by decide +kernel
theorem dX1_begin_11 : decode cX1_begin 11 = .ok (.iconst (-1), 1) := by decide +kernel
theorem dX1_begin_12 : decode cX1_begin 12 = .ok (.putfield 18, 3) := by decide +kernel
theorem dX1_begin_15 : decode cX1_begin 15 = .ok (.aload_n 0, 1) := by decide +kernel
theorem dX1_begin_16 : decode cX1_begin 16 = .ok (.iconst 0, 1) := by decide +kernel
theorem dX1_begin_17 : decode cX1_begin 17 = .ok (.putfield 21, 3) := by decide +kernel
theorem dX1_begin_20 : decode cX1_begin 20 = .ok (.aload_n 0, 1) := by decide +kernel
theorem dX1_begin_21 : decode cX1_begin 21 = .ok (.iconst 0, 1) := by decide +kernel
theorem dX1_begin_22 : decode cX1_begin 22 = .ok (.putfield 24, 3) := by decide +kernel
theorem dX1_begin_25 : decode cX1_begin 25 = .ok (.aload_n 0, 1) := by decide +kernel
theorem dX1_begin_26 : decode cX1_begin 26 = .ok (.iconst 0, 1) := by decide +kernel
theorem dX1_begin_27 : decode cX1_begin 27 = .ok (.putfield 27, 3) := by decide +kernel
theorem dX1_begin_30 : decode cX1_begin 30 = .ok (.aload_n 0, 1) := by decide +kernel
theorem dX1_begin_31 : decode cX1_begin 31 = .ok (.iconst 0, 1) := by decide +kernel
theorem dX1_begin_32 : decode cX1_begin 32 = .ok (.putfield 30, 3) := by decide +kernel
theorem dX1_begin_35 : decode cX1_begin 35 = .ok (.aload_n 0, 1) := by decide +kernel
theorem dX1_begin_36 : decode cX1_begin 36 = .ok (.iconst (-1), 1) := by decide +kernel
theorem dX1_begin_37 : decode cX1_begin 37 = .ok (.putfield 33, 3) := by decide +kernel
theorem dX1_begin_40 : decode cX1_begin 40 = .ok (.aload_n 0, 1) := by decide +kernel
theorem dX1_begin_41 : decode cX1_begin 41 = .ok (.iconst 0, 1) := by decide +kernel
theorem dX1_begin_42 : decode cX1_begin 42 = .ok (.putfield 36, 3) := by decide +kernel
theorem dX1_begin_45 : decode cX1_begin 45 = .ok (.return_, 1) := by decide +kernel
theorem dX1_take_0 : decode cX1_take 0 = .ok (.aload_n 0, 1) := by decide +kernel
theorem dX1_take_1 : decode cX1_take 1 = .ok (.getfield 9, 3) := by decide +kernel
theorem dX1_take_4 : decode cX1_take 4 = .ok (.ifCond .eq 14, 3) := by decide +kernel
theorem dX1_take_7 : decode cX1_take 7 = .ok (.aload_n 2, 1) := by decide +kernel
theorem dX1_take_8 : decode cX1_take 8 = .ok (.getfield 15, 3) := by decide +kernel
theorem dX1_take_11 : decode cX1_take 11 = .ok (.aload_n 0, 1) := by decide +kernel
theorem dX1_take_12 : decode cX1_take 12 = .ok (.getfield 15, 3) := by decide +kernel
theorem dX1_take_15 : decode cX1_take 15 = .ok (.if_icmp .ge 16, 3) := by decide +kernel
theorem dX1_take_18 : decode cX1_take 18 = .ok (.aload_n 0, 1) := by decide +kernel
theorem dX1_take_19 : decode cX1_take 19 = .ok (.aload_n 2, 1) := by decide +kernel
theorem dX1_take_20 : decode cX1_take 20 = .ok (.getfield 15, 3) := by decide +kernel
theorem dX1_take_23 : decode cX1_take 23 = .ok (.putfield 15, 3) := by decide +kernel
theorem dX1_take_26 : decode cX1_take 26 = .ok (.aload_n 0, 1) := by decide +kernel
theorem dX1_take_27 : decode cX1_take 27 = .ok (.iload_n 1, 1) := by decide +kernel
theorem dX1_take_28 : decode cX1_take 28 = .ok (.putfield 18, 3) := by decide +kernel
theorem dX1_take_31 : decode cX1_take 31 = .ok (.aload_n 0, 1) := by decide +kernel
theorem dX1_take_32 : decode cX1_take 32 = .ok (.getfield 9, 3) := by decide +kernel
theorem dX1_take_35 : decode cX1_take 35 = .ok (.ifCond .eq 16, 3) := by decide +kernel
theorem dX1_take_38 : decode cX1_take 38 = .ok (.aload_n 2, 1) := by decide +kernel
theorem dX1_take_39 : decode cX1_take 39 = .ok (.getfield 27, 3) := by decide +kernel
theorem dX1_take_42 : decode cX1_take 42 = .ok (.iconst 1, 1) := by decide +kernel
theorem dX1_take_43 : decode cX1_take 43 = .ok (.iadd, 1) := by decide +kernel
theorem dX1_take_44 : decode cX1_take 44 = .ok (.aload_n 0, 1) := by decide +kernel
theorem dX1_take_45 : decode cX1_take 45 = .ok (.getfield 27, 3) := by decide +kernel
theorem dX1_take_48 : decode cX1_take 48 = .ok (.if_icmp .ge 13, 3) := by decide +kernel
theorem dX1_take_51 : decode cX1_take 51 = .ok (.aload_n 0, 1) := by decide +kernel
theorem dX1_take_52 : decode cX1_take 52 = .ok (.aload_n 2, 1) := by decide +kernel
theorem dX1_take_53 : decode cX1_take 53 = .ok (.getfield 27, 3) := by decide +kernel
theorem dX1_take_56 : decode cX1_take 56 = .ok (.iconst 1, 1) := by decide +kernel
theorem dX1_take_57 : decode cX1_take 57 = .ok (.iadd, 1) := by decide +kernel
theorem dX1_take_58 : decode cX1_take 58 = .ok (.putfield 27, 3) := by decide +kernel
theorem dX1_take_61 : decode cX1_take 61 = .ok (.aload_n 0, 1) := by decide +kernel
theorem dX1_take_62 : decode cX1_take 62 = .ok (.aload_n 0, 1) := by decide +kernel
theorem dX1_take_63 : decode cX1_take 63 = .ok (.getfield 24, 3) := by decide +kernel
theorem dX1_take_66 : decode cX1_take 66 = .ok (.aload_n 2, 1) := by decide +kernel
theorem dX1_take_67 : decode cX1_take 67 = .ok (.getfield 24, 3) := by decide +kernel
theorem dX1_take_70 : decode cX1_take 70 = .ok (.iconst 1, 1) := by decide +kernel
theorem dX1_take_71 : decode cX1_take 71 = .ok (.iadd, 1) := by decide +kernel
theorem dX1_take_72 : decode cX1_take 72 = .ok (.invokestatic 39, 3) := by decide +kernel
theorem dX1_take_75 : decode cX1_take 75 = .ok (.putfield 24, 3) := by decide +kernel
theorem dX1_take_78 : decode cX1_take 78 = .ok (.aload_n 0, 1) := by decide +kernel
theorem dX1_take_79 : decode cX1_take 79 = .ok (.dup, 1) := by decide +kernel
theorem dX1_take_80 : decode cX1_take 80 = .ok (.getfield 21, 3) := by decide +kernel
theorem dX1_take_83 : decode cX1_take 83 = .ok (.aload_n 2, 1) := by decide +kernel
theorem dX1_take_84 : decode cX1_take 84 = .ok (.getfield 21, 3) := by decide +kernel
theorem dX1_take_87 : decode cX1_take 87 = .ok (.iadd, 1) := by decide +kernel
theorem dX1_take_88 : decode cX1_take 88 = .ok (.putfield 21, 3) := by decide +kernel
theorem dX1_take_91 : decode cX1_take 91 = .ok (.aload_n 0, 1) := by decide +kernel
theorem dX1_take_92 : decode cX1_take 92 = .ok (.dup, 1) := by decide +kernel
theorem dX1_take_93 : decode cX1_take 93 = .ok (.getfield 30, 3) := by decide +kernel
theorem dX1_take_96 : decode cX1_take 96 = .ok (.aload_n 2, 1) := by decide +kernel
theorem dX1_take_97 : decode cX1_take 97 = .ok (.getfield 30, 3) := by decide +kernel
theorem dX1_take_100 : decode cX1_take 100 = .ok (.ior, 1) := by decide +kernel
theorem dX1_take_101 : decode cX1_take 101 = .ok (.putfield 30, 3) := by decide +kernel
theorem dX1_take_104 : decode cX1_take 104 = .ok (.aload_n 0, 1) := by decide +kernel
theorem dX1_take_105 : decode cX1_take 105 = .ok (.getfield 33, 3) := by decide +kernel
theorem dX1_take_108 : decode cX1_take 108 = .ok (.iconst (-1), 1) := by decide +kernel
theorem dX1_take_109 : decode cX1_take 109 = .ok (.if_icmp .ne 16, 3) := by decide +kernel
theorem dX1_take_112 : decode cX1_take 112 = .ok (.aload_n 2, 1) := by decide +kernel
theorem dX1_take_113 : decode cX1_take 113 = .ok (.getfield 33, 3) := by decide +kernel
theorem dX1_take_116 : decode cX1_take 116 = .ok (.iconst (-1), 1) := by decide +kernel
theorem dX1_take_117 : decode cX1_take 117 = .ok (.if_icmp .ne 8, 3) := by decide +kernel
theorem dX1_take_120 : decode cX1_take 120 = .ok (.aload_n 0, 1) := by decide +kernel
theorem dX1_take_121 : decode cX1_take 121 = .ok (.iload_n 1, 1) := by decide +kernel
theorem dX1_take_122 : decode cX1_take 122 = .ok (.putfield 33, 3) := by decide +kernel
theorem dX1_take_125 : decode cX1_take 125 = .ok (.aload_n 0, 1) := by decide +kernel
theorem dX1_take_126 : decode cX1_take 126 = .ok (.dup, 1) := by decide +kernel
theorem dX1_take_127 : decode cX1_take 127 = .ok (.getfield 36, 3) := by decide +kernel
theorem dX1_take_130 : decode cX1_take 130 = .ok (.aload_n 2, 1) := by decide +kernel
theorem dX1_take_131 : decode cX1_take 131 = .ok (.getfield 36, 3) := by decide +kernel
theorem dX1_take_134 : decode cX1_take 134 = .ok (.iadd, 1) := by decide +kernel
theorem dX1_take_135 : decode cX1_take 135 = .ok (.putfield 36, 3) := by decide +kernel
theorem dX1_take_138 : decode cX1_take 138 = .ok (.aload_n 0, 1) := by decide +kernel
theorem dX1_take_139 : decode cX1_take 139 = .ok (.dup, 1) := by decide +kernel
theorem dX1_take_140 : decode cX1_take 140 = .ok (.getfield 9, 3) := by decide +kernel
theorem dX1_take_143 : decode cX1_take 143 = .ok (.iconst 1, 1) := by decide +kernel
theorem dX1_take_144 : decode cX1_take 144 = .ok (.iadd, 1) := by decide +kernel
theorem dX1_take_145 : decode cX1_take 145 = .ok (.putfield 9, 3) := by decide +kernel
theorem dX1_take_148 : decode cX1_take 148 = .ok (.return_, 1) := by decide +kernel
theorem dX1_end_0 : decode cX1_end 0 = .ok (.aload_n 0, 1) := by decide +kernel
theorem dX1_end_1 : decode cX1_end 1 = .ok (.getfield 9, 3) := by decide +kernel
theorem dX1_end_4 : decode cX1_end 4 = .ok (.ifCond .le 19, 3) := by decide +kernel
theorem dX1_end_7 : decode cX1_end 7 = .ok (.aload_n 0, 1) := by decide +kernel
theorem dX1_end_8 : decode cX1_end 8 = .ok (.dup, 1) := by decide +kernel
theorem dX1_end_9 : decode cX1_end 9 = .ok (.getfield 36, 3) := by decide +kernel
theorem dX1_end_12 : decode cX1_end 12 = .ok (.aload_n 0, 1) := by decide +kernel
theorem dX1_end_13 : decode cX1_end 13 = .ok (.getfield 9, 3) := by decide +kernel
theorem dX1_end_16 : decode cX1_end 16 = .ok (.idiv, 1) := by decide +kernel
theorem dX1_end_17 : decode cX1_end 17 = .ok (.putfield 36, 3) := by decide +kernel
theorem dX1_end_20 : decode cX1_end 20 = .ok (.goto 27, 3) := by decide +kernel
theorem dX1_end_23 : decode cX1_end 23 = .ok (.aload_n 0, 1) := by decide +kernel
theorem dX1_end_24 : decode cX1_end 24 = .ok (.iload_n 1, 1) := by decide +kernel
theorem dX1_end_25 : decode cX1_end 25 = .ok (.putfield 15, 3) := by decide +kernel
theorem dX1_end_28 : decode cX1_end 28 = .ok (.aload_n 0, 1) := by decide +kernel
theorem dX1_end_29 : decode cX1_end 29 = .ok (.iconst 1, 1) := by decide +kernel
theorem dX1_end_30 : decode cX1_end 30 = .ok (.putfield 21, 3) := by decide +kernel
theorem dX1_end_33 : decode cX1_end 33 = .ok (.aload_n 0, 1) := by decide +kernel
theorem dX1_end_34 : decode cX1_end 34 = .ok (.iload_n 2, 1) := by decide +kernel
theorem dX1_end_35 : decode cX1_end 35 = .ok (.putfield 30, 3) := by decide +kernel
theorem dX1_end_38 : decode cX1_end 38 = .ok (.aload_n 0, 1) := by decide +kernel
theorem dX1_end_39 : decode cX1_end 39 = .ok (.sipush 1000, 3) := by decide +kernel
theorem dX1_end_42 : decode cX1_end 42 = .ok (.iload_n 1, 1) := by decide +kernel
theorem dX1_end_43 : decode cX1_end 43 = .ok (.imul, 1) := by decide +kernel
theorem dX1_end_44 : decode cX1_end 44 = .ok (.putfield 36, 3) := by decide +kernel
theorem dX1_end_47 : decode cX1_end 47 = .ok (.return_, 1) := by decide +kernel
theorem dX2_init_0 : decode cX2_init 0 = .ok (.aload_n 0, 1) := by decide +kernel
theorem dX2_init_1 : decode cX2_init 1 = .ok (.invokespecial 3, 3) := by decide +kernel
theorem dX2_init_4 : decode cX2_init 4 = .ok (.aload_n 0, 1) := by decide +kernel
theorem dX2_init_5 : decode cX2_init 5 = .ok (.bipush 18, 2) := by decide +kernel
theorem dX2_init_7 : decode cX2_init 7 = .ok (.newarray .int, 2) := by decide +kernel
theorem dX2_init_9 : decode cX2_init 9 = .ok (.putfield 9, 3) := by decide +kernel
theorem dX2_init_12 : decode cX2_init 12 = .ok (.return_, 1) := by decide +kernel
theorem dX2_append_0 : decode cX2_append 0 = .ok (.aload_n 0, 1) := by decide +kernel
theorem dX2_append_1 : decode cX2_append 1 = .ok (.getfield 15, 3) := by decide +kernel
theorem dX2_append_4 : decode cX2_append 4 = .ok (.ifCond .lt 15, 3) := by decide +kernel
theorem dX2_append_7 : decode cX2_append 7 = .ok (.aload_n 0, 1) := by decide +kernel
theorem dX2_append_8 : decode cX2_append 8 = .ok (.getfield 15, 3) := by decide +kernel
theorem dX2_append_11 : decode cX2_append 11 = .ok (.aload_n 0, 1) := by decide +kernel
theorem dX2_append_12 : decode cX2_append 12 = .ok (.getfield 9, 3) := by decide +kernel
theorem dX2_append_15 : decode cX2_append 15 = .ok (.arraylength, 1) := by decide +kernel
theorem dX2_append_16 : decode cX2_append 16 = .ok (.if_icmp .lt 5, 3) := by decide +kernel
theorem dX2_append_19 : decode cX2_append 19 = .ok (.iconst 0, 1) := by decide +kernel
theorem dX2_append_20 : decode cX2_append 20 = .ok (.ireturn, 1) := by decide +kernel
theorem dX2_append_21 : decode cX2_append 21 = .ok (.aload_n 0, 1) := by decide +kernel
theorem dX2_append_22 : decode cX2_append 22 = .ok (.getfield 9, 3) := by decide +kernel
theorem dX2_append_25 : decode cX2_append 25 = .ok (.aload_n 0, 1) := by decide +kernel
theorem dX2_append_26 : decode cX2_append 26 = .ok (.getfield 15, 3) := by decide +kernel
theorem dX2_append_29 : decode cX2_append 29 = .ok (.iload_n 1, 1) := by decide +kernel
theorem dX2_append_30 : decode cX2_append 30 = .ok (.iastore, 1) := by decide +kernel
theorem dX2_append_31 : decode cX2_append 31 = .ok (.aload_n 0, 1) := by decide +kernel
theorem dX2_append_32 : decode cX2_append 32 = .ok (.dup, 1) := by decide +kernel
theorem dX2_append_33 : decode cX2_append 33 = .ok (.getfield 15, 3) := by decide +kernel
theorem dX2_append_36 : decode cX2_append 36 = .ok (.iconst 1, 1) := by decide +kernel
theorem dX2_append_37 : decode cX2_append 37 = .ok (.iadd, 1) := by decide +kernel
theorem dX2_append_38 : decode cX2_append 38 = .ok (.putfield 15, 3) := by decide +kernel
theorem dX2_append_41 : decode cX2_append 41 = .ok (.iconst 1, 1) := by decide +kernel
theorem dX2_append_42 : decode cX2_append 42 = .ok (.ireturn, 1) := by decide +kernel
theorem dX2_codeAt_0 : decode cX2_codeAt 0 = .ok (.iload_n 1, 1) := by decide +kernel
theorem dX2_codeAt_1 : decode cX2_codeAt 1 = .ok (.ifCond .lt 29, 3) := by decide +kernel
theorem dX2_codeAt_4 : decode cX2_codeAt 4 = .ok (.iload_n 1, 1) := by decide +kernel
theorem dX2_codeAt_5 : decode cX2_codeAt 5 = .ok (.aload_n 0, 1) := by decide +kernel
theorem dX2_codeAt_6 : decode cX2_codeAt 6 = .ok (.getfield 15, 3) := by decide +kernel
theorem dX2_codeAt_9 : decode cX2_codeAt 9 = .ok (.if_icmp .ge 21, 3) := by decide +kernel
theorem dX2_codeAt_12 : decode cX2_codeAt 12 = .ok (.iload_n 1, 1) := by decide +kernel
theorem dX2_codeAt_13 : decode cX2_codeAt 13 = .ok (.aload_n 0, 1) := by decide +kernel
theorem dX2_codeAt_14 : decode cX2_codeAt 14 = .ok (.getfield 9, 3) := by decide +kernel
theorem dX2_codeAt_17 : decode cX2_codeAt 17 = .ok (.arraylength, 1) := by decide +kernel
theorem dX2_codeAt_18 : decode cX2_codeAt 18 = .ok (.if_icmp .ge 12, 3) := by decide +kernel
theorem dX2_codeAt_21 : decode cX2_codeAt 21 = .ok (.aload_n 0, 1) := by decide +kernel
theorem dX2_codeAt_22 : decode cX2_codeAt 22 = .ok (.getfield 9, 3) := by decide +kernel
theorem dX2_codeAt_25 : decode cX2_codeAt 25 = .ok (.iload_n 1, 1) := by decide +kernel
theorem dX2_codeAt_26 : decode cX2_codeAt 26 = .ok (.iaload, 1) := by decide +kernel
theorem dX2_codeAt_27 : decode cX2_codeAt 27 = .ok (.goto 4, 3) := by decide +kernel
theorem dX2_codeAt_30 : decode cX2_codeAt 30 = .ok (.iconst (-1), 1) := by decide +kernel
theorem dX2_codeAt_31 : decode cX2_codeAt 31 = .ok (.ireturn, 1) := by decide +kernel
set_option maxRecDepth 20000 in
theorem ggX2_digitAt_X2_codeAt : GoodIn wsX2_digitAt wsX2_codeAt := goodIn_r _ [5, 6, 7, 8, 9] (by decide +kernel) (by decide +kernel)
set_option maxRecDepth 20000 in
theorem gX2_digitAt_X2_codeAt : GoodIn wsX2_digitAt (wsV RX2 19 RX2 yX2_codeAt wsX2_codeAt) := goodIn_app (goodIn_of _ (by decide +kernel)) ggX2_digitAt_X2_codeAt
theorem dX2_digitAt_0 : decode cX2_digitAt 0 = .ok (.aload_n 0, 1) := by decide +kernel
theorem dX2_digitAt_1 : decode cX2_digitAt 1 = .ok (.iload_n 1, 1) := by decide +kernel
theorem dX2_digitAt_2 : decode cX2_digitAt 2 = .ok (.invokevirtual 19, 3) := by decide +kernel
theorem dX2_digitAt_5 : decode cX2_digitAt 5 = .ok (.bipush 48, 2) := by decide +kernel
theorem dX2_digitAt_7 : decode cX2_digitAt 7 = .ok (.isub, 1) := by decide +kernel
theorem dX2_digitAt_8 : decode cX2_digitAt 8 = .ok (.istore_n 2, 1) := by decide +kernel
theorem dX2_digitAt_9 : decode cX2_digitAt 9 = .ok (.iload_n 2, 1) := by decide +kernel
theorem dX2_digitAt_10 : decode cX2_digitAt 10 = .ok (.iconst 2, 1) := by decide +kernel
theorem dX2_digitAt_11 : decode cX2_digitAt 11 = .ok (.if_icmp .lt 12, 3) := by decide +kernel
theorem dX2_digitAt_14 : decode cX2_digitAt 14 = .ok (.iload_n 2, 1) := by decide +kernel
theorem dX2_digitAt_15 : decode cX2_digitAt 15 = .ok (.iconst 4, 1) := by decide +kernel
theorem dX2_digitAt_16 : decode cX2_digitAt 16 = .ok (.if_icmp .gt 7, 3) := by decide +kernel
theorem dX2_digitAt_19 : decode cX2_digitAt 19 = .ok (.iload_n 2, 1) := by decide +kernel
theorem dX2_digitAt_20 : decode cX2_digitAt 20 = .ok (.goto 4, 3) := by decide +kernel
theorem dX2_digitAt_23 : decode cX2_digitAt 23 = .ok (.iconst 0, 1) := by decide +kernel
theorem dX2_digitAt_24 : decode cX2_digitAt 24 = .ok (.ireturn, 1) := by decide +kernel
set_option maxRecDepth 20000 in
theorem ggX2_kindAt_X2_codeAt : GoodIn wsX2_kindAt wsX2_codeAt := goodIn_r _ [5, 6, 7, 8, 9] (by decide +kernel) (by decide +kernel)
set_option maxRecDepth 20000 in
theorem gX2_kindAt_X2_codeAt : GoodIn wsX2_kindAt (wsV RX2 19 RX2 yX2_codeAt wsX2_codeAt) := goodIn_app (goodIn_of _ (by decide +kernel)) ggX2_kindAt_X2_codeAt
theorem dX2_kindAt_0 : decode cX2_kindAt 0 = .ok (.aload_n 0, 1) := by decide +kernel
theorem dX2_kindAt_1 : decode cX2_kindAt 1 = .ok (.iload_n 1, 1) := by decide +kernel
theorem dX2_kindAt_2 : decode cX2_kindAt 2 = .ok (.invokevirtual 19, 3) := by decide +kernel
theorem dX2_kindAt_5 : decode cX2_kindAt 5 = .ok (.istore_n 2, 1) := by decide +kernel
theorem dX2_kindAt_6 : decode cX2_kindAt 6 = .ok (.iconst 0, 1) := by decide +kernel
theorem dX2_kindAt_7 : decode cX2_kindAt 7 = .ok (.istore_n 3, 1) := by decide +kernel
theorem dX2_kindAt_8 : decode cX2_kindAt 8 = .ok (.iload_n 3, 1) := by decide +kernel
theorem dX2_kindAt_9 : decode cX2_kindAt 9 = .ok (.getstatic 23, 3) := by decide +kernel
theorem dX2_kindAt_12 : decode cX2_kindAt 12 = .ok (.arraylength, 1) := by decide +kernel
theorem dX2_kindAt_13 : decode cX2_kindAt 13 = .ok (.if_icmp .ge 20, 3) := by decide +kernel
theorem dX2_kindAt_16 : decode cX2_kindAt 16 = .ok (.getstatic 23, 3) := by decide +kernel
theorem dX2_kindAt_19 : decode cX2_kindAt 19 = .ok (.iload_n 3, 1) := by decide +kernel
theorem dX2_kindAt_20 : decode cX2_kindAt 20 = .ok (.caload, 1) := by decide +kernel
theorem dX2_kindAt_21 : decode cX2_kindAt 21 = .ok (.iload_n 2, 1) := by decide +kernel
theorem dX2_kindAt_22 : decode cX2_kindAt 22 = .ok (.if_icmp .ne 5, 3) := by decide +kernel
theorem dX2_kindAt_25 : decode cX2_kindAt 25 = .ok (.iload_n 3, 1) := by decide +kernel
theorem dX2_kindAt_26 : decode cX2_kindAt 26 = .ok (.ireturn, 1) := by decide +kernel
theorem dX2_kindAt_27 : decode cX2_kindAt 27 = .ok (.iinc 3 1, 3) := by decide +kernel
theorem dX2_kindAt_30 : decode cX2_kindAt 30 = .ok (.goto (-22), 3) := by decide +kernel
theorem dX2_kindAt_33 : decode cX2_kindAt 33 = .ok (.iconst (-1), 1) := by decide +kernel
theorem dX2_kindAt_34 : decode cX2_kindAt 34 = .ok (.ireturn, 1) := by decide +kernel
set_option maxRecDepth 20000 in
theorem ggX2_placesTold_X2_digitAt : GoodIn wsX2_placesTold wsX2_digitAt := goodIn_r _ [5, 6, 7, 8, 4, 9, 10, 11, 12, 13] (by decide +kernel) (by decide +kernel)
set_option maxRecDepth 20000 in
theorem gX2_placesTold_X2_digitAt : GoodIn wsX2_placesTold (wsV RX2 27 RX2 yX2_digitAt wsX2_digitAt) := goodIn_app (goodIn_of _ (by decide +kernel)) ggX2_placesTold_X2_digitAt
theorem dX2_placesTold_0 : decode cX2_placesTold 0 = .ok (.aload_n 0, 1) := by decide +kernel
theorem dX2_placesTold_1 : decode cX2_placesTold 1 = .ok (.iconst 0, 1) := by decide +kernel
theorem dX2_placesTold_2 : decode cX2_placesTold 2 = .ok (.invokevirtual 27, 3) := by decide +kernel
theorem dX2_placesTold_5 : decode cX2_placesTold 5 = .ok (.aload_n 0, 1) := by decide +kernel
theorem dX2_placesTold_6 : decode cX2_placesTold 6 = .ok (.iconst 1, 1) := by decide +kernel
theorem dX2_placesTold_7 : decode cX2_placesTold 7 = .ok (.invokevirtual 27, 3) := by decide +kernel
theorem dX2_placesTold_10 : decode cX2_placesTold 10 = .ok (.imul, 1) := by decide +kernel
theorem dX2_placesTold_11 : decode cX2_placesTold 11 = .ok (.ireturn, 1) := by decide +kernel
set_option maxRecDepth 20000 in
theorem ggX2_pegsBefore_X2_kindAt : GoodIn wsX2_pegsBefore wsX2_kindAt := goodIn_r _ [5, 6, 7, 8, 4, 9, 10, 11, 12, 13] (by decide +kernel) (by decide +kernel)
set_option maxRecDepth 20000 in
theorem gX2_pegsBefore_X2_kindAt : GoodIn wsX2_pegsBefore (wsV RX2 30 RX2 yX2_kindAt wsX2_kindAt) := goodIn_app (goodIn_of _ (by decide +kernel)) ggX2_pegsBefore_X2_kindAt
theorem dX2_pegsBefore_0 : decode cX2_pegsBefore 0 = .ok (.iconst 0, 1) := by decide +kernel
theorem dX2_pegsBefore_1 : decode cX2_pegsBefore 1 = .ok (.istore_n 2, 1) := by decide +kernel
theorem dX2_pegsBefore_2 : decode cX2_pegsBefore 2 = .ok (.iconst 3, 1) := by decide +kernel
theorem dX2_pegsBefore_3 : decode cX2_pegsBefore 3 = .ok (.istore_n 3, 1) := by decide +kernel
theorem dX2_pegsBefore_4 : decode cX2_pegsBefore 4 = .ok (.iload_n 3, 1) := by decide +kernel
theorem dX2_pegsBefore_5 : decode cX2_pegsBefore 5 = .ok (.iload_n 1, 1) := by decide +kernel
theorem dX2_pegsBefore_6 : decode cX2_pegsBefore 6 = .ok (.if_icmp .ge 21, 3) := by decide +kernel
theorem dX2_pegsBefore_9 : decode cX2_pegsBefore 9 = .ok (.aload_n 0, 1) := by decide +kernel
theorem dX2_pegsBefore_10 : decode cX2_pegsBefore 10 = .ok (.iload_n 3, 1) := by decide +kernel
theorem dX2_pegsBefore_11 : decode cX2_pegsBefore 11 = .ok (.invokevirtual 30, 3) := by decide +kernel
theorem dX2_pegsBefore_14 : decode cX2_pegsBefore 14 = .ok (.iconst (-1), 1) := by decide +kernel
theorem dX2_pegsBefore_15 : decode cX2_pegsBefore 15 = .ok (.if_icmp .eq 6, 3) := by decide +kernel
theorem dX2_pegsBefore_18 : decode cX2_pegsBefore 18 = .ok (.iinc 2 1, 3) := by decide +kernel
theorem dX2_pegsBefore_21 : decode cX2_pegsBefore 21 = .ok (.iinc 3 1, 3) := by decide +kernel
theorem dX2_pegsBefore_24 : decode cX2_pegsBefore 24 = .ok (.goto (-20), 3) := by decide +kernel
theorem dX2_pegsBefore_27 : decode cX2_pegsBefore 27 = .ok (.iload_n 2, 1) := by decide +kernel
theorem dX2_pegsBefore_28 : decode cX2_pegsBefore 28 = .ok (.ireturn, 1) := by decide +kernel
set_option maxRecDepth 20000 in
theorem ggX2_fits_X2_digitAt : GoodIn wsX2_fits wsX2_digitAt := goodIn_r _ [5, 6, 7, 8, 4, 9, 10, 11, 24, 25] (by decide +kernel) (by decide +kernel)
set_option maxRecDepth 20000 in
theorem gX2_fits_X2_digitAt : GoodIn wsX2_fits (wsV RX2 27 RX2 yX2_digitAt wsX2_digitAt) := goodIn_app (goodIn_of _ (by decide +kernel)) ggX2_fits_X2_digitAt
set_option maxRecDepth 20000 in
theorem ggX2_fits_X2_placesTold : GoodIn wsX2_fits wsX2_placesTold := goodIn_r _ [15, 1, 2, 3, 4, 5, 6, 7, 8, 9, 10, 11, 24, 25] (by decide +kernel) (by decide +kernel)
set_option maxRecDepth 20000 in
theorem gX2_fits_X2_placesTold : GoodIn wsX2_fits (wsV RX2 33 RX2 yX2_placesTold wsX2_placesTold) := goodIn_app (goodIn_of _ (by decide +kernel)) ggX2_fits_X2_placesTold
set_option maxRecDepth 20000 in
theorem ggX2_fits_X2_codeAt : GoodIn wsX2_fits wsX2_codeAt := goodIn_r _ [9, 10, 11, 24, 25] (by decide +kernel) (by decide +kernel)
set_option maxRecDepth 20000 in
theorem gX2_fits_X2_codeAt : GoodIn wsX2_fits (wsV RX2 19 RX2 yX2_codeAt wsX2_codeAt) := goodIn_app (goodIn_of _ (by decide +kernel)) ggX2_fits_X2_codeAt
set_option maxRecDepth 20000 in
theorem ggX2_fits_X2_kindAt : GoodIn wsX2_fits wsX2_kindAt := goodIn_r _ [19, 6, 7, 8, 4, 9, 10, 11, 24, 25] (by decide +kernel) (by decide +kernel)
set_option maxRecDepth 20000 in
theorem gX2_fits_X2_kindAt : GoodIn wsX2_fits (wsV RX2 30 RX2 yX2_kindAt wsX2_kindAt) := goodIn_app (goodIn_of _ (by decide +kernel)) ggX2_fits_X2_kindAt
set_option maxRecDepth 20000 in
theorem ggX2_fits_X2_pegsBefore : GoodIn wsX2_fits wsX2_pegsBefore := goodIn_r _ [23, 16, 17, 18, 4, 19, 6, 7, 8, 9, 10, 11, 24, 25] (by decide +kernel) (by decide +kernel)
set_option maxRecDepth 20000 in
theorem gX2_fits_X2_pegsBefore : GoodIn wsX2_fits (wsV RX2 37 RX2 yX2_pegsBefore wsX2_pegsBefore) := goodIn_app (goodIn_of _ (by decide +kernel)) ggX2_fits_X2_pegsBefore
theorem dX2_fits_0 : decode cX2_fits 0 = .ok (.iload_n 1, 1) := by decide +kernel
theorem dX2_fits_1 : decode cX2_fits 1 = .ok (.ifCond .ne 17, 3) := by decide +kernel
theorem dX2_fits_4 : decode cX2_fits 4 = .ok (.aload_n 0, 1) := by decide +kernel
theorem dX2_fits_5 : decode cX2_fits 5 = .ok (.iconst 0, 1) := by decide +kernel
theorem dX2_fits_6 : decode cX2_fits 6 = .ok (.invokevirtual 27, 3) := by decide +kernel
theorem dX2_fits_9 : decode cX2_fits 9 = .ok (.ifCond .le 7, 3) := by decide +kernel
theorem dX2_fits_12 : decode cX2_fits 12 = .ok (.iconst 1, 1) := by decide +kernel
theorem dX2_fits_13 : decode cX2_fits 13 = .ok (.goto 4, 3) := by decide +kernel
theorem dX2_fits_16 : decode cX2_fits 16 = .ok (.iconst 0, 1) := by decide +kernel
theorem dX2_fits_17 : decode cX2_fits 17 = .ok (.ireturn, 1) := by decide +kernel
theorem dX2_fits_18 : decode cX2_fits 18 = .ok (.iload_n 1, 1) := by decide +kernel
theorem dX2_fits_19 : decode cX2_fits 19 = .ok (.iconst 1, 1) := by decide +kernel
theorem dX2_fits_20 : decode cX2_fits 20 = .ok (.if_icmp .ne 26, 3) := by decide +kernel
theorem dX2_fits_23 : decode cX2_fits 23 = .ok (.aload_n 0, 1) := by decide +kernel
theorem dX2_fits_24 : decode cX2_fits 24 = .ok (.iconst 1, 1) := by decide +kernel
theorem dX2_fits_25 : decode cX2_fits 25 = .ok (.invokevirtual 27, 3) := by decide +kernel
theorem dX2_fits_28 : decode cX2_fits 28 = .ok (.ifCond .le 16, 3) := by decide +kernel
theorem dX2_fits_31 : decode cX2_fits 31 = .ok (.aload_n 0, 1) := by decide +kernel
theorem dX2_fits_32 : decode cX2_fits 32 = .ok (.invokevirtual 33, 3) := by decide +kernel
theorem dX2_fits_35 : decode cX2_fits 35 = .ok (.bipush 12, 2) := by decide +kernel
theorem dX2_fits_37 : decode cX2_fits 37 = .ok (.if_icmp .gt 7, 3) := by decide +kernel
theorem dX2_fits_40 : decode cX2_fits 40 = .ok (.iconst 1, 1) := by decide +kernel
theorem dX2_fits_41 : decode cX2_fits 41 = .ok (.goto 4, 3) := by decide +kernel
theorem dX2_fits_44 : decode cX2_fits 44 = .ok (.iconst 0, 1) := by decide +kernel
theorem dX2_fits_45 : decode cX2_fits 45 = .ok (.ireturn, 1) := by decide +kernel
theorem dX2_fits_46 : decode cX2_fits 46 = .ok (.aload_n 0, 1) := by decide +kernel
theorem dX2_fits_47 : decode cX2_fits 47 = .ok (.iload_n 1, 1) := by decide +kernel
theorem dX2_fits_48 : decode cX2_fits 48 = .ok (.invokevirtual 19, 3) := by decide +kernel
theorem dX2_fits_51 : decode cX2_fits 51 = .ok (.istore_n 2, 1) := by decide +kernel
theorem dX2_fits_52 : decode cX2_fits 52 = .ok (.iload_n 1, 1) := by decide +kernel
theorem dX2_fits_53 : decode cX2_fits 53 = .ok (.iconst 2, 1) := by decide +kernel
theorem dX2_fits_54 : decode cX2_fits 54 = .ok (.if_icmp .ne 15, 3) := by decide +kernel
theorem dX2_fits_57 : decode cX2_fits 57 = .ok (.iload_n 2, 1) := by decide +kernel
theorem dX2_fits_58 : decode cX2_fits 58 = .ok (.bipush 59, 2) := by decide +kernel
theorem dX2_fits_60 : decode cX2_fits 60 = .ok (.if_icmp .ne 7, 3) := by decide +kernel
theorem dX2_fits_63 : decode cX2_fits 63 = .ok (.iconst 1, 1) := by decide +kernel
theorem dX2_fits_64 : decode cX2_fits 64 = .ok (.goto 4, 3) := by decide +kernel
theorem dX2_fits_67 : decode cX2_fits 67 = .ok (.iconst 0, 1) := by decide +kernel
theorem dX2_fits_68 : decode cX2_fits 68 = .ok (.ireturn, 1) := by decide +kernel
theorem dX2_fits_69 : decode cX2_fits 69 = .ok (.iload_n 1, 1) := by decide +kernel
theorem dX2_fits_70 : decode cX2_fits 70 = .ok (.iconst 3, 1) := by decide +kernel
theorem dX2_fits_71 : decode cX2_fits 71 = .ok (.aload_n 0, 1) := by decide +kernel
theorem dX2_fits_72 : decode cX2_fits 72 = .ok (.invokevirtual 33, 3) := by decide +kernel
theorem dX2_fits_75 : decode cX2_fits 75 = .ok (.iadd, 1) := by decide +kernel
theorem dX2_fits_76 : decode cX2_fits 76 = .ok (.if_icmp .lt 5, 3) := by decide +kernel
theorem dX2_fits_79 : decode cX2_fits 79 = .ok (.iconst 0, 1) := by decide +kernel
theorem dX2_fits_80 : decode cX2_fits 80 = .ok (.ireturn, 1) := by decide +kernel
theorem dX2_fits_81 : decode cX2_fits 81 = .ok (.iload_n 2, 1) := by decide +kernel
theorem dX2_fits_82 : decode cX2_fits 82 = .ok (.bipush 35, 2) := by decide +kernel
theorem dX2_fits_84 : decode cX2_fits 84 = .ok (.if_icmp .eq 28, 3) := by decide +kernel
theorem dX2_fits_87 : decode cX2_fits 87 = .ok (.iload_n 2, 1) := by decide +kernel
theorem dX2_fits_88 : decode cX2_fits 88 = .ok (.bipush 46, 2) := by decide +kernel
theorem dX2_fits_90 : decode cX2_fits 90 = .ok (.if_icmp .eq 22, 3) := by decide +kernel
theorem dX2_fits_93 : decode cX2_fits 93 = .ok (.aload_n 0, 1) := by decide +kernel
theorem dX2_fits_94 : decode cX2_fits 94 = .ok (.iload_n 1, 1) := by decide +kernel
theorem dX2_fits_95 : decode cX2_fits 95 = .ok (.invokevirtual 30, 3) := by decide +kernel
theorem dX2_fits_98 : decode cX2_fits 98 = .ok (.iconst (-1), 1) := by decide +kernel
theorem dX2_fits_99 : decode cX2_fits 99 = .ok (.if_icmp .eq 17, 3) := by decide +kernel
theorem dX2_fits_102 : decode cX2_fits 102 = .ok (.aload_n 0, 1) := by decide +kernel
theorem dX2_fits_103 : decode cX2_fits 103 = .ok (.iload_n 1, 1) := by decide +kernel
theorem dX2_fits_104 : decode cX2_fits 104 = .ok (.invokevirtual 37, 3) := by decide +kernel
theorem dX2_fits_107 : decode cX2_fits 107 = .ok (.bipush 7, 2) := by decide +kernel
theorem dX2_fits_109 : decode cX2_fits 109 = .ok (.if_icmp .ge 7, 3) := by decide +kernel
theorem dX2_fits_112 : decode cX2_fits 112 = .ok (.iconst 1, 1) := by decide +kernel
theorem dX2_fits_113 : decode cX2_fits 113 = .ok (.goto 4, 3) := by decide +kernel
theorem dX2_fits_116 : decode cX2_fits 116 = .ok (.iconst 0, 1) := by decide +kernel
theorem dX2_fits_117 : decode cX2_fits 117 = .ok (.ireturn, 1) := by decide +kernel
set_option maxRecDepth 20000 in
theorem ggX2_firstFault_X2_fits : GoodIn wsX2_firstFault wsX2_fits := goodIn_r _ [6, 7, 8, 9, 5, 10, 11, 12, 13, 14, 1, 15, 16, 17, 18, 19, 20, 21, 22, 23, 24, 25, 26, 27, 28, 29] (by decide +kernel) (by decide +kernel)
set_option maxRecDepth 20000 in
theorem gX2_firstFault_X2_fits : GoodIn wsX2_firstFault (wsV RX2 40 RX2 yX2_fits wsX2_fits) := goodIn_app (goodIn_of _ (by decide +kernel)) ggX2_firstFault_X2_fits
theorem dX2_firstFault_0 : decode cX2_firstFault 0 = .ok (.iconst 0, 1) := by decide +kernel
theorem dX2_firstFault_1 : decode cX2_firstFault 1 = .ok (.istore_n 1, 1) := by decide +kernel
theorem dX2_firstFault_2 : decode cX2_firstFault 2 = .ok (.iload_n 1, 1) := by decide +kernel
theorem dX2_firstFault_3 : decode cX2_firstFault 3 = .ok (.aload_n 0, 1) := by decide +kernel
theorem dX2_firstFault_4 : decode cX2_firstFault 4 = .ok (.getfield 15, 3) := by decide +kernel
theorem dX2_firstFault_7 : decode cX2_firstFault 7 = .ok (.if_icmp .ge 19, 3) := by decide +kernel
theorem dX2_firstFault_10 : decode cX2_firstFault 10 = .ok (.aload_n 0, 1) := by decide +kernel
theorem dX2_firstFault_11 : decode cX2_firstFault 11 = .ok (.iload_n 1, 1) := by decide +kernel
theorem dX2_firstFault_12 : decode cX2_firstFault 12 = .ok (.invokevirtual 40, 3) := by decide +kernel
theorem dX2_firstFault_15 : decode cX2_firstFault 15 = .ok (.ifCond .ne 5, 3) := by decide +kernel
theorem dX2_firstFault_18 : decode cX2_firstFault 18 = .ok (.iload_n 1, 1) := by decide +kernel
theorem dX2_firstFault_19 : decode cX2_firstFault 19 = .ok (.ireturn, 1) := by decide +kernel
theorem dX2_firstFault_20 : decode cX2_firstFault 20 = .ok (.iinc 1 1, 3) := by decide +kernel
theorem dX2_firstFault_23 : decode cX2_firstFault 23 = .ok (.goto (-21), 3) := by decide +kernel
theorem dX2_firstFault_26 : decode cX2_firstFault 26 = .ok (.aload_n 0, 1) := by decide +kernel
theorem dX2_firstFault_27 : decode cX2_firstFault 27 = .ok (.getfield 15, 3) := by decide +kernel
theorem dX2_firstFault_30 : decode cX2_firstFault 30 = .ok (.ireturn, 1) := by decide +kernel
set_option maxRecDepth 20000 in
theorem ggX2_isBoard_X2_placesTold : GoodIn wsX2_isBoard wsX2_placesTold := goodIn_r _ [6, 7, 8, 9, 5, 10, 11, 12, 13, 14, 1, 15, 32, 33] (by decide +kernel) (by decide +kernel)
set_option maxRecDepth 20000 in
theorem gX2_isBoard_X2_placesTold : GoodIn wsX2_isBoard (wsV RX2 33 RX2 yX2_placesTold wsX2_placesTold) := goodIn_app (goodIn_of _ (by decide +kernel)) ggX2_isBoard_X2_placesTold
set_option maxRecDepth 20000 in
theorem ggX2_isBoard_X2_firstFault : GoodIn wsX2_isBoard wsX2_firstFault := goodIn_r _ [19, 1, 20, 21, 22, 5, 23, 7, 8, 9, 10, 11, 12, 13, 14, 15, 2, 3, 4, 6, 24, 25, 26, 27, 28, 29, 30, 31, 32, 33] (by decide +kernel) (by decide +kernel)
set_option maxRecDepth 20000 in
theorem gX2_isBoard_X2_firstFault : GoodIn wsX2_isBoard (wsV RX2 44 RX2 yX2_firstFault wsX2_firstFault) := goodIn_app (goodIn_of _ (by decide +kernel)) ggX2_isBoard_X2_firstFault
set_option maxRecDepth 20000 in
theorem ggX2_isBoard_X2_pegsBefore : GoodIn wsX2_isBoard wsX2_pegsBefore := goodIn_r _ [31, 24, 25, 26, 5, 27, 11, 12, 13, 14, 1, 15, 32, 33] (by decide +kernel) (by decide +kernel)
set_option maxRecDepth 20000 in
theorem gX2_isBoard_X2_pegsBefore : GoodIn wsX2_isBoard (wsV RX2 37 RX2 yX2_pegsBefore wsX2_pegsBefore) := goodIn_app (goodIn_of _ (by decide +kernel)) ggX2_isBoard_X2_pegsBefore
theorem dX2_isBoard_0 : decode cX2_isBoard 0 = .ok (.aload_n 0, 1) := by decide +kernel
theorem dX2_isBoard_1 : decode cX2_isBoard 1 = .ok (.getfield 15, 3) := by decide +kernel
theorem dX2_isBoard_4 : decode cX2_isBoard 4 = .ok (.iconst 3, 1) := by decide +kernel
theorem dX2_isBoard_5 : decode cX2_isBoard 5 = .ok (.aload_n 0, 1) := by decide +kernel
theorem dX2_isBoard_6 : decode cX2_isBoard 6 = .ok (.invokevirtual 33, 3) := by decide +kernel
theorem dX2_isBoard_9 : decode cX2_isBoard 9 = .ok (.iadd, 1) := by decide +kernel
theorem dX2_isBoard_10 : decode cX2_isBoard 10 = .ok (.if_icmp .ne 29, 3) := by decide +kernel
theorem dX2_isBoard_13 : decode cX2_isBoard 13 = .ok (.aload_n 0, 1) := by decide +kernel
theorem dX2_isBoard_14 : decode cX2_isBoard 14 = .ok (.invokevirtual 44, 3) := by decide +kernel
theorem dX2_isBoard_17 : decode cX2_isBoard 17 = .ok (.aload_n 0, 1) := by decide +kernel
theorem dX2_isBoard_18 : decode cX2_isBoard 18 = .ok (.getfield 15, 3) := by decide +kernel
theorem dX2_isBoard_21 : decode cX2_isBoard 21 = .ok (.if_icmp .ne 18, 3) := by decide +kernel
theorem dX2_isBoard_24 : decode cX2_isBoard 24 = .ok (.aload_n 0, 1) := by decide +kernel
theorem dX2_isBoard_25 : decode cX2_isBoard 25 = .ok (.aload_n 0, 1) := by decide +kernel
theorem dX2_isBoard_26 : decode cX2_isBoard 26 = .ok (.getfield 15, 3) := by decide +kernel
theorem dX2_isBoard_29 : decode cX2_isBoard 29 = .ok (.invokevirtual 37, 3) := by decide +kernel
theorem dX2_isBoard_32 : decode cX2_isBoard 32 = .ok (.ifCond .le 7, 3) := by decide +kernel
theorem dX2_isBoard_35 : decode cX2_isBoard 35 = .ok (.iconst 1, 1) := by decide +kernel
theorem dX2_isBoard_36 : decode cX2_isBoard 36 = .ok (.goto 4, 3) := by decide +kernel
theorem dX2_isBoard_39 : decode cX2_isBoard 39 = .ok (.iconst 0, 1) := by decide +kernel
theorem dX2_isBoard_40 : decode cX2_isBoard 40 = .ok (.ireturn, 1) := by decide +kernel
theorem dX3_init_0 : decode cX3_init 0 = .ok (.aload_n 0, 1) := by decide +kernel
theorem dX3_init_1 : decode cX3_init 1 = .ok (.invokespecial 3, 3) := by decide +kernel
theorem dX3_init_4 : decode cX3_init 4 = .ok (.aload_n 0, 1) := by decide +kernel
theorem dX3_init_5 : decode cX3_init 5 = .ok (.bipush 6, 2) := by decide +kernel
theorem dX3_init_7 : decode cX3_init 7 = .ok (.newarray .int, 2) := by decide +kernel
theorem dX3_init_9 : decode cX3_init 9 = .ok (.putfield 9, 3) := by decide +kernel
theorem dX3_init_12 : decode cX3_init 12 = .ok (.aload_n 0, 1) := by decide +kernel
theorem dX3_init_13 : decode cX3_init 13 = .ok (.bipush 6, 2) := by decide +kernel
theorem dX3_init_15 : decode cX3_init 15 = .ok (.newarray .int, 2) := by decide +kernel
theorem dX3_init_17 : decode cX3_init 17 = .ok (.putfield 15, 3) := by decide +kernel
theorem dX3_init_20 : decode cX3_init 20 = .ok (.return_, 1) := by decide +kernel
theorem dX3_append_0 : decode cX3_append 0 = .ok (.aload_n 0, 1) := by decide +kernel
theorem dX3_append_1 : decode cX3_append 1 = .ok (.getfield 18, 3) := by decide +kernel
theorem dX3_append_4 : decode cX3_append 4 = .ok (.ifCond .lt 12, 3) := by decide +kernel
theorem dX3_append_7 : decode cX3_append 7 = .ok (.aload_n 0, 1) := by decide +kernel
theorem dX3_append_8 : decode cX3_append 8 = .ok (.getfield 18, 3) := by decide +kernel
theorem dX3_append_11 : decode cX3_append 11 = .ok (.bipush 6, 2) := by decide +kernel
theorem dX3_append_13 : decode cX3_append 13 = .ok (.if_icmp .lt 5, 3) := by decide +kernel
theorem dX3_append_16 : decode cX3_append 16 = .ok (.iconst 0, 1) := by decide +kernel
theorem dX3_append_17 : decode cX3_append 17 = .ok (.ireturn, 1) := by decide +kernel
theorem dX3_append_18 : decode cX3_append 18 = .ok (.aload_n 0, 1) := by decide +kernel
theorem dX3_append_19 : decode cX3_append 19 = .ok (.getfield 9, 3) := by decide +kernel
theorem dX3_append_22 : decode cX3_append 22 = .ok (.aload_n 0, 1) := by decide +kernel
theorem dX3_append_23 : decode cX3_append 23 = .ok (.getfield 18, 3) := by decide +kernel
theorem dX3_append_26 : decode cX3_append 26 = .ok (.iload_n 1, 1) := by decide +kernel
theorem dX3_append_27 : decode cX3_append 27 = .ok (.iastore, 1) := by decide +kernel
theorem dX3_append_28 : decode cX3_append 28 = .ok (.aload_n 0, 1) := by decide +kernel
theorem dX3_append_29 : decode cX3_append 29 = .ok (.getfield 15, 3) := by decide +kernel
theorem dX3_append_32 : decode cX3_append 32 = .ok (.aload_n 0, 1) := by decide +kernel
theorem dX3_append_33 : decode cX3_append 33 = .ok (.getfield 18, 3) := by decide +kernel
theorem dX3_append_36 : decode cX3_append 36 = .ok (.iload_n 2, 1) := by decide +kernel
theorem dX3_append_37 : decode cX3_append 37 = .ok (.iastore, 1) := by decide +kernel
theorem dX3_append_38 : decode cX3_append 38 = .ok (.aload_n 0, 1) := by decide +kernel
theorem dX3_append_39 : decode cX3_append 39 = .ok (.dup, 1) := by decide +kernel
theorem dX3_append_40 : decode cX3_append 40 = .ok (.getfield 18, 3) := by decide +kernel
theorem dX3_append_43 : decode cX3_append 43 = .ok (.iconst 1, 1) := by decide +kernel
theorem dX3_append_44 : decode cX3_append 44 = .ok (.iadd, 1) := by decide +kernel
theorem dX3_append_45 : decode cX3_append 45 = .ok (.putfield 18, 3) := by decide +kernel
theorem dX3_append_48 : decode cX3_append 48 = .ok (.iconst 1, 1) := by decide +kernel
theorem dX3_append_49 : decode cX3_append 49 = .ok (.ireturn, 1) := by decide +kernel
theorem dX3_sortsOf_0 : decode cX3_sortsOf 0 = .ok (.bipush 31, 2) := by decide +kernel
theorem dX3_sortsOf_2 : decode cX3_sortsOf 2 = .ok (.istore_n 2, 1) := by decide +kernel
theorem dX3_sortsOf_3 : decode cX3_sortsOf 3 = .ok (.iconst 0, 1) := by decide +kernel
theorem dX3_sortsOf_4 : decode cX3_sortsOf 4 = .ok (.istore_n 3, 1) := by decide +kernel
theorem dX3_sortsOf_5 : decode cX3_sortsOf 5 = .ok (.iload_n 3, 1) := by decide +kernel
theorem dX3_sortsOf_6 : decode cX3_sortsOf 6 = .ok (.aload_n 0, 1) := by decide +kernel
theorem dX3_sortsOf_7 : decode cX3_sortsOf 7 = .ok (.getfield 18, 3) := by decide +kernel
theorem dX3_sortsOf_10 : decode cX3_sortsOf 10 = .ok (.if_icmp .ge 34, 3) := by decide +kernel
theorem dX3_sortsOf_13 : decode cX3_sortsOf 13 = .ok (.iload_n 3, 1) := by decide +kernel
theorem dX3_sortsOf_14 : decode cX3_sortsOf 14 = .ok (.bipush 6, 2) := by decide +kernel
theorem dX3_sortsOf_16 : decode cX3_sortsOf 16 = .ok (.if_icmp .ge 28, 3) := by decide +kernel
theorem dX3_sortsOf_19 : decode cX3_sortsOf 19 = .ok (.aload_n 0, 1) := by decide +kernel
theorem dX3_sortsOf_20 : decode cX3_sortsOf 20 = .ok (.getfield 9, 3) := by decide +kernel
theorem dX3_sortsOf_23 : decode cX3_sortsOf 23 = .ok (.iload_n 3, 1) := by decide +kernel
theorem dX3_sortsOf_24 : decode cX3_sortsOf 24 = .ok (.iaload, 1) := by decide +kernel
theorem dX3_sortsOf_25 : decode cX3_sortsOf 25 = .ok (.iload_n 1, 1) := by decide +kernel
theorem dX3_sortsOf_26 : decode cX3_sortsOf 26 = .ok (.if_icmp .ne 12, 3) := by decide +kernel
theorem dX3_sortsOf_29 : decode cX3_sortsOf 29 = .ok (.iload_n 2, 1) := by decide +kernel
theorem dX3_sortsOf_30 : decode cX3_sortsOf 30 = .ok (.aload_n 0, 1) := by decide +kernel
theorem dX3_sortsOf_31 : decode cX3_sortsOf 31 = .ok (.getfield 15, 3) := by decide +kernel
theorem dX3_sortsOf_34 : decode cX3_sortsOf 34 = .ok (.iload_n 3, 1) := by decide +kernel
theorem dX3_sortsOf_35 : decode cX3_sortsOf 35 = .ok (.iaload, 1) := by decide +kernel
theorem dX3_sortsOf_36 : decode cX3_sortsOf 36 = .ok (.iand, 1) := by decide +kernel
theorem dX3_sortsOf_37 : decode cX3_sortsOf 37 = .ok (.istore_n 2, 1) := by decide +kernel
theorem dX3_sortsOf_38 : decode cX3_sortsOf 38 = .ok (.iinc 3 1, 3) := by decide +kernel
theorem dX3_sortsOf_41 : decode cX3_sortsOf 41 = .ok (.goto (-36), 3) := by decide +kernel
theorem dX3_sortsOf_44 : decode cX3_sortsOf 44 = .ok (.iload_n 2, 1) := by decide +kernel
theorem dX3_sortsOf_45 : decode cX3_sortsOf 45 = .ok (.ireturn, 1) := by decide +kernel
theorem dX3_copyFrom_0 : decode cX3_copyFrom 0 = .ok (.aload_n 0, 1) := by decide +kernel
theorem dX3_copyFrom_1 : decode cX3_copyFrom 1 = .ok (.aload_n 1, 1) := by decide +kernel
theorem dX3_copyFrom_2 : decode cX3_copyFrom 2 = .ok (.getfield 18, 3) := by decide +kernel
theorem dX3_copyFrom_5 : decode cX3_copyFrom 5 = .ok (.putfield 18, 3) := by decide +kernel
theorem dX3_copyFrom_8 : decode cX3_copyFrom 8 = .ok (.iconst 0, 1) := by decide +kernel
theorem dX3_copyFrom_9 : decode cX3_copyFrom 9 = .ok (.istore_n 2, 1) := by decide +kernel
theorem dX3_copyFrom_10 : decode cX3_copyFrom 10 = .ok (.iload_n 2, 1) := by decide +kernel
theorem dX3_copyFrom_11 : decode cX3_copyFrom 11 = .ok (.bipush 6, 2) := by decide +kernel
theorem dX3_copyFrom_13 : decode cX3_copyFrom 13 = .ok (.if_icmp .ge 33, 3) := by decide +kernel
theorem dX3_copyFrom_16 : decode cX3_copyFrom 16 = .ok (.aload_n 0, 1) := by decide +kernel
theorem dX3_copyFrom_17 : decode cX3_copyFrom 17 = .ok (.getfield 9, 3) := by decide +kernel
theorem dX3_copyFrom_20 : decode cX3_copyFrom 20 = .ok (.iload_n 2, 1) := by decide +kernel
theorem dX3_copyFrom_21 : decode cX3_copyFrom 21 = .ok (.aload_n 1, 1) := by decide +kernel
theorem dX3_copyFrom_22 : decode cX3_copyFrom 22 = .ok (.getfield 9, 3) := by decide +kernel
theorem dX3_copyFrom_25 : decode cX3_copyFrom 25 = .ok (.iload_n 2, 1) := by decide +kernel
theorem dX3_copyFrom_26 : decode cX3_copyFrom 26 = .ok (.iaload, 1) := by decide +kernel
theorem dX3_copyFrom_27 : decode cX3_copyFrom 27 = .ok (.iastore, 1) := by decide +kernel
theorem dX3_copyFrom_28 : decode cX3_copyFrom 28 = .ok (.aload_n 0, 1) := by decide +kernel
theorem dX3_copyFrom_29 : decode cX3_copyFrom 29 = .ok (.getfield 15, 3) := by decide +kernel
theorem dX3_copyFrom_32 : decode cX3_copyFrom 32 = .ok (.iload_n 2, 1) := by decide +kernel
theorem dX3_copyFrom_33 : decode cX3_copyFrom 33 = .ok (.aload_n 1, 1) := by decide +kernel
theorem dX3_copyFrom_34 : decode cX3_copyFrom 34 = .ok (.getfield 15, 3) := by decide +kernel
theorem dX3_copyFrom_37 : decode cX3_copyFrom 37 = .ok (.iload_n 2, 1) := by decide +kernel
theorem dX3_copyFrom_38 : decode cX3_copyFrom 38 = .ok (.iaload, 1) := by decide +kernel
theorem dX3_copyFrom_39 : decode cX3_copyFrom 39 = .ok (.iastore, 1) := by decide +kernel
theorem dX3_copyFrom_40 : decode cX3_copyFrom 40 = .ok (.iinc 2 1, 3) := by decide +kernel
theorem dX3_copyFrom_43 : decode cX3_copyFrom 43 = .ok (.goto (-33), 3) := by decide +kernel
theorem dX3_copyFrom_46 : decode cX3_copyFrom 46 = .ok (.return_, 1) := by decide +kernel
theorem dX4_init_0 : decode cX4_init 0 = .ok (.aload_n 0, 1) := by decide +kernel
theorem dX4_init_1 : decode cX4_init 1 = .ok (.invokespecial 3, 3) := by decide +kernel
theorem dX4_init_4 : decode cX4_init 4 = .ok (.aload_n 0, 1) := by decide +kernel
theorem dX4_init_5 : decode cX4_init 5 = .ok (.bipush 8, 2) := by decide +kernel
theorem dX4_init_7 : decode cX4_init 7 = .ok (.newarray .int, 2) := by decide +kernel
theorem dX4_init_9 : decode cX4_init 9 = .ok (.putfield 9, 3) := by decide +kernel
theorem dX4_init_12 : decode cX4_init 12 = .ok (.aload_n 0, 1) := by decide +kernel
theorem dX4_init_13 : decode cX4_init 13 = .ok (.bipush 8, 2) := by decide +kernel
theorem dX4_init_15 : decode cX4_init 15 = .ok (.newarray .int, 2) := by decide +kernel
theorem dX4_init_17 : decode cX4_init 17 = .ok (.putfield 15, 3) := by decide +kernel
theorem dX4_init_20 : decode cX4_init 20 = .ok (.aload_n 0, 1) := by decide +kernel
theorem dX4_init_21 : decode cX4_init 21 = .ok (.bipush 12, 2) := by decide +kernel
theorem dX4_init_23 : decode cX4_init 23 = .ok (.newarray .int, 2) := by decide +kernel
theorem dX4_init_25 : decode cX4_init 25 = .ok (.putfield 18, 3) := by decide +kernel
theorem dX4_init_28 : decode cX4_init 28 = .ok (.aload_n 0, 1) := by decide +kernel
theorem dX4_init_29 : decode cX4_init 29 = .ok (.aload_n 1, 1) := by decide +kernel
theorem dX4_init_30 : decode cX4_init 30 = .ok (.putfield 21, 3) := by decide +kernel
theorem dX4_init_33 : decode cX4_init 33 = .ok (.return_, 1) := by decide +kernel
set_option maxRecDepth 20000 in
theorem ggX4_read_X2_codeAt : GoodIn wsX4_read wsX2_codeAt := goodIn_r _ [11, 12, 13, 52, 53] (by decide +kernel) (by decide +kernel)
set_option maxRecDepth 20000 in
theorem gX4_read_X2_codeAt : GoodIn wsX4_read (wsV RX4 43 RX2 yX2_codeAt wsX2_codeAt) := goodIn_app (goodIn_of _ (by decide +kernel)) ggX4_read_X2_codeAt
set_option maxRecDepth 20000 in
theorem ggX4_read_X2_kindAt : GoodIn wsX4_read wsX2_kindAt := goodIn_r _ [17, 18, 8, 9, 10, 11, 12, 13, 52, 53] (by decide +kernel) (by decide +kernel)
set_option maxRecDepth 20000 in
theorem gX4_read_X2_kindAt : GoodIn wsX4_read (wsV RX4 49 RX2 yX2_kindAt wsX2_kindAt) := goodIn_app (goodIn_of _ (by decide +kernel)) ggX4_read_X2_kindAt
set_option maxRecDepth 20000 in
theorem ggX4_read_X4_addPeg : GoodIn wsX4_read wsX4_addPeg := goodIn_r _ [23, 2, 24, 25, 26, 27, 28, 22, 29, 6, 5, 3, 30, 31, 32, 33, 34, 35, 36, 37, 38, 39, 40, 41, 42, 43, 44, 45, 46, 47, 48, 49, 50, 51] (by decide +kernel) (by decide +kernel)
set_option maxRecDepth 20000 in
theorem gX4_read_X4_addPeg : GoodIn wsX4_read (wsV RX4 52 RX4 yX4_addPeg wsX4_addPeg) := goodIn_app (goodIn_of _ (by decide +kernel)) ggX4_read_X4_addPeg
theorem dX4_read_0 : decode cX4_read 0 = .ok (.aload_n 0, 1) := by decide +kernel
theorem dX4_read_1 : decode cX4_read 1 = .ok (.iconst 0, 1) := by decide +kernel
theorem dX4_read_2 : decode cX4_read 2 = .ok (.putfield 25, 3) := by decide +kernel
theorem dX4_read_5 : decode cX4_read 5 = .ok (.aload_n 0, 1) := by decide +kernel
theorem dX4_read_6 : decode cX4_read 6 = .ok (.iconst 0, 1) := by decide +kernel
theorem dX4_read_7 : decode cX4_read 7 = .ok (.putfield 29, 3) := by decide +kernel
theorem dX4_read_10 : decode cX4_read 10 = .ok (.aload_n 0, 1) := by decide +kernel
theorem dX4_read_11 : decode cX4_read 11 = .ok (.iconst 0, 1) := by decide +kernel
theorem dX4_read_12 : decode cX4_read 12 = .ok (.putfield 32, 3) := by decide +kernel
theorem dX4_read_15 : decode cX4_read 15 = .ok (.aload_n 0, 1) := by decide +kernel
theorem dX4_read_16 : decode cX4_read 16 = .ok (.iconst 0, 1) := by decide +kernel
theorem dX4_read_17 : decode cX4_read 17 = .ok (.putfield 35, 3) := by decide +kernel
theorem dX4_read_20 : decode cX4_read 20 = .ok (.iconst 0, 1) := by decide +kernel
theorem dX4_read_21 : decode cX4_read 21 = .ok (.istore_n 2, 1) := by decide +kernel
theorem dX4_read_22 : decode cX4_read 22 = .ok (.iload_n 2, 1) := by decide +kernel
theorem dX4_read_23 : decode cX4_read 23 = .ok (.bipush 12, 2) := by decide +kernel
theorem dX4_read_25 : decode cX4_read 25 = .ok (.if_icmp .ge 63, 3) := by decide +kernel
theorem dX4_read_28 : decode cX4_read 28 = .ok (.aload_n 0, 1) := by decide +kernel
theorem dX4_read_29 : decode cX4_read 29 = .ok (.getfield 18, 3) := by decide +kernel
theorem dX4_read_32 : decode cX4_read 32 = .ok (.iload_n 2, 1) := by decide +kernel
theorem dX4_read_33 : decode cX4_read 33 = .ok (.iconst (-1), 1) := by decide +kernel
theorem dX4_read_34 : decode cX4_read 34 = .ok (.iastore, 1) := by decide +kernel
theorem dX4_read_35 : decode cX4_read 35 = .ok (.iload_n 2, 1) := by decide +kernel
theorem dX4_read_36 : decode cX4_read 36 = .ok (.aload_n 0, 1) := by decide +kernel
theorem dX4_read_37 : decode cX4_read 37 = .ok (.getfield 21, 3) := by decide +kernel
theorem dX4_read_40 : decode cX4_read 40 = .ok (.getfield 38, 3) := by decide +kernel
theorem dX4_read_43 : decode cX4_read 43 = .ok (.if_icmp .ge 39, 3) := by decide +kernel
theorem dX4_read_46 : decode cX4_read 46 = .ok (.aload_n 1, 1) := by decide +kernel
theorem dX4_read_47 : decode cX4_read 47 = .ok (.iconst 3, 1) := by decide +kernel
theorem dX4_read_48 : decode cX4_read 48 = .ok (.iload_n 2, 1) := by decide +kernel
theorem dX4_read_49 : decode cX4_read 49 = .ok (.iadd, 1) := by decide +kernel
theorem dX4_read_50 : decode cX4_read 50 = .ok (.invokevirtual 43, 3) := by decide +kernel
theorem dX4_read_53 : decode cX4_read 53 = .ok (.bipush 35, 2) := by decide +kernel
theorem dX4_read_55 : decode cX4_read 55 = .ok (.if_icmp .eq 27, 3) := by decide +kernel
theorem dX4_read_58 : decode cX4_read 58 = .ok (.aload_n 0, 1) := by decide +kernel
theorem dX4_read_59 : decode cX4_read 59 = .ok (.dup, 1) := by decide +kernel
theorem dX4_read_60 : decode cX4_read 60 = .ok (.getfield 25, 3) := by decide +kernel
theorem dX4_read_63 : decode cX4_read 63 = .ok (.iconst 1, 1) := by decide +kernel
theorem dX4_read_64 : decode cX4_read 64 = .ok (.iload_n 2, 1) := by decide +kernel
theorem dX4_read_65 : decode cX4_read 65 = .ok (.ishl, 1) := by decide +kernel
theorem dX4_read_66 : decode cX4_read 66 = .ok (.ior, 1) := by decide +kernel
theorem dX4_read_67 : decode cX4_read 67 = .ok (.putfield 25, 3) := by decide +kernel
theorem dX4_read_70 : decode cX4_read 70 = .ok (.aload_n 0, 1) := by decide +kernel
theorem dX4_read_71 : decode cX4_read 71 = .ok (.aload_n 1, 1) := by decide +kernel
theorem dX4_read_72 : decode cX4_read 72 = .ok (.iconst 3, 1) := by decide +kernel
theorem dX4_read_73 : decode cX4_read 73 = .ok (.iload_n 2, 1) := by decide +kernel
theorem dX4_read_74 : decode cX4_read 74 = .ok (.iadd, 1) := by decide +kernel
theorem dX4_read_75 : decode cX4_read 75 = .ok (.invokevirtual 49, 3) := by decide +kernel
theorem dX4_read_78 : decode cX4_read 78 = .ok (.iload_n 2, 1) := by decide +kernel
theorem dX4_read_79 : decode cX4_read 79 = .ok (.invokevirtual 52, 3) := by decide +kernel
theorem dX4_read_82 : decode cX4_read 82 = .ok (.iinc 2 1, 3) := by decide +kernel
theorem dX4_read_85 : decode cX4_read 85 = .ok (.goto (-63), 3) := by decide +kernel
theorem dX4_read_88 : decode cX4_read 88 = .ok (.return_, 1) := by decide +kernel
set_option maxRecDepth 20000 in
theorem ggX4_addPlain_X4_addPeg : GoodIn wsX4_addPlain wsX4_addPeg := goodIn_r _ [5, 6, 7, 8, 9, 10, 11, 4, 12, 13, 14, 15, 16, 17, 18, 19, 20, 21, 22, 23, 24, 25, 26, 27, 28, 29, 30, 31, 32, 33, 34, 35, 36, 37] (by decide +kernel) (by decide +kernel)
set_option maxRecDepth 20000 in
theorem gX4_addPlain_X4_addPeg : GoodIn wsX4_addPlain (wsV RX4 52 RX4 yX4_addPeg wsX4_addPeg) := goodIn_app (goodIn_of _ (by decide +kernel)) ggX4_addPlain_X4_addPeg
theorem dX4_addPlain_0 : decode cX4_addPlain 0 = .ok (.aload_n 0, 1) := by decide +kernel
theorem dX4_addPlain_1 : decode cX4_addPlain 1 = .ok (.iconst 0, 1) := by decide +kernel
theorem dX4_addPlain_2 : decode cX4_addPlain 2 = .ok (.iload_n 1, 1) := by decide +kernel
theorem dX4_addPlain_3 : decode cX4_addPlain 3 = .ok (.invokevirtual 52, 3) := by decide +kernel
theorem dX4_addPlain_6 : decode cX4_addPlain 6 = .ok (.return_, 1) := by decide +kernel
set_option maxRecDepth 20000 in
theorem ggX4_addPeg_X4_set : GoodIn wsX4_addPeg wsX4_set := goodIn_r _ [8, 9, 3, 10, 11, 12, 13, 14, 7, 15, 1, 16, 17, 18, 19, 20, 21, 22, 23, 24, 25, 26, 27, 28, 29, 30, 31, 32, 33] (by decide +kernel) (by decide +kernel)
set_option maxRecDepth 20000 in
theorem gX4_addPeg_X4_set : GoodIn wsX4_addPeg (wsV RX4 56 RX4 yX4_set wsX4_set) := goodIn_app (goodIn_of _ (by decide +kernel)) ggX4_addPeg_X4_set
theorem dX4_addPeg_0 : decode cX4_addPeg 0 = .ok (.iload_n 1, 1) := by decide +kernel
theorem dX4_addPeg_1 : decode cX4_addPeg 1 = .ok (.iconst (-1), 1) := by decide +kernel
theorem dX4_addPeg_2 : decode cX4_addPeg 2 = .ok (.if_icmp .eq 22, 3) := by decide +kernel
theorem dX4_addPeg_5 : decode cX4_addPeg 5 = .ok (.aload_n 0, 1) := by decide +kernel
theorem dX4_addPeg_6 : decode cX4_addPeg 6 = .ok (.getfield 29, 3) := by decide +kernel
theorem dX4_addPeg_9 : decode cX4_addPeg 9 = .ok (.ifCond .lt 15, 3) := by decide +kernel
theorem dX4_addPeg_12 : decode cX4_addPeg 12 = .ok (.aload_n 0, 1) := by decide +kernel
theorem dX4_addPeg_13 : decode cX4_addPeg 13 = .ok (.getfield 29, 3) := by decide +kernel
theorem dX4_addPeg_16 : decode cX4_addPeg 16 = .ok (.aload_n 0, 1) := by decide +kernel
theorem dX4_addPeg_17 : decode cX4_addPeg 17 = .ok (.getfield 9, 3) := by decide +kernel
theorem dX4_addPeg_20 : decode cX4_addPeg 20 = .ok (.arraylength, 1) := by decide +kernel
theorem dX4_addPeg_21 : decode cX4_addPeg 21 = .ok (.if_icmp .lt 4, 3) := by decide +kernel
theorem dX4_addPeg_24 : decode cX4_addPeg 24 = .ok (.return_, 1) := by decide +kernel
theorem dX4_addPeg_25 : decode cX4_addPeg 25 = .ok (.aload_n 0, 1) := by decide +kernel
theorem dX4_addPeg_26 : decode cX4_addPeg 26 = .ok (.getfield 29, 3) := by decide +kernel
theorem dX4_addPeg_29 : decode cX4_addPeg 29 = .ok (.istore_n 3, 1) := by decide +kernel
theorem dX4_addPeg_30 : decode cX4_addPeg 30 = .ok (.aload_n 0, 1) := by decide +kernel
theorem dX4_addPeg_31 : decode cX4_addPeg 31 = .ok (.dup, 1) := by decide +kernel
theorem dX4_addPeg_32 : decode cX4_addPeg 32 = .ok (.getfield 29, 3) := by decide +kernel
theorem dX4_addPeg_35 : decode cX4_addPeg 35 = .ok (.iconst 1, 1) := by decide +kernel
theorem dX4_addPeg_36 : decode cX4_addPeg 36 = .ok (.iadd, 1) := by decide +kernel
theorem dX4_addPeg_37 : decode cX4_addPeg 37 = .ok (.putfield 29, 3) := by decide +kernel
theorem dX4_addPeg_40 : decode cX4_addPeg 40 = .ok (.aload_n 0, 1) := by decide +kernel
theorem dX4_addPeg_41 : decode cX4_addPeg 41 = .ok (.getfield 9, 3) := by decide +kernel
theorem dX4_addPeg_44 : decode cX4_addPeg 44 = .ok (.iload_n 3, 1) := by decide +kernel
theorem dX4_addPeg_45 : decode cX4_addPeg 45 = .ok (.iload_n 1, 1) := by decide +kernel
theorem dX4_addPeg_46 : decode cX4_addPeg 46 = .ok (.iastore, 1) := by decide +kernel
theorem dX4_addPeg_47 : decode cX4_addPeg 47 = .ok (.aload_n 0, 1) := by decide +kernel
theorem dX4_addPeg_48 : decode cX4_addPeg 48 = .ok (.getfield 15, 3) := by decide +kernel
theorem dX4_addPeg_51 : decode cX4_addPeg 51 = .ok (.iload_n 3, 1) := by decide +kernel
theorem dX4_addPeg_52 : decode cX4_addPeg 52 = .ok (.iconst (-1), 1) := by decide +kernel
theorem dX4_addPeg_53 : decode cX4_addPeg 53 = .ok (.iastore, 1) := by decide +kernel
theorem dX4_addPeg_54 : decode cX4_addPeg 54 = .ok (.aload_n 0, 1) := by decide +kernel
theorem dX4_addPeg_55 : decode cX4_addPeg 55 = .ok (.iload_n 3, 1) := by decide +kernel
theorem dX4_addPeg_56 : decode cX4_addPeg 56 = .ok (.iload_n 2, 1) := by decide +kernel
theorem dX4_addPeg_57 : decode cX4_addPeg 57 = .ok (.invokevirtual 56, 3) := by decide +kernel
theorem dX4_addPeg_60 : decode cX4_addPeg 60 = .ok (.return_, 1) := by decide +kernel
theorem dX4_copyFrom_0 : decode cX4_copyFrom 0 = .ok (.aload_n 0, 1) := by decide +kernel
theorem dX4_copyFrom_1 : decode cX4_copyFrom 1 = .ok (.aload_n 1, 1) := by decide +kernel
theorem dX4_copyFrom_2 : decode cX4_copyFrom 2 = .ok (.getfield 25, 3) := by decide +kernel
theorem dX4_copyFrom_5 : decode cX4_copyFrom 5 = .ok (.putfield 25, 3) := by decide +kernel
theorem dX4_copyFrom_8 : decode cX4_copyFrom 8 = .ok (.aload_n 0, 1) := by decide +kernel
theorem dX4_copyFrom_9 : decode cX4_copyFrom 9 = .ok (.aload_n 1, 1) := by decide +kernel
theorem dX4_copyFrom_10 : decode cX4_copyFrom 10 = .ok (.getfield 29, 3) := by decide +kernel
theorem dX4_copyFrom_13 : decode cX4_copyFrom 13 = .ok (.putfield 29, 3) := by decide +kernel
theorem dX4_copyFrom_16 : decode cX4_copyFrom 16 = .ok (.aload_n 0, 1) := by decide +kernel
theorem dX4_copyFrom_17 : decode cX4_copyFrom 17 = .ok (.aload_n 1, 1) := by decide +kernel
theorem dX4_copyFrom_18 : decode cX4_copyFrom 18 = .ok (.getfield 32, 3) := by decide +kernel
theorem dX4_copyFrom_21 : decode cX4_copyFrom 21 = .ok (.putfield 32, 3) := by decide +kernel
theorem dX4_copyFrom_24 : decode cX4_copyFrom 24 = .ok (.aload_n 0, 1) := by decide +kernel
theorem dX4_copyFrom_25 : decode cX4_copyFrom 25 = .ok (.aload_n 1, 1) := by decide +kernel
theorem dX4_copyFrom_26 : decode cX4_copyFrom 26 = .ok (.getfield 35, 3) := by decide +kernel
theorem dX4_copyFrom_29 : decode cX4_copyFrom 29 = .ok (.putfield 35, 3) := by decide +kernel
theorem dX4_copyFrom_32 : decode cX4_copyFrom 32 = .ok (.iconst 0, 1) := by decide +kernel
theorem dX4_copyFrom_33 : decode cX4_copyFrom 33 = .ok (.istore_n 2, 1) := by decide +kernel
theorem dX4_copyFrom_34 : decode cX4_copyFrom 34 = .ok (.iload_n 2, 1) := by decide +kernel
theorem dX4_copyFrom_35 : decode cX4_copyFrom 35 = .ok (.bipush 8, 2) := by decide +kernel
theorem dX4_copyFrom_37 : decode cX4_copyFrom 37 = .ok (.if_icmp .ge 33, 3) := by decide +kernel
theorem dX4_copyFrom_40 : decode cX4_copyFrom 40 = .ok (.aload_n 0, 1) := by decide +kernel
theorem dX4_copyFrom_41 : decode cX4_copyFrom 41 = .ok (.getfield 9, 3) := by decide +kernel
theorem dX4_copyFrom_44 : decode cX4_copyFrom 44 = .ok (.iload_n 2, 1) := by decide +kernel
theorem dX4_copyFrom_45 : decode cX4_copyFrom 45 = .ok (.aload_n 1, 1) := by decide +kernel
theorem dX4_copyFrom_46 : decode cX4_copyFrom 46 = .ok (.getfield 9, 3) := by decide +kernel
theorem dX4_copyFrom_49 : decode cX4_copyFrom 49 = .ok (.iload_n 2, 1) := by decide +kernel
theorem dX4_copyFrom_50 : decode cX4_copyFrom 50 = .ok (.iaload, 1) := by decide +kernel
theorem dX4_copyFrom_51 : decode cX4_copyFrom 51 = .ok (.iastore, 1) := by decide +kernel
theorem dX4_copyFrom_52 : decode cX4_copyFrom 52 = .ok (.aload_n 0, 1) := by decide +kernel
theorem dX4_copyFrom_53 : decode cX4_copyFrom 53 = .ok (.getfield 15, 3) := by decide +kernel
theorem dX4_copyFrom_56 : decode cX4_copyFrom 56 = .ok (.iload_n 2, 1) := by decide +kernel
theorem dX4_copyFrom_57 : decode cX4_copyFrom 57 = .ok (.aload_n 1, 1) := by decide +kernel
theorem dX4_copyFrom_58 : decode cX4_copyFrom 58 = .ok (.getfield 15, 3) := by decide +kernel
theorem dX4_copyFrom_61 : decode cX4_copyFrom 61 = .ok (.iload_n 2, 1) := by decide +kernel
theorem dX4_copyFrom_62 : decode cX4_copyFrom 62 = .ok (.iaload, 1) := by decide +kernel
theorem dX4_copyFrom_63 : decode cX4_copyFrom 63 = .ok (.iastore, 1) := by decide +kernel
theorem dX4_copyFrom_64 : decode cX4_copyFrom 64 = .ok (.iinc 2 1, 3) := by decide +kernel
theorem dX4_copyFrom_67 : decode cX4_copyFrom 67 = .ok (.goto (-33), 3) := by decide +kernel
theorem dX4_copyFrom_70 : decode cX4_copyFrom 70 = .ok (.iconst 0, 1) := by decide +kernel
theorem dX4_copyFrom_71 : decode cX4_copyFrom 71 = .ok (.istore_n 2, 1) := by decide +kernel
theorem dX4_copyFrom_72 : decode cX4_copyFrom 72 = .ok (.iload_n 2, 1) := by decide +kernel
theorem dX4_copyFrom_73 : decode cX4_copyFrom 73 = .ok (.bipush 12, 2) := by decide +kernel
theorem dX4_copyFrom_75 : decode cX4_copyFrom 75 = .ok (.if_icmp .ge 21, 3) := by decide +kernel
theorem dX4_copyFrom_78 : decode cX4_copyFrom 78 = .ok (.aload_n 0, 1) := by decide +kernel
theorem dX4_copyFrom_79 : decode cX4_copyFrom 79 = .ok (.getfield 18, 3) := by decide +kernel
theorem dX4_copyFrom_82 : decode cX4_copyFrom 82 = .ok (.iload_n 2, 1) := by decide +kernel
theorem dX4_copyFrom_83 : decode cX4_copyFrom 83 = .ok (.aload_n 1, 1) := by decide +kernel
theorem dX4_copyFrom_84 : decode cX4_copyFrom 84 = .ok (.getfield 18, 3) := by decide +kernel
theorem dX4_copyFrom_87 : decode cX4_copyFrom 87 = .ok (.iload_n 2, 1) := by decide +kernel
theorem dX4_copyFrom_88 : decode cX4_copyFrom 88 = .ok (.iaload, 1) := by decide +kernel
theorem dX4_copyFrom_89 : decode cX4_copyFrom 89 = .ok (.iastore, 1) := by decide +kernel
theorem dX4_copyFrom_90 : decode cX4_copyFrom 90 = .ok (.iinc 2 1, 3) := by decide +kernel
theorem dX4_copyFrom_93 : decode cX4_copyFrom 93 = .ok (.goto (-21), 3) := by decide +kernel
theorem dX4_copyFrom_96 : decode cX4_copyFrom 96 = .ok (.return_, 1) := by decide +kernel
theorem dX4_isPeg_0 : decode cX4_isPeg 0 = .ok (.iload_n 1, 1) := by decide +kernel
theorem dX4_isPeg_1 : decode cX4_isPeg 1 = .ok (.ifCond .lt 21, 3) := by decide +kernel
theorem dX4_isPeg_4 : decode cX4_isPeg 4 = .ok (.iload_n 1, 1) := by decide +kernel
theorem dX4_isPeg_5 : decode cX4_isPeg 5 = .ok (.bipush 8, 2) := by decide +kernel
theorem dX4_isPeg_7 : decode cX4_isPeg 7 = .ok (.if_icmp .ge 15, 3) := by decide +kernel
theorem dX4_isPeg_10 : decode cX4_isPeg 10 = .ok (.iload_n 1, 1) := by decide +kernel
theorem dX4_isPeg_11 : decode cX4_isPeg 11 = .ok (.aload_n 0, 1) := by decide +kernel
theorem dX4_isPeg_12 : decode cX4_isPeg 12 = .ok (.getfield 29, 3) := by decide +kernel
theorem dX4_isPeg_15 : decode cX4_isPeg 15 = .ok (.if_icmp .ge 7, 3) := by decide +kernel
theorem dX4_isPeg_18 : decode cX4_isPeg 18 = .ok (.iconst 1, 1) := by decide +kernel
theorem dX4_isPeg_19 : decode cX4_isPeg 19 = .ok (.goto 4, 3) := by decide +kernel
theorem dX4_isPeg_22 : decode cX4_isPeg 22 = .ok (.iconst 0, 1) := by decide +kernel
theorem dX4_isPeg_23 : decode cX4_isPeg 23 = .ok (.ireturn, 1) := by decide +kernel
set_option maxRecDepth 20000 in
theorem ggX4_kindOf_X4_isPeg : GoodIn wsX4_kindOf wsX4_isPeg := goodIn_r _ [6, 7, 8, 9, 10, 11, 12, 13, 14, 15] (by decide +kernel) (by decide +kernel)
set_option maxRecDepth 20000 in
theorem gX4_kindOf_X4_isPeg : GoodIn wsX4_kindOf (wsV RX4 59 RX4 yX4_isPeg wsX4_isPeg) := goodIn_app (goodIn_of _ (by decide +kernel)) ggX4_kindOf_X4_isPeg
theorem dX4_kindOf_0 : decode cX4_kindOf 0 = .ok (.aload_n 0, 1) := by decide +kernel
theorem dX4_kindOf_1 : decode cX4_kindOf 1 = .ok (.iload_n 1, 1) := by decide +kernel
theorem dX4_kindOf_2 : decode cX4_kindOf 2 = .ok (.invokevirtual 59, 3) := by decide +kernel
theorem dX4_kindOf_5 : decode cX4_kindOf 5 = .ok (.ifCond .eq 12, 3) := by decide +kernel
theorem dX4_kindOf_8 : decode cX4_kindOf 8 = .ok (.aload_n 0, 1) := by decide +kernel
theorem dX4_kindOf_9 : decode cX4_kindOf 9 = .ok (.getfield 9, 3) := by decide +kernel
theorem dX4_kindOf_12 : decode cX4_kindOf 12 = .ok (.iload_n 1, 1) := by decide +kernel
theorem dX4_kindOf_13 : decode cX4_kindOf 13 = .ok (.iaload, 1) := by decide +kernel
theorem dX4_kindOf_14 : decode cX4_kindOf 14 = .ok (.goto 4, 3) := by decide +kernel
theorem dX4_kindOf_17 : decode cX4_kindOf 17 = .ok (.iconst (-1), 1) := by decide +kernel
theorem dX4_kindOf_18 : decode cX4_kindOf 18 = .ok (.ireturn, 1) := by decide +kernel
set_option maxRecDepth 20000 in
theorem ggX4_homeOf_X4_isPeg : GoodIn wsX4_homeOf wsX4_isPeg := goodIn_r _ [6, 7, 8, 9, 10, 11, 12, 13, 14, 15] (by decide +kernel) (by decide +kernel)
set_option maxRecDepth 20000 in
theorem gX4_homeOf_X4_isPeg : GoodIn wsX4_homeOf (wsV RX4 59 RX4 yX4_isPeg wsX4_isPeg) := goodIn_app (goodIn_of _ (by decide +kernel)) ggX4_homeOf_X4_isPeg
theorem dX4_homeOf_0 : decode cX4_homeOf 0 = .ok (.aload_n 0, 1) := by decide +kernel
theorem dX4_homeOf_1 : decode cX4_homeOf 1 = .ok (.iload_n 1, 1) := by decide +kernel
theorem dX4_homeOf_2 : decode cX4_homeOf 2 = .ok (.invokevirtual 59, 3) := by decide +kernel
theorem dX4_homeOf_5 : decode cX4_homeOf 5 = .ok (.ifCond .eq 12, 3) := by decide +kernel
theorem dX4_homeOf_8 : decode cX4_homeOf 8 = .ok (.aload_n 0, 1) := by decide +kernel
theorem dX4_homeOf_9 : decode cX4_homeOf 9 = .ok (.getfield 15, 3) := by decide +kernel
theorem dX4_homeOf_12 : decode cX4_homeOf 12 = .ok (.iload_n 1, 1) := by decide +kernel
theorem dX4_homeOf_13 : decode cX4_homeOf 13 = .ok (.iaload, 1) := by decide +kernel
theorem dX4_homeOf_14 : decode cX4_homeOf 14 = .ok (.goto 4, 3) := by decide +kernel
theorem dX4_homeOf_17 : decode cX4_homeOf 17 = .ok (.iconst (-1), 1) := by decide +kernel
theorem dX4_homeOf_18 : decode cX4_homeOf 18 = .ok (.ireturn, 1) := by decide +kernel
set_option maxRecDepth 20000 in
theorem ggX4_turn_X4_isPeg : GoodIn wsX4_turn wsX4_isPeg := goodIn_r _ [6, 7, 8, 9, 10, 11, 12, 13, 14, 15] (by decide +kernel) (by decide +kernel)
set_option maxRecDepth 20000 in
theorem gX4_turn_X4_isPeg : GoodIn wsX4_turn (wsV RX4 59 RX4 yX4_isPeg wsX4_isPeg) := goodIn_app (goodIn_of _ (by decide +kernel)) ggX4_turn_X4_isPeg
theorem dX4_turn_0 : decode cX4_turn 0 = .ok (.aload_n 0, 1) := by decide +kernel
theorem dX4_turn_1 : decode cX4_turn 1 = .ok (.iload_n 1, 1) := by decide +kernel
theorem dX4_turn_2 : decode cX4_turn 2 = .ok (.invokevirtual 59, 3) := by decide +kernel
theorem dX4_turn_5 : decode cX4_turn 5 = .ok (.ifCond .eq 10, 3) := by decide +kernel
theorem dX4_turn_8 : decode cX4_turn 8 = .ok (.aload_n 0, 1) := by decide +kernel
theorem dX4_turn_9 : decode cX4_turn 9 = .ok (.getfield 9, 3) := by decide +kernel
theorem dX4_turn_12 : decode cX4_turn 12 = .ok (.iload_n 1, 1) := by decide +kernel
theorem dX4_turn_13 : decode cX4_turn 13 = .ok (.iload_n 2, 1) := by decide +kernel
theorem dX4_turn_14 : decode cX4_turn 14 = .ok (.iastore, 1) := by decide +kernel
theorem dX4_turn_15 : decode cX4_turn 15 = .ok (.return_, 1) := by decide +kernel
set_option maxRecDepth 20000 in
theorem ggX4_isHole_X0_has : GoodIn wsX4_isHole wsX0_has := goodIn_r _ [7, 8, 20, 21, 22, 23] (by decide +kernel) (by decide +kernel)
set_option maxRecDepth 20000 in
theorem gX4_isHole_X0_has : GoodIn wsX4_isHole (wsV RX4 63 RX0 yX0_has wsX0_has) := goodIn_app (goodIn_of _ (by decide +kernel)) ggX4_isHole_X0_has
set_option maxRecDepth 20000 in
theorem ggX4_isHole_X5_hasBit : GoodIn wsX4_isHole wsX5_hasBit := goodIn_r _ [11] (by decide +kernel) (by decide +kernel)
set_option maxRecDepth 20000 in
theorem gX4_isHole_X5_hasBit_n66 : GoodIn wsX4_isHole (wsX5_hasBit) := ggX4_isHole_X5_hasBit
theorem dX4_isHole_0 : decode cX4_isHole 0 = .ok (.aload_n 0, 1) := by decide +kernel
theorem dX4_isHole_1 : decode cX4_isHole 1 = .ok (.getfield 21, 3) := by decide +kernel
theorem dX4_isHole_4 : decode cX4_isHole 4 = .ok (.iload_n 1, 1) := by decide +kernel
theorem dX4_isHole_5 : decode cX4_isHole 5 = .ok (.invokevirtual 63, 3) := by decide +kernel
theorem dX4_isHole_8 : decode cX4_isHole 8 = .ok (.ifCond .eq 18, 3) := by decide +kernel
theorem dX4_isHole_11 : decode cX4_isHole 11 = .ok (.aload_n 0, 1) := by decide +kernel
theorem dX4_isHole_12 : decode cX4_isHole 12 = .ok (.getfield 25, 3) := by decide +kernel
theorem dX4_isHole_15 : decode cX4_isHole 15 = .ok (.iload_n 1, 1) := by decide +kernel
theorem dX4_isHole_16 : decode cX4_isHole 16 = .ok (.invokestatic 66, 3) := by decide +kernel
theorem dX4_isHole_19 : decode cX4_isHole 19 = .ok (.ifCond .eq 7, 3) := by decide +kernel
theorem dX4_isHole_22 : decode cX4_isHole 22 = .ok (.iconst 1, 1) := by decide +kernel
theorem dX4_isHole_23 : decode cX4_isHole 23 = .ok (.goto 4, 3) := by decide +kernel
theorem dX4_isHole_26 : decode cX4_isHole 26 = .ok (.iconst 0, 1) := by decide +kernel
theorem dX4_isHole_27 : decode cX4_isHole 27 = .ok (.ireturn, 1) := by decide +kernel
set_option maxRecDepth 20000 in
theorem ggX4_pegIn_X0_has : GoodIn wsX4_pegIn wsX0_has := goodIn_r _ [7, 8, 17, 18, 19, 20] (by decide +kernel) (by decide +kernel)
set_option maxRecDepth 20000 in
theorem gX4_pegIn_X0_has : GoodIn wsX4_pegIn (wsV RX4 63 RX0 yX0_has wsX0_has) := goodIn_app (goodIn_of _ (by decide +kernel)) ggX4_pegIn_X0_has
theorem dX4_pegIn_0 : decode cX4_pegIn 0 = .ok (.aload_n 0, 1) := by decide +kernel
theorem dX4_pegIn_1 : decode cX4_pegIn 1 = .ok (.getfield 21, 3) := by decide +kernel
theorem dX4_pegIn_4 : decode cX4_pegIn 4 = .ok (.iload_n 1, 1) := by decide +kernel
theorem dX4_pegIn_5 : decode cX4_pegIn 5 = .ok (.invokevirtual 63, 3) := by decide +kernel
theorem dX4_pegIn_8 : decode cX4_pegIn 8 = .ok (.ifCond .eq 12, 3) := by decide +kernel
theorem dX4_pegIn_11 : decode cX4_pegIn 11 = .ok (.aload_n 0, 1) := by decide +kernel
theorem dX4_pegIn_12 : decode cX4_pegIn 12 = .ok (.getfield 18, 3) := by decide +kernel
theorem dX4_pegIn_15 : decode cX4_pegIn 15 = .ok (.iload_n 1, 1) := by decide +kernel
theorem dX4_pegIn_16 : decode cX4_pegIn 16 = .ok (.iaload, 1) := by decide +kernel
theorem dX4_pegIn_17 : decode cX4_pegIn 17 = .ok (.goto 4, 3) := by decide +kernel
theorem dX4_pegIn_20 : decode cX4_pegIn 20 = .ok (.iconst (-1), 1) := by decide +kernel
theorem dX4_pegIn_21 : decode cX4_pegIn 21 = .ok (.ireturn, 1) := by decide +kernel
set_option maxRecDepth 20000 in
theorem ggX4_isEmptyHole_X0_has : GoodIn wsX4_isEmptyHole wsX0_has := goodIn_r _ [8, 9, 21, 22, 23, 24] (by decide +kernel) (by decide +kernel)
set_option maxRecDepth 20000 in
theorem gX4_isEmptyHole_X0_has : GoodIn wsX4_isEmptyHole (wsV RX4 63 RX0 yX0_has wsX0_has) := goodIn_app (goodIn_of _ (by decide +kernel)) ggX4_isEmptyHole_X0_has
set_option maxRecDepth 20000 in
theorem ggX4_isEmptyHole_X5_hasBit : GoodIn wsX4_isEmptyHole wsX5_hasBit := goodIn_r _ [12] (by decide +kernel) (by decide +kernel)
set_option maxRecDepth 20000 in
theorem gX4_isEmptyHole_X5_hasBit_n66 : GoodIn wsX4_isEmptyHole (wsX5_hasBit) := ggX4_isEmptyHole_X5_hasBit
theorem dX4_isEmptyHole_0 : decode cX4_isEmptyHole 0 = .ok (.aload_n 0, 1) := by decide +kernel
theorem dX4_isEmptyHole_1 : decode cX4_isEmptyHole 1 = .ok (.getfield 21, 3) := by decide +kernel
theorem dX4_isEmptyHole_4 : decode cX4_isEmptyHole 4 = .ok (.iload_n 1, 1) := by decide +kernel
theorem dX4_isEmptyHole_5 : decode cX4_isEmptyHole 5 = .ok (.invokevirtual 63, 3) := by decide +kernel
theorem dX4_isEmptyHole_8 : decode cX4_isEmptyHole 8 = .ok (.ifCond .eq 28, 3) := by decide +kernel
theorem dX4_isEmptyHole_11 : decode cX4_isEmptyHole 11 = .ok (.aload_n 0, 1) := by decide +kernel
theorem dX4_isEmptyHole_12 : decode cX4_isEmptyHole 12 = .ok (.getfield 25, 3) := by decide +kernel
theorem dX4_isEmptyHole_15 : decode cX4_isEmptyHole 15 = .ok (.iload_n 1, 1) := by decide +kernel
theorem dX4_isEmptyHole_16 : decode cX4_isEmptyHole 16 = .ok (.invokestatic 66, 3) := by decide +kernel
theorem dX4_isEmptyHole_19 : decode cX4_isEmptyHole 19 = .ok (.ifCond .eq 17, 3) := by decide +kernel
theorem dX4_isEmptyHole_22 : decode cX4_isEmptyHole 22 = .ok (.aload_n 0, 1) := by decide +kernel
theorem dX4_isEmptyHole_23 : decode cX4_isEmptyHole 23 = .ok (.getfield 18, 3) := by decide +kernel
theorem dX4_isEmptyHole_26 : decode cX4_isEmptyHole 26 = .ok (.iload_n 1, 1) := by decide +kernel
theorem dX4_isEmptyHole_27 : decode cX4_isEmptyHole 27 = .ok (.iaload, 1) := by decide +kernel
theorem dX4_isEmptyHole_28 : decode cX4_isEmptyHole 28 = .ok (.iconst (-1), 1) := by decide +kernel
theorem dX4_isEmptyHole_29 : decode cX4_isEmptyHole 29 = .ok (.if_icmp .ne 7, 3) := by decide +kernel
theorem dX4_isEmptyHole_32 : decode cX4_isEmptyHole 32 = .ok (.iconst 1, 1) := by decide +kernel
theorem dX4_isEmptyHole_33 : decode cX4_isEmptyHole 33 = .ok (.goto 4, 3) := by decide +kernel
theorem dX4_isEmptyHole_36 : decode cX4_isEmptyHole 36 = .ok (.iconst 0, 1) := by decide +kernel
theorem dX4_isEmptyHole_37 : decode cX4_isEmptyHole 37 = .ok (.ireturn, 1) := by decide +kernel
set_option maxRecDepth 20000 in
theorem ggX4_set_X4_isPeg : GoodIn wsX4_set wsX4_isPeg := goodIn_r _ [9, 10, 17, 18, 19, 20, 21, 22, 23, 24] (by decide +kernel) (by decide +kernel)
set_option maxRecDepth 20000 in
theorem gX4_set_X4_isPeg : GoodIn wsX4_set (wsV RX4 59 RX4 yX4_isPeg wsX4_isPeg) := goodIn_app (goodIn_of _ (by decide +kernel)) ggX4_set_X4_isPeg
set_option maxRecDepth 20000 in
theorem ggX4_set_X0_has : GoodIn wsX4_set wsX0_has := goodIn_r _ [15, 16, 25, 26, 27, 28] (by decide +kernel) (by decide +kernel)
set_option maxRecDepth 20000 in
theorem gX4_set_X0_has : GoodIn wsX4_set (wsV RX4 63 RX0 yX0_has wsX0_has) := goodIn_app (goodIn_of _ (by decide +kernel)) ggX4_set_X0_has
theorem dX4_set_0 : decode cX4_set 0 = .ok (.aload_n 0, 1) := by decide +kernel
theorem dX4_set_1 : decode cX4_set 1 = .ok (.iload_n 1, 1) := by decide +kernel
theorem dX4_set_2 : decode cX4_set 2 = .ok (.invokevirtual 59, 3) := by decide +kernel
theorem dX4_set_5 : decode cX4_set 5 = .ok (.ifCond .eq 38, 3) := by decide +kernel
theorem dX4_set_8 : decode cX4_set 8 = .ok (.aload_n 0, 1) := by decide +kernel
theorem dX4_set_9 : decode cX4_set 9 = .ok (.getfield 21, 3) := by decide +kernel
theorem dX4_set_12 : decode cX4_set 12 = .ok (.iload_n 2, 1) := by decide +kernel
theorem dX4_set_13 : decode cX4_set 13 = .ok (.invokevirtual 63, 3) := by decide +kernel
theorem dX4_set_16 : decode cX4_set 16 = .ok (.ifCond .eq 27, 3) := by decide +kernel
theorem dX4_set_19 : decode cX4_set 19 = .ok (.aload_n 0, 1) := by decide +kernel
theorem dX4_set_20 : decode cX4_set 20 = .ok (.getfield 15, 3) := by decide +kernel
theorem dX4_set_23 : decode cX4_set 23 = .ok (.iload_n 1, 1) := by decide +kernel
theorem dX4_set_24 : decode cX4_set 24 = .ok (.iload_n 2, 1) := by decide +kernel
theorem dX4_set_25 : decode cX4_set 25 = .ok (.iastore, 1) := by decide +kernel
theorem dX4_set_26 : decode cX4_set 26 = .ok (.aload_n 0, 1) := by decide +kernel
theorem dX4_set_27 : decode cX4_set 27 = .ok (.getfield 18, 3) := by decide +kernel
theorem dX4_set_30 : decode cX4_set 30 = .ok (.iload_n 2, 1) := by decide +kernel
theorem dX4_set_31 : decode cX4_set 31 = .ok (.iload_n 1, 1) := by decide +kernel
theorem dX4_set_32 : decode cX4_set 32 = .ok (.iastore, 1) := by decide +kernel
theorem dX4_set_33 : decode cX4_set 33 = .ok (.aload_n 0, 1) := by decide +kernel
theorem dX4_set_34 : decode cX4_set 34 = .ok (.dup, 1) := by decide +kernel
theorem dX4_set_35 : decode cX4_set 35 = .ok (.getfield 32, 3) := by decide +kernel
theorem dX4_set_38 : decode cX4_set 38 = .ok (.iconst 1, 1) := by decide +kernel
theorem dX4_set_39 : decode cX4_set 39 = .ok (.iadd, 1) := by decide +kernel
theorem dX4_set_40 : decode cX4_set 40 = .ok (.putfield 32, 3) := by decide +kernel
theorem dX4_set_43 : decode cX4_set 43 = .ok (.return_, 1) := by decide +kernel
set_option maxRecDepth 20000 in
theorem ggX4_lift_X4_isPeg : GoodIn wsX4_lift wsX4_isPeg := goodIn_r _ [9, 10, 17, 18, 19, 20, 21, 22, 23, 24] (by decide +kernel) (by decide +kernel)
set_option maxRecDepth 20000 in
theorem gX4_lift_X4_isPeg : GoodIn wsX4_lift (wsV RX4 59 RX4 yX4_isPeg wsX4_isPeg) := goodIn_app (goodIn_of _ (by decide +kernel)) ggX4_lift_X4_isPeg
set_option maxRecDepth 20000 in
theorem ggX4_lift_X0_has : GoodIn wsX4_lift wsX0_has := goodIn_r _ [15, 16, 25, 26, 27, 28] (by decide +kernel) (by decide +kernel)
set_option maxRecDepth 20000 in
theorem gX4_lift_X0_has : GoodIn wsX4_lift (wsV RX4 63 RX0 yX0_has wsX0_has) := goodIn_app (goodIn_of _ (by decide +kernel)) ggX4_lift_X0_has
theorem dX4_lift_0 : decode cX4_lift 0 = .ok (.aload_n 0, 1) := by decide +kernel
theorem dX4_lift_1 : decode cX4_lift 1 = .ok (.iload_n 1, 1) := by decide +kernel
theorem dX4_lift_2 : decode cX4_lift 2 = .ok (.invokevirtual 59, 3) := by decide +kernel
theorem dX4_lift_5 : decode cX4_lift 5 = .ok (.ifCond .eq 48, 3) := by decide +kernel
theorem dX4_lift_8 : decode cX4_lift 8 = .ok (.aload_n 0, 1) := by decide +kernel
theorem dX4_lift_9 : decode cX4_lift 9 = .ok (.getfield 21, 3) := by decide +kernel
theorem dX4_lift_12 : decode cX4_lift 12 = .ok (.aload_n 0, 1) := by decide +kernel
theorem dX4_lift_13 : decode cX4_lift 13 = .ok (.getfield 15, 3) := by decide +kernel
theorem dX4_lift_16 : decode cX4_lift 16 = .ok (.iload_n 1, 1) := by decide +kernel
theorem dX4_lift_17 : decode cX4_lift 17 = .ok (.iaload, 1) := by decide +kernel
theorem dX4_lift_18 : decode cX4_lift 18 = .ok (.invokevirtual 63, 3) := by decide +kernel
theorem dX4_lift_21 : decode cX4_lift 21 = .ok (.ifCond .eq 32, 3) := by decide +kernel
theorem dX4_lift_24 : decode cX4_lift 24 = .ok (.aload_n 0, 1) := by decide +kernel
theorem dX4_lift_25 : decode cX4_lift 25 = .ok (.getfield 18, 3) := by decide +kernel
theorem dX4_lift_28 : decode cX4_lift 28 = .ok (.aload_n 0, 1) := by decide +kernel
theorem dX4_lift_29 : decode cX4_lift 29 = .ok (.getfield 15, 3) := by decide +kernel
theorem dX4_lift_32 : decode cX4_lift 32 = .ok (.iload_n 1, 1) := by decide +kernel
theorem dX4_lift_33 : decode cX4_lift 33 = .ok (.iaload, 1) := by decide +kernel
theorem dX4_lift_34 : decode cX4_lift 34 = .ok (.iconst (-1), 1) := by decide +kernel
theorem dX4_lift_35 : decode cX4_lift 35 = .ok (.iastore, 1) := by decide +kernel
theorem dX4_lift_36 : decode cX4_lift 36 = .ok (.aload_n 0, 1) := by decide +kernel
theorem dX4_lift_37 : decode cX4_lift 37 = .ok (.getfield 15, 3) := by decide +kernel
theorem dX4_lift_40 : decode cX4_lift 40 = .ok (.iload_n 1, 1) := by decide +kernel
theorem dX4_lift_41 : decode cX4_lift 41 = .ok (.iconst (-1), 1) := by decide +kernel
theorem dX4_lift_42 : decode cX4_lift 42 = .ok (.iastore, 1) := by decide +kernel
theorem dX4_lift_43 : decode cX4_lift 43 = .ok (.aload_n 0, 1) := by decide +kernel
theorem dX4_lift_44 : decode cX4_lift 44 = .ok (.dup, 1) := by decide +kernel
theorem dX4_lift_45 : decode cX4_lift 45 = .ok (.getfield 32, 3) := by decide +kernel
theorem dX4_lift_48 : decode cX4_lift 48 = .ok (.iconst 1, 1) := by decide +kernel
theorem dX4_lift_49 : decode cX4_lift 49 = .ok (.isub, 1) := by decide +kernel
theorem dX4_lift_50 : decode cX4_lift 50 = .ok (.putfield 32, 3) := by decide +kernel
theorem dX4_lift_53 : decode cX4_lift 53 = .ok (.return_, 1) := by decide +kernel
set_option maxRecDepth 20000 in
theorem ggX4_neighbourOf_X4_homeOf : GoodIn wsX4_neighbourOf wsX4_homeOf := goodIn_r _ [6, 7, 8, 9, 10, 5, 11, 12, 30, 31, 32, 33, 34, 35, 36, 37] (by decide +kernel) (by decide +kernel)
set_option maxRecDepth 20000 in
theorem gX4_neighbourOf_X4_homeOf : GoodIn wsX4_neighbourOf (wsV RX4 70 RX4 yX4_homeOf wsX4_homeOf) := goodIn_app (goodIn_of _ (by decide +kernel)) ggX4_neighbourOf_X4_homeOf
set_option maxRecDepth 20000 in
theorem ggX4_neighbourOf_X0_next : GoodIn wsX4_neighbourOf wsX0_next := goodIn_r _ [17, 18, 19, 20, 21, 16, 22, 23, 38, 39, 40, 41] (by decide +kernel) (by decide +kernel)
set_option maxRecDepth 20000 in
theorem gX4_neighbourOf_X0_next : GoodIn wsX4_neighbourOf (wsV RX4 73 RX0 yX0_next wsX0_next) := goodIn_app (goodIn_of _ (by decide +kernel)) ggX4_neighbourOf_X0_next
set_option maxRecDepth 20000 in
theorem ggX4_neighbourOf_X4_pegIn : GoodIn wsX4_neighbourOf wsX4_pegIn := goodIn_r _ [27, 1, 28, 29, 20, 21, 16, 22, 23, 30, 31, 32, 33, 34, 35, 36, 37, 38, 39, 40, 41] (by decide +kernel) (by decide +kernel)
set_option maxRecDepth 20000 in
theorem gX4_neighbourOf_X4_pegIn : GoodIn wsX4_neighbourOf (wsV RX4 77 RX4 yX4_pegIn wsX4_pegIn) := goodIn_app (goodIn_of _ (by decide +kernel)) ggX4_neighbourOf_X4_pegIn
theorem dX4_neighbourOf_0 : decode cX4_neighbourOf 0 = .ok (.aload_n 0, 1) := by decide +kernel
theorem dX4_neighbourOf_1 : decode cX4_neighbourOf 1 = .ok (.aload_n 0, 1) := by decide +kernel
theorem dX4_neighbourOf_2 : decode cX4_neighbourOf 2 = .ok (.getfield 21, 3) := by decide +kernel
theorem dX4_neighbourOf_5 : decode cX4_neighbourOf 5 = .ok (.aload_n 0, 1) := by decide +kernel
theorem dX4_neighbourOf_6 : decode cX4_neighbourOf 6 = .ok (.iload_n 1, 1) := by decide +kernel
theorem dX4_neighbourOf_7 : decode cX4_neighbourOf 7 = .ok (.invokevirtual 70, 3) := by decide +kernel
theorem dX4_neighbourOf_10 : decode cX4_neighbourOf 10 = .ok (.iload_n 2, 1) := by decide +kernel
theorem dX4_neighbourOf_11 : decode cX4_neighbourOf 11 = .ok (.invokevirtual 73, 3) := by decide +kernel
theorem dX4_neighbourOf_14 : decode cX4_neighbourOf 14 = .ok (.invokevirtual 77, 3) := by decide +kernel
theorem dX4_neighbourOf_17 : decode cX4_neighbourOf 17 = .ok (.ireturn, 1) := by decide +kernel
set_option maxRecDepth 20000 in
theorem ggX4_targetOf_X4_homeOf : GoodIn wsX4_targetOf wsX4_homeOf := goodIn_r _ [6, 7, 8, 9, 10, 5, 11, 12, 50, 51, 52, 53, 54, 55, 56, 57] (by decide +kernel) (by decide +kernel)
set_option maxRecDepth 20000 in
theorem gX4_targetOf_X4_homeOf : GoodIn wsX4_targetOf (wsV RX4 70 RX4 yX4_homeOf wsX4_homeOf) := goodIn_app (goodIn_of _ (by decide +kernel)) ggX4_targetOf_X4_homeOf
set_option maxRecDepth 20000 in
theorem ggX4_targetOf_X0_next : GoodIn wsX4_targetOf wsX0_next := goodIn_r _ [17, 18, 19, 20, 21, 16, 22, 23, 58, 59, 60, 61] (by decide +kernel) (by decide +kernel)
set_option maxRecDepth 20000 in
theorem gX4_targetOf_X0_next : GoodIn wsX4_targetOf (wsV RX4 73 RX0 yX0_next wsX0_next) := goodIn_app (goodIn_of _ (by decide +kernel)) ggX4_targetOf_X0_next
set_option maxRecDepth 20000 in
theorem ggX4_targetOf_X4_pegIn : GoodIn wsX4_targetOf wsX4_pegIn := goodIn_r _ [27, 1, 28, 29, 20, 21, 16, 22, 23, 50, 51, 52, 53, 54, 55, 56, 57, 58, 59, 60, 61] (by decide +kernel) (by decide +kernel)
set_option maxRecDepth 20000 in
theorem gX4_targetOf_X4_pegIn : GoodIn wsX4_targetOf (wsV RX4 77 RX4 yX4_pegIn wsX4_pegIn) := goodIn_app (goodIn_of _ (by decide +kernel)) ggX4_targetOf_X4_pegIn
set_option maxRecDepth 20000 in
theorem ggX4_targetOf_X4_kindOf : GoodIn wsX4_targetOf wsX4_kindOf := goodIn_r _ [33, 34, 8, 9, 10, 5, 11, 12, 50, 51, 52, 53, 54, 55, 56, 57] (by decide +kernel) (by decide +kernel)
set_option maxRecDepth 20000 in
theorem gX4_targetOf_X4_kindOf : GoodIn wsX4_targetOf (wsV RX4 80 RX4 yX4_kindOf wsX4_kindOf) := goodIn_app (goodIn_of _ (by decide +kernel)) ggX4_targetOf_X4_kindOf
set_option maxRecDepth 20000 in
theorem ggX4_targetOf_X5_kindGoes : GoodIn wsX4_targetOf wsX5_kindGoes := goodIn_r _ [37, 38, 39, 40, 36, 41] (by decide +kernel) (by decide +kernel)
set_option maxRecDepth 20000 in
theorem gX4_targetOf_X5_kindGoes_n83 : GoodIn wsX4_targetOf (wsX5_kindGoes) := ggX4_targetOf_X5_kindGoes
set_option maxRecDepth 20000 in
theorem ggX4_targetOf_X5_kindCould : GoodIn wsX4_targetOf wsX5_kindCould := goodIn_r _ [43, 44, 39, 40, 36, 41] (by decide +kernel) (by decide +kernel)
set_option maxRecDepth 20000 in
theorem gX4_targetOf_X5_kindCould_n86 : GoodIn wsX4_targetOf (wsX5_kindCould) := ggX4_targetOf_X5_kindCould
set_option maxRecDepth 20000 in
theorem ggX4_targetOf_X4_isEmptyHole : GoodIn wsX4_targetOf wsX4_isEmptyHole := goodIn_r _ [48, 1, 49, 28, 29, 20, 21, 16, 22, 23, 40, 36, 41, 50, 51, 52, 53, 54, 55, 56, 57, 58, 59, 60, 61] (by decide +kernel) (by decide +kernel)
set_option maxRecDepth 20000 in
theorem gX4_targetOf_X4_isEmptyHole : GoodIn wsX4_targetOf (wsV RX4 89 RX4 yX4_isEmptyHole wsX4_isEmptyHole) := goodIn_app (goodIn_of _ (by decide +kernel)) ggX4_targetOf_X4_isEmptyHole
theorem dX4_targetOf_0 : decode cX4_targetOf 0 = .ok (.aload_n 0, 1) := by decide +kernel
theorem dX4_targetOf_1 : decode cX4_targetOf 1 = .ok (.getfield 21, 3) := by decide +kernel
theorem dX4_targetOf_4 : decode cX4_targetOf 4 = .ok (.aload_n 0, 1) := by decide +kernel
theorem dX4_targetOf_5 : decode cX4_targetOf 5 = .ok (.iload_n 1, 1) := by decide +kernel
theorem dX4_targetOf_6 : decode cX4_targetOf 6 = .ok (.invokevirtual 70, 3) := by decide +kernel
theorem dX4_targetOf_9 : decode cX4_targetOf 9 = .ok (.iload_n 2, 1) := by decide +kernel
theorem dX4_targetOf_10 : decode cX4_targetOf 10 = .ok (.invokevirtual 73, 3) := by decide +kernel
theorem dX4_targetOf_13 : decode cX4_targetOf 13 = .ok (.istore_n 3, 1) := by decide +kernel
theorem dX4_targetOf_14 : decode cX4_targetOf 14 = .ok (.aload_n 0, 1) := by decide +kernel
theorem dX4_targetOf_15 : decode cX4_targetOf 15 = .ok (.iload_n 3, 1) := by decide +kernel
theorem dX4_targetOf_16 : decode cX4_targetOf 16 = .ok (.invokevirtual 77, 3) := by decide +kernel
theorem dX4_targetOf_19 : decode cX4_targetOf 19 = .ok (.istore 4, 2) := by decide +kernel
theorem dX4_targetOf_21 : decode cX4_targetOf 21 = .ok (.iload 4, 2) := by decide +kernel
theorem dX4_targetOf_23 : decode cX4_targetOf 23 = .ok (.iconst (-1), 1) := by decide +kernel
theorem dX4_targetOf_24 : decode cX4_targetOf 24 = .ok (.if_icmp .eq 28, 3) := by decide +kernel
theorem dX4_targetOf_27 : decode cX4_targetOf 27 = .ok (.aload_n 0, 1) := by decide +kernel
theorem dX4_targetOf_28 : decode cX4_targetOf 28 = .ok (.iload_n 1, 1) := by decide +kernel
theorem dX4_targetOf_29 : decode cX4_targetOf 29 = .ok (.invokevirtual 80, 3) := by decide +kernel
theorem dX4_targetOf_32 : decode cX4_targetOf 32 = .ok (.iload_n 2, 1) := by decide +kernel
theorem dX4_targetOf_33 : decode cX4_targetOf 33 = .ok (.invokestatic 83, 3) := by decide +kernel
theorem dX4_targetOf_36 : decode cX4_targetOf 36 = .ok (.ifCond .eq 16, 3) := by decide +kernel
theorem dX4_targetOf_39 : decode cX4_targetOf 39 = .ok (.aload_n 0, 1) := by decide +kernel
theorem dX4_targetOf_40 : decode cX4_targetOf 40 = .ok (.iload 4, 2) := by decide +kernel
theorem dX4_targetOf_42 : decode cX4_targetOf 42 = .ok (.invokevirtual 80, 3) := by decide +kernel
theorem dX4_targetOf_45 : decode cX4_targetOf 45 = .ok (.iconst 2, 1) := by decide +kernel
theorem dX4_targetOf_46 : decode cX4_targetOf 46 = .ok (.invokestatic 86, 3) := by decide +kernel
theorem dX4_targetOf_49 : decode cX4_targetOf 49 = .ok (.ifCond .ne 5, 3) := by decide +kernel
theorem dX4_targetOf_52 : decode cX4_targetOf 52 = .ok (.iconst (-1), 1) := by decide +kernel
theorem dX4_targetOf_53 : decode cX4_targetOf 53 = .ok (.ireturn, 1) := by decide +kernel
theorem dX4_targetOf_54 : decode cX4_targetOf 54 = .ok (.aload_n 0, 1) := by decide +kernel
theorem dX4_targetOf_55 : decode cX4_targetOf 55 = .ok (.getfield 21, 3) := by decide +kernel
theorem dX4_targetOf_58 : decode cX4_targetOf 58 = .ok (.iload_n 3, 1) := by decide +kernel
theorem dX4_targetOf_59 : decode cX4_targetOf 59 = .ok (.iload_n 2, 1) := by decide +kernel
theorem dX4_targetOf_60 : decode cX4_targetOf 60 = .ok (.invokevirtual 73, 3) := by decide +kernel
theorem dX4_targetOf_63 : decode cX4_targetOf 63 = .ok (.istore 5, 2) := by decide +kernel
theorem dX4_targetOf_65 : decode cX4_targetOf 65 = .ok (.aload_n 0, 1) := by decide +kernel
theorem dX4_targetOf_66 : decode cX4_targetOf 66 = .ok (.iload 5, 2) := by decide +kernel
theorem dX4_targetOf_68 : decode cX4_targetOf 68 = .ok (.invokevirtual 89, 3) := by decide +kernel
theorem dX4_targetOf_71 : decode cX4_targetOf 71 = .ok (.ifCond .eq 8, 3) := by decide +kernel
theorem dX4_targetOf_74 : decode cX4_targetOf 74 = .ok (.iload 5, 2) := by decide +kernel
theorem dX4_targetOf_76 : decode cX4_targetOf 76 = .ok (.goto 4, 3) := by decide +kernel
theorem dX4_targetOf_79 : decode cX4_targetOf 79 = .ok (.iconst (-1), 1) := by decide +kernel
theorem dX4_targetOf_80 : decode cX4_targetOf 80 = .ok (.ireturn, 1) := by decide +kernel
set_option maxRecDepth 20000 in
theorem ggX4_targetsOf_X4_targetOf : GoodIn wsX4_targetsOf wsX4_targetOf := goodIn_r _ [5, 6, 7, 8, 9, 4, 10, 11, 12, 13, 14, 15, 16, 17, 18, 19, 20, 21, 22, 23, 24, 25, 26, 27, 28, 29, 30, 31, 32, 33, 34, 35, 36, 37, 38, 39, 40, 41, 42, 43, 44, 45, 46, 47, 48, 49, 50, 51, 52, 53, 54, 55, 56, 57, 58, 59, 60, 61, 62, 63, 64, 65] (by decide +kernel) (by decide +kernel)
set_option maxRecDepth 20000 in
theorem gX4_targetsOf_X4_targetOf : GoodIn wsX4_targetsOf (wsV RX4 92 RX4 yX4_targetOf wsX4_targetOf) := goodIn_app (goodIn_of _ (by decide +kernel)) ggX4_targetsOf_X4_targetOf
theorem dX4_targetsOf_0 : decode cX4_targetsOf 0 = .ok (.iconst 0, 1) := by decide +kernel
theorem dX4_targetsOf_1 : decode cX4_targetsOf 1 = .ok (.istore_n 2, 1) := by decide +kernel
theorem dX4_targetsOf_2 : decode cX4_targetsOf 2 = .ok (.iconst 0, 1) := by decide +kernel
theorem dX4_targetsOf_3 : decode cX4_targetsOf 3 = .ok (.istore_n 3, 1) := by decide +kernel
theorem dX4_targetsOf_4 : decode cX4_targetsOf 4 = .ok (.iload_n 3, 1) := by decide +kernel
theorem dX4_targetsOf_5 : decode cX4_targetsOf 5 = .ok (.bipush 8, 2) := by decide +kernel
theorem dX4_targetsOf_7 : decode cX4_targetsOf 7 = .ok (.if_icmp .ge 30, 3) := by decide +kernel
theorem dX4_targetsOf_10 : decode cX4_targetsOf 10 = .ok (.aload_n 0, 1) := by decide +kernel
theorem dX4_targetsOf_11 : decode cX4_targetsOf 11 = .ok (.iload_n 1, 1) := by decide +kernel
theorem dX4_targetsOf_12 : decode cX4_targetsOf 12 = .ok (.iload_n 3, 1) := by decide +kernel
theorem dX4_targetsOf_13 : decode cX4_targetsOf 13 = .ok (.invokevirtual 92, 3) := by decide +kernel
theorem dX4_targetsOf_16 : decode cX4_targetsOf 16 = .ok (.istore 4, 2) := by decide +kernel
theorem dX4_targetsOf_18 : decode cX4_targetsOf 18 = .ok (.iload 4, 2) := by decide +kernel
theorem dX4_targetsOf_20 : decode cX4_targetsOf 20 = .ok (.iconst (-1), 1) := by decide +kernel
theorem dX4_targetsOf_21 : decode cX4_targetsOf 21 = .ok (.if_icmp .eq 10, 3) := by decide +kernel
theorem dX4_targetsOf_24 : decode cX4_targetsOf 24 = .ok (.iload_n 2, 1) := by decide +kernel
theorem dX4_targetsOf_25 : decode cX4_targetsOf 25 = .ok (.iconst 1, 1) := by decide +kernel
theorem dX4_targetsOf_26 : decode cX4_targetsOf 26 = .ok (.iload 4, 2) := by decide +kernel
theorem dX4_targetsOf_28 : decode cX4_targetsOf 28 = .ok (.ishl, 1) := by decide +kernel
theorem dX4_targetsOf_29 : decode cX4_targetsOf 29 = .ok (.ior, 1) := by decide +kernel
theorem dX4_targetsOf_30 : decode cX4_targetsOf 30 = .ok (.istore_n 2, 1) := by decide +kernel
theorem dX4_targetsOf_31 : decode cX4_targetsOf 31 = .ok (.iinc 3 1, 3) := by decide +kernel
theorem dX4_targetsOf_34 : decode cX4_targetsOf 34 = .ok (.goto (-30), 3) := by decide +kernel
theorem dX4_targetsOf_37 : decode cX4_targetsOf 37 = .ok (.iload_n 2, 1) := by decide +kernel
theorem dX4_targetsOf_38 : decode cX4_targetsOf 38 = .ok (.ireturn, 1) := by decide +kernel
set_option maxRecDepth 20000 in
theorem ggX4_directionTo_X4_targetOf : GoodIn wsX4_directionTo wsX4_targetOf := goodIn_r _ [5, 6, 7, 8, 9, 4, 10, 11, 12, 13, 14, 15, 16, 17, 18, 19, 20, 21, 22, 23, 24, 25, 26, 27, 28, 29, 30, 31, 32, 33, 34, 35, 36, 37, 38, 39, 40, 41, 42, 43, 44, 45, 46, 47, 48, 49, 50, 51, 52, 53, 54, 55, 56, 57, 58, 59, 60, 61, 62, 63, 64, 65] (by decide +kernel) (by decide +kernel)
set_option maxRecDepth 20000 in
theorem gX4_directionTo_X4_targetOf : GoodIn wsX4_directionTo (wsV RX4 92 RX4 yX4_targetOf wsX4_targetOf) := goodIn_app (goodIn_of _ (by decide +kernel)) ggX4_directionTo_X4_targetOf
theorem dX4_directionTo_0 : decode cX4_directionTo 0 = .ok (.iconst 0, 1) := by decide +kernel
theorem dX4_directionTo_1 : decode cX4_directionTo 1 = .ok (.istore_n 3, 1) := by decide +kernel
theorem dX4_directionTo_2 : decode cX4_directionTo 2 = .ok (.iload_n 3, 1) := by decide +kernel
theorem dX4_directionTo_3 : decode cX4_directionTo 3 = .ok (.bipush 8, 2) := by decide +kernel
theorem dX4_directionTo_5 : decode cX4_directionTo 5 = .ok (.if_icmp .ge 26, 3) := by decide +kernel
theorem dX4_directionTo_8 : decode cX4_directionTo 8 = .ok (.iload_n 2, 1) := by decide +kernel
theorem dX4_directionTo_9 : decode cX4_directionTo 9 = .ok (.iconst (-1), 1) := by decide +kernel
theorem dX4_directionTo_10 : decode cX4_directionTo 10 = .ok (.if_icmp .eq 15, 3) := by decide +kernel
theorem dX4_directionTo_13 : decode cX4_directionTo 13 = .ok (.aload_n 0, 1) := by decide +kernel
theorem dX4_directionTo_14 : decode cX4_directionTo 14 = .ok (.iload_n 1, 1) := by decide +kernel
theorem dX4_directionTo_15 : decode cX4_directionTo 15 = .ok (.iload_n 3, 1) := by decide +kernel
theorem dX4_directionTo_16 : decode cX4_directionTo 16 = .ok (.invokevirtual 92, 3) := by decide +kernel
theorem dX4_directionTo_19 : decode cX4_directionTo 19 = .ok (.iload_n 2, 1) := by decide +kernel
theorem dX4_directionTo_20 : decode cX4_directionTo 20 = .ok (.if_icmp .ne 5, 3) := by decide +kernel
theorem dX4_directionTo_23 : decode cX4_directionTo 23 = .ok (.iload_n 3, 1) := by decide +kernel
theorem dX4_directionTo_24 : decode cX4_directionTo 24 = .ok (.ireturn, 1) := by decide +kernel
theorem dX4_directionTo_25 : decode cX4_directionTo 25 = .ok (.iinc 3 1, 3) := by decide +kernel
theorem dX4_directionTo_28 : decode cX4_directionTo 28 = .ok (.goto (-26), 3) := by decide +kernel
theorem dX4_directionTo_31 : decode cX4_directionTo 31 = .ok (.iconst (-1), 1) := by decide +kernel
theorem dX4_directionTo_32 : decode cX4_directionTo 32 = .ok (.ireturn, 1) := by decide +kernel
set_option maxRecDepth 20000 in
theorem ggX4_choices_X4_targetsOf : GoodIn wsX4_choices wsX4_targetsOf := goodIn_r _ [6, 7, 8, 9, 5, 10, 11, 12, 13, 14, 15, 16, 17, 18, 19, 20, 1, 21, 22, 23, 24, 25, 26, 27, 28, 29, 30, 31, 32, 33, 34, 35, 36, 37, 38, 39, 40, 41, 42, 43, 44, 45, 46, 47, 48, 49, 50, 51, 52, 53, 54, 55, 56, 57, 65, 66, 67, 68, 69, 70, 71, 72, 73, 74, 75, 76] (by decide +kernel) (by decide +kernel)
set_option maxRecDepth 20000 in
theorem gX4_choices_X4_targetsOf : GoodIn wsX4_choices (wsV RX4 95 RX4 yX4_targetsOf wsX4_targetsOf) := goodIn_app (goodIn_of _ (by decide +kernel)) ggX4_choices_X4_targetsOf
set_option maxRecDepth 20000 in
theorem ggX4_choices_J6_bitCount_0f7a4 : GoodIn wsX4_choices wsJ6_bitCount_0f7a4 := goodIn_r _ [61, 62, 63, 64] (by decide +kernel) (by decide +kernel)
set_option maxRecDepth 20000 in
theorem gX4_choices_J6_bitCount_0f7a4 : GoodIn wsX4_choices (va_wsS RX4 98 yJ6_bitCount_0f7a4 wsJ6_bitCount_0f7a4) := goodIn_app (goodIn_of _ (by decide +kernel)) ggX4_choices_J6_bitCount_0f7a4
theorem dX4_choices_0 : decode cX4_choices 0 = .ok (.iconst 0, 1) := by decide +kernel
theorem dX4_choices_1 : decode cX4_choices 1 = .ok (.istore_n 1, 1) := by decide +kernel
theorem dX4_choices_2 : decode cX4_choices 2 = .ok (.iconst 0, 1) := by decide +kernel
theorem dX4_choices_3 : decode cX4_choices 3 = .ok (.istore_n 2, 1) := by decide +kernel
theorem dX4_choices_4 : decode cX4_choices 4 = .ok (.iload_n 2, 1) := by decide +kernel
theorem dX4_choices_5 : decode cX4_choices 5 = .ok (.aload_n 0, 1) := by decide +kernel
theorem dX4_choices_6 : decode cX4_choices 6 = .ok (.getfield 29, 3) := by decide +kernel
theorem dX4_choices_9 : decode cX4_choices 9 = .ok (.if_icmp .ge 20, 3) := by decide +kernel
theorem dX4_choices_12 : decode cX4_choices 12 = .ok (.iload_n 1, 1) := by decide +kernel
theorem dX4_choices_13 : decode cX4_choices 13 = .ok (.aload_n 0, 1) := by decide +kernel
theorem dX4_choices_14 : decode cX4_choices 14 = .ok (.iload_n 2, 1) := by decide +kernel
theorem dX4_choices_15 : decode cX4_choices 15 = .ok (.invokevirtual 95, 3) := by decide +kernel
theorem dX4_choices_18 : decode cX4_choices 18 = .ok (.invokestatic 98, 3) := by decide +kernel
theorem dX4_choices_21 : decode cX4_choices 21 = .ok (.iadd, 1) := by decide +kernel
theorem dX4_choices_22 : decode cX4_choices 22 = .ok (.istore_n 1, 1) := by decide +kernel
theorem dX4_choices_23 : decode cX4_choices 23 = .ok (.iinc 2 1, 3) := by decide +kernel
theorem dX4_choices_26 : decode cX4_choices 26 = .ok (.goto (-22), 3) := by decide +kernel
theorem dX4_choices_29 : decode cX4_choices 29 = .ok (.iload_n 1, 1) := by decide +kernel
theorem dX4_choices_30 : decode cX4_choices 30 = .ok (.ireturn, 1) := by decide +kernel
set_option maxRecDepth 20000 in
theorem ggX4_leapByChoice_X4_targetOf : GoodIn wsX4_leapByChoice wsX4_targetOf := goodIn_r _ [6, 7, 8, 9, 10, 5, 11, 12, 13, 14, 15, 16, 1, 17, 18, 19, 20, 21, 22, 23, 24, 25, 26, 27, 28, 29, 30, 31, 32, 33, 34, 35, 36, 37, 38, 39, 40, 41, 42, 43, 44, 45, 46, 47, 48, 49, 50, 51, 52, 53, 71, 72, 73, 74, 75, 76, 77, 78, 79, 80, 81, 82] (by decide +kernel) (by decide +kernel)
set_option maxRecDepth 20000 in
theorem gX4_leapByChoice_X4_targetOf : GoodIn wsX4_leapByChoice (wsV RX4 92 RX4 yX4_targetOf wsX4_targetOf) := goodIn_app (goodIn_of _ (by decide +kernel)) ggX4_leapByChoice_X4_targetOf
set_option maxRecDepth 20000 in
theorem ggX4_leapByChoice_X4_neighbourOf : GoodIn wsX4_leapByChoice wsX4_neighbourOf := goodIn_r _ [57, 7, 8, 9, 10, 5, 11, 12, 13, 14, 15, 16, 1, 17, 18, 19, 20, 21, 22, 23, 24, 25, 26, 27, 28, 29, 30, 31, 32, 33, 71, 72, 73, 74, 75, 76, 77, 78, 79, 80, 81, 82] (by decide +kernel) (by decide +kernel)
set_option maxRecDepth 20000 in
theorem gX4_leapByChoice_X4_neighbourOf : GoodIn wsX4_leapByChoice (wsV RX4 103 RX4 yX4_neighbourOf wsX4_neighbourOf) := goodIn_app (goodIn_of _ (by decide +kernel)) ggX4_leapByChoice_X4_neighbourOf
set_option maxRecDepth 20000 in
theorem ggX4_leapByChoice_X4_leap : GoodIn wsX4_leapByChoice wsX4_leap := goodIn_r _ [61, 62, 63, 64, 5, 65, 7, 12, 32, 66, 13, 14, 15, 16, 1, 33, 24, 25, 20, 26, 27, 34, 35, 36, 37, 38, 46, 40, 47, 48, 43, 44, 45, 67, 68, 69, 70, 71, 72, 73, 74, 75, 76, 77, 78, 79, 80, 81, 82] (by decide +kernel) (by decide +kernel)
set_option maxRecDepth 20000 in
theorem gX4_leapByChoice_X4_leap : GoodIn wsX4_leapByChoice (wsV RX4 106 RX4 yX4_leap wsX4_leap) := goodIn_app (goodIn_of _ (by decide +kernel)) ggX4_leapByChoice_X4_leap
theorem dX4_leapByChoice_0 : decode cX4_leapByChoice 0 = .ok (.iload_n 1, 1) := by decide +kernel
theorem dX4_leapByChoice_1 : decode cX4_leapByChoice 1 = .ok (.istore_n 2, 1) := by decide +kernel
theorem dX4_leapByChoice_2 : decode cX4_leapByChoice 2 = .ok (.iconst 0, 1) := by decide +kernel
theorem dX4_leapByChoice_3 : decode cX4_leapByChoice 3 = .ok (.istore_n 3, 1) := by decide +kernel
theorem dX4_leapByChoice_4 : decode cX4_leapByChoice 4 = .ok (.iload_n 3, 1) := by decide +kernel
theorem dX4_leapByChoice_5 : decode cX4_leapByChoice 5 = .ok (.aload_n 0, 1) := by decide +kernel
theorem dX4_leapByChoice_6 : decode cX4_leapByChoice 6 = .ok (.getfield 29, 3) := by decide +kernel
theorem dX4_leapByChoice_9 : decode cX4_leapByChoice 9 = .ok (.if_icmp .ge 68, 3) := by decide +kernel
theorem dX4_leapByChoice_12 : decode cX4_leapByChoice 12 = .ok (.iconst 0, 1) := by decide +kernel
theorem dX4_leapByChoice_13 : decode cX4_leapByChoice 13 = .ok (.istore 4, 2) := by decide +kernel
theorem dX4_leapByChoice_15 : decode cX4_leapByChoice 15 = .ok (.iload 4, 2) := by decide +kernel
theorem dX4_leapByChoice_17 : decode cX4_leapByChoice 17 = .ok (.bipush 8, 2) := by decide +kernel
theorem dX4_leapByChoice_19 : decode cX4_leapByChoice 19 = .ok (.if_icmp .ge 52, 3) := by decide +kernel
theorem dX4_leapByChoice_22 : decode cX4_leapByChoice 22 = .ok (.aload_n 0, 1) := by decide +kernel
theorem dX4_leapByChoice_23 : decode cX4_leapByChoice 23 = .ok (.iload_n 3, 1) := by decide +kernel
theorem dX4_leapByChoice_24 : decode cX4_leapByChoice 24 = .ok (.iload 4, 2) := by decide +kernel
theorem dX4_leapByChoice_26 : decode cX4_leapByChoice 26 = .ok (.invokevirtual 92, 3) := by decide +kernel
theorem dX4_leapByChoice_29 : decode cX4_leapByChoice 29 = .ok (.istore 5, 2) := by decide +kernel
theorem dX4_leapByChoice_31 : decode cX4_leapByChoice 31 = .ok (.iload 5, 2) := by decide +kernel
theorem dX4_leapByChoice_33 : decode cX4_leapByChoice 33 = .ok (.iconst (-1), 1) := by decide +kernel
theorem dX4_leapByChoice_34 : decode cX4_leapByChoice 34 = .ok (.if_icmp .eq 22, 3) := by decide +kernel
theorem dX4_leapByChoice_37 : decode cX4_leapByChoice 37 = .ok (.iload_n 2, 1) := by decide +kernel
theorem dX4_leapByChoice_38 : decode cX4_leapByChoice 38 = .ok (.ifCond .ne 18, 3) := by decide +kernel
theorem dX4_leapByChoice_41 : decode cX4_leapByChoice 41 = .ok (.aload_n 0, 1) := by decide +kernel
theorem dX4_leapByChoice_42 : decode cX4_leapByChoice 42 = .ok (.iload_n 3, 1) := by decide +kernel
theorem dX4_leapByChoice_43 : decode cX4_leapByChoice 43 = .ok (.aload_n 0, 1) := by decide +kernel
theorem dX4_leapByChoice_44 : decode cX4_leapByChoice 44 = .ok (.iload_n 3, 1) := by decide +kernel
theorem dX4_leapByChoice_45 : decode cX4_leapByChoice 45 = .ok (.iload 4, 2) := by decide +kernel
theorem dX4_leapByChoice_47 : decode cX4_leapByChoice 47 = .ok (.invokevirtual 103, 3) := by decide +kernel
theorem dX4_leapByChoice_50 : decode cX4_leapByChoice 50 = .ok (.iload 5, 2) := by decide +kernel
theorem dX4_leapByChoice_52 : decode cX4_leapByChoice 52 = .ok (.invokevirtual 106, 3) := by decide +kernel
theorem dX4_leapByChoice_55 : decode cX4_leapByChoice 55 = .ok (.return_, 1) := by decide +kernel
theorem dX4_leapByChoice_56 : decode cX4_leapByChoice 56 = .ok (.iload 5, 2) := by decide +kernel
theorem dX4_leapByChoice_58 : decode cX4_leapByChoice 58 = .ok (.iconst (-1), 1) := by decide +kernel
theorem dX4_leapByChoice_59 : decode cX4_leapByChoice 59 = .ok (.if_icmp .eq 6, 3) := by decide +kernel
theorem dX4_leapByChoice_62 : decode cX4_leapByChoice 62 = .ok (.iinc 2 (-1), 3) := by decide +kernel
theorem dX4_leapByChoice_65 : decode cX4_leapByChoice 65 = .ok (.iinc 4 1, 3) := by decide +kernel
theorem dX4_leapByChoice_68 : decode cX4_leapByChoice 68 = .ok (.goto (-53), 3) := by decide +kernel
theorem dX4_leapByChoice_71 : decode cX4_leapByChoice 71 = .ok (.iinc 3 1, 3) := by decide +kernel
theorem dX4_leapByChoice_74 : decode cX4_leapByChoice 74 = .ok (.goto (-70), 3) := by decide +kernel
theorem dX4_leapByChoice_77 : decode cX4_leapByChoice 77 = .ok (.return_, 1) := by decide +kernel
set_option maxRecDepth 20000 in
theorem ggX4_leap_X4_lift : GoodIn wsX4_leap wsX4_lift := goodIn_r _ [5, 6, 7, 8, 9, 10, 11, 12, 4, 13, 14, 15, 16, 17, 18, 19, 20, 37, 38, 39, 40, 41, 42, 43, 44, 45, 46, 47, 48] (by decide +kernel) (by decide +kernel)
set_option maxRecDepth 20000 in
theorem gX4_leap_X4_lift : GoodIn wsX4_leap (wsV RX4 110 RX4 yX4_lift wsX4_lift) := goodIn_app (goodIn_of _ (by decide +kernel)) ggX4_leap_X4_lift
set_option maxRecDepth 20000 in
theorem ggX4_leap_X4_kindOf : GoodIn wsX4_leap wsX4_kindOf := goodIn_r _ [24, 25, 10, 11, 12, 4, 13, 14, 37, 38, 39, 40, 41, 42, 43, 44] (by decide +kernel) (by decide +kernel)
set_option maxRecDepth 20000 in
theorem gX4_leap_X4_kindOf : GoodIn wsX4_leap (wsV RX4 80 RX4 yX4_kindOf wsX4_kindOf) := goodIn_app (goodIn_of _ (by decide +kernel)) ggX4_leap_X4_kindOf
set_option maxRecDepth 20000 in
theorem ggX4_leap_X5_kindCould : GoodIn wsX4_leap wsX5_kindCould := goodIn_r _ [28, 29, 30, 31, 27, 32] (by decide +kernel) (by decide +kernel)
set_option maxRecDepth 20000 in
theorem gX4_leap_X5_kindCould_n86 : GoodIn wsX4_leap (wsX5_kindCould) := ggX4_leap_X5_kindCould
set_option maxRecDepth 20000 in
theorem ggX4_leap_X4_set : GoodIn wsX4_leap wsX4_set := goodIn_r _ [36, 6, 7, 8, 9, 10, 11, 12, 4, 13, 14, 15, 16, 17, 18, 19, 20, 37, 38, 39, 40, 41, 42, 43, 44, 45, 46, 47, 48] (by decide +kernel) (by decide +kernel)
set_option maxRecDepth 20000 in
theorem gX4_leap_X4_set : GoodIn wsX4_leap (wsV RX4 56 RX4 yX4_set wsX4_set) := goodIn_app (goodIn_of _ (by decide +kernel)) ggX4_leap_X4_set
theorem dX4_leap_0 : decode cX4_leap 0 = .ok (.aload_n 0, 1) := by decide +kernel
theorem dX4_leap_1 : decode cX4_leap 1 = .ok (.iload_n 2, 1) := by decide +kernel
theorem dX4_leap_2 : decode cX4_leap 2 = .ok (.invokevirtual 110, 3) := by decide +kernel
theorem dX4_leap_5 : decode cX4_leap 5 = .ok (.aload_n 0, 1) := by decide +kernel
theorem dX4_leap_6 : decode cX4_leap 6 = .ok (.iload_n 1, 1) := by decide +kernel
theorem dX4_leap_7 : decode cX4_leap 7 = .ok (.invokevirtual 110, 3) := by decide +kernel
theorem dX4_leap_10 : decode cX4_leap 10 = .ok (.aload_n 0, 1) := by decide +kernel
theorem dX4_leap_11 : decode cX4_leap 11 = .ok (.iload_n 1, 1) := by decide +kernel
theorem dX4_leap_12 : decode cX4_leap 12 = .ok (.invokevirtual 80, 3) := by decide +kernel
theorem dX4_leap_15 : decode cX4_leap 15 = .ok (.iconst 3, 1) := by decide +kernel
theorem dX4_leap_16 : decode cX4_leap 16 = .ok (.invokestatic 86, 3) := by decide +kernel
theorem dX4_leap_19 : decode cX4_leap 19 = .ok (.ifCond .eq 9, 3) := by decide +kernel
theorem dX4_leap_22 : decode cX4_leap 22 = .ok (.aload_n 0, 1) := by decide +kernel
theorem dX4_leap_23 : decode cX4_leap 23 = .ok (.iload_n 1, 1) := by decide +kernel
theorem dX4_leap_24 : decode cX4_leap 24 = .ok (.iload_n 3, 1) := by decide +kernel
theorem dX4_leap_25 : decode cX4_leap 25 = .ok (.invokevirtual 56, 3) := by decide +kernel
theorem dX4_leap_28 : decode cX4_leap 28 = .ok (.return_, 1) := by decide +kernel
set_option maxRecDepth 20000 in
theorem ggX4_takeBack_X4_lift : GoodIn wsX4_takeBack wsX4_lift := goodIn_r _ [6, 1, 7, 8, 9, 10, 11, 12, 5, 13, 14, 15, 16, 17, 18, 19, 20, 31, 32, 33, 34, 35, 36, 37, 38, 39, 40, 41, 42] (by decide +kernel) (by decide +kernel)
set_option maxRecDepth 20000 in
theorem gX4_takeBack_X4_lift : GoodIn wsX4_takeBack (wsV RX4 110 RX4 yX4_lift wsX4_lift) := goodIn_app (goodIn_of _ (by decide +kernel)) ggX4_takeBack_X4_lift
set_option maxRecDepth 20000 in
theorem ggX4_takeBack_X4_set : GoodIn wsX4_takeBack wsX4_set := goodIn_r _ [24, 1, 7, 8, 9, 10, 11, 12, 5, 13, 14, 15, 16, 17, 18, 19, 20, 31, 32, 33, 34, 35, 36, 37, 38, 39, 40, 41, 42] (by decide +kernel) (by decide +kernel)
set_option maxRecDepth 20000 in
theorem gX4_takeBack_X4_set : GoodIn wsX4_takeBack (wsV RX4 56 RX4 yX4_set wsX4_set) := goodIn_app (goodIn_of _ (by decide +kernel)) ggX4_takeBack_X4_set
set_option maxRecDepth 20000 in
theorem ggX4_takeBack_X0_next : GoodIn wsX4_takeBack wsX0_next := goodIn_r _ [28, 29, 30, 16, 17, 18, 19, 20, 39, 40, 41, 42] (by decide +kernel) (by decide +kernel)
set_option maxRecDepth 20000 in
theorem gX4_takeBack_X0_next : GoodIn wsX4_takeBack (wsV RX4 73 RX0 yX0_next wsX0_next) := goodIn_app (goodIn_of _ (by decide +kernel)) ggX4_takeBack_X0_next
theorem dX4_takeBack_0 : decode cX4_takeBack 0 = .ok (.aload_n 0, 1) := by decide +kernel
theorem dX4_takeBack_1 : decode cX4_takeBack 1 = .ok (.iload_n 1, 1) := by decide +kernel
theorem dX4_takeBack_2 : decode cX4_takeBack 2 = .ok (.invokevirtual 110, 3) := by decide +kernel
theorem dX4_takeBack_5 : decode cX4_takeBack 5 = .ok (.aload_n 0, 1) := by decide +kernel
theorem dX4_takeBack_6 : decode cX4_takeBack 6 = .ok (.iload_n 1, 1) := by decide +kernel
theorem dX4_takeBack_7 : decode cX4_takeBack 7 = .ok (.iload_n 2, 1) := by decide +kernel
theorem dX4_takeBack_8 : decode cX4_takeBack 8 = .ok (.invokevirtual 56, 3) := by decide +kernel
theorem dX4_takeBack_11 : decode cX4_takeBack 11 = .ok (.aload_n 0, 1) := by decide +kernel
theorem dX4_takeBack_12 : decode cX4_takeBack 12 = .ok (.iload_n 3, 1) := by decide +kernel
theorem dX4_takeBack_13 : decode cX4_takeBack 13 = .ok (.aload_n 0, 1) := by decide +kernel
theorem dX4_takeBack_14 : decode cX4_takeBack 14 = .ok (.getfield 21, 3) := by decide +kernel
theorem dX4_takeBack_17 : decode cX4_takeBack 17 = .ok (.iload_n 2, 1) := by decide +kernel
theorem dX4_takeBack_18 : decode cX4_takeBack 18 = .ok (.iload 4, 2) := by decide +kernel
theorem dX4_takeBack_20 : decode cX4_takeBack 20 = .ok (.invokevirtual 73, 3) := by decide +kernel
theorem dX4_takeBack_23 : decode cX4_takeBack 23 = .ok (.invokevirtual 56, 3) := by decide +kernel
theorem dX4_takeBack_26 : decode cX4_takeBack 26 = .ok (.return_, 1) := by decide +kernel
set_option maxRecDepth 20000 in
theorem ggX4_aloneBit_X4_homeOf : GoodIn wsX4_aloneBit wsX4_homeOf := goodIn_r _ [7, 8, 9, 10, 11, 6, 12, 2, 13, 14, 15, 16, 17, 18, 19, 20] (by decide +kernel) (by decide +kernel)
set_option maxRecDepth 20000 in
theorem gX4_aloneBit_X4_homeOf : GoodIn wsX4_aloneBit (wsV RX4 70 RX4 yX4_homeOf wsX4_homeOf) := goodIn_app (goodIn_of _ (by decide +kernel)) ggX4_aloneBit_X4_homeOf
theorem dX4_aloneBit_0 : decode cX4_aloneBit 0 = .ok (.aload_n 0, 1) := by decide +kernel
theorem dX4_aloneBit_1 : decode cX4_aloneBit 1 = .ok (.getfield 32, 3) := by decide +kernel
theorem dX4_aloneBit_4 : decode cX4_aloneBit 4 = .ok (.iconst 1, 1) := by decide +kernel
theorem dX4_aloneBit_5 : decode cX4_aloneBit 5 = .ok (.if_icmp .eq 5, 3) := by decide +kernel
theorem dX4_aloneBit_8 : decode cX4_aloneBit 8 = .ok (.iconst 0, 1) := by decide +kernel
theorem dX4_aloneBit_9 : decode cX4_aloneBit 9 = .ok (.ireturn, 1) := by decide +kernel
theorem dX4_aloneBit_10 : decode cX4_aloneBit 10 = .ok (.iconst 0, 1) := by decide +kernel
theorem dX4_aloneBit_11 : decode cX4_aloneBit 11 = .ok (.istore_n 1, 1) := by decide +kernel
theorem dX4_aloneBit_12 : decode cX4_aloneBit 12 = .ok (.iconst 0, 1) := by decide +kernel
theorem dX4_aloneBit_13 : decode cX4_aloneBit 13 = .ok (.istore_n 2, 1) := by decide +kernel
theorem dX4_aloneBit_14 : decode cX4_aloneBit 14 = .ok (.iload_n 2, 1) := by decide +kernel
theorem dX4_aloneBit_15 : decode cX4_aloneBit 15 = .ok (.aload_n 0, 1) := by decide +kernel
theorem dX4_aloneBit_16 : decode cX4_aloneBit 16 = .ok (.getfield 29, 3) := by decide +kernel
theorem dX4_aloneBit_19 : decode cX4_aloneBit 19 = .ok (.if_icmp .ge 24, 3) := by decide +kernel
theorem dX4_aloneBit_22 : decode cX4_aloneBit 22 = .ok (.aload_n 0, 1) := by decide +kernel
theorem dX4_aloneBit_23 : decode cX4_aloneBit 23 = .ok (.iload_n 2, 1) := by decide +kernel
theorem dX4_aloneBit_24 : decode cX4_aloneBit 24 = .ok (.invokevirtual 70, 3) := by decide +kernel
theorem dX4_aloneBit_27 : decode cX4_aloneBit 27 = .ok (.istore_n 3, 1) := by decide +kernel
theorem dX4_aloneBit_28 : decode cX4_aloneBit 28 = .ok (.iload_n 3, 1) := by decide +kernel
theorem dX4_aloneBit_29 : decode cX4_aloneBit 29 = .ok (.iconst (-1), 1) := by decide +kernel
theorem dX4_aloneBit_30 : decode cX4_aloneBit 30 = .ok (.if_icmp .eq 7, 3) := by decide +kernel
theorem dX4_aloneBit_33 : decode cX4_aloneBit 33 = .ok (.iconst 1, 1) := by decide +kernel
theorem dX4_aloneBit_34 : decode cX4_aloneBit 34 = .ok (.iload_n 3, 1) := by decide +kernel
theorem dX4_aloneBit_35 : decode cX4_aloneBit 35 = .ok (.ishl, 1) := by decide +kernel
theorem dX4_aloneBit_36 : decode cX4_aloneBit 36 = .ok (.istore_n 1, 1) := by decide +kernel
theorem dX4_aloneBit_37 : decode cX4_aloneBit 37 = .ok (.iinc 2 1, 3) := by decide +kernel
theorem dX4_aloneBit_40 : decode cX4_aloneBit 40 = .ok (.goto (-26), 3) := by decide +kernel
theorem dX4_aloneBit_43 : decode cX4_aloneBit 43 = .ok (.iload_n 1, 1) := by decide +kernel
theorem dX4_aloneBit_44 : decode cX4_aloneBit 44 = .ok (.ireturn, 1) := by decide +kernel
set_option maxRecDepth 20000 in
theorem ggX5_init_X2_init : GoodIn wsX5_init wsX2_init := goodIn_r _ [29, 30, 2, 3, 31, 32, 53, 54] (by decide +kernel) (by decide +kernel)
set_option maxRecDepth 20000 in
theorem gX5_init_X2_init_n11 : GoodIn wsX5_init (wsX2_init) := ggX5_init_X2_init
set_option maxRecDepth 20000 in
theorem ggX5_init_X0_init : GoodIn wsX5_init wsX0_init := goodIn_r _ [34, 35, 2, 3, 31, 36, 68, 69, 70, 71] (by decide +kernel) (by decide +kernel)
set_option maxRecDepth 20000 in
theorem gX5_init_X0_init_n18 : GoodIn wsX5_init (wsX0_init) := ggX5_init_X0_init
set_option maxRecDepth 20000 in
theorem ggX5_init_X4_init : GoodIn wsX5_init wsX4_init := goodIn_r _ [39, 40, 2, 3, 31, 41, 42, 43, 44, 72, 73, 74, 75, 76, 77, 78, 79] (by decide +kernel) (by decide +kernel)
set_option maxRecDepth 20000 in
theorem gX5_init_X4_init : GoodIn wsX5_init (wsX4_init) := ggX5_init_X4_init
set_option maxRecDepth 20000 in
theorem ggX5_init_X3_init : GoodIn wsX5_init wsX3_init := goodIn_r _ [46, 47, 2, 3, 31, 48, 49, 80, 81, 82] (by decide +kernel) (by decide +kernel)
set_option maxRecDepth 20000 in
theorem gX5_init_X3_init_n34 : GoodIn wsX5_init (wsX3_init) := ggX5_init_X3_init
set_option maxRecDepth 20000 in
theorem ggX5_init_X1_init : GoodIn wsX5_init wsX1_init := goodIn_r _ [51, 52, 2, 3] (by decide +kernel) (by decide +kernel)
set_option maxRecDepth 20000 in
theorem gX5_init_X1_init_n50 : GoodIn wsX5_init (wsX1_init) := ggX5_init_X1_init
theorem dX5_init_0 : decode cX5_init 0 = .ok (.aload_n 0, 1) := by decide +kernel
theorem dX5_init_1 : decode cX5_init 1 = .ok (.invokespecial 3, 3) := by decide +kernel
theorem dX5_init_4 : decode cX5_init 4 = .ok (.aload_n 0, 1) := by decide +kernel
theorem dX5_init_5 : decode cX5_init 5 = .ok (.new 9, 3) := by decide +kernel
theorem dX5_init_8 : decode cX5_init 8 = .ok (.dup, 1) := by decide +kernel
theorem dX5_init_9 : decode cX5_init 9 = .ok (.invokespecial 11, 3) := by decide +kernel
theorem dX5_init_12 : decode cX5_init 12 = .ok (.putfield 12, 3) := by decide +kernel
theorem dX5_init_15 : decode cX5_init 15 = .ok (.aload_n 0, 1) := by decide +kernel
theorem dX5_init_16 : decode cX5_init 16 = .ok (.new 16, 3) := by decide +kernel
theorem dX5_init_19 : decode cX5_init 19 = .ok (.dup, 1) := by decide +kernel
theorem dX5_init_20 : decode cX5_init 20 = .ok (.invokespecial 18, 3) := by decide +kernel
theorem dX5_init_23 : decode cX5_init 23 = .ok (.putfield 19, 3) := by decide +kernel
theorem dX5_init_26 : decode cX5_init 26 = .ok (.aload_n 0, 1) := by decide +kernel
theorem dX5_init_27 : decode cX5_init 27 = .ok (.new 23, 3) := by decide +kernel
theorem dX5_init_30 : decode cX5_init 30 = .ok (.dup, 1) := by decide +kernel
theorem dX5_init_31 : decode cX5_init 31 = .ok (.aload_n 0, 1) := by decide +kernel
theorem dX5_init_32 : decode cX5_init 32 = .ok (.getfield 19, 3) := by decide +kernel
theorem dX5_init_35 : decode cX5_init 35 = .ok (.invokespecial 25, 3) := by decide +kernel
theorem dX5_init_38 : decode cX5_init 38 = .ok (.putfield 28, 3) := by decide +kernel
theorem dX5_init_41 : decode cX5_init 41 = .ok (.aload_n 0, 1) := by decide +kernel
theorem dX5_init_42 : decode cX5_init 42 = .ok (.new 32, 3) := by decide +kernel
theorem dX5_init_45 : decode cX5_init 45 = .ok (.dup, 1) := by decide +kernel
theorem dX5_init_46 : decode cX5_init 46 = .ok (.invokespecial 34, 3) := by decide +kernel
theorem dX5_init_49 : decode cX5_init 49 = .ok (.putfield 35, 3) := by decide +kernel
theorem dX5_init_52 : decode cX5_init 52 = .ok (.aload_n 0, 1) := by decide +kernel
theorem dX5_init_53 : decode cX5_init 53 = .ok (.new 23, 3) := by decide +kernel
theorem dX5_init_56 : decode cX5_init 56 = .ok (.dup, 1) := by decide +kernel
theorem dX5_init_57 : decode cX5_init 57 = .ok (.aload_n 0, 1) := by decide +kernel
theorem dX5_init_58 : decode cX5_init 58 = .ok (.getfield 19, 3) := by decide +kernel
theorem dX5_init_61 : decode cX5_init 61 = .ok (.invokespecial 25, 3) := by decide +kernel
theorem dX5_init_64 : decode cX5_init 64 = .ok (.putfield 39, 3) := by decide +kernel
theorem dX5_init_67 : decode cX5_init 67 = .ok (.aload_n 0, 1) := by decide +kernel
theorem dX5_init_68 : decode cX5_init 68 = .ok (.new 32, 3) := by decide +kernel
theorem dX5_init_71 : decode cX5_init 71 = .ok (.dup, 1) := by decide +kernel
theorem dX5_init_72 : decode cX5_init 72 = .ok (.invokespecial 34, 3) := by decide +kernel
theorem dX5_init_75 : decode cX5_init 75 = .ok (.putfield 42, 3) := by decide +kernel
theorem dX5_init_78 : decode cX5_init 78 = .ok (.aload_n 0, 1) := by decide +kernel
theorem dX5_init_79 : decode cX5_init 79 = .ok (.new 23, 3) := by decide +kernel
theorem dX5_init_82 : decode cX5_init 82 = .ok (.dup, 1) := by decide +kernel
theorem dX5_init_83 : decode cX5_init 83 = .ok (.aload_n 0, 1) := by decide +kernel
theorem dX5_init_84 : decode cX5_init 84 = .ok (.getfield 19, 3) := by decide +kernel
theorem dX5_init_87 : decode cX5_init 87 = .ok (.invokespecial 25, 3) := by decide +kernel
theorem dX5_init_90 : decode cX5_init 90 = .ok (.putfield 45, 3) := by decide +kernel
theorem dX5_init_93 : decode cX5_init 93 = .ok (.aload_n 0, 1) := by decide +kernel
theorem dX5_init_94 : decode cX5_init 94 = .ok (.new 48, 3) := by decide +kernel
theorem dX5_init_97 : decode cX5_init 97 = .ok (.dup, 1) := by decide +kernel
theorem dX5_init_98 : decode cX5_init 98 = .ok (.invokespecial 50, 3) := by decide +kernel
theorem dX5_init_101 : decode cX5_init 101 = .ok (.putfield 51, 3) := by decide +kernel
theorem dX5_init_104 : decode cX5_init 104 = .ok (.aload_n 0, 1) := by decide +kernel
theorem dX5_init_105 : decode cX5_init 105 = .ok (.bipush 9, 2) := by decide +kernel
theorem dX5_init_107 : decode cX5_init 107 = .ok (.anewarray 48, 3) := by decide +kernel
theorem dX5_init_110 : decode cX5_init 110 = .ok (.putfield 55, 3) := by decide +kernel
theorem dX5_init_113 : decode cX5_init 113 = .ok (.aload_n 0, 1) := by decide +kernel
theorem dX5_init_114 : decode cX5_init 114 = .ok (.getfield 55, 3) := by decide +kernel
theorem dX5_init_117 : decode cX5_init 117 = .ok (.iconst 0, 1) := by decide +kernel
theorem dX5_init_118 : decode cX5_init 118 = .ok (.aload_n 0, 1) := by decide +kernel
theorem dX5_init_119 : decode cX5_init 119 = .ok (.getfield 51, 3) := by decide +kernel
theorem dX5_init_122 : decode cX5_init 122 = .ok (.aastore, 1) := by decide +kernel
theorem dX5_init_123 : decode cX5_init 123 = .ok (.iconst 1, 1) := by decide +kernel
theorem dX5_init_124 : decode cX5_init 124 = .ok (.istore_n 1, 1) := by decide +kernel
theorem dX5_init_125 : decode cX5_init 125 = .ok (.iload_n 1, 1) := by decide +kernel
theorem dX5_init_126 : decode cX5_init 126 = .ok (.aload_n 0, 1) := by decide +kernel
theorem dX5_init_127 : decode cX5_init 127 = .ok (.getfield 55, 3) := by decide +kernel
theorem dX5_init_130 : decode cX5_init 130 = .ok (.arraylength, 1) := by decide +kernel
theorem dX5_init_131 : decode cX5_init 131 = .ok (.if_icmp .ge 22, 3) := by decide +kernel
theorem dX5_init_134 : decode cX5_init 134 = .ok (.aload_n 0, 1) := by decide +kernel
theorem dX5_init_135 : decode cX5_init 135 = .ok (.getfield 55, 3) := by decide +kernel
theorem dX5_init_138 : decode cX5_init 138 = .ok (.iload_n 1, 1) := by decide +kernel
theorem dX5_init_139 : decode cX5_init 139 = .ok (.new 48, 3) := by decide +kernel
theorem dX5_init_142 : decode cX5_init 142 = .ok (.dup, 1) := by decide +kernel
theorem dX5_init_143 : decode cX5_init 143 = .ok (.invokespecial 50, 3) := by decide +kernel
theorem dX5_init_146 : decode cX5_init 146 = .ok (.aastore, 1) := by decide +kernel
theorem dX5_init_147 : decode cX5_init 147 = .ok (.iinc 1 1, 3) := by decide +kernel
theorem dX5_init_150 : decode cX5_init 150 = .ok (.goto (-25), 3) := by decide +kernel
theorem dX5_init_153 : decode cX5_init 153 = .ok (.return_, 1) := by decide +kernel
set_option maxRecDepth 20000 in
theorem ggX5_letter_X2_append : GoodIn wsX5_letter wsX2_append := goodIn_r _ [6, 7, 8, 22, 23] (by decide +kernel) (by decide +kernel)
set_option maxRecDepth 20000 in
theorem gX5_letter_X2_append : GoodIn wsX5_letter (wsV RX5 59 RX2 yX2_append wsX2_append) := goodIn_app (goodIn_of _ (by decide +kernel)) ggX5_letter_X2_append
theorem dX5_letter_0 : decode cX5_letter 0 = .ok (.iload_n 1, 1) := by decide +kernel
theorem dX5_letter_1 : decode cX5_letter 1 = .ok (.bipush 32, 2) := by decide +kernel
theorem dX5_letter_3 : decode cX5_letter 3 = .ok (.if_icmp .lt 9, 3) := by decide +kernel
theorem dX5_letter_6 : decode cX5_letter 6 = .ok (.iload_n 1, 1) := by decide +kernel
theorem dX5_letter_7 : decode cX5_letter 7 = .ok (.bipush 126, 2) := by decide +kernel
theorem dX5_letter_9 : decode cX5_letter 9 = .ok (.if_icmp .le 6, 3) := by decide +kernel
theorem dX5_letter_12 : decode cX5_letter 12 = .ok (.bipush (-102), 2) := by decide +kernel
theorem dX5_letter_14 : decode cX5_letter 14 = .ok (.ireturn, 1) := by decide +kernel
theorem dX5_letter_15 : decode cX5_letter 15 = .ok (.aload_n 0, 1) := by decide +kernel
theorem dX5_letter_16 : decode cX5_letter 16 = .ok (.getfield 12, 3) := by decide +kernel
theorem dX5_letter_19 : decode cX5_letter 19 = .ok (.iload_n 1, 1) := by decide +kernel
theorem dX5_letter_20 : decode cX5_letter 20 = .ok (.invokevirtual 59, 3) := by decide +kernel
theorem dX5_letter_23 : decode cX5_letter 23 = .ok (.ifCond .eq 13, 3) := by decide +kernel
theorem dX5_letter_26 : decode cX5_letter 26 = .ok (.aload_n 0, 1) := by decide +kernel
theorem dX5_letter_27 : decode cX5_letter 27 = .ok (.getfield 12, 3) := by decide +kernel
theorem dX5_letter_30 : decode cX5_letter 30 = .ok (.getfield 63, 3) := by decide +kernel
theorem dX5_letter_33 : decode cX5_letter 33 = .ok (.goto 5, 3) := by decide +kernel
theorem dX5_letter_36 : decode cX5_letter 36 = .ok (.bipush (-104), 2) := by decide +kernel
theorem dX5_letter_38 : decode cX5_letter 38 = .ok (.ireturn, 1) := by decide +kernel
theorem dX5_blank_0 : decode cX5_blank 0 = .ok (.aload_n 0, 1) := by decide +kernel
theorem dX5_blank_1 : decode cX5_blank 1 = .ok (.getfield 12, 3) := by decide +kernel
theorem dX5_blank_4 : decode cX5_blank 4 = .ok (.getfield 63, 3) := by decide +kernel
theorem dX5_blank_7 : decode cX5_blank 7 = .ok (.istore_n 1, 1) := by decide +kernel
theorem dX5_blank_8 : decode cX5_blank 8 = .ok (.aload_n 0, 1) := by decide +kernel
theorem dX5_blank_9 : decode cX5_blank 9 = .ok (.getfield 12, 3) := by decide +kernel
theorem dX5_blank_12 : decode cX5_blank 12 = .ok (.iconst 0, 1) := by decide +kernel
theorem dX5_blank_13 : decode cX5_blank 13 = .ok (.putfield 63, 3) := by decide +kernel
theorem dX5_blank_16 : decode cX5_blank 16 = .ok (.iload_n 1, 1) := by decide +kernel
theorem dX5_blank_17 : decode cX5_blank 17 = .ok (.ireturn, 1) := by decide +kernel
set_option maxRecDepth 20000 in
theorem ggX5_fault_X2_firstFault : GoodIn wsX5_fault wsX2_firstFault := goodIn_r _ [6, 7, 8, 9, 10, 5, 11, 12, 13, 14, 15, 16, 17, 18, 19, 20, 21, 22, 23, 24, 25, 26, 27, 28, 29, 30, 31, 32, 46, 47] (by decide +kernel) (by decide +kernel)
set_option maxRecDepth 20000 in
theorem gX5_fault_X2_firstFault : GoodIn wsX5_fault (wsV RX5 67 RX2 yX2_firstFault wsX2_firstFault) := goodIn_app (goodIn_of _ (by decide +kernel)) ggX5_fault_X2_firstFault
theorem dX5_fault_0 : decode cX5_fault 0 = .ok (.aload_n 0, 1) := by decide +kernel
theorem dX5_fault_1 : decode cX5_fault 1 = .ok (.getfield 12, 3) := by decide +kernel
theorem dX5_fault_4 : decode cX5_fault 4 = .ok (.invokevirtual 67, 3) := by decide +kernel
theorem dX5_fault_7 : decode cX5_fault 7 = .ok (.ireturn, 1) := by decide +kernel
set_option maxRecDepth 20000 in
theorem ggX5_board_X2_isBoard : GoodIn wsX5_board wsX2_isBoard := goodIn_r _ [12, 13, 14, 15, 16, 11, 17, 18, 19, 20, 21, 22, 23, 24, 25, 26, 27, 28, 29, 30, 31, 32, 33, 34, 35, 36, 37, 38, 39, 40, 41, 42, 104, 105] (by decide +kernel) (by decide +kernel)
set_option maxRecDepth 20000 in
theorem gX5_board_X2_isBoard : GoodIn wsX5_board (wsV RX5 71 RX2 yX2_isBoard wsX2_isBoard) := goodIn_app (goodIn_of _ (by decide +kernel)) ggX5_board_X2_isBoard
set_option maxRecDepth 20000 in
theorem ggX5_board_X2_digitAt : GoodIn wsX5_board wsX2_digitAt := goodIn_r _ [21, 22, 23, 24, 11, 25, 13, 26, 104, 105] (by decide +kernel) (by decide +kernel)
set_option maxRecDepth 20000 in
theorem gX5_board_X2_digitAt : GoodIn wsX5_board (wsV RX5 75 RX2 yX2_digitAt wsX2_digitAt) := goodIn_app (goodIn_of _ (by decide +kernel)) ggX5_board_X2_digitAt
set_option maxRecDepth 20000 in
theorem ggX5_board_X0_lay : GoodIn wsX5_board wsX0_lay := goodIn_r _ [48, 49, 50, 51, 52, 53, 54, 55, 47, 56, 114, 115, 116, 117] (by decide +kernel) (by decide +kernel)
set_option maxRecDepth 20000 in
theorem gX5_board_X0_lay : GoodIn wsX5_board (wsV RX5 79 RX0 yX0_lay wsX0_lay) := goodIn_app (goodIn_of _ (by decide +kernel)) ggX5_board_X0_lay
set_option maxRecDepth 20000 in
theorem ggX5_board_X4_read : GoodIn wsX5_board wsX4_read := goodIn_r _ [61, 62, 63, 64, 65, 66, 67, 68, 23, 24, 11, 25, 13, 26, 69, 36, 37, 38, 22, 70, 71, 72, 60, 73, 74, 75, 76, 77, 78, 79, 80, 81, 82, 83, 84, 85, 86, 47, 87, 51, 106, 107, 108, 109, 110, 111, 112, 113, 114, 115, 116, 117, 104, 105] (by decide +kernel) (by decide +kernel)
set_option maxRecDepth 20000 in
theorem gX5_board_X4_read : GoodIn wsX5_board (wsV RX5 83 RX4 yX4_read wsX4_read) := goodIn_app (goodIn_of _ (by decide +kernel)) ggX5_board_X4_read
theorem dX5_board_0 : decode cX5_board 0 = .ok (.aload_n 0, 1) := by decide +kernel
theorem dX5_board_1 : decode cX5_board 1 = .ok (.getfield 12, 3) := by decide +kernel
theorem dX5_board_4 : decode cX5_board 4 = .ok (.invokevirtual 71, 3) := by decide +kernel
theorem dX5_board_7 : decode cX5_board 7 = .ok (.ifCond .ne 6, 3) := by decide +kernel
theorem dX5_board_10 : decode cX5_board 10 = .ok (.bipush (-103), 2) := by decide +kernel
theorem dX5_board_12 : decode cX5_board 12 = .ok (.ireturn, 1) := by decide +kernel
theorem dX5_board_13 : decode cX5_board 13 = .ok (.aload_n 0, 1) := by decide +kernel
theorem dX5_board_14 : decode cX5_board 14 = .ok (.getfield 19, 3) := by decide +kernel
theorem dX5_board_17 : decode cX5_board 17 = .ok (.aload_n 0, 1) := by decide +kernel
theorem dX5_board_18 : decode cX5_board 18 = .ok (.getfield 12, 3) := by decide +kernel
theorem dX5_board_21 : decode cX5_board 21 = .ok (.iconst 0, 1) := by decide +kernel
theorem dX5_board_22 : decode cX5_board 22 = .ok (.invokevirtual 75, 3) := by decide +kernel
theorem dX5_board_25 : decode cX5_board 25 = .ok (.aload_n 0, 1) := by decide +kernel
theorem dX5_board_26 : decode cX5_board 26 = .ok (.getfield 12, 3) := by decide +kernel
theorem dX5_board_29 : decode cX5_board 29 = .ok (.iconst 1, 1) := by decide +kernel
theorem dX5_board_30 : decode cX5_board 30 = .ok (.invokevirtual 75, 3) := by decide +kernel
theorem dX5_board_33 : decode cX5_board 33 = .ok (.invokevirtual 79, 3) := by decide +kernel
theorem dX5_board_36 : decode cX5_board 36 = .ok (.aload_n 0, 1) := by decide +kernel
theorem dX5_board_37 : decode cX5_board 37 = .ok (.getfield 28, 3) := by decide +kernel
theorem dX5_board_40 : decode cX5_board 40 = .ok (.aload_n 0, 1) := by decide +kernel
theorem dX5_board_41 : decode cX5_board 41 = .ok (.getfield 12, 3) := by decide +kernel
theorem dX5_board_44 : decode cX5_board 44 = .ok (.invokevirtual 83, 3) := by decide +kernel
theorem dX5_board_47 : decode cX5_board 47 = .ok (.aload_n 0, 1) := by decide +kernel
theorem dX5_board_48 : decode cX5_board 48 = .ok (.getfield 35, 3) := by decide +kernel
theorem dX5_board_51 : decode cX5_board 51 = .ok (.iconst 0, 1) := by decide +kernel
theorem dX5_board_52 : decode cX5_board 52 = .ok (.putfield 87, 3) := by decide +kernel
theorem dX5_board_55 : decode cX5_board 55 = .ok (.aload_n 0, 1) := by decide +kernel
theorem dX5_board_56 : decode cX5_board 56 = .ok (.getfield 12, 3) := by decide +kernel
theorem dX5_board_59 : decode cX5_board 59 = .ok (.iconst 0, 1) := by decide +kernel
theorem dX5_board_60 : decode cX5_board 60 = .ok (.putfield 63, 3) := by decide +kernel
theorem dX5_board_63 : decode cX5_board 63 = .ok (.aload_n 0, 1) := by decide +kernel
theorem dX5_board_64 : decode cX5_board 64 = .ok (.iconst 0, 1) := by decide +kernel
theorem dX5_board_65 : decode cX5_board 65 = .ok (.putfield 88, 3) := by decide +kernel
theorem dX5_board_68 : decode cX5_board 68 = .ok (.aload_n 0, 1) := by decide +kernel
theorem dX5_board_69 : decode cX5_board 69 = .ok (.iconst 0, 1) := by decide +kernel
theorem dX5_board_70 : decode cX5_board 70 = .ok (.putfield 92, 3) := by decide +kernel
theorem dX5_board_73 : decode cX5_board 73 = .ok (.aload_n 0, 1) := by decide +kernel
theorem dX5_board_74 : decode cX5_board 74 = .ok (.dup, 1) := by decide +kernel
theorem dX5_board_75 : decode cX5_board 75 = .ok (.getfield 95, 3) := by decide +kernel
theorem dX5_board_78 : decode cX5_board 78 = .ok (.iconst 1, 1) := by decide +kernel
theorem dX5_board_79 : decode cX5_board 79 = .ok (.iadd, 1) := by decide +kernel
theorem dX5_board_80 : decode cX5_board 80 = .ok (.putfield 95, 3) := by decide +kernel
theorem dX5_board_83 : decode cX5_board 83 = .ok (.aload_n 0, 1) := by decide +kernel
theorem dX5_board_84 : decode cX5_board 84 = .ok (.getfield 28, 3) := by decide +kernel
theorem dX5_board_87 : decode cX5_board 87 = .ok (.getfield 98, 3) := by decide +kernel
theorem dX5_board_90 : decode cX5_board 90 = .ok (.ireturn, 1) := by decide +kernel
set_option maxRecDepth 20000 in
theorem ggX5_peg_X4_isPeg : GoodIn wsX5_peg wsX4_isPeg := goodIn_r _ [7, 8, 98, 99, 100, 101, 102, 103, 104, 105] (by decide +kernel) (by decide +kernel)
set_option maxRecDepth 20000 in
theorem gX5_peg_X4_isPeg : GoodIn wsX5_peg (wsV RX5 101 RX4 yX4_isPeg wsX4_isPeg) := goodIn_app (goodIn_of _ (by decide +kernel)) ggX5_peg_X4_isPeg
set_option maxRecDepth 20000 in
theorem ggX5_peg_X4_kindOf : GoodIn wsX5_peg wsX4_kindOf := goodIn_r _ [12, 13, 14, 4, 5, 6, 7, 8, 98, 99, 100, 101, 102, 103, 104, 105] (by decide +kernel) (by decide +kernel)
set_option maxRecDepth 20000 in
theorem gX5_peg_X4_kindOf : GoodIn wsX5_peg (wsV RX5 104 RX4 yX4_kindOf wsX4_kindOf) := goodIn_app (goodIn_of _ (by decide +kernel)) ggX5_peg_X4_kindOf
set_option maxRecDepth 20000 in
theorem ggX5_peg_X4_homeOf : GoodIn wsX5_peg wsX4_homeOf := goodIn_r _ [18, 19, 14, 4, 5, 6, 7, 8, 98, 99, 100, 101, 102, 103, 104, 105] (by decide +kernel) (by decide +kernel)
set_option maxRecDepth 20000 in
theorem gX5_peg_X4_homeOf : GoodIn wsX5_peg (wsV RX5 107 RX4 yX4_homeOf wsX4_homeOf) := goodIn_app (goodIn_of _ (by decide +kernel)) ggX5_peg_X4_homeOf
set_option maxRecDepth 20000 in
theorem ggX5_peg_X4_targetsOf : GoodIn wsX5_peg wsX4_targetsOf := goodIn_r _ [23, 24, 25, 26, 6, 27, 28, 29, 16, 17, 18, 19, 14, 4, 5, 7, 8, 30, 31, 32, 33, 34, 35, 36, 37, 38, 39, 40, 41, 42, 43, 44, 45, 46, 47, 10, 11, 12, 13, 48, 49, 50, 51, 52, 53, 54, 55, 56, 57, 58, 59, 60, 61, 62, 98, 99, 100, 101, 102, 103, 104, 105, 106, 107, 108, 109] (by decide +kernel) (by decide +kernel)
set_option maxRecDepth 20000 in
theorem gX5_peg_X4_targetsOf : GoodIn wsX5_peg (wsV RX5 110 RX4 yX4_targetsOf wsX4_targetsOf) := goodIn_app (goodIn_of _ (by decide +kernel)) ggX5_peg_X4_targetsOf
set_option maxRecDepth 20000 in
theorem ggX5_peg_X3_sortsOf : GoodIn wsX5_peg wsX3_sortsOf := goodIn_r _ [67, 68, 69, 70, 110, 111, 112] (by decide +kernel) (by decide +kernel)
set_option maxRecDepth 20000 in
theorem gX5_peg_X3_sortsOf : GoodIn wsX5_peg (wsV RX5 113 RX3 yX3_sortsOf wsX3_sortsOf) := goodIn_app (goodIn_of _ (by decide +kernel)) ggX5_peg_X3_sortsOf
set_option maxRecDepth 20000 in
theorem ggX5_peg_X5_bestQuestion : GoodIn wsX5_peg wsX5_bestQuestion := goodIn_r _ [73, 57, 74, 75, 76, 77, 78, 79, 80, 81, 82, 83, 84] (by decide +kernel) (by decide +kernel)
set_option maxRecDepth 20000 in
theorem gX5_peg_X5_bestQuestion : GoodIn wsX5_peg (va_wsS RX5 116 yX5_bestQuestion wsX5_bestQuestion) := goodIn_app (goodIn_of _ (by decide +kernel)) ggX5_peg_X5_bestQuestion
theorem dX5_peg_0 : decode cX5_peg 0 = .ok (.aload_n 0, 1) := by decide +kernel
theorem dX5_peg_1 : decode cX5_peg 1 = .ok (.getfield 28, 3) := by decide +kernel
theorem dX5_peg_4 : decode cX5_peg 4 = .ok (.iload_n 1, 1) := by decide +kernel
theorem dX5_peg_5 : decode cX5_peg 5 = .ok (.invokevirtual 101, 3) := by decide +kernel
theorem dX5_peg_8 : decode cX5_peg 8 = .ok (.ifCond .ne 6, 3) := by decide +kernel
theorem dX5_peg_11 : decode cX5_peg 11 = .ok (.bipush (-101), 2) := by decide +kernel
theorem dX5_peg_13 : decode cX5_peg 13 = .ok (.ireturn, 1) := by decide +kernel
theorem dX5_peg_14 : decode cX5_peg 14 = .ok (.iload_n 2, 1) := by decide +kernel
theorem dX5_peg_15 : decode cX5_peg 15 = .ok (.tableswitch 81 0 4 #[33, 42, 51, 60, 69], 33) := by decide +kernel
theorem dX5_peg_48 : decode cX5_peg 48 = .ok (.aload_n 0, 1) := by decide +kernel
theorem dX5_peg_49 : decode cX5_peg 49 = .ok (.getfield 28, 3) := by decide +kernel
theorem dX5_peg_52 : decode cX5_peg 52 = .ok (.iload_n 1, 1) := by decide +kernel
theorem dX5_peg_53 : decode cX5_peg 53 = .ok (.invokevirtual 104, 3) := by decide +kernel
theorem dX5_peg_56 : decode cX5_peg 56 = .ok (.ireturn, 1) := by decide +kernel
theorem dX5_peg_57 : decode cX5_peg 57 = .ok (.aload_n 0, 1) := by decide +kernel
theorem dX5_peg_58 : decode cX5_peg 58 = .ok (.getfield 28, 3) := by decide +kernel
theorem dX5_peg_61 : decode cX5_peg 61 = .ok (.iload_n 1, 1) := by decide +kernel
theorem dX5_peg_62 : decode cX5_peg 62 = .ok (.invokevirtual 107, 3) := by decide +kernel
theorem dX5_peg_65 : decode cX5_peg 65 = .ok (.ireturn, 1) := by decide +kernel
theorem dX5_peg_66 : decode cX5_peg 66 = .ok (.aload_n 0, 1) := by decide +kernel
theorem dX5_peg_67 : decode cX5_peg 67 = .ok (.getfield 28, 3) := by decide +kernel
theorem dX5_peg_70 : decode cX5_peg 70 = .ok (.iload_n 1, 1) := by decide +kernel
theorem dX5_peg_71 : decode cX5_peg 71 = .ok (.invokevirtual 110, 3) := by decide +kernel
theorem dX5_peg_74 : decode cX5_peg 74 = .ok (.ireturn, 1) := by decide +kernel
theorem dX5_peg_75 : decode cX5_peg 75 = .ok (.aload_n 0, 1) := by decide +kernel
theorem dX5_peg_76 : decode cX5_peg 76 = .ok (.getfield 35, 3) := by decide +kernel
theorem dX5_peg_79 : decode cX5_peg 79 = .ok (.iload_n 1, 1) := by decide +kernel
theorem dX5_peg_80 : decode cX5_peg 80 = .ok (.invokevirtual 113, 3) := by decide +kernel
theorem dX5_peg_83 : decode cX5_peg 83 = .ok (.ireturn, 1) := by decide +kernel
theorem dX5_peg_84 : decode cX5_peg 84 = .ok (.aload_n 0, 1) := by decide +kernel
theorem dX5_peg_85 : decode cX5_peg 85 = .ok (.getfield 35, 3) := by decide +kernel
theorem dX5_peg_88 : decode cX5_peg 88 = .ok (.iload_n 1, 1) := by decide +kernel
theorem dX5_peg_89 : decode cX5_peg 89 = .ok (.invokevirtual 113, 3) := by decide +kernel
theorem dX5_peg_92 : decode cX5_peg 92 = .ok (.invokestatic 116, 3) := by decide +kernel
theorem dX5_peg_95 : decode cX5_peg 95 = .ok (.ireturn, 1) := by decide +kernel
theorem dX5_peg_96 : decode cX5_peg 96 = .ok (.bipush (-102), 2) := by decide +kernel
theorem dX5_peg_98 : decode cX5_peg 98 = .ok (.ireturn, 1) := by decide +kernel
set_option maxRecDepth 20000 in
theorem ggX5_as_X4_isPeg : GoodIn wsX5_as wsX4_isPeg := goodIn_r _ [7, 8, 32, 33, 34, 35, 36, 37, 38, 39] (by decide +kernel) (by decide +kernel)
set_option maxRecDepth 20000 in
theorem gX5_as_X4_isPeg : GoodIn wsX5_as (wsV RX5 101 RX4 yX4_isPeg wsX4_isPeg) := goodIn_app (goodIn_of _ (by decide +kernel)) ggX5_as_X4_isPeg
set_option maxRecDepth 20000 in
theorem ggX5_as_X4_kindOf : GoodIn wsX5_as wsX4_kindOf := goodIn_r _ [12, 13, 14, 4, 5, 6, 7, 8, 32, 33, 34, 35, 36, 37, 38, 39] (by decide +kernel) (by decide +kernel)
set_option maxRecDepth 20000 in
theorem gX5_as_X4_kindOf : GoodIn wsX5_as (wsV RX5 104 RX4 yX4_kindOf wsX4_kindOf) := goodIn_app (goodIn_of _ (by decide +kernel)) ggX5_as_X4_kindOf
set_option maxRecDepth 20000 in
theorem ggX5_as_X5_hasBit : GoodIn wsX5_as wsX5_hasBit := goodIn_r _ [18] (by decide +kernel) (by decide +kernel)
set_option maxRecDepth 20000 in
theorem gX5_as_X5_hasBit : GoodIn wsX5_as (va_wsS RX5 123 yX5_hasBit wsX5_hasBit) := goodIn_app (goodIn_of _ (by decide +kernel)) ggX5_as_X5_hasBit
theorem dX5_as_0 : decode cX5_as 0 = .ok (.aload_n 0, 1) := by decide +kernel
theorem dX5_as_1 : decode cX5_as 1 = .ok (.getfield 28, 3) := by decide +kernel
theorem dX5_as_4 : decode cX5_as 4 = .ok (.iload_n 1, 1) := by decide +kernel
theorem dX5_as_5 : decode cX5_as 5 = .ok (.invokevirtual 101, 3) := by decide +kernel
theorem dX5_as_8 : decode cX5_as 8 = .ok (.ifCond .ne 6, 3) := by decide +kernel
theorem dX5_as_11 : decode cX5_as 11 = .ok (.bipush (-101), 2) := by decide +kernel
theorem dX5_as_13 : decode cX5_as 13 = .ok (.ireturn, 1) := by decide +kernel
theorem dX5_as_14 : decode cX5_as 14 = .ok (.iload_n 2, 1) := by decide +kernel
theorem dX5_as_15 : decode cX5_as 15 = .ok (.ifCond .lt 8, 3) := by decide +kernel
theorem dX5_as_18 : decode cX5_as 18 = .ok (.iload_n 2, 1) := by decide +kernel
theorem dX5_as_19 : decode cX5_as 19 = .ok (.iconst 5, 1) := by decide +kernel
theorem dX5_as_20 : decode cX5_as 20 = .ok (.if_icmp .lt 6, 3) := by decide +kernel
theorem dX5_as_23 : decode cX5_as 23 = .ok (.bipush (-102), 2) := by decide +kernel
theorem dX5_as_25 : decode cX5_as 25 = .ok (.ireturn, 1) := by decide +kernel
theorem dX5_as_26 : decode cX5_as 26 = .ok (.getstatic 119, 3) := by decide +kernel
theorem dX5_as_29 : decode cX5_as 29 = .ok (.iload_n 2, 1) := by decide +kernel
theorem dX5_as_30 : decode cX5_as 30 = .ok (.iaload, 1) := by decide +kernel
theorem dX5_as_31 : decode cX5_as 31 = .ok (.aload_n 0, 1) := by decide +kernel
theorem dX5_as_32 : decode cX5_as 32 = .ok (.getfield 28, 3) := by decide +kernel
theorem dX5_as_35 : decode cX5_as 35 = .ok (.iload_n 1, 1) := by decide +kernel
theorem dX5_as_36 : decode cX5_as 36 = .ok (.invokevirtual 104, 3) := by decide +kernel
theorem dX5_as_39 : decode cX5_as 39 = .ok (.invokestatic 123, 3) := by decide +kernel
theorem dX5_as_42 : decode cX5_as 42 = .ok (.ifCond .eq 7, 3) := by decide +kernel
theorem dX5_as_45 : decode cX5_as 45 = .ok (.iload_n 1, 1) := by decide +kernel
theorem dX5_as_46 : decode cX5_as 46 = .ok (.goto 4, 3) := by decide +kernel
theorem dX5_as_49 : decode cX5_as 49 = .ok (.iconst (-1), 1) := by decide +kernel
theorem dX5_as_50 : decode cX5_as 50 = .ok (.ireturn, 1) := by decide +kernel
set_option maxRecDepth 20000 in
theorem ggX5_place_X0_has : GoodIn wsX5_place wsX0_has := goodIn_r _ [7, 8, 38, 39, 40, 41] (by decide +kernel) (by decide +kernel)
set_option maxRecDepth 20000 in
theorem gX5_place_X0_has : GoodIn wsX5_place (wsV RX5 127 RX0 yX0_has wsX0_has) := goodIn_app (goodIn_of _ (by decide +kernel)) ggX5_place_X0_has
set_option maxRecDepth 20000 in
theorem ggX5_place_X4_isHole : GoodIn wsX5_place wsX4_isHole := goodIn_r _ [13, 14, 15, 16, 4, 5, 6, 7, 8, 17, 18, 19, 42, 43, 44, 45, 46, 47, 48, 49, 38, 39, 40, 41] (by decide +kernel) (by decide +kernel)
set_option maxRecDepth 20000 in
theorem gX5_place_X4_isHole : GoodIn wsX5_place (wsV RX5 130 RX4 yX4_isHole wsX4_isHole) := goodIn_app (goodIn_of _ (by decide +kernel)) ggX5_place_X4_isHole
set_option maxRecDepth 20000 in
theorem ggX5_place_X4_pegIn : GoodIn wsX5_place wsX4_pegIn := goodIn_r _ [23, 14, 24, 16, 4, 5, 6, 7, 8, 42, 43, 44, 45, 46, 47, 48, 49, 38, 39, 40, 41] (by decide +kernel) (by decide +kernel)
set_option maxRecDepth 20000 in
theorem gX5_place_X4_pegIn : GoodIn wsX5_place (wsV RX5 133 RX4 yX4_pegIn wsX4_pegIn) := goodIn_app (goodIn_of _ (by decide +kernel)) ggX5_place_X4_pegIn
theorem dX5_place_0 : decode cX5_place 0 = .ok (.aload_n 0, 1) := by decide +kernel
theorem dX5_place_1 : decode cX5_place 1 = .ok (.getfield 19, 3) := by decide +kernel
theorem dX5_place_4 : decode cX5_place 4 = .ok (.iload_n 1, 1) := by decide +kernel
theorem dX5_place_5 : decode cX5_place 5 = .ok (.invokevirtual 127, 3) := by decide +kernel
theorem dX5_place_8 : decode cX5_place 8 = .ok (.ifCond .ne 6, 3) := by decide +kernel
theorem dX5_place_11 : decode cX5_place 11 = .ok (.bipush (-101), 2) := by decide +kernel
theorem dX5_place_13 : decode cX5_place 13 = .ok (.ireturn, 1) := by decide +kernel
theorem dX5_place_14 : decode cX5_place 14 = .ok (.iload_n 2, 1) := by decide +kernel
theorem dX5_place_15 : decode cX5_place 15 = .ok (.lookupswitch 51 #[(0, 25), (1, 42)], 25) := by decide +kernel
theorem dX5_place_40 : decode cX5_place 40 = .ok (.aload_n 0, 1) := by decide +kernel
theorem dX5_place_41 : decode cX5_place 41 = .ok (.getfield 28, 3) := by decide +kernel
theorem dX5_place_44 : decode cX5_place 44 = .ok (.iload_n 1, 1) := by decide +kernel
theorem dX5_place_45 : decode cX5_place 45 = .ok (.invokevirtual 130, 3) := by decide +kernel
theorem dX5_place_48 : decode cX5_place 48 = .ok (.ifCond .eq 7, 3) := by decide +kernel
theorem dX5_place_51 : decode cX5_place 51 = .ok (.iconst 1, 1) := by decide +kernel
theorem dX5_place_52 : decode cX5_place 52 = .ok (.goto 4, 3) := by decide +kernel
theorem dX5_place_55 : decode cX5_place 55 = .ok (.iconst 0, 1) := by decide +kernel
theorem dX5_place_56 : decode cX5_place 56 = .ok (.ireturn, 1) := by decide +kernel
theorem dX5_place_57 : decode cX5_place 57 = .ok (.aload_n 0, 1) := by decide +kernel
theorem dX5_place_58 : decode cX5_place 58 = .ok (.getfield 28, 3) := by decide +kernel
theorem dX5_place_61 : decode cX5_place 61 = .ok (.iload_n 1, 1) := by decide +kernel
theorem dX5_place_62 : decode cX5_place 62 = .ok (.invokevirtual 133, 3) := by decide +kernel
theorem dX5_place_65 : decode cX5_place 65 = .ok (.ireturn, 1) := by decide +kernel
theorem dX5_place_66 : decode cX5_place 66 = .ok (.bipush (-102), 2) := by decide +kernel
theorem dX5_place_68 : decode cX5_place 68 = .ok (.ireturn, 1) := by decide +kernel
set_option maxRecDepth 20000 in
theorem ggX5_jump_X4_isPeg : GoodIn wsX5_jump wsX4_isPeg := goodIn_r _ [8, 9, 93, 94, 95, 96, 97, 98, 99, 100] (by decide +kernel) (by decide +kernel)
set_option maxRecDepth 20000 in
theorem gX5_jump_X4_isPeg : GoodIn wsX5_jump (wsV RX5 101 RX4 yX4_isPeg wsX4_isPeg) := goodIn_app (goodIn_of _ (by decide +kernel)) ggX5_jump_X4_isPeg
set_option maxRecDepth 20000 in
theorem ggX5_jump_X0_has : GoodIn wsX5_jump wsX0_has := goodIn_r _ [14, 15, 101, 102, 103, 104] (by decide +kernel) (by decide +kernel)
set_option maxRecDepth 20000 in
theorem gX5_jump_X0_has : GoodIn wsX5_jump (wsV RX5 127 RX0 yX0_has wsX0_has) := goodIn_app (goodIn_of _ (by decide +kernel)) ggX5_jump_X0_has
set_option maxRecDepth 20000 in
theorem ggX5_jump_X4_directionTo : GoodIn wsX5_jump wsX4_directionTo := goodIn_r _ [19, 20, 21, 22, 7, 23, 24, 25, 26, 27, 28, 29, 30, 5, 6, 8, 9, 31, 32, 33, 13, 34, 35, 36, 11, 12, 14, 15, 37, 38, 39, 40, 41, 42, 43, 44, 45, 46, 47, 48, 49, 50, 51, 52, 53, 54, 55, 56, 57, 58, 59, 60, 61, 62, 93, 94, 95, 96, 97, 98, 99, 100, 101, 102, 103, 104] (by decide +kernel) (by decide +kernel)
set_option maxRecDepth 20000 in
theorem gX5_jump_X4_directionTo : GoodIn wsX5_jump (wsV RX5 136 RX4 yX4_directionTo wsX4_directionTo) := goodIn_app (goodIn_of _ (by decide +kernel)) ggX5_jump_X4_directionTo
set_option maxRecDepth 20000 in
theorem ggX5_jump_X4_neighbourOf : GoodIn wsX5_jump wsX4_neighbourOf := goodIn_r _ [66, 24, 25, 26, 27, 7, 28, 29, 30, 5, 6, 8, 9, 31, 32, 33, 13, 34, 35, 36, 11, 12, 14, 15, 37, 38, 39, 40, 41, 42, 93, 94, 95, 96, 97, 98, 99, 100, 101, 102, 103, 104] (by decide +kernel) (by decide +kernel)
set_option maxRecDepth 20000 in
theorem gX5_jump_X4_neighbourOf : GoodIn wsX5_jump (wsV RX5 143 RX4 yX4_neighbourOf wsX4_neighbourOf) := goodIn_app (goodIn_of _ (by decide +kernel)) ggX5_jump_X4_neighbourOf
set_option maxRecDepth 20000 in
theorem ggX5_jump_X4_leap : GoodIn wsX5_jump wsX4_leap := goodIn_r _ [70, 71, 72, 73, 7, 74, 24, 29, 41, 75, 30, 5, 6, 8, 9, 42, 11, 12, 13, 14, 15, 43, 44, 45, 46, 47, 55, 49, 56, 57, 52, 53, 54, 76, 77, 78, 79, 93, 94, 95, 96, 97, 98, 99, 100, 101, 102, 103, 104] (by decide +kernel) (by decide +kernel)
set_option maxRecDepth 20000 in
theorem gX5_jump_X4_leap : GoodIn wsX5_jump (wsV RX5 146 RX4 yX4_leap wsX4_leap) := goodIn_app (goodIn_of _ (by decide +kernel)) ggX5_jump_X4_leap
theorem dX5_jump_0 : decode cX5_jump 0 = .ok (.aload_n 0, 1) := by decide +kernel
theorem dX5_jump_1 : decode cX5_jump 1 = .ok (.getfield 28, 3) := by decide +kernel
theorem dX5_jump_4 : decode cX5_jump 4 = .ok (.iload_n 1, 1) := by decide +kernel
theorem dX5_jump_5 : decode cX5_jump 5 = .ok (.invokevirtual 101, 3) := by decide +kernel
theorem dX5_jump_8 : decode cX5_jump 8 = .ok (.ifCond .eq 14, 3) := by decide +kernel
theorem dX5_jump_11 : decode cX5_jump 11 = .ok (.aload_n 0, 1) := by decide +kernel
theorem dX5_jump_12 : decode cX5_jump 12 = .ok (.getfield 19, 3) := by decide +kernel
theorem dX5_jump_15 : decode cX5_jump 15 = .ok (.iload_n 2, 1) := by decide +kernel
theorem dX5_jump_16 : decode cX5_jump 16 = .ok (.invokevirtual 127, 3) := by decide +kernel
theorem dX5_jump_19 : decode cX5_jump 19 = .ok (.ifCond .ne 6, 3) := by decide +kernel
theorem dX5_jump_22 : decode cX5_jump 22 = .ok (.bipush (-101), 2) := by decide +kernel
theorem dX5_jump_24 : decode cX5_jump 24 = .ok (.ireturn, 1) := by decide +kernel
theorem dX5_jump_25 : decode cX5_jump 25 = .ok (.aload_n 0, 1) := by decide +kernel
theorem dX5_jump_26 : decode cX5_jump 26 = .ok (.getfield 28, 3) := by decide +kernel
theorem dX5_jump_29 : decode cX5_jump 29 = .ok (.iload_n 1, 1) := by decide +kernel
theorem dX5_jump_30 : decode cX5_jump 30 = .ok (.iload_n 2, 1) := by decide +kernel
theorem dX5_jump_31 : decode cX5_jump 31 = .ok (.invokevirtual 136, 3) := by decide +kernel
theorem dX5_jump_34 : decode cX5_jump 34 = .ok (.istore_n 3, 1) := by decide +kernel
theorem dX5_jump_35 : decode cX5_jump 35 = .ok (.iload_n 3, 1) := by decide +kernel
theorem dX5_jump_36 : decode cX5_jump 36 = .ok (.iconst (-1), 1) := by decide +kernel
theorem dX5_jump_37 : decode cX5_jump 37 = .ok (.if_icmp .ne 6, 3) := by decide +kernel
theorem dX5_jump_40 : decode cX5_jump 40 = .ok (.bipush (-103), 2) := by decide +kernel
theorem dX5_jump_42 : decode cX5_jump 42 = .ok (.ireturn, 1) := by decide +kernel
theorem dX5_jump_43 : decode cX5_jump 43 = .ok (.aload_n 0, 1) := by decide +kernel
theorem dX5_jump_44 : decode cX5_jump 44 = .ok (.getfield 28, 3) := by decide +kernel
theorem dX5_jump_47 : decode cX5_jump 47 = .ok (.getfield 140, 3) := by decide +kernel
theorem dX5_jump_50 : decode cX5_jump 50 = .ok (.sipush 999, 3) := by decide +kernel
theorem dX5_jump_53 : decode cX5_jump 53 = .ok (.if_icmp .lt 6, 3) := by decide +kernel
theorem dX5_jump_56 : decode cX5_jump 56 = .ok (.bipush (-104), 2) := by decide +kernel
theorem dX5_jump_58 : decode cX5_jump 58 = .ok (.ireturn, 1) := by decide +kernel
theorem dX5_jump_59 : decode cX5_jump 59 = .ok (.aload_n 0, 1) := by decide +kernel
theorem dX5_jump_60 : decode cX5_jump 60 = .ok (.getfield 28, 3) := by decide +kernel
theorem dX5_jump_63 : decode cX5_jump 63 = .ok (.iload_n 1, 1) := by decide +kernel
theorem dX5_jump_64 : decode cX5_jump 64 = .ok (.aload_n 0, 1) := by decide +kernel
theorem dX5_jump_65 : decode cX5_jump 65 = .ok (.getfield 28, 3) := by decide +kernel
theorem dX5_jump_68 : decode cX5_jump 68 = .ok (.iload_n 1, 1) := by decide +kernel
theorem dX5_jump_69 : decode cX5_jump 69 = .ok (.iload_n 3, 1) := by decide +kernel
theorem dX5_jump_70 : decode cX5_jump 70 = .ok (.invokevirtual 143, 3) := by decide +kernel
theorem dX5_jump_73 : decode cX5_jump 73 = .ok (.iload_n 2, 1) := by decide +kernel
theorem dX5_jump_74 : decode cX5_jump 74 = .ok (.invokevirtual 146, 3) := by decide +kernel
theorem dX5_jump_77 : decode cX5_jump 77 = .ok (.aload_n 0, 1) := by decide +kernel
theorem dX5_jump_78 : decode cX5_jump 78 = .ok (.getfield 28, 3) := by decide +kernel
theorem dX5_jump_81 : decode cX5_jump 81 = .ok (.dup, 1) := by decide +kernel
theorem dX5_jump_82 : decode cX5_jump 82 = .ok (.getfield 140, 3) := by decide +kernel
theorem dX5_jump_85 : decode cX5_jump 85 = .ok (.iconst 1, 1) := by decide +kernel
theorem dX5_jump_86 : decode cX5_jump 86 = .ok (.iadd, 1) := by decide +kernel
theorem dX5_jump_87 : decode cX5_jump 87 = .ok (.putfield 140, 3) := by decide +kernel
theorem dX5_jump_90 : decode cX5_jump 90 = .ok (.aload_n 0, 1) := by decide +kernel
theorem dX5_jump_91 : decode cX5_jump 91 = .ok (.iconst 0, 1) := by decide +kernel
theorem dX5_jump_92 : decode cX5_jump 92 = .ok (.putfield 92, 3) := by decide +kernel
theorem dX5_jump_95 : decode cX5_jump 95 = .ok (.aload_n 0, 1) := by decide +kernel
theorem dX5_jump_96 : decode cX5_jump 96 = .ok (.getfield 28, 3) := by decide +kernel
theorem dX5_jump_99 : decode cX5_jump 99 = .ok (.getfield 150, 3) := by decide +kernel
theorem dX5_jump_102 : decode cX5_jump 102 = .ok (.ireturn, 1) := by decide +kernel
set_option maxRecDepth 20000 in
theorem ggX5_put_X4_isPeg : GoodIn wsX5_put wsX4_isPeg := goodIn_r _ [8, 9, 51, 52, 53, 54, 55, 56, 57, 58] (by decide +kernel) (by decide +kernel)
set_option maxRecDepth 20000 in
theorem gX5_put_X4_isPeg : GoodIn wsX5_put (wsV RX5 101 RX4 yX4_isPeg wsX4_isPeg) := goodIn_app (goodIn_of _ (by decide +kernel)) ggX5_put_X4_isPeg
set_option maxRecDepth 20000 in
theorem ggX5_put_X0_has : GoodIn wsX5_put wsX0_has := goodIn_r _ [14, 15, 59, 60, 61, 62] (by decide +kernel) (by decide +kernel)
set_option maxRecDepth 20000 in
theorem gX5_put_X0_has : GoodIn wsX5_put (wsV RX5 127 RX0 yX0_has wsX0_has) := goodIn_app (goodIn_of _ (by decide +kernel)) ggX5_put_X0_has
set_option maxRecDepth 20000 in
theorem ggX5_put_X4_homeOf : GoodIn wsX5_put wsX4_homeOf := goodIn_r _ [19, 20, 21, 5, 6, 7, 8, 9, 51, 52, 53, 54, 55, 56, 57, 58] (by decide +kernel) (by decide +kernel)
set_option maxRecDepth 20000 in
theorem gX5_put_X4_homeOf : GoodIn wsX5_put (wsV RX5 107 RX4 yX4_homeOf wsX4_homeOf) := goodIn_app (goodIn_of _ (by decide +kernel)) ggX5_put_X4_homeOf
set_option maxRecDepth 20000 in
theorem ggX5_put_X4_isEmptyHole : GoodIn wsX5_put wsX4_isEmptyHole := goodIn_r _ [25, 26, 27, 28, 29, 11, 12, 13, 14, 15, 30, 31, 32, 51, 52, 53, 54, 55, 56, 57, 58, 59, 60, 61, 62] (by decide +kernel) (by decide +kernel)
set_option maxRecDepth 20000 in
theorem gX5_put_X4_isEmptyHole : GoodIn wsX5_put (wsV RX5 153 RX4 yX4_isEmptyHole wsX4_isEmptyHole) := goodIn_app (goodIn_of _ (by decide +kernel)) ggX5_put_X4_isEmptyHole
set_option maxRecDepth 20000 in
theorem ggX5_put_X4_set : GoodIn wsX5_put wsX4_set := goodIn_r _ [36, 26, 20, 28, 37, 21, 5, 6, 7, 8, 9, 29, 11, 12, 13, 14, 15, 51, 52, 53, 54, 55, 56, 57, 58, 59, 60, 61, 62] (by decide +kernel) (by decide +kernel)
set_option maxRecDepth 20000 in
theorem gX5_put_X4_set : GoodIn wsX5_put (wsV RX5 156 RX4 yX4_set wsX4_set) := goodIn_app (goodIn_of _ (by decide +kernel)) ggX5_put_X4_set
theorem dX5_put_0 : decode cX5_put 0 = .ok (.aload_n 0, 1) := by decide +kernel
theorem dX5_put_1 : decode cX5_put 1 = .ok (.getfield 28, 3) := by decide +kernel
theorem dX5_put_4 : decode cX5_put 4 = .ok (.iload_n 1, 1) := by decide +kernel
theorem dX5_put_5 : decode cX5_put 5 = .ok (.invokevirtual 101, 3) := by decide +kernel
theorem dX5_put_8 : decode cX5_put 8 = .ok (.ifCond .eq 14, 3) := by decide +kernel
theorem dX5_put_11 : decode cX5_put 11 = .ok (.aload_n 0, 1) := by decide +kernel
theorem dX5_put_12 : decode cX5_put 12 = .ok (.getfield 19, 3) := by decide +kernel
theorem dX5_put_15 : decode cX5_put 15 = .ok (.iload_n 2, 1) := by decide +kernel
theorem dX5_put_16 : decode cX5_put 16 = .ok (.invokevirtual 127, 3) := by decide +kernel
theorem dX5_put_19 : decode cX5_put 19 = .ok (.ifCond .ne 6, 3) := by decide +kernel
theorem dX5_put_22 : decode cX5_put 22 = .ok (.bipush (-101), 2) := by decide +kernel
theorem dX5_put_24 : decode cX5_put 24 = .ok (.ireturn, 1) := by decide +kernel
theorem dX5_put_25 : decode cX5_put 25 = .ok (.aload_n 0, 1) := by decide +kernel
theorem dX5_put_26 : decode cX5_put 26 = .ok (.getfield 28, 3) := by decide +kernel
theorem dX5_put_29 : decode cX5_put 29 = .ok (.iload_n 1, 1) := by decide +kernel
theorem dX5_put_30 : decode cX5_put 30 = .ok (.invokevirtual 107, 3) := by decide +kernel
theorem dX5_put_33 : decode cX5_put 33 = .ok (.iconst (-1), 1) := by decide +kernel
theorem dX5_put_34 : decode cX5_put 34 = .ok (.if_icmp .ne 14, 3) := by decide +kernel
theorem dX5_put_37 : decode cX5_put 37 = .ok (.aload_n 0, 1) := by decide +kernel
theorem dX5_put_38 : decode cX5_put 38 = .ok (.getfield 28, 3) := by decide +kernel
theorem dX5_put_41 : decode cX5_put 41 = .ok (.iload_n 2, 1) := by decide +kernel
theorem dX5_put_42 : decode cX5_put 42 = .ok (.invokevirtual 153, 3) := by decide +kernel
theorem dX5_put_45 : decode cX5_put 45 = .ok (.ifCond .ne 6, 3) := by decide +kernel
theorem dX5_put_48 : decode cX5_put 48 = .ok (.bipush (-103), 2) := by decide +kernel
theorem dX5_put_50 : decode cX5_put 50 = .ok (.ireturn, 1) := by decide +kernel
theorem dX5_put_51 : decode cX5_put 51 = .ok (.aload_n 0, 1) := by decide +kernel
theorem dX5_put_52 : decode cX5_put 52 = .ok (.getfield 28, 3) := by decide +kernel
theorem dX5_put_55 : decode cX5_put 55 = .ok (.iload_n 1, 1) := by decide +kernel
theorem dX5_put_56 : decode cX5_put 56 = .ok (.iload_n 2, 1) := by decide +kernel
theorem dX5_put_57 : decode cX5_put 57 = .ok (.invokevirtual 156, 3) := by decide +kernel
theorem dX5_put_60 : decode cX5_put 60 = .ok (.aload_n 0, 1) := by decide +kernel
theorem dX5_put_61 : decode cX5_put 61 = .ok (.iconst 0, 1) := by decide +kernel
theorem dX5_put_62 : decode cX5_put 62 = .ok (.putfield 92, 3) := by decide +kernel
theorem dX5_put_65 : decode cX5_put 65 = .ok (.aload_n 0, 1) := by decide +kernel
theorem dX5_put_66 : decode cX5_put 66 = .ok (.getfield 28, 3) := by decide +kernel
theorem dX5_put_69 : decode cX5_put 69 = .ok (.getfield 150, 3) := by decide +kernel
theorem dX5_put_72 : decode cX5_put 72 = .ok (.ireturn, 1) := by decide +kernel
set_option maxRecDepth 20000 in
theorem ggX5_plug_X0_has : GoodIn wsX5_plug wsX0_has := goodIn_r _ [8, 9, 50, 51, 52, 53] (by decide +kernel) (by decide +kernel)
set_option maxRecDepth 20000 in
theorem gX5_plug_X0_has : GoodIn wsX5_plug (wsV RX5 127 RX0 yX0_has wsX0_has) := goodIn_app (goodIn_of _ (by decide +kernel)) ggX5_plug_X0_has
set_option maxRecDepth 20000 in
theorem ggX5_plug_X4_isEmptyHole : GoodIn wsX5_plug wsX4_isEmptyHole := goodIn_r _ [14, 15, 16, 17, 18, 5, 6, 7, 8, 9, 19, 20, 21, 42, 43, 44, 45, 46, 47, 48, 49, 50, 51, 52, 53] (by decide +kernel) (by decide +kernel)
set_option maxRecDepth 20000 in
theorem gX5_plug_X4_isEmptyHole : GoodIn wsX5_plug (wsV RX5 153 RX4 yX4_isEmptyHole wsX4_isEmptyHole) := goodIn_app (goodIn_of _ (by decide +kernel)) ggX5_plug_X4_isEmptyHole
set_option maxRecDepth 20000 in
theorem ggX5_plug_J6_bitCount_0f7a4 : GoodIn wsX5_plug wsJ6_bitCount_0f7a4 := goodIn_r _ [25, 26, 27, 28] (by decide +kernel) (by decide +kernel)
set_option maxRecDepth 20000 in
theorem gX5_plug_J6_bitCount_0f7a4 : GoodIn wsX5_plug (va_wsS RX5 162 yJ6_bitCount_0f7a4 wsJ6_bitCount_0f7a4) := goodIn_app (goodIn_of _ (by decide +kernel)) ggX5_plug_J6_bitCount_0f7a4
theorem dX5_plug_0 : decode cX5_plug 0 = .ok (.aload_n 0, 1) := by decide +kernel
theorem dX5_plug_1 : decode cX5_plug 1 = .ok (.getfield 19, 3) := by decide +kernel
theorem dX5_plug_4 : decode cX5_plug 4 = .ok (.iload_n 1, 1) := by decide +kernel
theorem dX5_plug_5 : decode cX5_plug 5 = .ok (.invokevirtual 127, 3) := by decide +kernel
theorem dX5_plug_8 : decode cX5_plug 8 = .ok (.ifCond .ne 6, 3) := by decide +kernel
theorem dX5_plug_11 : decode cX5_plug 11 = .ok (.bipush (-101), 2) := by decide +kernel
theorem dX5_plug_13 : decode cX5_plug 13 = .ok (.ireturn, 1) := by decide +kernel
theorem dX5_plug_14 : decode cX5_plug 14 = .ok (.aload_n 0, 1) := by decide +kernel
theorem dX5_plug_15 : decode cX5_plug 15 = .ok (.getfield 28, 3) := by decide +kernel
theorem dX5_plug_18 : decode cX5_plug 18 = .ok (.iload_n 1, 1) := by decide +kernel
theorem dX5_plug_19 : decode cX5_plug 19 = .ok (.invokevirtual 153, 3) := by decide +kernel
theorem dX5_plug_22 : decode cX5_plug 22 = .ok (.ifCond .ne 6, 3) := by decide +kernel
theorem dX5_plug_25 : decode cX5_plug 25 = .ok (.bipush (-103), 2) := by decide +kernel
theorem dX5_plug_27 : decode cX5_plug 27 = .ok (.ireturn, 1) := by decide +kernel
theorem dX5_plug_28 : decode cX5_plug 28 = .ok (.aload_n 0, 1) := by decide +kernel
theorem dX5_plug_29 : decode cX5_plug 29 = .ok (.getfield 28, 3) := by decide +kernel
theorem dX5_plug_32 : decode cX5_plug 32 = .ok (.dup, 1) := by decide +kernel
theorem dX5_plug_33 : decode cX5_plug 33 = .ok (.getfield 159, 3) := by decide +kernel
theorem dX5_plug_36 : decode cX5_plug 36 = .ok (.iconst 1, 1) := by decide +kernel
theorem dX5_plug_37 : decode cX5_plug 37 = .ok (.iload_n 1, 1) := by decide +kernel
theorem dX5_plug_38 : decode cX5_plug 38 = .ok (.ishl, 1) := by decide +kernel
theorem dX5_plug_39 : decode cX5_plug 39 = .ok (.iconst (-1), 1) := by decide +kernel
theorem dX5_plug_40 : decode cX5_plug 40 = .ok (.ixor, 1) := by decide +kernel
theorem dX5_plug_41 : decode cX5_plug 41 = .ok (.iand, 1) := by decide +kernel
theorem dX5_plug_42 : decode cX5_plug 42 = .ok (.putfield 159, 3) := by decide +kernel
theorem dX5_plug_45 : decode cX5_plug 45 = .ok (.aload_n 0, 1) := by decide +kernel
theorem dX5_plug_46 : decode cX5_plug 46 = .ok (.iconst 0, 1) := by decide +kernel
theorem dX5_plug_47 : decode cX5_plug 47 = .ok (.putfield 92, 3) := by decide +kernel
theorem dX5_plug_50 : decode cX5_plug 50 = .ok (.aload_n 0, 1) := by decide +kernel
theorem dX5_plug_51 : decode cX5_plug 51 = .ok (.getfield 28, 3) := by decide +kernel
theorem dX5_plug_54 : decode cX5_plug 54 = .ok (.getfield 159, 3) := by decide +kernel
theorem dX5_plug_57 : decode cX5_plug 57 = .ok (.invokestatic 162, 3) := by decide +kernel
theorem dX5_plug_60 : decode cX5_plug 60 = .ok (.ireturn, 1) := by decide +kernel
set_option maxRecDepth 20000 in
theorem ggX5_bore_X0_has : GoodIn wsX5_bore wsX0_has := goodIn_r _ [8, 9, 49, 50, 51, 52] (by decide +kernel) (by decide +kernel)
set_option maxRecDepth 20000 in
theorem gX5_bore_X0_has : GoodIn wsX5_bore (wsV RX5 127 RX0 yX0_has wsX0_has) := goodIn_app (goodIn_of _ (by decide +kernel)) ggX5_bore_X0_has
set_option maxRecDepth 20000 in
theorem ggX5_bore_X4_isHole : GoodIn wsX5_bore wsX4_isHole := goodIn_r _ [14, 15, 16, 17, 5, 6, 7, 8, 9, 18, 19, 20, 41, 42, 43, 44, 45, 46, 47, 48, 49, 50, 51, 52] (by decide +kernel) (by decide +kernel)
set_option maxRecDepth 20000 in
theorem gX5_bore_X4_isHole : GoodIn wsX5_bore (wsV RX5 130 RX4 yX4_isHole wsX4_isHole) := goodIn_app (goodIn_of _ (by decide +kernel)) ggX5_bore_X4_isHole
set_option maxRecDepth 20000 in
theorem ggX5_bore_J6_bitCount_0f7a4 : GoodIn wsX5_bore wsJ6_bitCount_0f7a4 := goodIn_r _ [24, 25, 26, 27] (by decide +kernel) (by decide +kernel)
set_option maxRecDepth 20000 in
theorem gX5_bore_J6_bitCount_0f7a4 : GoodIn wsX5_bore (va_wsS RX5 162 yJ6_bitCount_0f7a4 wsJ6_bitCount_0f7a4) := goodIn_app (goodIn_of _ (by decide +kernel)) ggX5_bore_J6_bitCount_0f7a4
theorem dX5_bore_0 : decode cX5_bore 0 = .ok (.aload_n 0, 1) := by decide +kernel
theorem dX5_bore_1 : decode cX5_bore 1 = .ok (.getfield 19, 3) := by decide +kernel
theorem dX5_bore_4 : decode cX5_bore 4 = .ok (.iload_n 1, 1) := by decide +kernel
theorem dX5_bore_5 : decode cX5_bore 5 = .ok (.invokevirtual 127, 3) := by decide +kernel
theorem dX5_bore_8 : decode cX5_bore 8 = .ok (.ifCond .ne 6, 3) := by decide +kernel
theorem dX5_bore_11 : decode cX5_bore 11 = .ok (.bipush (-101), 2) := by decide +kernel
theorem dX5_bore_13 : decode cX5_bore 13 = .ok (.ireturn, 1) := by decide +kernel
theorem dX5_bore_14 : decode cX5_bore 14 = .ok (.aload_n 0, 1) := by decide +kernel
theorem dX5_bore_15 : decode cX5_bore 15 = .ok (.getfield 28, 3) := by decide +kernel
theorem dX5_bore_18 : decode cX5_bore 18 = .ok (.iload_n 1, 1) := by decide +kernel
theorem dX5_bore_19 : decode cX5_bore 19 = .ok (.invokevirtual 130, 3) := by decide +kernel
theorem dX5_bore_22 : decode cX5_bore 22 = .ok (.ifCond .eq 6, 3) := by decide +kernel
theorem dX5_bore_25 : decode cX5_bore 25 = .ok (.bipush (-103), 2) := by decide +kernel
theorem dX5_bore_27 : decode cX5_bore 27 = .ok (.ireturn, 1) := by decide +kernel
theorem dX5_bore_28 : decode cX5_bore 28 = .ok (.aload_n 0, 1) := by decide +kernel
theorem dX5_bore_29 : decode cX5_bore 29 = .ok (.getfield 28, 3) := by decide +kernel
theorem dX5_bore_32 : decode cX5_bore 32 = .ok (.dup, 1) := by decide +kernel
theorem dX5_bore_33 : decode cX5_bore 33 = .ok (.getfield 159, 3) := by decide +kernel
theorem dX5_bore_36 : decode cX5_bore 36 = .ok (.iconst 1, 1) := by decide +kernel
theorem dX5_bore_37 : decode cX5_bore 37 = .ok (.iload_n 1, 1) := by decide +kernel
theorem dX5_bore_38 : decode cX5_bore 38 = .ok (.ishl, 1) := by decide +kernel
theorem dX5_bore_39 : decode cX5_bore 39 = .ok (.ior, 1) := by decide +kernel
theorem dX5_bore_40 : decode cX5_bore 40 = .ok (.putfield 159, 3) := by decide +kernel
theorem dX5_bore_43 : decode cX5_bore 43 = .ok (.aload_n 0, 1) := by decide +kernel
theorem dX5_bore_44 : decode cX5_bore 44 = .ok (.iconst 0, 1) := by decide +kernel
theorem dX5_bore_45 : decode cX5_bore 45 = .ok (.putfield 92, 3) := by decide +kernel
theorem dX5_bore_48 : decode cX5_bore 48 = .ok (.aload_n 0, 1) := by decide +kernel
theorem dX5_bore_49 : decode cX5_bore 49 = .ok (.getfield 28, 3) := by decide +kernel
theorem dX5_bore_52 : decode cX5_bore 52 = .ok (.getfield 159, 3) := by decide +kernel
theorem dX5_bore_55 : decode cX5_bore 55 = .ok (.invokestatic 162, 3) := by decide +kernel
theorem dX5_bore_58 : decode cX5_bore 58 = .ok (.ireturn, 1) := by decide +kernel
set_option maxRecDepth 20000 in
theorem ggX5_be_X4_isPeg : GoodIn wsX5_be wsX4_isPeg := goodIn_r _ [7, 8, 32, 33, 34, 35, 36, 37, 38, 39] (by decide +kernel) (by decide +kernel)
set_option maxRecDepth 20000 in
theorem gX5_be_X4_isPeg : GoodIn wsX5_be (wsV RX5 101 RX4 yX4_isPeg wsX4_isPeg) := goodIn_app (goodIn_of _ (by decide +kernel)) ggX5_be_X4_isPeg
set_option maxRecDepth 20000 in
theorem ggX5_be_X4_kindOf : GoodIn wsX5_be wsX4_kindOf := goodIn_r _ [12, 13, 14, 4, 5, 6, 7, 8, 32, 33, 34, 35, 36, 37, 38, 39] (by decide +kernel) (by decide +kernel)
set_option maxRecDepth 20000 in
theorem gX5_be_X4_kindOf : GoodIn wsX5_be (wsV RX5 104 RX4 yX4_kindOf wsX4_kindOf) := goodIn_app (goodIn_of _ (by decide +kernel)) ggX5_be_X4_kindOf
set_option maxRecDepth 20000 in
theorem ggX5_be_X4_turn : GoodIn wsX5_be wsX4_turn := goodIn_r _ [18, 13, 14, 4, 5, 6, 7, 8, 32, 33, 34, 35, 36, 37, 38, 39] (by decide +kernel) (by decide +kernel)
set_option maxRecDepth 20000 in
theorem gX5_be_X4_turn : GoodIn wsX5_be (wsV RX5 167 RX4 yX4_turn wsX4_turn) := goodIn_app (goodIn_of _ (by decide +kernel)) ggX5_be_X4_turn
theorem dX5_be_0 : decode cX5_be 0 = .ok (.aload_n 0, 1) := by decide +kernel
theorem dX5_be_1 : decode cX5_be 1 = .ok (.getfield 28, 3) := by decide +kernel
theorem dX5_be_4 : decode cX5_be 4 = .ok (.iload_n 1, 1) := by decide +kernel
theorem dX5_be_5 : decode cX5_be 5 = .ok (.invokevirtual 101, 3) := by decide +kernel
theorem dX5_be_8 : decode cX5_be 8 = .ok (.ifCond .ne 6, 3) := by decide +kernel
theorem dX5_be_11 : decode cX5_be 11 = .ok (.bipush (-101), 2) := by decide +kernel
theorem dX5_be_13 : decode cX5_be 13 = .ok (.ireturn, 1) := by decide +kernel
theorem dX5_be_14 : decode cX5_be 14 = .ok (.iload_n 2, 1) := by decide +kernel
theorem dX5_be_15 : decode cX5_be 15 = .ok (.ifCond .lt 8, 3) := by decide +kernel
theorem dX5_be_18 : decode cX5_be 18 = .ok (.iload_n 2, 1) := by decide +kernel
theorem dX5_be_19 : decode cX5_be 19 = .ok (.iconst 5, 1) := by decide +kernel
theorem dX5_be_20 : decode cX5_be 20 = .ok (.if_icmp .lt 6, 3) := by decide +kernel
theorem dX5_be_23 : decode cX5_be 23 = .ok (.bipush (-102), 2) := by decide +kernel
theorem dX5_be_25 : decode cX5_be 25 = .ok (.ireturn, 1) := by decide +kernel
theorem dX5_be_26 : decode cX5_be 26 = .ok (.aload_n 0, 1) := by decide +kernel
theorem dX5_be_27 : decode cX5_be 27 = .ok (.getfield 28, 3) := by decide +kernel
theorem dX5_be_30 : decode cX5_be 30 = .ok (.iload_n 1, 1) := by decide +kernel
theorem dX5_be_31 : decode cX5_be 31 = .ok (.invokevirtual 104, 3) := by decide +kernel
theorem dX5_be_34 : decode cX5_be 34 = .ok (.istore_n 3, 1) := by decide +kernel
theorem dX5_be_35 : decode cX5_be 35 = .ok (.aload_n 0, 1) := by decide +kernel
theorem dX5_be_36 : decode cX5_be 36 = .ok (.getfield 28, 3) := by decide +kernel
theorem dX5_be_39 : decode cX5_be 39 = .ok (.iload_n 1, 1) := by decide +kernel
theorem dX5_be_40 : decode cX5_be 40 = .ok (.iload_n 2, 1) := by decide +kernel
theorem dX5_be_41 : decode cX5_be 41 = .ok (.invokevirtual 167, 3) := by decide +kernel
theorem dX5_be_44 : decode cX5_be 44 = .ok (.aload_n 0, 1) := by decide +kernel
theorem dX5_be_45 : decode cX5_be 45 = .ok (.iconst 0, 1) := by decide +kernel
theorem dX5_be_46 : decode cX5_be 46 = .ok (.putfield 92, 3) := by decide +kernel
theorem dX5_be_49 : decode cX5_be 49 = .ok (.iload_n 3, 1) := by decide +kernel
theorem dX5_be_50 : decode cX5_be 50 = .ok (.ireturn, 1) := by decide +kernel
set_option maxRecDepth 20000 in
theorem ggX5_courses_X5_lookAhead : GoodIn wsX5_courses wsX5_lookAhead := goodIn_r _ [7, 8, 9, 10, 11, 12, 13, 14, 15, 16, 17, 18, 19, 20, 21, 22, 23, 24, 25, 6, 26, 27, 28, 29, 30, 31, 32, 33, 34, 35, 36, 37, 38, 39, 40, 41, 42, 43, 44, 45, 46, 47, 48, 49, 50, 51, 52, 53, 54, 55, 56, 57, 58, 59, 60, 61, 62, 63, 64, 65, 66, 67, 68, 69, 70, 71, 72, 73, 74, 75, 76, 77, 78, 79, 80, 81, 82, 83, 84, 85, 86, 87, 88, 89, 90, 91, 92, 93, 94, 95, 96, 97, 98, 99, 100, 101, 102, 103, 104, 105, 106, 107, 108, 109, 110, 111, 112, 113, 114, 115, 116, 117, 118, 119, 120, 121, 122, 123, 124, 125, 126, 127, 128, 129, 130, 131, 132, 133, 134, 135, 136, 146, 147, 148, 149, 150, 151, 152, 153, 137, 138, 139, 140, 141, 142, 143, 144, 145, 154, 155, 156, 157] (by decide +kernel) (by decide +kernel)
set_option maxRecDepth 20000 in
theorem gX5_courses_X5_lookAhead : GoodIn wsX5_courses (wsV RX5 170 RX5 yX5_lookAhead wsX5_lookAhead) := goodIn_app (goodIn_of _ (by decide +kernel)) ggX5_courses_X5_lookAhead
theorem dX5_courses_0 : decode cX5_courses 0 = .ok (.iload_n 1, 1) := by decide +kernel
theorem dX5_courses_1 : decode cX5_courses 1 = .ok (.ifCond .lt 8, 3) := by decide +kernel
theorem dX5_courses_4 : decode cX5_courses 4 = .ok (.iload_n 1, 1) := by decide +kernel
theorem dX5_courses_5 : decode cX5_courses 5 = .ok (.iconst 5, 1) := by decide +kernel
theorem dX5_courses_6 : decode cX5_courses 6 = .ok (.if_icmp .le 6, 3) := by decide +kernel
theorem dX5_courses_9 : decode cX5_courses 9 = .ok (.bipush (-102), 2) := by decide +kernel
theorem dX5_courses_11 : decode cX5_courses 11 = .ok (.ireturn, 1) := by decide +kernel
theorem dX5_courses_12 : decode cX5_courses 12 = .ok (.aload_n 0, 1) := by decide +kernel
theorem dX5_courses_13 : decode cX5_courses 13 = .ok (.getfield 95, 3) := by decide +kernel
theorem dX5_courses_16 : decode cX5_courses 16 = .ok (.ifCond .ne 6, 3) := by decide +kernel
theorem dX5_courses_19 : decode cX5_courses 19 = .ok (.bipush (-103), 2) := by decide +kernel
theorem dX5_courses_21 : decode cX5_courses 21 = .ok (.ireturn, 1) := by decide +kernel
theorem dX5_courses_22 : decode cX5_courses 22 = .ok (.aload_n 0, 1) := by decide +kernel
theorem dX5_courses_23 : decode cX5_courses 23 = .ok (.invokevirtual 170, 3) := by decide +kernel
theorem dX5_courses_26 : decode cX5_courses 26 = .ok (.iload_n 1, 1) := by decide +kernel
theorem dX5_courses_27 : decode cX5_courses 27 = .ok (.tableswitch 73 0 4 #[33, 41, 49, 57, 65], 33) := by decide +kernel
theorem dX5_courses_60 : decode cX5_courses 60 = .ok (.aload_n 0, 1) := by decide +kernel
theorem dX5_courses_61 : decode cX5_courses 61 = .ok (.getfield 51, 3) := by decide +kernel
theorem dX5_courses_64 : decode cX5_courses 64 = .ok (.getfield 173, 3) := by decide +kernel
theorem dX5_courses_67 : decode cX5_courses 67 = .ok (.ireturn, 1) := by decide +kernel
theorem dX5_courses_68 : decode cX5_courses 68 = .ok (.aload_n 0, 1) := by decide +kernel
theorem dX5_courses_69 : decode cX5_courses 69 = .ok (.getfield 51, 3) := by decide +kernel
theorem dX5_courses_72 : decode cX5_courses 72 = .ok (.getfield 176, 3) := by decide +kernel
theorem dX5_courses_75 : decode cX5_courses 75 = .ok (.ireturn, 1) := by decide +kernel
theorem dX5_courses_76 : decode cX5_courses 76 = .ok (.aload_n 0, 1) := by decide +kernel
theorem dX5_courses_77 : decode cX5_courses 77 = .ok (.getfield 51, 3) := by decide +kernel
theorem dX5_courses_80 : decode cX5_courses 80 = .ok (.getfield 179, 3) := by decide +kernel
theorem dX5_courses_83 : decode cX5_courses 83 = .ok (.ireturn, 1) := by decide +kernel
theorem dX5_courses_84 : decode cX5_courses 84 = .ok (.aload_n 0, 1) := by decide +kernel
theorem dX5_courses_85 : decode cX5_courses 85 = .ok (.getfield 51, 3) := by decide +kernel
theorem dX5_courses_88 : decode cX5_courses 88 = .ok (.getfield 182, 3) := by decide +kernel
theorem dX5_courses_91 : decode cX5_courses 91 = .ok (.ireturn, 1) := by decide +kernel
theorem dX5_courses_92 : decode cX5_courses 92 = .ok (.aload_n 0, 1) := by decide +kernel
theorem dX5_courses_93 : decode cX5_courses 93 = .ok (.getfield 51, 3) := by decide +kernel
theorem dX5_courses_96 : decode cX5_courses 96 = .ok (.getfield 185, 3) := by decide +kernel
theorem dX5_courses_99 : decode cX5_courses 99 = .ok (.ireturn, 1) := by decide +kernel
theorem dX5_courses_100 : decode cX5_courses 100 = .ok (.aload_n 0, 1) := by decide +kernel
theorem dX5_courses_101 : decode cX5_courses 101 = .ok (.getfield 51, 3) := by decide +kernel
theorem dX5_courses_104 : decode cX5_courses 104 = .ok (.getfield 188, 3) := by decide +kernel
theorem dX5_courses_107 : decode cX5_courses 107 = .ok (.ireturn, 1) := by decide +kernel
set_option maxRecDepth 20000 in
theorem ggX5_wins_X5_lookAhead : GoodIn wsX5_wins wsX5_lookAhead := goodIn_r _ [7, 8, 9, 10, 11, 12, 13, 14, 15, 16, 17, 18, 19, 20, 21, 22, 23, 24, 25, 6, 26, 27, 28, 29, 30, 31, 32, 33, 34, 35, 36, 37, 38, 39, 40, 41, 42, 43, 44, 45, 46, 47, 48, 49, 50, 51, 52, 53, 54, 55, 56, 57, 58, 59, 60, 61, 62, 63, 64, 65, 66, 67, 68, 69, 70, 71, 72, 73, 74, 75, 76, 77, 78, 79, 80, 81, 82, 83, 84, 85, 86, 87, 88, 89, 90, 91, 92, 93, 94, 95, 96, 97, 98, 99, 100, 101, 102, 103, 104, 105, 106, 107, 108, 109, 110, 111, 112, 113, 114, 115, 116, 117, 118, 119, 120, 121, 122, 123, 124, 125, 126, 127, 128, 129, 130, 131, 132, 133, 134, 135, 136, 146, 147, 148, 149, 150, 151, 152, 153, 137, 138, 139, 140, 141, 142, 143, 144, 145, 154, 155, 156, 157] (by decide +kernel) (by decide +kernel)
set_option maxRecDepth 20000 in
theorem gX5_wins_X5_lookAhead : GoodIn wsX5_wins (wsV RX5 170 RX5 yX5_lookAhead wsX5_lookAhead) := goodIn_app (goodIn_of _ (by decide +kernel)) ggX5_wins_X5_lookAhead
theorem dX5_wins_0 : decode cX5_wins 0 = .ok (.iload_n 1, 1) := by decide +kernel
theorem dX5_wins_1 : decode cX5_wins 1 = .ok (.ifCond .lt 8, 3) := by decide +kernel
theorem dX5_wins_4 : decode cX5_wins 4 = .ok (.iload_n 1, 1) := by decide +kernel
theorem dX5_wins_5 : decode cX5_wins 5 = .ok (.iconst 1, 1) := by decide +kernel
theorem dX5_wins_6 : decode cX5_wins 6 = .ok (.if_icmp .le 6, 3) := by decide +kernel
theorem dX5_wins_9 : decode cX5_wins 9 = .ok (.bipush (-102), 2) := by decide +kernel
theorem dX5_wins_11 : decode cX5_wins 11 = .ok (.ireturn, 1) := by decide +kernel
theorem dX5_wins_12 : decode cX5_wins 12 = .ok (.aload_n 0, 1) := by decide +kernel
theorem dX5_wins_13 : decode cX5_wins 13 = .ok (.getfield 95, 3) := by decide +kernel
theorem dX5_wins_16 : decode cX5_wins 16 = .ok (.ifCond .ne 6, 3) := by decide +kernel
theorem dX5_wins_19 : decode cX5_wins 19 = .ok (.bipush (-103), 2) := by decide +kernel
theorem dX5_wins_21 : decode cX5_wins 21 = .ok (.ireturn, 1) := by decide +kernel
theorem dX5_wins_22 : decode cX5_wins 22 = .ok (.aload_n 0, 1) := by decide +kernel
theorem dX5_wins_23 : decode cX5_wins 23 = .ok (.invokevirtual 170, 3) := by decide +kernel
theorem dX5_wins_26 : decode cX5_wins 26 = .ok (.iload_n 1, 1) := by decide +kernel
theorem dX5_wins_27 : decode cX5_wins 27 = .ok (.iconst 1, 1) := by decide +kernel
theorem dX5_wins_28 : decode cX5_wins 28 = .ok (.if_icmp .ne 11, 3) := by decide +kernel
theorem dX5_wins_31 : decode cX5_wins 31 = .ok (.aload_n 0, 1) := by decide +kernel
theorem dX5_wins_32 : decode cX5_wins 32 = .ok (.getfield 51, 3) := by decide +kernel
theorem dX5_wins_35 : decode cX5_wins 35 = .ok (.getfield 191, 3) := by decide +kernel
theorem dX5_wins_38 : decode cX5_wins 38 = .ok (.ireturn, 1) := by decide +kernel
theorem dX5_wins_39 : decode cX5_wins 39 = .ok (.aload_n 0, 1) := by decide +kernel
theorem dX5_wins_40 : decode cX5_wins 40 = .ok (.getfield 51, 3) := by decide +kernel
theorem dX5_wins_43 : decode cX5_wins 43 = .ok (.getfield 191, 3) := by decide +kernel
theorem dX5_wins_46 : decode cX5_wins 46 = .ok (.iconst (-1), 1) := by decide +kernel
theorem dX5_wins_47 : decode cX5_wins 47 = .ok (.if_icmp .ne 7, 3) := by decide +kernel
theorem dX5_wins_50 : decode cX5_wins 50 = .ok (.iconst 0, 1) := by decide +kernel
theorem dX5_wins_51 : decode cX5_wins 51 = .ok (.goto 4, 3) := by decide +kernel
theorem dX5_wins_54 : decode cX5_wins 54 = .ok (.iconst 1, 1) := by decide +kernel
theorem dX5_wins_55 : decode cX5_wins 55 = .ok (.ireturn, 1) := by decide +kernel
set_option maxRecDepth 20000 in
theorem ggX5_add_X4_isEmptyHole : GoodIn wsX5_add wsX4_isEmptyHole := goodIn_r _ [9, 10, 11, 12, 13, 14, 15, 16, 17, 18, 19, 20, 21, 147, 148, 149, 150, 151, 152, 153, 154, 155, 156, 157, 158] (by decide +kernel) (by decide +kernel)
set_option maxRecDepth 20000 in
theorem gX5_add_X4_isEmptyHole : GoodIn wsX5_add (wsV RX5 153 RX4 yX4_isEmptyHole wsX4_isEmptyHole) := goodIn_app (goodIn_of _ (by decide +kernel)) ggX5_add_X4_isEmptyHole
set_option maxRecDepth 20000 in
theorem ggX5_add_X5_fewestWithOneMore : GoodIn wsX5_add wsX5_fewestWithOneMore := goodIn_r _ [25, 26, 4, 27, 28, 29, 30, 31, 8, 32, 11, 33, 34, 35, 36, 37, 12, 38, 39, 40, 41, 42, 43, 44, 45, 46, 47, 48, 49, 10, 50, 51, 52, 53, 13, 14, 15, 16, 17, 18, 54, 55, 20, 56, 57, 58, 59, 60, 61, 62, 63, 64, 65, 66, 67, 68, 69, 70, 71, 72, 73, 74, 75, 76, 77, 78, 79, 80, 81, 82, 83, 84, 85, 86, 87, 88, 89, 90, 91, 92, 93, 94, 95, 96, 19, 21, 97, 98, 99, 100, 6, 7, 9, 101, 102, 103, 104, 105, 106, 107, 108, 109, 110, 111, 112, 113, 114, 115, 116, 117, 118, 119, 120, 121, 122, 123, 124, 125, 126, 127, 128, 129, 130, 131, 132, 133, 134, 135, 136, 137, 138, 139, 140, 141, 142, 143, 144, 145, 146, 159, 160, 161, 162, 163, 164, 165, 166, 167, 147, 148, 149, 150, 151, 152, 153, 154, 155, 156, 157, 158] (by decide +kernel) (by decide +kernel)
set_option maxRecDepth 20000 in
theorem gX5_add_X5_fewestWithOneMore : GoodIn wsX5_add (wsV RX5 197 RX5 yX5_fewestWithOneMore wsX5_fewestWithOneMore) := goodIn_app (goodIn_of _ (by decide +kernel)) ggX5_add_X5_fewestWithOneMore
theorem dX5_add_0 : decode cX5_add 0 = .ok (.aload_n 0, 1) := by decide +kernel
theorem dX5_add_1 : decode cX5_add 1 = .ok (.getfield 95, 3) := by decide +kernel
theorem dX5_add_4 : decode cX5_add 4 = .ok (.ifCond .eq 12, 3) := by decide +kernel
theorem dX5_add_7 : decode cX5_add 7 = .ok (.aload_n 0, 1) := by decide +kernel
theorem dX5_add_8 : decode cX5_add 8 = .ok (.getfield 194, 3) := by decide +kernel
theorem dX5_add_11 : decode cX5_add 11 = .ok (.bipush 12, 2) := by decide +kernel
theorem dX5_add_13 : decode cX5_add 13 = .ok (.if_icmp .lt 6, 3) := by decide +kernel
theorem dX5_add_16 : decode cX5_add 16 = .ok (.bipush (-103), 2) := by decide +kernel
theorem dX5_add_18 : decode cX5_add 18 = .ok (.ireturn, 1) := by decide +kernel
theorem dX5_add_19 : decode cX5_add 19 = .ok (.aload_n 0, 1) := by decide +kernel
theorem dX5_add_20 : decode cX5_add 20 = .ok (.dup, 1) := by decide +kernel
theorem dX5_add_21 : decode cX5_add 21 = .ok (.getfield 194, 3) := by decide +kernel
theorem dX5_add_24 : decode cX5_add 24 = .ok (.iconst 1, 1) := by decide +kernel
theorem dX5_add_25 : decode cX5_add 25 = .ok (.iadd, 1) := by decide +kernel
theorem dX5_add_26 : decode cX5_add 26 = .ok (.putfield 194, 3) := by decide +kernel
theorem dX5_add_29 : decode cX5_add 29 = .ok (.aload_n 0, 1) := by decide +kernel
theorem dX5_add_30 : decode cX5_add 30 = .ok (.iconst 0, 1) := by decide +kernel
theorem dX5_add_31 : decode cX5_add 31 = .ok (.putfield 92, 3) := by decide +kernel
theorem dX5_add_34 : decode cX5_add 34 = .ok (.iconst 0, 1) := by decide +kernel
theorem dX5_add_35 : decode cX5_add 35 = .ok (.istore_n 1, 1) := by decide +kernel
theorem dX5_add_36 : decode cX5_add 36 = .ok (.iload_n 1, 1) := by decide +kernel
theorem dX5_add_37 : decode cX5_add 37 = .ok (.bipush 12, 2) := by decide +kernel
theorem dX5_add_39 : decode cX5_add 39 = .ok (.if_icmp .ge 31, 3) := by decide +kernel
theorem dX5_add_42 : decode cX5_add 42 = .ok (.aload_n 0, 1) := by decide +kernel
theorem dX5_add_43 : decode cX5_add 43 = .ok (.getfield 28, 3) := by decide +kernel
theorem dX5_add_46 : decode cX5_add 46 = .ok (.iload_n 1, 1) := by decide +kernel
theorem dX5_add_47 : decode cX5_add 47 = .ok (.invokevirtual 153, 3) := by decide +kernel
theorem dX5_add_50 : decode cX5_add 50 = .ok (.ifCond .eq 14, 3) := by decide +kernel
theorem dX5_add_53 : decode cX5_add 53 = .ok (.aload_n 0, 1) := by decide +kernel
theorem dX5_add_54 : decode cX5_add 54 = .ok (.iload_n 1, 1) := by decide +kernel
theorem dX5_add_55 : decode cX5_add 55 = .ok (.invokevirtual 197, 3) := by decide +kernel
theorem dX5_add_58 : decode cX5_add 58 = .ok (.iconst 1, 1) := by decide +kernel
theorem dX5_add_59 : decode cX5_add 59 = .ok (.if_icmp .ne 5, 3) := by decide +kernel
theorem dX5_add_62 : decode cX5_add 62 = .ok (.iload_n 1, 1) := by decide +kernel
theorem dX5_add_63 : decode cX5_add 63 = .ok (.ireturn, 1) := by decide +kernel
theorem dX5_add_64 : decode cX5_add 64 = .ok (.iinc 1 1, 3) := by decide +kernel
theorem dX5_add_67 : decode cX5_add 67 = .ok (.goto (-31), 3) := by decide +kernel
theorem dX5_add_70 : decode cX5_add 70 = .ok (.iconst (-1), 1) := by decide +kernel
theorem dX5_add_71 : decode cX5_add 71 = .ok (.ireturn, 1) := by decide +kernel
set_option maxRecDepth 20000 in
theorem ggX5_mean_X5_lookAhead : GoodIn wsX5_mean wsX5_lookAhead := goodIn_r _ [7, 8, 9, 10, 11, 12, 13, 14, 15, 16, 17, 18, 19, 20, 21, 22, 23, 24, 25, 6, 26, 27, 28, 29, 30, 31, 32, 33, 34, 35, 36, 37, 38, 39, 40, 41, 42, 43, 44, 45, 46, 47, 48, 49, 50, 51, 52, 53, 54, 55, 56, 57, 58, 59, 60, 61, 62, 63, 64, 65, 66, 67, 68, 69, 70, 71, 72, 73, 74, 75, 76, 77, 78, 79, 80, 81, 82, 83, 84, 85, 86, 87, 88, 89, 90, 91, 92, 93, 94, 95, 96, 97, 98, 99, 100, 101, 102, 103, 104, 105, 106, 107, 108, 109, 110, 111, 112, 113, 114, 115, 116, 117, 118, 119, 120, 121, 122, 123, 124, 125, 126, 127, 128, 129, 130, 131, 132, 133, 134, 135, 136, 146, 147, 148, 149, 150, 151, 152, 153, 137, 138, 139, 140, 141, 142, 143, 144, 145, 154, 155, 156, 157] (by decide +kernel) (by decide +kernel)
set_option maxRecDepth 20000 in
theorem gX5_mean_X5_lookAhead : GoodIn wsX5_mean (wsV RX5 170 RX5 yX5_lookAhead wsX5_lookAhead) := goodIn_app (goodIn_of _ (by decide +kernel)) ggX5_mean_X5_lookAhead
theorem dX5_mean_0 : decode cX5_mean 0 = .ok (.aload_n 0, 1) := by decide +kernel
theorem dX5_mean_1 : decode cX5_mean 1 = .ok (.getfield 95, 3) := by decide +kernel
theorem dX5_mean_4 : decode cX5_mean 4 = .ok (.ifCond .ne 6, 3) := by decide +kernel
theorem dX5_mean_7 : decode cX5_mean 7 = .ok (.bipush (-103), 2) := by decide +kernel
theorem dX5_mean_9 : decode cX5_mean 9 = .ok (.ireturn, 1) := by decide +kernel
theorem dX5_mean_10 : decode cX5_mean 10 = .ok (.aload_n 0, 1) := by decide +kernel
theorem dX5_mean_11 : decode cX5_mean 11 = .ok (.invokevirtual 170, 3) := by decide +kernel
theorem dX5_mean_14 : decode cX5_mean 14 = .ok (.aload_n 0, 1) := by decide +kernel
theorem dX5_mean_15 : decode cX5_mean 15 = .ok (.getfield 51, 3) := by decide +kernel
theorem dX5_mean_18 : decode cX5_mean 18 = .ok (.getfield 200, 3) := by decide +kernel
theorem dX5_mean_21 : decode cX5_mean 21 = .ok (.ireturn, 1) := by decide +kernel
set_option maxRecDepth 20000 in
theorem ggX5_see_X4_isPeg : GoodIn wsX5_see wsX4_isPeg := goodIn_r _ [8, 9, 34, 35, 36, 37, 38, 39, 40, 41] (by decide +kernel) (by decide +kernel)
set_option maxRecDepth 20000 in
theorem gX5_see_X4_isPeg : GoodIn wsX5_see (wsV RX5 101 RX4 yX4_isPeg wsX4_isPeg) := goodIn_app (goodIn_of _ (by decide +kernel)) ggX5_see_X4_isPeg
set_option maxRecDepth 20000 in
theorem ggX5_see_X3_append : GoodIn wsX5_see wsX3_append := goodIn_r _ [14, 15, 16, 17, 31, 32, 33] (by decide +kernel) (by decide +kernel)
set_option maxRecDepth 20000 in
theorem gX5_see_X3_append : GoodIn wsX5_see (wsV RX5 206 RX3 yX3_append wsX3_append) := goodIn_app (goodIn_of _ (by decide +kernel)) ggX5_see_X3_append
theorem dX5_see_0 : decode cX5_see 0 = .ok (.aload_n 0, 1) := by decide +kernel
theorem dX5_see_1 : decode cX5_see 1 = .ok (.getfield 28, 3) := by decide +kernel
theorem dX5_see_4 : decode cX5_see 4 = .ok (.iload_n 1, 1) := by decide +kernel
theorem dX5_see_5 : decode cX5_see 5 = .ok (.invokevirtual 101, 3) := by decide +kernel
theorem dX5_see_8 : decode cX5_see 8 = .ok (.ifCond .ne 6, 3) := by decide +kernel
theorem dX5_see_11 : decode cX5_see 11 = .ok (.bipush (-101), 2) := by decide +kernel
theorem dX5_see_13 : decode cX5_see 13 = .ok (.ireturn, 1) := by decide +kernel
theorem dX5_see_14 : decode cX5_see 14 = .ok (.iload_n 2, 1) := by decide +kernel
theorem dX5_see_15 : decode cX5_see 15 = .ok (.ifCond .lt 8, 3) := by decide +kernel
theorem dX5_see_18 : decode cX5_see 18 = .ok (.iload_n 2, 1) := by decide +kernel
theorem dX5_see_19 : decode cX5_see 19 = .ok (.iconst 4, 1) := by decide +kernel
theorem dX5_see_20 : decode cX5_see 20 = .ok (.if_icmp .lt 6, 3) := by decide +kernel
theorem dX5_see_23 : decode cX5_see 23 = .ok (.bipush (-102), 2) := by decide +kernel
theorem dX5_see_25 : decode cX5_see 25 = .ok (.ireturn, 1) := by decide +kernel
theorem dX5_see_26 : decode cX5_see 26 = .ok (.iload_n 3, 1) := by decide +kernel
theorem dX5_see_27 : decode cX5_see 27 = .ok (.ifCond .eq 11, 3) := by decide +kernel
theorem dX5_see_30 : decode cX5_see 30 = .ok (.getstatic 203, 3) := by decide +kernel
theorem dX5_see_33 : decode cX5_see 33 = .ok (.iload_n 2, 1) := by decide +kernel
theorem dX5_see_34 : decode cX5_see 34 = .ok (.iaload, 1) := by decide +kernel
theorem dX5_see_35 : decode cX5_see 35 = .ok (.goto 13, 3) := by decide +kernel
theorem dX5_see_38 : decode cX5_see 38 = .ok (.bipush 31, 2) := by decide +kernel
theorem dX5_see_40 : decode cX5_see 40 = .ok (.getstatic 203, 3) := by decide +kernel
theorem dX5_see_43 : decode cX5_see 43 = .ok (.iload_n 2, 1) := by decide +kernel
theorem dX5_see_44 : decode cX5_see 44 = .ok (.iaload, 1) := by decide +kernel
theorem dX5_see_45 : decode cX5_see 45 = .ok (.iconst (-1), 1) := by decide +kernel
theorem dX5_see_46 : decode cX5_see 46 = .ok (.ixor, 1) := by decide +kernel
theorem dX5_see_47 : decode cX5_see 47 = .ok (.iand, 1) := by decide +kernel
theorem dX5_see_48 : decode cX5_see 48 = .ok (.istore 4, 2) := by decide +kernel
theorem dX5_see_50 : decode cX5_see 50 = .ok (.aload_n 0, 1) := by decide +kernel
theorem dX5_see_51 : decode cX5_see 51 = .ok (.getfield 35, 3) := by decide +kernel
theorem dX5_see_54 : decode cX5_see 54 = .ok (.iload_n 1, 1) := by decide +kernel
theorem dX5_see_55 : decode cX5_see 55 = .ok (.iload 4, 2) := by decide +kernel
theorem dX5_see_57 : decode cX5_see 57 = .ok (.invokevirtual 206, 3) := by decide +kernel
theorem dX5_see_60 : decode cX5_see 60 = .ok (.ifCond .eq 13, 3) := by decide +kernel
theorem dX5_see_63 : decode cX5_see 63 = .ok (.aload_n 0, 1) := by decide +kernel
theorem dX5_see_64 : decode cX5_see 64 = .ok (.getfield 35, 3) := by decide +kernel
theorem dX5_see_67 : decode cX5_see 67 = .ok (.getfield 87, 3) := by decide +kernel
theorem dX5_see_70 : decode cX5_see 70 = .ok (.goto 5, 3) := by decide +kernel
theorem dX5_see_73 : decode cX5_see 73 = .ok (.bipush (-104), 2) := by decide +kernel
theorem dX5_see_75 : decode cX5_see 75 = .ok (.ireturn, 1) := by decide +kernel
theorem dX5_forget_0 : decode cX5_forget 0 = .ok (.aload_n 0, 1) := by decide +kernel
theorem dX5_forget_1 : decode cX5_forget 1 = .ok (.getfield 35, 3) := by decide +kernel
theorem dX5_forget_4 : decode cX5_forget 4 = .ok (.getfield 87, 3) := by decide +kernel
theorem dX5_forget_7 : decode cX5_forget 7 = .ok (.istore_n 1, 1) := by decide +kernel
theorem dX5_forget_8 : decode cX5_forget 8 = .ok (.aload_n 0, 1) := by decide +kernel
theorem dX5_forget_9 : decode cX5_forget 9 = .ok (.getfield 35, 3) := by decide +kernel
theorem dX5_forget_12 : decode cX5_forget 12 = .ok (.iconst 0, 1) := by decide +kernel
theorem dX5_forget_13 : decode cX5_forget 13 = .ok (.putfield 87, 3) := by decide +kernel
theorem dX5_forget_16 : decode cX5_forget 16 = .ok (.iload_n 1, 1) := by decide +kernel
theorem dX5_forget_17 : decode cX5_forget 17 = .ok (.ireturn, 1) := by decide +kernel
set_option maxRecDepth 20000 in
theorem ggX5_runs_X4_copyFrom : GoodIn wsX5_runs wsX4_copyFrom := goodIn_r _ [9, 10, 11, 12, 13, 14, 15, 16, 118, 119, 120, 121, 122, 123, 124, 125] (by decide +kernel) (by decide +kernel)
set_option maxRecDepth 20000 in
theorem gX5_runs_X4_copyFrom : GoodIn wsX5_runs (wsV RX5 208 RX4 yX4_copyFrom wsX4_copyFrom) := goodIn_app (goodIn_of _ (by decide +kernel)) ggX5_runs_X4_copyFrom
set_option maxRecDepth 20000 in
theorem ggX5_runs_X4_choices : GoodIn wsX5_runs wsX4_choices := goodIn_r _ [20, 11, 21, 22, 23, 8, 24, 25, 26, 27, 28, 29, 30, 31, 32, 33, 15, 34, 35, 36, 37, 38, 39, 40, 41, 42, 43, 44, 45, 46, 47, 48, 49, 50, 51, 52, 16, 53, 54, 55, 56, 57, 14, 58, 59, 60, 61, 62, 63, 64, 65, 66, 67, 68, 69, 70, 71, 10, 72, 73, 74, 75, 76, 77, 78, 118, 119, 120, 121, 122, 123, 124, 125, 126, 127, 128, 129] (by decide +kernel) (by decide +kernel)
set_option maxRecDepth 20000 in
theorem gX5_runs_X4_choices : GoodIn wsX5_runs (wsV RX5 212 RX4 yX4_choices wsX4_choices) := goodIn_app (goodIn_of _ (by decide +kernel)) ggX5_runs_X4_choices
set_option maxRecDepth 20000 in
theorem ggX5_runs_X5_nextSeed : GoodIn wsX5_runs wsX5_nextSeed := goodIn_r _ [81, 82, 83, 84] (by decide +kernel) (by decide +kernel)
set_option maxRecDepth 20000 in
theorem gX5_runs_X5_nextSeed : GoodIn wsX5_runs (va_wsS RX5 215 yX5_nextSeed wsX5_nextSeed) := goodIn_app (goodIn_of _ (by decide +kernel)) ggX5_runs_X5_nextSeed
set_option maxRecDepth 20000 in
theorem ggX5_runs_X4_leapByChoice : GoodIn wsX5_runs wsX4_leapByChoice := goodIn_r _ [88, 11, 25, 26, 27, 8, 28, 29, 30, 31, 32, 33, 15, 34, 35, 36, 37, 38, 39, 40, 41, 42, 43, 44, 45, 46, 47, 48, 49, 50, 51, 52, 16, 53, 54, 55, 56, 57, 14, 58, 59, 60, 61, 62, 63, 64, 65, 66, 67, 68, 69, 70, 71, 10, 89, 90, 91, 92, 93, 94, 95, 96, 97, 98, 99, 100, 12, 101, 102, 103, 104, 118, 119, 120, 121, 122, 123, 124, 125, 126, 127, 128, 129] (by decide +kernel) (by decide +kernel)
set_option maxRecDepth 20000 in
theorem gX5_runs_X4_leapByChoice : GoodIn wsX5_runs (wsV RX5 221 RX4 yX4_leapByChoice wsX4_leapByChoice) := goodIn_app (goodIn_of _ (by decide +kernel)) ggX5_runs_X4_leapByChoice
theorem dX5_runs_0 : decode cX5_runs 0 = .ok (.iload_n 1, 1) := by decide +kernel
theorem dX5_runs_1 : decode cX5_runs 1 = .ok (.iconst 1, 1) := by decide +kernel
theorem dX5_runs_2 : decode cX5_runs 2 = .ok (.if_icmp .lt 22, 3) := by decide +kernel
theorem dX5_runs_5 : decode cX5_runs 5 = .ok (.iload_n 1, 1) := by decide +kernel
theorem dX5_runs_6 : decode cX5_runs 6 = .ok (.bipush 40, 2) := by decide +kernel
theorem dX5_runs_8 : decode cX5_runs 8 = .ok (.if_icmp .gt 16, 3) := by decide +kernel
theorem dX5_runs_11 : decode cX5_runs 11 = .ok (.iload_n 2, 1) := by decide +kernel
theorem dX5_runs_12 : decode cX5_runs 12 = .ok (.ifCond .lt 12, 3) := by decide +kernel
theorem dX5_runs_15 : decode cX5_runs 15 = .ok (.iload_n 3, 1) := by decide +kernel
theorem dX5_runs_16 : decode cX5_runs 16 = .ok (.ifCond .lt 8, 3) := by decide +kernel
theorem dX5_runs_19 : decode cX5_runs 19 = .ok (.iload_n 3, 1) := by decide +kernel
theorem dX5_runs_20 : decode cX5_runs 20 = .ok (.iconst 2, 1) := by decide +kernel
theorem dX5_runs_21 : decode cX5_runs 21 = .ok (.if_icmp .le 6, 3) := by decide +kernel
theorem dX5_runs_24 : decode cX5_runs 24 = .ok (.bipush (-102), 2) := by decide +kernel
theorem dX5_runs_26 : decode cX5_runs 26 = .ok (.ireturn, 1) := by decide +kernel
theorem dX5_runs_27 : decode cX5_runs 27 = .ok (.aload_n 0, 1) := by decide +kernel
theorem dX5_runs_28 : decode cX5_runs 28 = .ok (.getfield 95, 3) := by decide +kernel
theorem dX5_runs_31 : decode cX5_runs 31 = .ok (.ifCond .ne 6, 3) := by decide +kernel
theorem dX5_runs_34 : decode cX5_runs 34 = .ok (.bipush (-103), 2) := by decide +kernel
theorem dX5_runs_36 : decode cX5_runs 36 = .ok (.ireturn, 1) := by decide +kernel
theorem dX5_runs_37 : decode cX5_runs 37 = .ok (.iload_n 2, 1) := by decide +kernel
theorem dX5_runs_38 : decode cX5_runs 38 = .ok (.i2l, 1) := by decide +kernel
theorem dX5_runs_39 : decode cX5_runs 39 = .ok (.lstore 4, 2) := by decide +kernel
theorem dX5_runs_41 : decode cX5_runs 41 = .ok (.iconst 0, 1) := by decide +kernel
theorem dX5_runs_42 : decode cX5_runs 42 = .ok (.istore 6, 2) := by decide +kernel
theorem dX5_runs_44 : decode cX5_runs 44 = .ok (.iconst 0, 1) := by decide +kernel
theorem dX5_runs_45 : decode cX5_runs 45 = .ok (.istore 7, 2) := by decide +kernel
theorem dX5_runs_47 : decode cX5_runs 47 = .ok (.iconst 0, 1) := by decide +kernel
theorem dX5_runs_48 : decode cX5_runs 48 = .ok (.istore 8, 2) := by decide +kernel
theorem dX5_runs_50 : decode cX5_runs 50 = .ok (.iload 8, 2) := by decide +kernel
theorem dX5_runs_52 : decode cX5_runs 52 = .ok (.iload_n 1, 1) := by decide +kernel
theorem dX5_runs_53 : decode cX5_runs 53 = .ok (.if_icmp .ge 101, 3) := by decide +kernel
theorem dX5_runs_56 : decode cX5_runs 56 = .ok (.aload_n 0, 1) := by decide +kernel
theorem dX5_runs_57 : decode cX5_runs 57 = .ok (.getfield 45, 3) := by decide +kernel
theorem dX5_runs_60 : decode cX5_runs 60 = .ok (.aload_n 0, 1) := by decide +kernel
theorem dX5_runs_61 : decode cX5_runs 61 = .ok (.getfield 28, 3) := by decide +kernel
theorem dX5_runs_64 : decode cX5_runs 64 = .ok (.invokevirtual 208, 3) := by decide +kernel
theorem dX5_runs_67 : decode cX5_runs 67 = .ok (.aload_n 0, 1) := by decide +kernel
theorem dX5_runs_68 : decode cX5_runs 68 = .ok (.getfield 45, 3) := by decide +kernel
theorem dX5_runs_71 : decode cX5_runs 71 = .ok (.invokevirtual 212, 3) := by decide +kernel
theorem dX5_runs_74 : decode cX5_runs 74 = .ok (.istore 9, 2) := by decide +kernel
theorem dX5_runs_76 : decode cX5_runs 76 = .ok (.iconst 0, 1) := by decide +kernel
theorem dX5_runs_77 : decode cX5_runs 77 = .ok (.istore 10, 2) := by decide +kernel
theorem dX5_runs_79 : decode cX5_runs 79 = .ok (.iload 10, 2) := by decide +kernel
theorem dX5_runs_81 : decode cX5_runs 81 = .ok (.bipush 7, 2) := by decide +kernel
theorem dX5_runs_83 : decode cX5_runs 83 = .ok (.if_icmp .ge 51, 3) := by decide +kernel
theorem dX5_runs_86 : decode cX5_runs 86 = .ok (.iload 9, 2) := by decide +kernel
theorem dX5_runs_88 : decode cX5_runs 88 = .ok (.ifCond .le 46, 3) := by decide +kernel
theorem dX5_runs_91 : decode cX5_runs 91 = .ok (.lload 4, 2) := by decide +kernel
theorem dX5_runs_93 : decode cX5_runs 93 = .ok (.invokestatic 215, 3) := by decide +kernel
theorem dX5_runs_96 : decode cX5_runs 96 = .ok (.lstore 4, 2) := by decide +kernel
theorem dX5_runs_98 : decode cX5_runs 98 = .ok (.aload_n 0, 1) := by decide +kernel
theorem dX5_runs_99 : decode cX5_runs 99 = .ok (.getfield 45, 3) := by decide +kernel
theorem dX5_runs_102 : decode cX5_runs 102 = .ok (.lload 4, 2) := by decide +kernel
theorem dX5_runs_104 : decode cX5_runs 104 = .ok (.ldc2_w 219, 3) := by decide +kernel
theorem dX5_runs_107 : decode cX5_runs 107 = .ok (.ldiv, 1) := by decide +kernel
theorem dX5_runs_108 : decode cX5_runs 108 = .ok (.iload 9, 2) := by decide +kernel
theorem dX5_runs_110 : decode cX5_runs 110 = .ok (.i2l, 1) := by decide +kernel
theorem dX5_runs_111 : decode cX5_runs 111 = .ok (.lrem, 1) := by decide +kernel
theorem dX5_runs_112 : decode cX5_runs 112 = .ok (.l2i, 1) := by decide +kernel
theorem dX5_runs_113 : decode cX5_runs 113 = .ok (.invokevirtual 221, 3) := by decide +kernel
theorem dX5_runs_116 : decode cX5_runs 116 = .ok (.iinc 6 1, 3) := by decide +kernel
theorem dX5_runs_119 : decode cX5_runs 119 = .ok (.aload_n 0, 1) := by decide +kernel
theorem dX5_runs_120 : decode cX5_runs 120 = .ok (.getfield 45, 3) := by decide +kernel
theorem dX5_runs_123 : decode cX5_runs 123 = .ok (.invokevirtual 212, 3) := by decide +kernel
theorem dX5_runs_126 : decode cX5_runs 126 = .ok (.istore 9, 2) := by decide +kernel
theorem dX5_runs_128 : decode cX5_runs 128 = .ok (.iinc 10 1, 3) := by decide +kernel
theorem dX5_runs_131 : decode cX5_runs 131 = .ok (.goto (-52), 3) := by decide +kernel
theorem dX5_runs_134 : decode cX5_runs 134 = .ok (.aload_n 0, 1) := by decide +kernel
theorem dX5_runs_135 : decode cX5_runs 135 = .ok (.getfield 45, 3) := by decide +kernel
theorem dX5_runs_138 : decode cX5_runs 138 = .ok (.getfield 150, 3) := by decide +kernel
theorem dX5_runs_141 : decode cX5_runs 141 = .ok (.iconst 1, 1) := by decide +kernel
theorem dX5_runs_142 : decode cX5_runs 142 = .ok (.if_icmp .ne 6, 3) := by decide +kernel
theorem dX5_runs_145 : decode cX5_runs 145 = .ok (.iinc 7 1, 3) := by decide +kernel
theorem dX5_runs_148 : decode cX5_runs 148 = .ok (.iinc 8 1, 3) := by decide +kernel
theorem dX5_runs_151 : decode cX5_runs 151 = .ok (.goto (-101), 3) := by decide +kernel
theorem dX5_runs_154 : decode cX5_runs 154 = .ok (.iload_n 3, 1) := by decide +kernel
theorem dX5_runs_155 : decode cX5_runs 155 = .ok (.ifCond .ne 8, 3) := by decide +kernel
theorem dX5_runs_158 : decode cX5_runs 158 = .ok (.iload 6, 2) := by decide +kernel
theorem dX5_runs_160 : decode cX5_runs 160 = .ok (.goto 16, 3) := by decide +kernel
theorem dX5_runs_163 : decode cX5_runs 163 = .ok (.iload_n 3, 1) := by decide +kernel
theorem dX5_runs_164 : decode cX5_runs 164 = .ok (.iconst 1, 1) := by decide +kernel
theorem dX5_runs_165 : decode cX5_runs 165 = .ok (.if_icmp .ne 8, 3) := by decide +kernel
theorem dX5_runs_168 : decode cX5_runs 168 = .ok (.iload 7, 2) := by decide +kernel
theorem dX5_runs_170 : decode cX5_runs 170 = .ok (.goto 6, 3) := by decide +kernel
theorem dX5_runs_173 : decode cX5_runs 173 = .ok (.lload 4, 2) := by decide +kernel
theorem dX5_runs_175 : decode cX5_runs 175 = .ok (.l2i, 1) := by decide +kernel
theorem dX5_runs_176 : decode cX5_runs 176 = .ok (.ireturn, 1) := by decide +kernel
set_option maxRecDepth 20000 in
theorem ggX5_image_X4_copyFrom : GoodIn wsX5_image wsX4_copyFrom := goodIn_r _ [11, 12, 13, 14, 15, 16, 17, 18, 40, 41, 42, 43, 44, 45, 46, 47] (by decide +kernel) (by decide +kernel)
set_option maxRecDepth 20000 in
theorem gX5_image_X4_copyFrom : GoodIn wsX5_image (wsV RX5 208 RX4 yX4_copyFrom wsX4_copyFrom) := goodIn_app (goodIn_of _ (by decide +kernel)) ggX5_image_X4_copyFrom
set_option maxRecDepth 20000 in
theorem ggX5_image_X3_copyFrom : GoodIn wsX5_image wsX3_copyFrom := goodIn_r _ [23, 24, 25, 26, 48, 49, 50] (by decide +kernel) (by decide +kernel)
set_option maxRecDepth 20000 in
theorem gX5_image_X3_copyFrom : GoodIn wsX5_image (wsV RX5 225 RX3 yX3_copyFrom wsX3_copyFrom) := goodIn_app (goodIn_of _ (by decide +kernel)) ggX5_image_X3_copyFrom
theorem dX5_image_0 : decode cX5_image 0 = .ok (.aload_n 0, 1) := by decide +kernel
theorem dX5_image_1 : decode cX5_image 1 = .ok (.getfield 95, 3) := by decide +kernel
theorem dX5_image_4 : decode cX5_image 4 = .ok (.ifCond .ne 6, 3) := by decide +kernel
theorem dX5_image_7 : decode cX5_image 7 = .ok (.bipush (-103), 2) := by decide +kernel
theorem dX5_image_9 : decode cX5_image 9 = .ok (.ireturn, 1) := by decide +kernel
theorem dX5_image_10 : decode cX5_image 10 = .ok (.aload_n 0, 1) := by decide +kernel
theorem dX5_image_11 : decode cX5_image 11 = .ok (.getfield 39, 3) := by decide +kernel
theorem dX5_image_14 : decode cX5_image 14 = .ok (.aload_n 0, 1) := by decide +kernel
theorem dX5_image_15 : decode cX5_image 15 = .ok (.getfield 28, 3) := by decide +kernel
theorem dX5_image_18 : decode cX5_image 18 = .ok (.invokevirtual 208, 3) := by decide +kernel
theorem dX5_image_21 : decode cX5_image 21 = .ok (.aload_n 0, 1) := by decide +kernel
theorem dX5_image_22 : decode cX5_image 22 = .ok (.getfield 42, 3) := by decide +kernel
theorem dX5_image_25 : decode cX5_image 25 = .ok (.aload_n 0, 1) := by decide +kernel
theorem dX5_image_26 : decode cX5_image 26 = .ok (.getfield 35, 3) := by decide +kernel
theorem dX5_image_29 : decode cX5_image 29 = .ok (.invokevirtual 225, 3) := by decide +kernel
theorem dX5_image_32 : decode cX5_image 32 = .ok (.aload_n 0, 1) := by decide +kernel
theorem dX5_image_33 : decode cX5_image 33 = .ok (.iconst 1, 1) := by decide +kernel
theorem dX5_image_34 : decode cX5_image 34 = .ok (.putfield 88, 3) := by decide +kernel
theorem dX5_image_37 : decode cX5_image 37 = .ok (.aload_n 0, 1) := by decide +kernel
theorem dX5_image_38 : decode cX5_image 38 = .ok (.getfield 28, 3) := by decide +kernel
theorem dX5_image_41 : decode cX5_image 41 = .ok (.getfield 140, 3) := by decide +kernel
theorem dX5_image_44 : decode cX5_image 44 = .ok (.ireturn, 1) := by decide +kernel
set_option maxRecDepth 20000 in
theorem ggX5_restore_X4_copyFrom : GoodIn wsX5_restore wsX4_copyFrom := goodIn_r _ [11, 12, 13, 14, 15, 16, 17, 18, 40, 41, 42, 43, 44, 45, 46, 47] (by decide +kernel) (by decide +kernel)
set_option maxRecDepth 20000 in
theorem gX5_restore_X4_copyFrom : GoodIn wsX5_restore (wsV RX5 208 RX4 yX4_copyFrom wsX4_copyFrom) := goodIn_app (goodIn_of _ (by decide +kernel)) ggX5_restore_X4_copyFrom
set_option maxRecDepth 20000 in
theorem ggX5_restore_X3_copyFrom : GoodIn wsX5_restore wsX3_copyFrom := goodIn_r _ [23, 24, 25, 26, 48, 49, 50] (by decide +kernel) (by decide +kernel)
set_option maxRecDepth 20000 in
theorem gX5_restore_X3_copyFrom : GoodIn wsX5_restore (wsV RX5 225 RX3 yX3_copyFrom wsX3_copyFrom) := goodIn_app (goodIn_of _ (by decide +kernel)) ggX5_restore_X3_copyFrom
theorem dX5_restore_0 : decode cX5_restore 0 = .ok (.aload_n 0, 1) := by decide +kernel
theorem dX5_restore_1 : decode cX5_restore 1 = .ok (.getfield 88, 3) := by decide +kernel
theorem dX5_restore_4 : decode cX5_restore 4 = .ok (.ifCond .ne 6, 3) := by decide +kernel
theorem dX5_restore_7 : decode cX5_restore 7 = .ok (.bipush (-103), 2) := by decide +kernel
theorem dX5_restore_9 : decode cX5_restore 9 = .ok (.ireturn, 1) := by decide +kernel
theorem dX5_restore_10 : decode cX5_restore 10 = .ok (.aload_n 0, 1) := by decide +kernel
theorem dX5_restore_11 : decode cX5_restore 11 = .ok (.getfield 28, 3) := by decide +kernel
theorem dX5_restore_14 : decode cX5_restore 14 = .ok (.aload_n 0, 1) := by decide +kernel
theorem dX5_restore_15 : decode cX5_restore 15 = .ok (.getfield 39, 3) := by decide +kernel
theorem dX5_restore_18 : decode cX5_restore 18 = .ok (.invokevirtual 208, 3) := by decide +kernel
theorem dX5_restore_21 : decode cX5_restore 21 = .ok (.aload_n 0, 1) := by decide +kernel
theorem dX5_restore_22 : decode cX5_restore 22 = .ok (.getfield 35, 3) := by decide +kernel
theorem dX5_restore_25 : decode cX5_restore 25 = .ok (.aload_n 0, 1) := by decide +kernel
theorem dX5_restore_26 : decode cX5_restore 26 = .ok (.getfield 42, 3) := by decide +kernel
theorem dX5_restore_29 : decode cX5_restore 29 = .ok (.invokevirtual 225, 3) := by decide +kernel
theorem dX5_restore_32 : decode cX5_restore 32 = .ok (.aload_n 0, 1) := by decide +kernel
theorem dX5_restore_33 : decode cX5_restore 33 = .ok (.iconst 0, 1) := by decide +kernel
theorem dX5_restore_34 : decode cX5_restore 34 = .ok (.putfield 92, 3) := by decide +kernel
theorem dX5_restore_37 : decode cX5_restore 37 = .ok (.aload_n 0, 1) := by decide +kernel
theorem dX5_restore_38 : decode cX5_restore 38 = .ok (.getfield 28, 3) := by decide +kernel
theorem dX5_restore_41 : decode cX5_restore 41 = .ok (.getfield 140, 3) := by decide +kernel
theorem dX5_restore_44 : decode cX5_restore 44 = .ok (.ireturn, 1) := by decide +kernel
set_option maxRecDepth 20000 in
theorem ggX5_count_J6_bitCount_0f7a4 : GoodIn wsX5_count wsJ6_bitCount_0f7a4 := goodIn_r _ [10, 11, 12, 13] (by decide +kernel) (by decide +kernel)
set_option maxRecDepth 20000 in
theorem gX5_count_J6_bitCount_0f7a4 : GoodIn wsX5_count (va_wsS RX5 162 yJ6_bitCount_0f7a4 wsJ6_bitCount_0f7a4) := goodIn_app (goodIn_of _ (by decide +kernel)) ggX5_count_J6_bitCount_0f7a4
set_option maxRecDepth 20000 in
theorem ggX5_count_X4_choices : GoodIn wsX5_count wsX4_choices := goodIn_r _ [18, 19, 20, 21, 22, 17, 23, 24, 25, 26, 27, 28, 29, 30, 31, 32, 33, 34, 35, 36, 37, 38, 39, 40, 41, 42, 43, 44, 45, 46, 47, 48, 49, 50, 51, 52, 53, 54, 55, 56, 57, 58, 59, 60, 61, 62, 63, 64, 65, 66, 67, 68, 69, 70, 71, 72, 73, 74, 75, 8, 9, 10, 11, 12, 13, 93, 94, 95, 96, 97, 98, 99, 100, 89, 90, 91, 92] (by decide +kernel) (by decide +kernel)
set_option maxRecDepth 20000 in
theorem gX5_count_X4_choices : GoodIn wsX5_count (wsV RX5 212 RX4 yX4_choices wsX4_choices) := goodIn_app (goodIn_of _ (by decide +kernel)) ggX5_count_X4_choices
theorem dX5_count_0 : decode cX5_count 0 = .ok (.iload_n 1, 1) := by decide +kernel
theorem dX5_count_1 : decode cX5_count 1 = .ok (.tableswitch 144 0 10 #[59, 67, 75, 86, 94, 102, 110, 118, 126, 134, 139], 59) := by decide +kernel
theorem dX5_count_60 : decode cX5_count 60 = .ok (.aload_n 0, 1) := by decide +kernel
theorem dX5_count_61 : decode cX5_count 61 = .ok (.getfield 19, 3) := by decide +kernel
theorem dX5_count_64 : decode cX5_count 64 = .ok (.getfield 228, 3) := by decide +kernel
theorem dX5_count_67 : decode cX5_count 67 = .ok (.ireturn, 1) := by decide +kernel
theorem dX5_count_68 : decode cX5_count 68 = .ok (.aload_n 0, 1) := by decide +kernel
theorem dX5_count_69 : decode cX5_count 69 = .ok (.getfield 19, 3) := by decide +kernel
theorem dX5_count_72 : decode cX5_count 72 = .ok (.getfield 231, 3) := by decide +kernel
theorem dX5_count_75 : decode cX5_count 75 = .ok (.ireturn, 1) := by decide +kernel
theorem dX5_count_76 : decode cX5_count 76 = .ok (.aload_n 0, 1) := by decide +kernel
theorem dX5_count_77 : decode cX5_count 77 = .ok (.getfield 28, 3) := by decide +kernel
theorem dX5_count_80 : decode cX5_count 80 = .ok (.getfield 159, 3) := by decide +kernel
theorem dX5_count_83 : decode cX5_count 83 = .ok (.invokestatic 162, 3) := by decide +kernel
theorem dX5_count_86 : decode cX5_count 86 = .ok (.ireturn, 1) := by decide +kernel
theorem dX5_count_87 : decode cX5_count 87 = .ok (.aload_n 0, 1) := by decide +kernel
theorem dX5_count_88 : decode cX5_count 88 = .ok (.getfield 28, 3) := by decide +kernel
theorem dX5_count_91 : decode cX5_count 91 = .ok (.getfield 98, 3) := by decide +kernel
theorem dX5_count_94 : decode cX5_count 94 = .ok (.ireturn, 1) := by decide +kernel
theorem dX5_count_95 : decode cX5_count 95 = .ok (.aload_n 0, 1) := by decide +kernel
theorem dX5_count_96 : decode cX5_count 96 = .ok (.getfield 28, 3) := by decide +kernel
theorem dX5_count_99 : decode cX5_count 99 = .ok (.getfield 150, 3) := by decide +kernel
theorem dX5_count_102 : decode cX5_count 102 = .ok (.ireturn, 1) := by decide +kernel
theorem dX5_count_103 : decode cX5_count 103 = .ok (.aload_n 0, 1) := by decide +kernel
theorem dX5_count_104 : decode cX5_count 104 = .ok (.getfield 28, 3) := by decide +kernel
theorem dX5_count_107 : decode cX5_count 107 = .ok (.invokevirtual 212, 3) := by decide +kernel
theorem dX5_count_110 : decode cX5_count 110 = .ok (.ireturn, 1) := by decide +kernel
theorem dX5_count_111 : decode cX5_count 111 = .ok (.aload_n 0, 1) := by decide +kernel
theorem dX5_count_112 : decode cX5_count 112 = .ok (.getfield 28, 3) := by decide +kernel
theorem dX5_count_115 : decode cX5_count 115 = .ok (.getfield 140, 3) := by decide +kernel
theorem dX5_count_118 : decode cX5_count 118 = .ok (.ireturn, 1) := by decide +kernel
theorem dX5_count_119 : decode cX5_count 119 = .ok (.aload_n 0, 1) := by decide +kernel
theorem dX5_count_120 : decode cX5_count 120 = .ok (.getfield 35, 3) := by decide +kernel
theorem dX5_count_123 : decode cX5_count 123 = .ok (.getfield 87, 3) := by decide +kernel
theorem dX5_count_126 : decode cX5_count 126 = .ok (.ireturn, 1) := by decide +kernel
theorem dX5_count_127 : decode cX5_count 127 = .ok (.aload_n 0, 1) := by decide +kernel
theorem dX5_count_128 : decode cX5_count 128 = .ok (.getfield 12, 3) := by decide +kernel
theorem dX5_count_131 : decode cX5_count 131 = .ok (.getfield 63, 3) := by decide +kernel
theorem dX5_count_134 : decode cX5_count 134 = .ok (.ireturn, 1) := by decide +kernel
theorem dX5_count_135 : decode cX5_count 135 = .ok (.aload_n 0, 1) := by decide +kernel
theorem dX5_count_136 : decode cX5_count 136 = .ok (.getfield 95, 3) := by decide +kernel
theorem dX5_count_139 : decode cX5_count 139 = .ok (.ireturn, 1) := by decide +kernel
theorem dX5_count_140 : decode cX5_count 140 = .ok (.aload_n 0, 1) := by decide +kernel
theorem dX5_count_141 : decode cX5_count 141 = .ok (.getfield 194, 3) := by decide +kernel
theorem dX5_count_144 : decode cX5_count 144 = .ok (.ireturn, 1) := by decide +kernel
theorem dX5_count_145 : decode cX5_count 145 = .ok (.bipush (-102), 2) := by decide +kernel
theorem dX5_count_147 : decode cX5_count 147 = .ok (.ireturn, 1) := by decide +kernel
set_option maxRecDepth 20000 in
theorem ggX5_digest_X5_peg : GoodIn wsX5_digest wsX5_peg := goodIn_r _ [11, 2, 12, 13, 14, 15, 16, 17, 18, 19, 20, 21, 22, 23, 24, 25, 26, 27, 28, 29, 30, 31, 32, 33, 34, 35, 36, 37, 38, 39, 40, 41, 42, 43, 44, 45, 46, 47, 48, 49, 50, 51, 52, 53, 54, 55, 56, 57, 58, 10, 59, 60, 61, 62, 63, 64, 65, 66, 67, 68, 69, 70, 71, 72, 73, 74, 75, 76, 77, 78, 79, 80, 81, 82, 83, 84, 85, 86, 87, 88, 89, 90, 91, 92, 93, 199, 200, 201, 202, 203, 204, 205, 206, 207, 208, 209, 210, 211, 212, 213, 214, 215, 216, 217, 218, 219, 220, 221, 222, 223, 226, 227, 228] (by decide +kernel) (by decide +kernel)
set_option maxRecDepth 20000 in
theorem gX5_digest_X5_peg : GoodIn wsX5_digest (wsV RX5 238 RX5 yX5_peg wsX5_peg) := goodIn_app (goodIn_of _ (by decide +kernel)) ggX5_digest_X5_peg
set_option maxRecDepth 20000 in
theorem ggX5_digest_X5_place : GoodIn wsX5_digest wsX5_place := goodIn_r _ [97, 4, 2, 98, 47, 48, 43, 49, 50, 99, 100, 101, 16, 102, 38, 71, 56, 62, 10, 63, 103, 52, 53, 54, 55, 199, 200, 201, 202, 203, 204, 205, 206, 207, 208, 209, 210, 211, 220, 221, 222, 223, 212, 213, 214, 215, 216, 217, 218, 219] (by decide +kernel) (by decide +kernel)
set_option maxRecDepth 20000 in
theorem gX5_digest_X5_place : GoodIn wsX5_digest (wsV RX5 244 RX5 yX5_place wsX5_place) := goodIn_app (goodIn_of _ (by decide +kernel)) ggX5_digest_X5_place
set_option maxRecDepth 20000 in
theorem ggX5_digest_X5_courses : GoodIn wsX5_digest wsX5_courses := goodIn_r _ [107, 5, 108, 109, 110, 111, 10, 112, 113, 114, 2, 115, 116, 117, 118, 16, 119, 71, 18, 120, 121, 23, 29, 55, 122, 123, 124, 125, 126, 127, 128, 129, 130, 131, 132, 133, 134, 135, 136, 137, 138, 139, 35, 36, 37, 38, 39, 26, 27, 28, 24, 14, 15, 17, 40, 41, 42, 43, 44, 45, 46, 47, 48, 49, 50, 51, 52, 53, 54, 56, 57, 20, 21, 22, 58, 59, 60, 61, 62, 63, 64, 65, 66, 67, 68, 69, 70, 25, 140, 141, 142, 143, 144, 145, 146, 147, 148, 149, 150, 151, 152, 153, 154, 155, 156, 157, 158, 159, 160, 161, 162, 163, 164, 84, 85, 86, 165, 166, 167, 168, 169, 170, 171, 172, 199, 200, 201, 202, 203, 204, 205, 206, 207, 208, 209, 210, 211, 229, 230, 231, 232, 233, 234, 235, 236, 237, 212, 213, 214, 215, 216, 217, 218, 219, 220, 221, 222, 223] (by decide +kernel) (by decide +kernel)
set_option maxRecDepth 20000 in
theorem gX5_digest_X5_courses : GoodIn wsX5_digest (wsV RX5 247 RX5 yX5_courses wsX5_courses) := goodIn_app (goodIn_of _ (by decide +kernel)) ggX5_digest_X5_courses
set_option maxRecDepth 20000 in
theorem ggX5_digest_X5_wins : GoodIn wsX5_digest wsX5_wins := goodIn_r _ [176, 5, 108, 109, 110, 111, 10, 112, 113, 114, 2, 115, 116, 117, 118, 16, 119, 71, 18, 120, 121, 23, 29, 55, 122, 123, 124, 125, 126, 127, 128, 129, 130, 131, 132, 133, 134, 135, 136, 137, 138, 139, 35, 36, 37, 38, 39, 26, 27, 28, 24, 14, 15, 17, 40, 41, 42, 43, 44, 45, 46, 47, 48, 49, 50, 51, 52, 53, 54, 56, 57, 20, 21, 22, 58, 59, 60, 61, 62, 63, 64, 65, 66, 67, 68, 69, 70, 25, 140, 141, 142, 143, 144, 145, 146, 147, 148, 149, 150, 151, 152, 153, 154, 155, 156, 157, 158, 159, 160, 161, 162, 163, 164, 84, 85, 86, 165, 166, 167, 168, 169, 170, 171, 172, 199, 200, 201, 202, 203, 204, 205, 206, 207, 208, 209, 210, 211, 229, 230, 231, 232, 233, 234, 235, 236, 237, 212, 213, 214, 215, 216, 217, 218, 219, 220, 221, 222, 223] (by decide +kernel) (by decide +kernel)
set_option maxRecDepth 20000 in
theorem gX5_digest_X5_wins : GoodIn wsX5_digest (wsV RX5 250 RX5 yX5_wins wsX5_wins) := goodIn_app (goodIn_of _ (by decide +kernel)) ggX5_digest_X5_wins
set_option maxRecDepth 20000 in
theorem ggX5_digest_X5_mean : GoodIn wsX5_digest wsX5_mean := goodIn_r _ [180, 5, 108, 109, 110, 111, 10, 112, 113, 114, 2, 115, 116, 117, 118, 16, 119, 71, 18, 120, 121, 23, 29, 55, 122, 123, 124, 125, 126, 127, 128, 129, 130, 131, 132, 133, 134, 135, 136, 137, 138, 139, 35, 36, 37, 38, 39, 26, 27, 28, 24, 14, 15, 17, 40, 41, 42, 43, 44, 45, 46, 47, 48, 49, 50, 51, 52, 53, 54, 56, 57, 20, 21, 22, 58, 59, 60, 61, 62, 63, 64, 65, 66, 67, 68, 69, 70, 25, 140, 141, 142, 143, 144, 145, 146, 147, 148, 149, 150, 151, 152, 153, 154, 155, 156, 157, 158, 159, 160, 161, 162, 163, 164, 84, 85, 86, 165, 166, 167, 168, 169, 170, 171, 172, 199, 200, 201, 202, 203, 204, 205, 206, 207, 208, 209, 210, 211, 229, 230, 231, 232, 233, 234, 235, 236, 237, 212, 213, 214, 215, 216, 217, 218, 219, 220, 221, 222, 223] (by decide +kernel) (by decide +kernel)
set_option maxRecDepth 20000 in
theorem gX5_digest_X5_mean : GoodIn wsX5_digest (wsV RX5 253 RX5 yX5_mean wsX5_mean) := goodIn_app (goodIn_of _ (by decide +kernel)) ggX5_digest_X5_mean
set_option maxRecDepth 20000 in
theorem ggX5_digest_X2_codeAt : GoodIn wsX5_digest wsX2_codeAt := goodIn_r _ [185, 186, 187, 224, 225] (by decide +kernel) (by decide +kernel)
set_option maxRecDepth 20000 in
theorem gX5_digest_X2_codeAt : GoodIn wsX5_digest (wsV RX5 255 RX2 yX2_codeAt wsX2_codeAt) := goodIn_app (goodIn_of _ (by decide +kernel)) ggX5_digest_X2_codeAt
set_option maxRecDepth 20000 in
theorem ggX5_digest_X5_count : GoodIn wsX5_digest wsX5_count := goodIn_r _ [191, 4, 2, 12, 6, 5, 192, 87, 88, 89, 90, 91, 92, 93, 193, 194, 195, 16, 196, 18, 197, 31, 32, 33, 34, 35, 36, 37, 38, 39, 26, 27, 28, 29, 24, 14, 15, 17, 40, 41, 42, 43, 44, 45, 46, 47, 48, 49, 50, 51, 52, 53, 54, 55, 56, 57, 20, 21, 22, 23, 58, 10, 59, 60, 61, 62, 63, 64, 65, 66, 67, 68, 69, 70, 71, 198, 199, 200, 201, 202, 203, 204, 205, 206, 207, 208, 209, 210, 211, 220, 221, 222, 223, 212, 213, 214, 215, 216, 217, 218, 219, 226, 227, 228, 224, 225] (by decide +kernel) (by decide +kernel)
set_option maxRecDepth 20000 in
theorem gX5_digest_X5_count : GoodIn wsX5_digest (wsV RX5 258 RX5 yX5_count wsX5_count) := goodIn_app (goodIn_of _ (by decide +kernel)) ggX5_digest_X5_count
theorem dX5_digest_0 : decode cX5_digest 0 = .ok (.ldc2_w 234, 3) := by decide +kernel
theorem dX5_digest_3 : decode cX5_digest 3 = .ok (.lstore_n 1, 1) := by decide +kernel
theorem dX5_digest_4 : decode cX5_digest 4 = .ok (.iconst 0, 1) := by decide +kernel
theorem dX5_digest_5 : decode cX5_digest 5 = .ok (.istore_n 3, 1) := by decide +kernel
theorem dX5_digest_6 : decode cX5_digest 6 = .ok (.iload_n 3, 1) := by decide +kernel
theorem dX5_digest_7 : decode cX5_digest 7 = .ok (.aload_n 0, 1) := by decide +kernel
theorem dX5_digest_8 : decode cX5_digest 8 = .ok (.getfield 28, 3) := by decide +kernel
theorem dX5_digest_11 : decode cX5_digest 11 = .ok (.getfield 98, 3) := by decide +kernel
theorem dX5_digest_14 : decode cX5_digest 14 = .ok (.if_icmp .ge 39, 3) := by decide +kernel
theorem dX5_digest_17 : decode cX5_digest 17 = .ok (.iconst 0, 1) := by decide +kernel
theorem dX5_digest_18 : decode cX5_digest 18 = .ok (.istore 4, 2) := by decide +kernel
theorem dX5_digest_20 : decode cX5_digest 20 = .ok (.iload 4, 2) := by decide +kernel
theorem dX5_digest_22 : decode cX5_digest 22 = .ok (.iconst 4, 1) := by decide +kernel
theorem dX5_digest_23 : decode cX5_digest 23 = .ok (.if_icmp .gt 24, 3) := by decide +kernel
theorem dX5_digest_26 : decode cX5_digest 26 = .ok (.ldc2_w 236, 3) := by decide +kernel
theorem dX5_digest_29 : decode cX5_digest 29 = .ok (.lload_n 1, 1) := by decide +kernel
theorem dX5_digest_30 : decode cX5_digest 30 = .ok (.lmul, 1) := by decide +kernel
theorem dX5_digest_31 : decode cX5_digest 31 = .ok (.aload_n 0, 1) := by decide +kernel
theorem dX5_digest_32 : decode cX5_digest 32 = .ok (.iload_n 3, 1) := by decide +kernel
theorem dX5_digest_33 : decode cX5_digest 33 = .ok (.iload 4, 2) := by decide +kernel
theorem dX5_digest_35 : decode cX5_digest 35 = .ok (.invokevirtual 238, 3) := by decide +kernel
theorem dX5_digest_38 : decode cX5_digest 38 = .ok (.i2l, 1) := by decide +kernel
theorem dX5_digest_39 : decode cX5_digest 39 = .ok (.ladd, 1) := by decide +kernel
theorem dX5_digest_40 : decode cX5_digest 40 = .ok (.lstore_n 1, 1) := by decide +kernel
theorem dX5_digest_41 : decode cX5_digest 41 = .ok (.iinc 4 1, 3) := by decide +kernel
theorem dX5_digest_44 : decode cX5_digest 44 = .ok (.goto (-24), 3) := by decide +kernel
theorem dX5_digest_47 : decode cX5_digest 47 = .ok (.iinc 3 1, 3) := by decide +kernel
theorem dX5_digest_50 : decode cX5_digest 50 = .ok (.goto (-44), 3) := by decide +kernel
theorem dX5_digest_53 : decode cX5_digest 53 = .ok (.iconst 0, 1) := by decide +kernel
theorem dX5_digest_54 : decode cX5_digest 54 = .ok (.istore_n 3, 1) := by decide +kernel
theorem dX5_digest_55 : decode cX5_digest 55 = .ok (.iload_n 3, 1) := by decide +kernel
theorem dX5_digest_56 : decode cX5_digest 56 = .ok (.aload_n 0, 1) := by decide +kernel
theorem dX5_digest_57 : decode cX5_digest 57 = .ok (.getfield 19, 3) := by decide +kernel
theorem dX5_digest_60 : decode cX5_digest 60 = .ok (.getfield 241, 3) := by decide +kernel
theorem dX5_digest_63 : decode cX5_digest 63 = .ok (.if_icmp .ge 37, 3) := by decide +kernel
theorem dX5_digest_66 : decode cX5_digest 66 = .ok (.ldc2_w 236, 3) := by decide +kernel
theorem dX5_digest_69 : decode cX5_digest 69 = .ok (.lload_n 1, 1) := by decide +kernel
theorem dX5_digest_70 : decode cX5_digest 70 = .ok (.lmul, 1) := by decide +kernel
theorem dX5_digest_71 : decode cX5_digest 71 = .ok (.aload_n 0, 1) := by decide +kernel
theorem dX5_digest_72 : decode cX5_digest 72 = .ok (.iload_n 3, 1) := by decide +kernel
theorem dX5_digest_73 : decode cX5_digest 73 = .ok (.iconst 0, 1) := by decide +kernel
theorem dX5_digest_74 : decode cX5_digest 74 = .ok (.invokevirtual 244, 3) := by decide +kernel
theorem dX5_digest_77 : decode cX5_digest 77 = .ok (.i2l, 1) := by decide +kernel
theorem dX5_digest_78 : decode cX5_digest 78 = .ok (.ladd, 1) := by decide +kernel
theorem dX5_digest_79 : decode cX5_digest 79 = .ok (.lstore_n 1, 1) := by decide +kernel
theorem dX5_digest_80 : decode cX5_digest 80 = .ok (.ldc2_w 236, 3) := by decide +kernel
theorem dX5_digest_83 : decode cX5_digest 83 = .ok (.lload_n 1, 1) := by decide +kernel
theorem dX5_digest_84 : decode cX5_digest 84 = .ok (.lmul, 1) := by decide +kernel
theorem dX5_digest_85 : decode cX5_digest 85 = .ok (.aload_n 0, 1) := by decide +kernel
theorem dX5_digest_86 : decode cX5_digest 86 = .ok (.iload_n 3, 1) := by decide +kernel
theorem dX5_digest_87 : decode cX5_digest 87 = .ok (.iconst 1, 1) := by decide +kernel
theorem dX5_digest_88 : decode cX5_digest 88 = .ok (.invokevirtual 244, 3) := by decide +kernel
theorem dX5_digest_91 : decode cX5_digest 91 = .ok (.i2l, 1) := by decide +kernel
theorem dX5_digest_92 : decode cX5_digest 92 = .ok (.ladd, 1) := by decide +kernel
theorem dX5_digest_93 : decode cX5_digest 93 = .ok (.lstore_n 1, 1) := by decide +kernel
theorem dX5_digest_94 : decode cX5_digest 94 = .ok (.iinc 3 1, 3) := by decide +kernel
theorem dX5_digest_97 : decode cX5_digest 97 = .ok (.goto (-42), 3) := by decide +kernel
theorem dX5_digest_100 : decode cX5_digest 100 = .ok (.aload_n 0, 1) := by decide +kernel
theorem dX5_digest_101 : decode cX5_digest 101 = .ok (.getfield 95, 3) := by decide +kernel
theorem dX5_digest_104 : decode cX5_digest 104 = .ok (.ifCond .le 67, 3) := by decide +kernel
theorem dX5_digest_107 : decode cX5_digest 107 = .ok (.iconst 0, 1) := by decide +kernel
theorem dX5_digest_108 : decode cX5_digest 108 = .ok (.istore_n 3, 1) := by decide +kernel
theorem dX5_digest_109 : decode cX5_digest 109 = .ok (.iload_n 3, 1) := by decide +kernel
theorem dX5_digest_110 : decode cX5_digest 110 = .ok (.iconst 5, 1) := by decide +kernel
theorem dX5_digest_111 : decode cX5_digest 111 = .ok (.if_icmp .gt 22, 3) := by decide +kernel
theorem dX5_digest_114 : decode cX5_digest 114 = .ok (.ldc2_w 236, 3) := by decide +kernel
theorem dX5_digest_117 : decode cX5_digest 117 = .ok (.lload_n 1, 1) := by decide +kernel
theorem dX5_digest_118 : decode cX5_digest 118 = .ok (.lmul, 1) := by decide +kernel
theorem dX5_digest_119 : decode cX5_digest 119 = .ok (.aload_n 0, 1) := by decide +kernel
theorem dX5_digest_120 : decode cX5_digest 120 = .ok (.iload_n 3, 1) := by decide +kernel
theorem dX5_digest_121 : decode cX5_digest 121 = .ok (.invokevirtual 247, 3) := by decide +kernel
theorem dX5_digest_124 : decode cX5_digest 124 = .ok (.i2l, 1) := by decide +kernel
theorem dX5_digest_125 : decode cX5_digest 125 = .ok (.ladd, 1) := by decide +kernel
theorem dX5_digest_126 : decode cX5_digest 126 = .ok (.lstore_n 1, 1) := by decide +kernel
theorem dX5_digest_127 : decode cX5_digest 127 = .ok (.iinc 3 1, 3) := by decide +kernel
theorem dX5_digest_130 : decode cX5_digest 130 = .ok (.goto (-21), 3) := by decide +kernel
theorem dX5_digest_133 : decode cX5_digest 133 = .ok (.ldc2_w 236, 3) := by decide +kernel
theorem dX5_digest_136 : decode cX5_digest 136 = .ok (.lload_n 1, 1) := by decide +kernel
theorem dX5_digest_137 : decode cX5_digest 137 = .ok (.lmul, 1) := by decide +kernel
theorem dX5_digest_138 : decode cX5_digest 138 = .ok (.aload_n 0, 1) := by decide +kernel
theorem dX5_digest_139 : decode cX5_digest 139 = .ok (.iconst 0, 1) := by decide +kernel
theorem dX5_digest_140 : decode cX5_digest 140 = .ok (.invokevirtual 250, 3) := by decide +kernel
theorem dX5_digest_143 : decode cX5_digest 143 = .ok (.i2l, 1) := by decide +kernel
theorem dX5_digest_144 : decode cX5_digest 144 = .ok (.ladd, 1) := by decide +kernel
theorem dX5_digest_145 : decode cX5_digest 145 = .ok (.lstore_n 1, 1) := by decide +kernel
theorem dX5_digest_146 : decode cX5_digest 146 = .ok (.ldc2_w 236, 3) := by decide +kernel
theorem dX5_digest_149 : decode cX5_digest 149 = .ok (.lload_n 1, 1) := by decide +kernel
theorem dX5_digest_150 : decode cX5_digest 150 = .ok (.lmul, 1) := by decide +kernel
theorem dX5_digest_151 : decode cX5_digest 151 = .ok (.aload_n 0, 1) := by decide +kernel
theorem dX5_digest_152 : decode cX5_digest 152 = .ok (.iconst 1, 1) := by decide +kernel
theorem dX5_digest_153 : decode cX5_digest 153 = .ok (.invokevirtual 250, 3) := by decide +kernel
theorem dX5_digest_156 : decode cX5_digest 156 = .ok (.i2l, 1) := by decide +kernel
theorem dX5_digest_157 : decode cX5_digest 157 = .ok (.ladd, 1) := by decide +kernel
theorem dX5_digest_158 : decode cX5_digest 158 = .ok (.lstore_n 1, 1) := by decide +kernel
theorem dX5_digest_159 : decode cX5_digest 159 = .ok (.ldc2_w 236, 3) := by decide +kernel
theorem dX5_digest_162 : decode cX5_digest 162 = .ok (.lload_n 1, 1) := by decide +kernel
theorem dX5_digest_163 : decode cX5_digest 163 = .ok (.lmul, 1) := by decide +kernel
theorem dX5_digest_164 : decode cX5_digest 164 = .ok (.aload_n 0, 1) := by decide +kernel
theorem dX5_digest_165 : decode cX5_digest 165 = .ok (.invokevirtual 253, 3) := by decide +kernel
theorem dX5_digest_168 : decode cX5_digest 168 = .ok (.i2l, 1) := by decide +kernel
theorem dX5_digest_169 : decode cX5_digest 169 = .ok (.ladd, 1) := by decide +kernel
theorem dX5_digest_170 : decode cX5_digest 170 = .ok (.lstore_n 1, 1) := by decide +kernel
theorem dX5_digest_171 : decode cX5_digest 171 = .ok (.iconst 0, 1) := by decide +kernel
theorem dX5_digest_172 : decode cX5_digest 172 = .ok (.istore_n 3, 1) := by decide +kernel
theorem dX5_digest_173 : decode cX5_digest 173 = .ok (.iload_n 3, 1) := by decide +kernel
theorem dX5_digest_174 : decode cX5_digest 174 = .ok (.aload_n 0, 1) := by decide +kernel
theorem dX5_digest_175 : decode cX5_digest 175 = .ok (.getfield 12, 3) := by decide +kernel
theorem dX5_digest_178 : decode cX5_digest 178 = .ok (.getfield 63, 3) := by decide +kernel
theorem dX5_digest_181 : decode cX5_digest 181 = .ok (.if_icmp .ge 25, 3) := by decide +kernel
theorem dX5_digest_184 : decode cX5_digest 184 = .ok (.ldc2_w 236, 3) := by decide +kernel
theorem dX5_digest_187 : decode cX5_digest 187 = .ok (.lload_n 1, 1) := by decide +kernel
theorem dX5_digest_188 : decode cX5_digest 188 = .ok (.lmul, 1) := by decide +kernel
theorem dX5_digest_189 : decode cX5_digest 189 = .ok (.aload_n 0, 1) := by decide +kernel
theorem dX5_digest_190 : decode cX5_digest 190 = .ok (.getfield 12, 3) := by decide +kernel
theorem dX5_digest_193 : decode cX5_digest 193 = .ok (.iload_n 3, 1) := by decide +kernel
theorem dX5_digest_194 : decode cX5_digest 194 = .ok (.invokevirtual 255, 3) := by decide +kernel
theorem dX5_digest_197 : decode cX5_digest 197 = .ok (.i2l, 1) := by decide +kernel
theorem dX5_digest_198 : decode cX5_digest 198 = .ok (.ladd, 1) := by decide +kernel
theorem dX5_digest_199 : decode cX5_digest 199 = .ok (.lstore_n 1, 1) := by decide +kernel
theorem dX5_digest_200 : decode cX5_digest 200 = .ok (.iinc 3 1, 3) := by decide +kernel
theorem dX5_digest_203 : decode cX5_digest 203 = .ok (.goto (-30), 3) := by decide +kernel
theorem dX5_digest_206 : decode cX5_digest 206 = .ok (.iconst 0, 1) := by decide +kernel
theorem dX5_digest_207 : decode cX5_digest 207 = .ok (.istore_n 3, 1) := by decide +kernel
theorem dX5_digest_208 : decode cX5_digest 208 = .ok (.iload_n 3, 1) := by decide +kernel
theorem dX5_digest_209 : decode cX5_digest 209 = .ok (.bipush 10, 2) := by decide +kernel
theorem dX5_digest_211 : decode cX5_digest 211 = .ok (.if_icmp .gt 22, 3) := by decide +kernel
theorem dX5_digest_214 : decode cX5_digest 214 = .ok (.ldc2_w 236, 3) := by decide +kernel
theorem dX5_digest_217 : decode cX5_digest 217 = .ok (.lload_n 1, 1) := by decide +kernel
theorem dX5_digest_218 : decode cX5_digest 218 = .ok (.lmul, 1) := by decide +kernel
theorem dX5_digest_219 : decode cX5_digest 219 = .ok (.aload_n 0, 1) := by decide +kernel
theorem dX5_digest_220 : decode cX5_digest 220 = .ok (.iload_n 3, 1) := by decide +kernel
theorem dX5_digest_221 : decode cX5_digest 221 = .ok (.invokevirtual 258, 3) := by decide +kernel
theorem dX5_digest_224 : decode cX5_digest 224 = .ok (.i2l, 1) := by decide +kernel
theorem dX5_digest_225 : decode cX5_digest 225 = .ok (.ladd, 1) := by decide +kernel
theorem dX5_digest_226 : decode cX5_digest 226 = .ok (.lstore_n 1, 1) := by decide +kernel
theorem dX5_digest_227 : decode cX5_digest 227 = .ok (.iinc 3 1, 3) := by decide +kernel
theorem dX5_digest_230 : decode cX5_digest 230 = .ok (.goto (-22), 3) := by decide +kernel
theorem dX5_digest_233 : decode cX5_digest 233 = .ok (.lload_n 1, 1) := by decide +kernel
theorem dX5_digest_234 : decode cX5_digest 234 = .ok (.lreturn, 1) := by decide +kernel
set_option maxRecDepth 20000 in
theorem ggX5_lookAhead_X4_copyFrom : GoodIn wsX5_lookAhead wsX4_copyFrom := goodIn_r _ [9, 10, 11, 12, 13, 14, 15, 16, 131, 132, 133, 134, 135, 136, 137, 138] (by decide +kernel) (by decide +kernel)
set_option maxRecDepth 20000 in
theorem gX5_lookAhead_X4_copyFrom : GoodIn wsX5_lookAhead (wsV RX5 208 RX4 yX4_copyFrom wsX4_copyFrom) := goodIn_app (goodIn_of _ (by decide +kernel)) ggX5_lookAhead_X4_copyFrom
set_option maxRecDepth 20000 in
theorem ggX5_lookAhead_X5_look : GoodIn wsX5_lookAhead wsX5_look := goodIn_r _ [20, 21, 22, 23, 24, 25, 26, 27, 28, 29, 30, 31, 32, 33, 34, 35, 36, 37, 8, 38, 39, 40, 41, 42, 43, 15, 44, 45, 46, 47, 11, 48, 49, 50, 51, 52, 53, 54, 55, 56, 57, 58, 59, 60, 61, 62, 16, 63, 64, 65, 66, 67, 14, 68, 19, 69, 70, 71, 72, 73, 74, 75, 76, 77, 78, 79, 80, 10, 81, 82, 83, 84, 85, 86, 87, 88, 89, 90, 91, 92, 93, 12, 94, 95, 96, 97, 17, 18, 98, 99, 100, 101, 102, 103, 104, 105, 106, 107, 108, 109, 110, 111, 112, 113, 114, 115, 116, 117, 131, 132, 133, 134, 135, 136, 137, 138, 139, 140, 141, 142, 143, 144, 145, 146, 147, 148, 149, 150, 151] (by decide +kernel) (by decide +kernel)
set_option maxRecDepth 20000 in
theorem gX5_lookAhead_X5_look : GoodIn wsX5_lookAhead (va_wsS RX5 261 yX5_look wsX5_look) := goodIn_app (goodIn_of _ (by decide +kernel)) ggX5_lookAhead_X5_look
theorem dX5_lookAhead_0 : decode cX5_lookAhead 0 = .ok (.aload_n 0, 1) := by decide +kernel
theorem dX5_lookAhead_1 : decode cX5_lookAhead 1 = .ok (.getfield 92, 3) := by decide +kernel
theorem dX5_lookAhead_4 : decode cX5_lookAhead 4 = .ok (.ifCond .ne 31, 3) := by decide +kernel
theorem dX5_lookAhead_7 : decode cX5_lookAhead 7 = .ok (.aload_n 0, 1) := by decide +kernel
theorem dX5_lookAhead_8 : decode cX5_lookAhead 8 = .ok (.getfield 45, 3) := by decide +kernel
theorem dX5_lookAhead_11 : decode cX5_lookAhead 11 = .ok (.aload_n 0, 1) := by decide +kernel
theorem dX5_lookAhead_12 : decode cX5_lookAhead 12 = .ok (.getfield 28, 3) := by decide +kernel
theorem dX5_lookAhead_15 : decode cX5_lookAhead 15 = .ok (.invokevirtual 208, 3) := by decide +kernel
theorem dX5_lookAhead_18 : decode cX5_lookAhead 18 = .ok (.aload_n 0, 1) := by decide +kernel
theorem dX5_lookAhead_19 : decode cX5_lookAhead 19 = .ok (.getfield 45, 3) := by decide +kernel
theorem dX5_lookAhead_22 : decode cX5_lookAhead 22 = .ok (.aload_n 0, 1) := by decide +kernel
theorem dX5_lookAhead_23 : decode cX5_lookAhead 23 = .ok (.getfield 55, 3) := by decide +kernel
theorem dX5_lookAhead_26 : decode cX5_lookAhead 26 = .ok (.iconst 0, 1) := by decide +kernel
theorem dX5_lookAhead_27 : decode cX5_lookAhead 27 = .ok (.invokestatic 261, 3) := by decide +kernel
theorem dX5_lookAhead_30 : decode cX5_lookAhead 30 = .ok (.aload_n 0, 1) := by decide +kernel
theorem dX5_lookAhead_31 : decode cX5_lookAhead 31 = .ok (.iconst 1, 1) := by decide +kernel
theorem dX5_lookAhead_32 : decode cX5_lookAhead 32 = .ok (.putfield 92, 3) := by decide +kernel
theorem dX5_lookAhead_35 : decode cX5_lookAhead 35 = .ok (.return_, 1) := by decide +kernel
set_option maxRecDepth 20000 in
theorem ggX5_fewestWithOneMore_X4_copyFrom : GoodIn wsX5_fewestWithOneMore wsX4_copyFrom := goodIn_r _ [9, 10, 11, 12, 13, 14, 15, 16, 148, 149, 150, 151, 152, 153, 154, 155] (by decide +kernel) (by decide +kernel)
set_option maxRecDepth 20000 in
theorem gX5_fewestWithOneMore_X4_copyFrom : GoodIn wsX5_fewestWithOneMore (wsV RX5 208 RX4 yX4_copyFrom wsX4_copyFrom) := goodIn_app (goodIn_of _ (by decide +kernel)) ggX5_fewestWithOneMore_X4_copyFrom
set_option maxRecDepth 20000 in
theorem ggX5_fewestWithOneMore_X4_addPlain : GoodIn wsX5_fewestWithOneMore wsX4_addPlain := goodIn_r _ [20, 21, 22, 23, 8, 24, 11, 14, 15, 25, 26, 27, 28, 29, 16, 12, 30, 31, 32, 33, 34, 35, 36, 37, 38, 39, 148, 149, 150, 151, 152, 153, 154, 155, 156, 157, 158, 159] (by decide +kernel) (by decide +kernel)
set_option maxRecDepth 20000 in
theorem gX5_fewestWithOneMore_X4_addPlain : GoodIn wsX5_fewestWithOneMore (wsV RX5 265 RX4 yX4_addPlain wsX4_addPlain) := goodIn_app (goodIn_of _ (by decide +kernel)) ggX5_fewestWithOneMore_X4_addPlain
set_option maxRecDepth 20000 in
theorem ggX5_fewestWithOneMore_X5_look : GoodIn wsX5_fewestWithOneMore wsX5_look := goodIn_r _ [43, 44, 45, 46, 47, 48, 49, 50, 51, 52, 53, 54, 55, 56, 57, 58, 59, 60, 8, 61, 29, 62, 63, 64, 65, 15, 30, 31, 32, 33, 11, 66, 67, 68, 37, 69, 70, 71, 35, 36, 38, 39, 72, 73, 74, 75, 16, 34, 76, 77, 78, 79, 14, 80, 42, 81, 82, 83, 84, 85, 86, 87, 88, 89, 90, 91, 92, 10, 93, 94, 95, 96, 97, 98, 99, 100, 101, 102, 103, 104, 105, 12, 25, 26, 27, 28, 40, 41, 106, 107, 108, 109, 110, 111, 112, 113, 114, 115, 116, 117, 118, 119, 120, 121, 122, 123, 124, 125, 148, 149, 150, 151, 152, 153, 154, 155, 139, 140, 141, 142, 143, 144, 145, 146, 147, 156, 157, 158, 159] (by decide +kernel) (by decide +kernel)
set_option maxRecDepth 20000 in
theorem gX5_fewestWithOneMore_X5_look : GoodIn wsX5_fewestWithOneMore (va_wsS RX5 261 yX5_look wsX5_look) := goodIn_app (goodIn_of _ (by decide +kernel)) ggX5_fewestWithOneMore_X5_look
theorem dX5_fewestWithOneMore_0 : decode cX5_fewestWithOneMore 0 = .ok (.aload_n 0, 1) := by decide +kernel
theorem dX5_fewestWithOneMore_1 : decode cX5_fewestWithOneMore 1 = .ok (.getfield 45, 3) := by decide +kernel
theorem dX5_fewestWithOneMore_4 : decode cX5_fewestWithOneMore 4 = .ok (.aload_n 0, 1) := by decide +kernel
theorem dX5_fewestWithOneMore_5 : decode cX5_fewestWithOneMore 5 = .ok (.getfield 28, 3) := by decide +kernel
theorem dX5_fewestWithOneMore_8 : decode cX5_fewestWithOneMore 8 = .ok (.invokevirtual 208, 3) := by decide +kernel
theorem dX5_fewestWithOneMore_11 : decode cX5_fewestWithOneMore 11 = .ok (.aload_n 0, 1) := by decide +kernel
theorem dX5_fewestWithOneMore_12 : decode cX5_fewestWithOneMore 12 = .ok (.getfield 45, 3) := by decide +kernel
theorem dX5_fewestWithOneMore_15 : decode cX5_fewestWithOneMore 15 = .ok (.iload_n 1, 1) := by decide +kernel
theorem dX5_fewestWithOneMore_16 : decode cX5_fewestWithOneMore 16 = .ok (.invokevirtual 265, 3) := by decide +kernel
theorem dX5_fewestWithOneMore_19 : decode cX5_fewestWithOneMore 19 = .ok (.aload_n 0, 1) := by decide +kernel
theorem dX5_fewestWithOneMore_20 : decode cX5_fewestWithOneMore 20 = .ok (.getfield 45, 3) := by decide +kernel
theorem dX5_fewestWithOneMore_23 : decode cX5_fewestWithOneMore 23 = .ok (.aload_n 0, 1) := by decide +kernel
theorem dX5_fewestWithOneMore_24 : decode cX5_fewestWithOneMore 24 = .ok (.getfield 55, 3) := by decide +kernel
theorem dX5_fewestWithOneMore_27 : decode cX5_fewestWithOneMore 27 = .ok (.iconst 0, 1) := by decide +kernel
theorem dX5_fewestWithOneMore_28 : decode cX5_fewestWithOneMore 28 = .ok (.invokestatic 261, 3) := by decide +kernel
theorem dX5_fewestWithOneMore_31 : decode cX5_fewestWithOneMore 31 = .ok (.aload_n 0, 1) := by decide +kernel
theorem dX5_fewestWithOneMore_32 : decode cX5_fewestWithOneMore 32 = .ok (.getfield 51, 3) := by decide +kernel
theorem dX5_fewestWithOneMore_35 : decode cX5_fewestWithOneMore 35 = .ok (.getfield 173, 3) := by decide +kernel
theorem dX5_fewestWithOneMore_38 : decode cX5_fewestWithOneMore 38 = .ok (.ireturn, 1) := by decide +kernel
set_option maxRecDepth 20000 in
theorem ggX5_look_X1_begin : GoodIn wsX5_look wsX1_begin := goodIn_r _ [5, 6, 7, 8, 9, 10, 11, 12, 13, 14, 116, 117, 118, 119, 120, 121, 122, 123, 124] (by decide +kernel) (by decide +kernel)
set_option maxRecDepth 20000 in
theorem gX5_look_X1_begin : GoodIn wsX5_look (wsV RX5 268 RX1 yX1_begin wsX1_begin) := goodIn_app (goodIn_of _ (by decide +kernel)) ggX5_look_X1_begin
set_option maxRecDepth 20000 in
theorem ggX5_look_X4_targetOf : GoodIn wsX5_look wsX4_targetOf := goodIn_r _ [19, 20, 21, 22, 23, 18, 24, 25, 26, 27, 28, 29, 30, 31, 32, 33, 34, 35, 36, 37, 38, 39, 40, 41, 42, 43, 44, 45, 46, 47, 48, 49, 50, 51, 52, 53, 54, 55, 56, 57, 58, 59, 60, 61, 62, 63, 64, 65, 66, 67, 108, 109, 110, 111, 112, 113, 114, 115, 125, 126, 127, 128] (by decide +kernel) (by decide +kernel)
set_option maxRecDepth 20000 in
theorem gX5_look_X4_targetOf : GoodIn wsX5_look (wsV RX5 271 RX4 yX4_targetOf wsX4_targetOf) := goodIn_app (goodIn_of _ (by decide +kernel)) ggX5_look_X4_targetOf
set_option maxRecDepth 20000 in
theorem ggX5_look_X4_homeOf : GoodIn wsX5_look wsX4_homeOf := goodIn_r _ [24, 25, 26, 27, 28, 18, 29, 30, 108, 109, 110, 111, 112, 113, 114, 115] (by decide +kernel) (by decide +kernel)
set_option maxRecDepth 20000 in
theorem gX5_look_X4_homeOf : GoodIn wsX5_look (wsV RX5 107 RX4 yX4_homeOf wsX4_homeOf) := goodIn_app (goodIn_of _ (by decide +kernel)) ggX5_look_X4_homeOf
set_option maxRecDepth 20000 in
theorem ggX5_look_X4_neighbourOf : GoodIn wsX5_look wsX4_neighbourOf := goodIn_r _ [72, 20, 21, 22, 23, 18, 24, 25, 26, 27, 28, 29, 30, 31, 32, 33, 34, 35, 36, 37, 38, 39, 40, 41, 42, 43, 44, 45, 46, 47, 108, 109, 110, 111, 112, 113, 114, 115, 125, 126, 127, 128] (by decide +kernel) (by decide +kernel)
set_option maxRecDepth 20000 in
theorem gX5_look_X4_neighbourOf : GoodIn wsX5_look (wsV RX5 143 RX4 yX4_neighbourOf wsX4_neighbourOf) := goodIn_app (goodIn_of _ (by decide +kernel)) ggX5_look_X4_neighbourOf
set_option maxRecDepth 20000 in
theorem ggX5_look_X4_leap : GoodIn wsX5_look wsX4_leap := goodIn_r _ [76, 77, 78, 79, 18, 80, 20, 25, 46, 81, 26, 27, 28, 29, 30, 47, 38, 39, 34, 40, 41, 48, 49, 50, 51, 52, 60, 54, 61, 62, 57, 58, 59, 82, 83, 84, 85, 108, 109, 110, 111, 112, 113, 114, 115, 125, 126, 127, 128] (by decide +kernel) (by decide +kernel)
set_option maxRecDepth 20000 in
theorem gX5_look_X4_leap : GoodIn wsX5_look (wsV RX5 146 RX4 yX4_leap wsX4_leap) := goodIn_app (goodIn_of _ (by decide +kernel)) ggX5_look_X4_leap
set_option maxRecDepth 20000 in
theorem ggX5_look_X5_look : GoodIn wsX5_look wsX5_look := goodIn_r _ [0, 1, 2, 3, 4, 5, 6, 7, 8, 9, 10, 11, 12, 13, 14, 15, 16, 17, 18, 19, 20, 21, 22, 23, 24, 25, 26, 27, 28, 29, 30, 31, 32, 33, 34, 35, 36, 37, 38, 39, 40, 41, 42, 43, 44, 45, 46, 47, 48, 49, 50, 51, 52, 53, 54, 55, 56, 57, 58, 59, 60, 61, 62, 63, 64, 65, 66, 67, 68, 69, 70, 71, 72, 73, 74, 75, 76, 77, 78, 79, 80, 81, 82, 83, 84, 85, 86, 87, 88, 89, 90, 91, 92, 93, 94, 95, 96, 97, 98, 99, 100, 101, 102, 103, 104, 105, 106, 107, 108, 109, 110, 111, 112, 113, 114, 115, 116, 117, 118, 119, 120, 121, 122, 123, 124, 125, 126, 127, 128] (by decide +kernel) (by decide +kernel)
set_option maxRecDepth 20000 in
theorem gX5_look_X5_look : GoodIn wsX5_look (va_wsS RX5 261 yX5_look wsX5_look) := goodIn_app (goodIn_of _ (by decide +kernel)) ggX5_look_X5_look
set_option maxRecDepth 20000 in
theorem ggX5_look_X4_takeBack : GoodIn wsX5_look wsX4_takeBack := goodIn_r _ [91, 20, 77, 78, 79, 18, 80, 25, 46, 81, 26, 27, 28, 29, 30, 47, 38, 39, 34, 40, 41, 82, 83, 84, 85, 31, 32, 33, 35, 36, 37, 108, 109, 110, 111, 112, 113, 114, 115, 125, 126, 127, 128] (by decide +kernel) (by decide +kernel)
set_option maxRecDepth 20000 in
theorem gX5_look_X4_takeBack : GoodIn wsX5_look (wsV RX5 274 RX4 yX4_takeBack wsX4_takeBack) := goodIn_app (goodIn_of _ (by decide +kernel)) ggX5_look_X4_takeBack
set_option maxRecDepth 20000 in
theorem ggX5_look_X1_take : GoodIn wsX5_look wsX1_take := goodIn_r _ [95, 6, 7, 8, 11, 10, 96, 97, 98, 99, 9, 12, 13, 14, 116, 117, 118, 119, 120, 121, 122, 123, 124] (by decide +kernel) (by decide +kernel)
set_option maxRecDepth 20000 in
theorem gX5_look_X1_take : GoodIn wsX5_look (wsV RX5 278 RX1 yX1_take wsX1_take) := goodIn_app (goodIn_of _ (by decide +kernel)) ggX5_look_X1_take
set_option maxRecDepth 20000 in
theorem ggX5_look_X4_aloneBit : GoodIn wsX5_look wsX4_aloneBit := goodIn_r _ [103, 81, 30, 21, 22, 23, 18, 24, 25, 26, 27, 28, 29, 108, 109, 110, 111, 112, 113, 114, 115] (by decide +kernel) (by decide +kernel)
set_option maxRecDepth 20000 in
theorem gX5_look_X4_aloneBit : GoodIn wsX5_look (wsV RX5 282 RX4 yX4_aloneBit wsX4_aloneBit) := goodIn_app (goodIn_of _ (by decide +kernel)) ggX5_look_X4_aloneBit
set_option maxRecDepth 20000 in
theorem ggX5_look_X1_end : GoodIn wsX5_look wsX1_end := goodIn_r _ [107, 6, 14, 7, 9, 12, 116, 117, 118, 119, 120, 121, 122, 123, 124] (by decide +kernel) (by decide +kernel)
set_option maxRecDepth 20000 in
theorem gX5_look_X1_end : GoodIn wsX5_look (wsV RX5 285 RX1 yX1_end wsX1_end) := goodIn_app (goodIn_of _ (by decide +kernel)) ggX5_look_X1_end
theorem dX5_look_0 : decode cX5_look 0 = .ok (.iload_n 2, 1) := by decide +kernel
theorem dX5_look_1 : decode cX5_look 1 = .ok (.ifCond .lt 15, 3) := by decide +kernel
theorem dX5_look_4 : decode cX5_look 4 = .ok (.iload_n 2, 1) := by decide +kernel
theorem dX5_look_5 : decode cX5_look 5 = .ok (.aload_n 1, 1) := by decide +kernel
theorem dX5_look_6 : decode cX5_look 6 = .ok (.arraylength, 1) := by decide +kernel
theorem dX5_look_7 : decode cX5_look 7 = .ok (.if_icmp .ge 9, 3) := by decide +kernel
theorem dX5_look_10 : decode cX5_look 10 = .ok (.aload_n 1, 1) := by decide +kernel
theorem dX5_look_11 : decode cX5_look 11 = .ok (.iload_n 2, 1) := by decide +kernel
theorem dX5_look_12 : decode cX5_look 12 = .ok (.aaload, 1) := by decide +kernel
theorem dX5_look_13 : decode cX5_look 13 = .ok (.ifnonnull 4, 3) := by decide +kernel
theorem dX5_look_16 : decode cX5_look 16 = .ok (.return_, 1) := by decide +kernel
theorem dX5_look_17 : decode cX5_look 17 = .ok (.aload_n 1, 1) := by decide +kernel
theorem dX5_look_18 : decode cX5_look 18 = .ok (.iload_n 2, 1) := by decide +kernel
theorem dX5_look_19 : decode cX5_look 19 = .ok (.aaload, 1) := by decide +kernel
theorem dX5_look_20 : decode cX5_look 20 = .ok (.astore_n 3, 1) := by decide +kernel
theorem dX5_look_21 : decode cX5_look 21 = .ok (.aload_n 3, 1) := by decide +kernel
theorem dX5_look_22 : decode cX5_look 22 = .ok (.invokevirtual 268, 3) := by decide +kernel
theorem dX5_look_25 : decode cX5_look 25 = .ok (.iload_n 2, 1) := by decide +kernel
theorem dX5_look_26 : decode cX5_look 26 = .ok (.iconst 1, 1) := by decide +kernel
theorem dX5_look_27 : decode cX5_look 27 = .ok (.iadd, 1) := by decide +kernel
theorem dX5_look_28 : decode cX5_look 28 = .ok (.aload_n 1, 1) := by decide +kernel
theorem dX5_look_29 : decode cX5_look 29 = .ok (.arraylength, 1) := by decide +kernel
theorem dX5_look_30 : decode cX5_look 30 = .ok (.if_icmp .ge 11, 3) := by decide +kernel
theorem dX5_look_33 : decode cX5_look 33 = .ok (.aload_n 1, 1) := by decide +kernel
theorem dX5_look_34 : decode cX5_look 34 = .ok (.iload_n 2, 1) := by decide +kernel
theorem dX5_look_35 : decode cX5_look 35 = .ok (.iconst 1, 1) := by decide +kernel
theorem dX5_look_36 : decode cX5_look 36 = .ok (.iadd, 1) := by decide +kernel
theorem dX5_look_37 : decode cX5_look 37 = .ok (.aaload, 1) := by decide +kernel
theorem dX5_look_38 : decode cX5_look 38 = .ok (.goto 4, 3) := by decide +kernel
theorem dX5_look_41 : decode cX5_look 41 = .ok (.aconst_null, 1) := by decide +kernel
theorem dX5_look_42 : decode cX5_look 42 = .ok (.astore 4, 2) := by decide +kernel
theorem dX5_look_44 : decode cX5_look 44 = .ok (.iconst 0, 1) := by decide +kernel
theorem dX5_look_45 : decode cX5_look 45 = .ok (.istore 5, 2) := by decide +kernel
theorem dX5_look_47 : decode cX5_look 47 = .ok (.iload 5, 2) := by decide +kernel
theorem dX5_look_49 : decode cX5_look 49 = .ok (.aload_n 0, 1) := by decide +kernel
theorem dX5_look_50 : decode cX5_look 50 = .ok (.getfield 98, 3) := by decide +kernel
theorem dX5_look_53 : decode cX5_look 53 = .ok (.if_icmp .ge 108, 3) := by decide +kernel
theorem dX5_look_56 : decode cX5_look 56 = .ok (.aload 4, 2) := by decide +kernel
theorem dX5_look_58 : decode cX5_look 58 = .ok (.ifnull 103, 3) := by decide +kernel
theorem dX5_look_61 : decode cX5_look 61 = .ok (.iconst 0, 1) := by decide +kernel
theorem dX5_look_62 : decode cX5_look 62 = .ok (.istore 6, 2) := by decide +kernel
theorem dX5_look_64 : decode cX5_look 64 = .ok (.iload 6, 2) := by decide +kernel
theorem dX5_look_66 : decode cX5_look 66 = .ok (.bipush 8, 2) := by decide +kernel
theorem dX5_look_68 : decode cX5_look 68 = .ok (.if_icmp .ge 87, 3) := by decide +kernel
theorem dX5_look_71 : decode cX5_look 71 = .ok (.aload_n 0, 1) := by decide +kernel
theorem dX5_look_72 : decode cX5_look 72 = .ok (.iload 5, 2) := by decide +kernel
theorem dX5_look_74 : decode cX5_look 74 = .ok (.iload 6, 2) := by decide +kernel
theorem dX5_look_76 : decode cX5_look 76 = .ok (.invokevirtual 271, 3) := by decide +kernel
theorem dX5_look_79 : decode cX5_look 79 = .ok (.istore 7, 2) := by decide +kernel
theorem dX5_look_81 : decode cX5_look 81 = .ok (.iload 7, 2) := by decide +kernel
theorem dX5_look_83 : decode cX5_look 83 = .ok (.iconst (-1), 1) := by decide +kernel
theorem dX5_look_84 : decode cX5_look 84 = .ok (.if_icmp .eq 65, 3) := by decide +kernel
theorem dX5_look_87 : decode cX5_look 87 = .ok (.aload_n 0, 1) := by decide +kernel
theorem dX5_look_88 : decode cX5_look 88 = .ok (.iload 5, 2) := by decide +kernel
theorem dX5_look_90 : decode cX5_look 90 = .ok (.invokevirtual 107, 3) := by decide +kernel
theorem dX5_look_93 : decode cX5_look 93 = .ok (.istore 8, 2) := by decide +kernel
theorem dX5_look_95 : decode cX5_look 95 = .ok (.aload_n 0, 1) := by decide +kernel
theorem dX5_look_96 : decode cX5_look 96 = .ok (.iload 5, 2) := by decide +kernel
theorem dX5_look_98 : decode cX5_look 98 = .ok (.iload 6, 2) := by decide +kernel
theorem dX5_look_100 : decode cX5_look 100 = .ok (.invokevirtual 143, 3) := by decide +kernel
theorem dX5_look_103 : decode cX5_look 103 = .ok (.istore 9, 2) := by decide +kernel
theorem dX5_look_105 : decode cX5_look 105 = .ok (.aload_n 0, 1) := by decide +kernel
theorem dX5_look_106 : decode cX5_look 106 = .ok (.iload 5, 2) := by decide +kernel
theorem dX5_look_108 : decode cX5_look 108 = .ok (.iload 9, 2) := by decide +kernel
theorem dX5_look_110 : decode cX5_look 110 = .ok (.iload 7, 2) := by decide +kernel
theorem dX5_look_112 : decode cX5_look 112 = .ok (.invokevirtual 146, 3) := by decide +kernel
theorem dX5_look_115 : decode cX5_look 115 = .ok (.aload_n 0, 1) := by decide +kernel
theorem dX5_look_116 : decode cX5_look 116 = .ok (.aload_n 1, 1) := by decide +kernel
theorem dX5_look_117 : decode cX5_look 117 = .ok (.iload_n 2, 1) := by decide +kernel
theorem dX5_look_118 : decode cX5_look 118 = .ok (.iconst 1, 1) := by decide +kernel
theorem dX5_look_119 : decode cX5_look 119 = .ok (.iadd, 1) := by decide +kernel
theorem dX5_look_120 : decode cX5_look 120 = .ok (.invokestatic 261, 3) := by decide +kernel
theorem dX5_look_123 : decode cX5_look 123 = .ok (.aload_n 0, 1) := by decide +kernel
theorem dX5_look_124 : decode cX5_look 124 = .ok (.iload 5, 2) := by decide +kernel
theorem dX5_look_126 : decode cX5_look 126 = .ok (.iload 8, 2) := by decide +kernel
theorem dX5_look_128 : decode cX5_look 128 = .ok (.iload 9, 2) := by decide +kernel
theorem dX5_look_130 : decode cX5_look 130 = .ok (.iload 6, 2) := by decide +kernel
theorem dX5_look_132 : decode cX5_look 132 = .ok (.invokevirtual 274, 3) := by decide +kernel
theorem dX5_look_135 : decode cX5_look 135 = .ok (.aload_n 3, 1) := by decide +kernel
theorem dX5_look_136 : decode cX5_look 136 = .ok (.bipush 100, 2) := by decide +kernel
theorem dX5_look_138 : decode cX5_look 138 = .ok (.iload 5, 2) := by decide +kernel
theorem dX5_look_140 : decode cX5_look 140 = .ok (.imul, 1) := by decide +kernel
theorem dX5_look_141 : decode cX5_look 141 = .ok (.iload 7, 2) := by decide +kernel
theorem dX5_look_143 : decode cX5_look 143 = .ok (.iadd, 1) := by decide +kernel
theorem dX5_look_144 : decode cX5_look 144 = .ok (.aload 4, 2) := by decide +kernel
theorem dX5_look_146 : decode cX5_look 146 = .ok (.invokevirtual 278, 3) := by decide +kernel
theorem dX5_look_149 : decode cX5_look 149 = .ok (.iinc 6 1, 3) := by decide +kernel
theorem dX5_look_152 : decode cX5_look 152 = .ok (.goto (-88), 3) := by decide +kernel
theorem dX5_look_155 : decode cX5_look 155 = .ok (.iinc 5 1, 3) := by decide +kernel
theorem dX5_look_158 : decode cX5_look 158 = .ok (.goto (-111), 3) := by decide +kernel
theorem dX5_look_161 : decode cX5_look 161 = .ok (.aload_n 3, 1) := by decide +kernel
theorem dX5_look_162 : decode cX5_look 162 = .ok (.aload_n 0, 1) := by decide +kernel
theorem dX5_look_163 : decode cX5_look 163 = .ok (.getfield 150, 3) := by decide +kernel
theorem dX5_look_166 : decode cX5_look 166 = .ok (.aload_n 0, 1) := by decide +kernel
theorem dX5_look_167 : decode cX5_look 167 = .ok (.invokevirtual 282, 3) := by decide +kernel
theorem dX5_look_170 : decode cX5_look 170 = .ok (.invokevirtual 285, 3) := by decide +kernel
theorem dX5_look_173 : decode cX5_look 173 = .ok (.return_, 1) := by decide +kernel
theorem dX5_nextSeed_0 : decode cX5_nextSeed 0 = .ok (.ldc2_w 288, 3) := by decide +kernel
theorem dX5_nextSeed_3 : decode cX5_nextSeed 3 = .ok (.lload_n 0, 1) := by decide +kernel
theorem dX5_nextSeed_4 : decode cX5_nextSeed 4 = .ok (.lmul, 1) := by decide +kernel
theorem dX5_nextSeed_5 : decode cX5_nextSeed 5 = .ok (.ldc2_w 290, 3) := by decide +kernel
theorem dX5_nextSeed_8 : decode cX5_nextSeed 8 = .ok (.ladd, 1) := by decide +kernel
theorem dX5_nextSeed_9 : decode cX5_nextSeed 9 = .ok (.ldc2_w 292, 3) := by decide +kernel
theorem dX5_nextSeed_12 : decode cX5_nextSeed 12 = .ok (.lrem, 1) := by decide +kernel
theorem dX5_nextSeed_13 : decode cX5_nextSeed 13 = .ok (.lreturn, 1) := by decide +kernel
theorem dX5_hasBit_0 : decode cX5_hasBit 0 = .ok (.iload_n 1, 1) := by decide +kernel
theorem dX5_hasBit_1 : decode cX5_hasBit 1 = .ok (.ifCond .lt 16, 3) := by decide +kernel
theorem dX5_hasBit_4 : decode cX5_hasBit 4 = .ok (.iload_n 0, 1) := by decide +kernel
theorem dX5_hasBit_5 : decode cX5_hasBit 5 = .ok (.iload_n 1, 1) := by decide +kernel
theorem dX5_hasBit_6 : decode cX5_hasBit 6 = .ok (.ishr, 1) := by decide +kernel
theorem dX5_hasBit_7 : decode cX5_hasBit 7 = .ok (.iconst 1, 1) := by decide +kernel
theorem dX5_hasBit_8 : decode cX5_hasBit 8 = .ok (.iand, 1) := by decide +kernel
theorem dX5_hasBit_9 : decode cX5_hasBit 9 = .ok (.iconst 1, 1) := by decide +kernel
theorem dX5_hasBit_10 : decode cX5_hasBit 10 = .ok (.if_icmp .ne 7, 3) := by decide +kernel
theorem dX5_hasBit_13 : decode cX5_hasBit 13 = .ok (.iconst 1, 1) := by decide +kernel
theorem dX5_hasBit_14 : decode cX5_hasBit 14 = .ok (.goto 4, 3) := by decide +kernel
theorem dX5_hasBit_17 : decode cX5_hasBit 17 = .ok (.iconst 0, 1) := by decide +kernel
theorem dX5_hasBit_18 : decode cX5_hasBit 18 = .ok (.ireturn, 1) := by decide +kernel
set_option maxRecDepth 20000 in
theorem ggX5_kindCould_X5_hasBit : GoodIn wsX5_kindCould wsX5_hasBit := goodIn_r _ [5] (by decide +kernel) (by decide +kernel)
set_option maxRecDepth 20000 in
theorem gX5_kindCould_X5_hasBit : GoodIn wsX5_kindCould (va_wsS RX5 123 yX5_hasBit wsX5_hasBit) := goodIn_app (goodIn_of _ (by decide +kernel)) ggX5_kindCould_X5_hasBit
theorem dX5_kindCould_0 : decode cX5_kindCould 0 = .ok (.iload_n 1, 1) := by decide +kernel
theorem dX5_kindCould_1 : decode cX5_kindCould 1 = .ok (.ifCond .lt 24, 3) := by decide +kernel
theorem dX5_kindCould_4 : decode cX5_kindCould 4 = .ok (.iload_n 1, 1) := by decide +kernel
theorem dX5_kindCould_5 : decode cX5_kindCould 5 = .ok (.iconst 4, 1) := by decide +kernel
theorem dX5_kindCould_6 : decode cX5_kindCould 6 = .ok (.if_icmp .ge 19, 3) := by decide +kernel
theorem dX5_kindCould_9 : decode cX5_kindCould 9 = .ok (.getstatic 203, 3) := by decide +kernel
theorem dX5_kindCould_12 : decode cX5_kindCould 12 = .ok (.iload_n 1, 1) := by decide +kernel
theorem dX5_kindCould_13 : decode cX5_kindCould 13 = .ok (.iaload, 1) := by decide +kernel
theorem dX5_kindCould_14 : decode cX5_kindCould 14 = .ok (.iload_n 0, 1) := by decide +kernel
theorem dX5_kindCould_15 : decode cX5_kindCould 15 = .ok (.invokestatic 123, 3) := by decide +kernel
theorem dX5_kindCould_18 : decode cX5_kindCould 18 = .ok (.ifCond .eq 7, 3) := by decide +kernel
theorem dX5_kindCould_21 : decode cX5_kindCould 21 = .ok (.iconst 1, 1) := by decide +kernel
theorem dX5_kindCould_22 : decode cX5_kindCould 22 = .ok (.goto 4, 3) := by decide +kernel
theorem dX5_kindCould_25 : decode cX5_kindCould 25 = .ok (.iconst 0, 1) := by decide +kernel
theorem dX5_kindCould_26 : decode cX5_kindCould 26 = .ok (.ireturn, 1) := by decide +kernel
set_option maxRecDepth 20000 in
theorem ggX5_kindGoes_X5_hasBit : GoodIn wsX5_kindGoes wsX5_hasBit := goodIn_r _ [5] (by decide +kernel) (by decide +kernel)
set_option maxRecDepth 20000 in
theorem gX5_kindGoes_X5_hasBit : GoodIn wsX5_kindGoes (va_wsS RX5 123 yX5_hasBit wsX5_hasBit) := goodIn_app (goodIn_of _ (by decide +kernel)) ggX5_kindGoes_X5_hasBit
theorem dX5_kindGoes_0 : decode cX5_kindGoes 0 = .ok (.iload_n 1, 1) := by decide +kernel
theorem dX5_kindGoes_1 : decode cX5_kindGoes 1 = .ok (.ifCond .lt 25, 3) := by decide +kernel
theorem dX5_kindGoes_4 : decode cX5_kindGoes 4 = .ok (.iload_n 1, 1) := by decide +kernel
theorem dX5_kindGoes_5 : decode cX5_kindGoes 5 = .ok (.bipush 8, 2) := by decide +kernel
theorem dX5_kindGoes_7 : decode cX5_kindGoes 7 = .ok (.if_icmp .ge 19, 3) := by decide +kernel
theorem dX5_kindGoes_10 : decode cX5_kindGoes 10 = .ok (.getstatic 294, 3) := by decide +kernel
theorem dX5_kindGoes_13 : decode cX5_kindGoes 13 = .ok (.iload_n 1, 1) := by decide +kernel
theorem dX5_kindGoes_14 : decode cX5_kindGoes 14 = .ok (.iaload, 1) := by decide +kernel
theorem dX5_kindGoes_15 : decode cX5_kindGoes 15 = .ok (.iload_n 0, 1) := by decide +kernel
theorem dX5_kindGoes_16 : decode cX5_kindGoes 16 = .ok (.invokestatic 123, 3) := by decide +kernel
theorem dX5_kindGoes_19 : decode cX5_kindGoes 19 = .ok (.ifCond .eq 7, 3) := by decide +kernel
theorem dX5_kindGoes_22 : decode cX5_kindGoes 22 = .ok (.iconst 1, 1) := by decide +kernel
theorem dX5_kindGoes_23 : decode cX5_kindGoes 23 = .ok (.goto 4, 3) := by decide +kernel
theorem dX5_kindGoes_26 : decode cX5_kindGoes 26 = .ok (.iconst 0, 1) := by decide +kernel
theorem dX5_kindGoes_27 : decode cX5_kindGoes 27 = .ok (.ireturn, 1) := by decide +kernel
set_option maxRecDepth 20000 in
theorem ggX5_bestQuestion_J6_bitCount_0f7a4 : GoodIn wsX5_bestQuestion wsJ6_bitCount_0f7a4 := goodIn_r _ [9, 10, 11, 12] (by decide +kernel) (by decide +kernel)
set_option maxRecDepth 20000 in
theorem gX5_bestQuestion_J6_bitCount_0f7a4 : GoodIn wsX5_bestQuestion (va_wsS RX5 162 yJ6_bitCount_0f7a4 wsJ6_bitCount_0f7a4) := goodIn_app (goodIn_of _ (by decide +kernel)) ggX5_bestQuestion_J6_bitCount_0f7a4
theorem dX5_bestQuestion_0 : decode cX5_bestQuestion 0 = .ok (.iload_n 0, 1) := by decide +kernel
theorem dX5_bestQuestion_1 : decode cX5_bestQuestion 1 = .ok (.ifCond .ne 5, 3) := by decide +kernel
theorem dX5_bestQuestion_4 : decode cX5_bestQuestion 4 = .ok (.iconst (-1), 1) := by decide +kernel
theorem dX5_bestQuestion_5 : decode cX5_bestQuestion 5 = .ok (.ireturn, 1) := by decide +kernel
theorem dX5_bestQuestion_6 : decode cX5_bestQuestion 6 = .ok (.iconst (-1), 1) := by decide +kernel
theorem dX5_bestQuestion_7 : decode cX5_bestQuestion 7 = .ok (.istore_n 1, 1) := by decide +kernel
theorem dX5_bestQuestion_8 : decode cX5_bestQuestion 8 = .ok (.bipush 6, 2) := by decide +kernel
theorem dX5_bestQuestion_10 : decode cX5_bestQuestion 10 = .ok (.istore_n 2, 1) := by decide +kernel
theorem dX5_bestQuestion_11 : decode cX5_bestQuestion 11 = .ok (.iconst 0, 1) := by decide +kernel
theorem dX5_bestQuestion_12 : decode cX5_bestQuestion 12 = .ok (.istore_n 3, 1) := by decide +kernel
theorem dX5_bestQuestion_13 : decode cX5_bestQuestion 13 = .ok (.iload_n 3, 1) := by decide +kernel
theorem dX5_bestQuestion_14 : decode cX5_bestQuestion 14 = .ok (.iconst 4, 1) := by decide +kernel
theorem dX5_bestQuestion_15 : decode cX5_bestQuestion 15 = .ok (.if_icmp .ge 47, 3) := by decide +kernel
theorem dX5_bestQuestion_18 : decode cX5_bestQuestion 18 = .ok (.iload_n 0, 1) := by decide +kernel
theorem dX5_bestQuestion_19 : decode cX5_bestQuestion 19 = .ok (.getstatic 203, 3) := by decide +kernel
theorem dX5_bestQuestion_22 : decode cX5_bestQuestion 22 = .ok (.iload_n 3, 1) := by decide +kernel
theorem dX5_bestQuestion_23 : decode cX5_bestQuestion 23 = .ok (.iaload, 1) := by decide +kernel
theorem dX5_bestQuestion_24 : decode cX5_bestQuestion 24 = .ok (.iand, 1) := by decide +kernel
theorem dX5_bestQuestion_25 : decode cX5_bestQuestion 25 = .ok (.invokestatic 162, 3) := by decide +kernel
theorem dX5_bestQuestion_28 : decode cX5_bestQuestion 28 = .ok (.iload_n 0, 1) := by decide +kernel
theorem dX5_bestQuestion_29 : decode cX5_bestQuestion 29 = .ok (.getstatic 203, 3) := by decide +kernel
theorem dX5_bestQuestion_32 : decode cX5_bestQuestion 32 = .ok (.iload_n 3, 1) := by decide +kernel
theorem dX5_bestQuestion_33 : decode cX5_bestQuestion 33 = .ok (.iaload, 1) := by decide +kernel
theorem dX5_bestQuestion_34 : decode cX5_bestQuestion 34 = .ok (.iconst (-1), 1) := by decide +kernel
theorem dX5_bestQuestion_35 : decode cX5_bestQuestion 35 = .ok (.ixor, 1) := by decide +kernel
theorem dX5_bestQuestion_36 : decode cX5_bestQuestion 36 = .ok (.iand, 1) := by decide +kernel
theorem dX5_bestQuestion_37 : decode cX5_bestQuestion 37 = .ok (.invokestatic 162, 3) := by decide +kernel
theorem dX5_bestQuestion_40 : decode cX5_bestQuestion 40 = .ok (.invokestatic 297, 3) := by decide +kernel
theorem dX5_bestQuestion_43 : decode cX5_bestQuestion 43 = .ok (.istore 4, 2) := by decide +kernel
theorem dX5_bestQuestion_45 : decode cX5_bestQuestion 45 = .ok (.iload 4, 2) := by decide +kernel
theorem dX5_bestQuestion_47 : decode cX5_bestQuestion 47 = .ok (.iload_n 2, 1) := by decide +kernel
theorem dX5_bestQuestion_48 : decode cX5_bestQuestion 48 = .ok (.if_icmp .ge 8, 3) := by decide +kernel
theorem dX5_bestQuestion_51 : decode cX5_bestQuestion 51 = .ok (.iload 4, 2) := by decide +kernel
theorem dX5_bestQuestion_53 : decode cX5_bestQuestion 53 = .ok (.istore_n 2, 1) := by decide +kernel
theorem dX5_bestQuestion_54 : decode cX5_bestQuestion 54 = .ok (.iload_n 3, 1) := by decide +kernel
theorem dX5_bestQuestion_55 : decode cX5_bestQuestion 55 = .ok (.istore_n 1, 1) := by decide +kernel
theorem dX5_bestQuestion_56 : decode cX5_bestQuestion 56 = .ok (.iinc 3 1, 3) := by decide +kernel
theorem dX5_bestQuestion_59 : decode cX5_bestQuestion 59 = .ok (.goto (-46), 3) := by decide +kernel
theorem dX5_bestQuestion_62 : decode cX5_bestQuestion 62 = .ok (.iload_n 1, 1) := by decide +kernel
theorem dX5_bestQuestion_63 : decode cX5_bestQuestion 63 = .ok (.ireturn, 1) := by decide +kernel
end
section
theorem dJ6_bitCount_0f7a4_0 : decode cJ6_bitCount_0f7a4 0 = .ok (.iload_n 0, 1) := by decide +kernel
theorem dJ6_bitCount_0f7a4_1 : decode cJ6_bitCount_0f7a4 1 = .ok (.iload_n 0, 1) := by decide +kernel
theorem dJ6_bitCount_0f7a4_2 : decode cJ6_bitCount_0f7a4 2 = .ok (.iconst 1, 1) := by decide +kernel
theorem dJ6_bitCount_0f7a4_3 : decode cJ6_bitCount_0f7a4 3 = .ok (.iushr, 1) := by decide +kernel
theorem dJ6_bitCount_0f7a4_4 : decode cJ6_bitCount_0f7a4 4 = .ok (.ldc_w 265, 3) := by decide +kernel
theorem dJ6_bitCount_0f7a4_7 : decode cJ6_bitCount_0f7a4 7 = .ok (.iand, 1) := by decide +kernel
theorem dJ6_bitCount_0f7a4_8 : decode cJ6_bitCount_0f7a4 8 = .ok (.isub, 1) := by decide +kernel
theorem dJ6_bitCount_0f7a4_9 : decode cJ6_bitCount_0f7a4 9 = .ok (.istore_n 0, 1) := by decide +kernel
theorem dJ6_bitCount_0f7a4_10 : decode cJ6_bitCount_0f7a4 10 = .ok (.iload_n 0, 1) := by decide +kernel
theorem dJ6_bitCount_0f7a4_11 : decode cJ6_bitCount_0f7a4 11 = .ok (.ldc_w 266, 3) := by decide +kernel
theorem dJ6_bitCount_0f7a4_14 : decode cJ6_bitCount_0f7a4 14 = .ok (.iand, 1) := by decide +kernel
theorem dJ6_bitCount_0f7a4_15 : decode cJ6_bitCount_0f7a4 15 = .ok (.iload_n 0, 1) := by decide +kernel
theorem dJ6_bitCount_0f7a4_16 : decode cJ6_bitCount_0f7a4 16 = .ok (.iconst 2, 1) := by decide +kernel
theorem dJ6_bitCount_0f7a4_17 : decode cJ6_bitCount_0f7a4 17 = .ok (.iushr, 1) := by decide +kernel
theorem dJ6_bitCount_0f7a4_18 : decode cJ6_bitCount_0f7a4 18 = .ok (.ldc_w 266, 3) := by decide +kernel
theorem dJ6_bitCount_0f7a4_21 : decode cJ6_bitCount_0f7a4 21 = .ok (.iand, 1) := by decide +kernel
theorem dJ6_bitCount_0f7a4_22 : decode cJ6_bitCount_0f7a4 22 = .ok (.iadd, 1) := by decide +kernel
theorem dJ6_bitCount_0f7a4_23 : decode cJ6_bitCount_0f7a4 23 = .ok (.istore_n 0, 1) := by decide +kernel
theorem dJ6_bitCount_0f7a4_24 : decode cJ6_bitCount_0f7a4 24 = .ok (.iload_n 0, 1) := by decide +kernel
theorem dJ6_bitCount_0f7a4_25 : decode cJ6_bitCount_0f7a4 25 = .ok (.iload_n 0, 1) := by decide +kernel
theorem dJ6_bitCount_0f7a4_26 : decode cJ6_bitCount_0f7a4 26 = .ok (.iconst 4, 1) := by decide +kernel
theorem dJ6_bitCount_0f7a4_27 : decode cJ6_bitCount_0f7a4 27 = .ok (.iushr, 1) := by decide +kernel
theorem dJ6_bitCount_0f7a4_28 : decode cJ6_bitCount_0f7a4 28 = .ok (.iadd, 1) := by decide +kernel
theorem dJ6_bitCount_0f7a4_29 : decode cJ6_bitCount_0f7a4 29 = .ok (.ldc_w 267, 3) := by decide +kernel
theorem dJ6_bitCount_0f7a4_32 : decode cJ6_bitCount_0f7a4 32 = .ok (.iand, 1) := by decide +kernel
theorem dJ6_bitCount_0f7a4_33 : decode cJ6_bitCount_0f7a4 33 = .ok (.istore_n 0, 1) := by decide +kernel
theorem dJ6_bitCount_0f7a4_34 : decode cJ6_bitCount_0f7a4 34 = .ok (.iload_n 0, 1) := by decide +kernel
theorem dJ6_bitCount_0f7a4_35 : decode cJ6_bitCount_0f7a4 35 = .ok (.iload_n 0, 1) := by decide +kernel
theorem dJ6_bitCount_0f7a4_36 : decode cJ6_bitCount_0f7a4 36 = .ok (.bipush 8, 2) := by decide +kernel
theorem dJ6_bitCount_0f7a4_38 : decode cJ6_bitCount_0f7a4 38 = .ok (.iushr, 1) := by decide +kernel
theorem dJ6_bitCount_0f7a4_39 : decode cJ6_bitCount_0f7a4 39 = .ok (.iadd, 1) := by decide +kernel
theorem dJ6_bitCount_0f7a4_40 : decode cJ6_bitCount_0f7a4 40 = .ok (.istore_n 0, 1) := by decide +kernel
theorem dJ6_bitCount_0f7a4_41 : decode cJ6_bitCount_0f7a4 41 = .ok (.iload_n 0, 1) := by decide +kernel
theorem dJ6_bitCount_0f7a4_42 : decode cJ6_bitCount_0f7a4 42 = .ok (.iload_n 0, 1) := by decide +kernel
theorem dJ6_bitCount_0f7a4_43 : decode cJ6_bitCount_0f7a4 43 = .ok (.bipush 16, 2) := by decide +kernel
theorem dJ6_bitCount_0f7a4_45 : decode cJ6_bitCount_0f7a4 45 = .ok (.iushr, 1) := by decide +kernel
theorem dJ6_bitCount_0f7a4_46 : decode cJ6_bitCount_0f7a4 46 = .ok (.iadd, 1) := by decide +kernel
theorem dJ6_bitCount_0f7a4_47 : decode cJ6_bitCount_0f7a4 47 = .ok (.istore_n 0, 1) := by decide +kernel
theorem dJ6_bitCount_0f7a4_48 : decode cJ6_bitCount_0f7a4 48 = .ok (.iload_n 0, 1) := by decide +kernel
theorem dJ6_bitCount_0f7a4_49 : decode cJ6_bitCount_0f7a4 49 = .ok (.bipush 63, 2) := by decide +kernel
theorem dJ6_bitCount_0f7a4_51 : decode cJ6_bitCount_0f7a4 51 = .ok (.iand, 1) := by decide +kernel
theorem dJ6_bitCount_0f7a4_52 : decode cJ6_bitCount_0f7a4 52 = .ok (.ireturn, 1) := by decide +kernel
theorem dJ9_max_7cf53_0 : decode cJ9_max_7cf53 0 = .ok (.iload_n 0, 1) := by decide +kernel
theorem dJ9_max_7cf53_1 : decode cJ9_max_7cf53 1 = .ok (.iload_n 1, 1) := by decide +kernel
theorem dJ9_max_7cf53_2 : decode cJ9_max_7cf53 2 = .ok (.if_icmp .lt 7, 3) := by decide +kernel
theorem dJ9_max_7cf53_5 : decode cJ9_max_7cf53 5 = .ok (.iload_n 0, 1) := by decide +kernel
theorem dJ9_max_7cf53_6 : decode cJ9_max_7cf53 6 = .ok (.goto 4, 3) := by decide +kernel
theorem dJ9_max_7cf53_9 : decode cJ9_max_7cf53 9 = .ok (.iload_n 1, 1) := by decide +kernel
theorem dJ9_max_7cf53_10 : decode cJ9_max_7cf53 10 = .ok (.ireturn, 1) := by decide +kernel
end
section
set_option maxHeartbeats 4000000 in
set_option maxRecDepth 100000 in
theorem c_J6_bitCount_0f7a4 (l : Launch) (D : va_G) (cI cB cO : ClassId)   (a0 : Int32) (rv : Int32) (sz : Nat) (h : fJ6_bitCount_0f7a4 a0 = some rv) : Met l yJ6_bitCount_0f7a4 wsJ6_bitCount_0f7a4 ({ frames := 0, cells := 0, slots := 0, locals := 0 } : Room) (va_Pc [.int a0] (zPre D (zTY cI cB cO) ([] : va_W) sz)) (va_Qi (fun r (_ : Unit) => r = rv) (fun _ => zPost D (zTY cI cB cO) ([] : va_W) (va_A ([] : va_W) sz)) (va_A ([] : va_W) sz)) 0 0 (va_A ([] : va_W) sz) := by
  unfold fJ6_bitCount_0f7a4 at h
  refine zmet_i (cc := cJ6_bitCount_0f7a4) (maxL := 1) (by decide) rfl (Nat.le_of_ble_eq_true rfl) rfl rfl ?_
  intro p e s m args below meth c R Q A ls hx hb hts hown hml hK hP hD hE hA hS hRf hRl hl hq
  have hown : s.vm.findClass RJ6 = some m.cls := hown
  have hl : lv_has ls 1 [(0, .int a0)] := hl
  refine lv_iload_n hx hb dJ6_bitCount_0f7a4_0 rfl (lv_at hl 0 rfl) ?_
  refine lv_iload_n hx hb dJ6_bitCount_0f7a4_1 rfl (lv_at hl 0 rfl) ?_
  refine lv_iconst (v := (1 : Int32)) hx hb dJ6_bitCount_0f7a4_2 (by decide) ?_
  refine lv_iushr (v := ((a0).toUInt32 >>> (((1 : Int32)).toUInt32 &&& Int32.toUInt32 31)).toInt32) hx hb dJ6_bitCount_0f7a4_3 rfl ?_
  refine lv_ldcw (v := (1431655765 : Int32)) hx hb hown (hts (.constant RJ6 265 (1431655765)) (by decide +kernel)) dJ6_bitCount_0f7a4_4 ?_
  refine lv_iand hx hb dJ6_bitCount_0f7a4_7 ?_
  refine lv_isub hx hb dJ6_bitCount_0f7a4_8 ?_
  refine lv_topi (fun x0_1 ex0_1 => ?_)
  have h := zlt_s h ex0_1
  refine lv_istore_n (lv' := [(0, .int x0_1)]) hx hb dJ6_bitCount_0f7a4_9 rfl hl (by decide) rfl (fun ls hl => ?_)
  refine lv_iload_n hx hb dJ6_bitCount_0f7a4_10 rfl (lv_at hl 0 rfl) ?_
  refine lv_ldcw (v := (858993459 : Int32)) hx hb hown (hts (.constant RJ6 266 (858993459)) (by decide +kernel)) dJ6_bitCount_0f7a4_11 ?_
  refine lv_iand hx hb dJ6_bitCount_0f7a4_14 ?_
  refine lv_iload_n hx hb dJ6_bitCount_0f7a4_15 rfl (lv_at hl 0 rfl) ?_
  refine lv_iconst (v := (2 : Int32)) hx hb dJ6_bitCount_0f7a4_16 (by decide) ?_
  refine lv_iushr (v := ((x0_1).toUInt32 >>> (((2 : Int32)).toUInt32 &&& Int32.toUInt32 31)).toInt32) hx hb dJ6_bitCount_0f7a4_17 rfl ?_
  refine lv_ldcw (v := (858993459 : Int32)) hx hb hown (hts (.constant RJ6 266 (858993459)) (by decide +kernel)) dJ6_bitCount_0f7a4_18 ?_
  refine lv_iand hx hb dJ6_bitCount_0f7a4_21 ?_
  refine lv_iadd hx hb dJ6_bitCount_0f7a4_22 ?_
  refine lv_topi (fun x0_2 ex0_2 => ?_)
  have h := zlt_s h ex0_2
  refine lv_istore_n (lv' := [(0, .int x0_2)]) hx hb dJ6_bitCount_0f7a4_23 rfl hl (by decide) rfl (fun ls hl => ?_)
  refine lv_iload_n hx hb dJ6_bitCount_0f7a4_24 rfl (lv_at hl 0 rfl) ?_
  refine lv_iload_n hx hb dJ6_bitCount_0f7a4_25 rfl (lv_at hl 0 rfl) ?_
  refine lv_iconst (v := (4 : Int32)) hx hb dJ6_bitCount_0f7a4_26 (by decide) ?_
  refine lv_iushr (v := ((x0_2).toUInt32 >>> (((4 : Int32)).toUInt32 &&& Int32.toUInt32 31)).toInt32) hx hb dJ6_bitCount_0f7a4_27 rfl ?_
  refine lv_iadd hx hb dJ6_bitCount_0f7a4_28 ?_
  refine lv_ldcw (v := (252645135 : Int32)) hx hb hown (hts (.constant RJ6 267 (252645135)) (by decide +kernel)) dJ6_bitCount_0f7a4_29 ?_
  refine lv_iand hx hb dJ6_bitCount_0f7a4_32 ?_
  refine lv_topi (fun x0_3 ex0_3 => ?_)
  have h := zlt_s h ex0_3
  refine lv_istore_n (lv' := [(0, .int x0_3)]) hx hb dJ6_bitCount_0f7a4_33 rfl hl (by decide) rfl (fun ls hl => ?_)
  refine lv_iload_n hx hb dJ6_bitCount_0f7a4_34 rfl (lv_at hl 0 rfl) ?_
  refine lv_iload_n hx hb dJ6_bitCount_0f7a4_35 rfl (lv_at hl 0 rfl) ?_
  refine lv_bipush (v := (8 : Int32)) hx hb dJ6_bitCount_0f7a4_36 (by decide) ?_
  refine lv_iushr (v := ((x0_3).toUInt32 >>> (((8 : Int32)).toUInt32 &&& Int32.toUInt32 31)).toInt32) hx hb dJ6_bitCount_0f7a4_38 rfl ?_
  refine lv_iadd hx hb dJ6_bitCount_0f7a4_39 ?_
  refine lv_topi (fun x0_4 ex0_4 => ?_)
  have h := zlt_s h ex0_4
  refine lv_istore_n (lv' := [(0, .int x0_4)]) hx hb dJ6_bitCount_0f7a4_40 rfl hl (by decide) rfl (fun ls hl => ?_)
  refine lv_iload_n hx hb dJ6_bitCount_0f7a4_41 rfl (lv_at hl 0 rfl) ?_
  refine lv_iload_n hx hb dJ6_bitCount_0f7a4_42 rfl (lv_at hl 0 rfl) ?_
  refine lv_bipush (v := (16 : Int32)) hx hb dJ6_bitCount_0f7a4_43 (by decide) ?_
  refine lv_iushr (v := ((x0_4).toUInt32 >>> (((16 : Int32)).toUInt32 &&& Int32.toUInt32 31)).toInt32) hx hb dJ6_bitCount_0f7a4_45 rfl ?_
  refine lv_iadd hx hb dJ6_bitCount_0f7a4_46 ?_
  refine lv_topi (fun x0_5 ex0_5 => ?_)
  have h := zlt_s h ex0_5
  refine lv_istore_n (lv' := [(0, .int x0_5)]) hx hb dJ6_bitCount_0f7a4_47 rfl hl (by decide) rfl (fun ls hl => ?_)
  refine lv_iload_n hx hb dJ6_bitCount_0f7a4_48 rfl (lv_at hl 0 rfl) ?_
  refine lv_bipush (v := (63 : Int32)) hx hb dJ6_bitCount_0f7a4_49 (by decide) ?_
  refine lv_iand hx hb dJ6_bitCount_0f7a4_51 ?_
  cases zend h
  exact hq hP hD hS dJ6_bitCount_0f7a4_52
end
section
set_option maxHeartbeats 4000000 in
set_option maxRecDepth 100000 in
theorem c_X0_placeAt (l : Launch) (D : va_G) (cI cB cO : ClassId) (Go : Nat) (Gp : Nat → Nat) (Gs : Nat → Int32) (Ga : Nat → Nat → Int32) (a0 : Int32) (a1 : Int32) (rv : Int32) (sz : Nat) (h : fX0_placeAt Gs a0 a1 = some rv) : Met l yX0_placeAt wsX0_placeAt ({ frames := 0, cells := 0, slots := 0, locals := 0 } : Room) (va_Pc [.ref Go, .int a0, .int a1] (zPre D (zTY cI cB cO) (zwG cI Go Gp Gs Ga) sz)) (va_Qi (fun r (_ : Unit) => r = rv) (fun _ => zPost D (zTY cI cB cO) (zwG cI Go Gp Gs Ga) (va_A (zwG cI Go Gp Gs Ga) sz)) (va_A (zwG cI Go Gp Gs Ga) sz)) 0 0 (va_A (zwG cI Go Gp Gs Ga) sz) := by
  unfold fX0_placeAt at h
  refine zmet_i (cc := cX0_placeAt) (maxL := 4) (by decide) rfl (Nat.le_of_ble_eq_true rfl) rfl rfl ?_
  intro p e s m args below meth c R Q A ls hx hb hts hown hml hK hP hD hE hA hS hRf hRl hl hq
  have hown : s.vm.findClass RX0 = some m.cls := hown
  have hl : lv_has ls 4 [(0, .ref Go), (1, .int a0), (2, .int a1)] := hl
  have inX0 : ∀ w ∈ u_ws RX0 TX0 4, w ∈ wsX0_placeAt := by decide +kernel
  have lk15 : (Cond.fieldLink RX0 15 "PegField$Grid" "rows" "I").before args s = true := hts _ (by decide +kernel)
  have lk19 : (Cond.fieldLink RX0 19 "PegField$Grid" "columns" "I").before args s = true := hts _ (by decide +kernel)
  refine lv_iload_n hx hb dX0_placeAt_0 rfl (lv_at hl 1 rfl) ?_
  obtain ⟨v29, j2, h⟩ := zb1_s h
  have K29 : ∀ (H : Heap) (locs : List Loc) (ls : Array Slot), va_P D vwCl (zwG cI Go Gp Gs Ga) H → va_D A (zwG cI Go Gp Gs Ga) → va_S A s.heap H locs → lv_has ls 4 [(0, .ref Go), (1, .int a0), (2, .int a1)] → W p l e R s m args below meth c H locs 0 0 Q (F0 m 29 ls [.int v29]) := by
    intro H locs ls hP hD hS hl
    refine lv_istore_n (lv' := [(3, .int v29), (0, .ref Go), (1, .int a0), (2, .int a1)]) hx hb dX0_placeAt_29 rfl hl (by decide) rfl (fun ls hl => ?_)
    refine lv_iload_n hx hb dX0_placeAt_30 rfl (lv_at hl 0 rfl) ?_
    refine lv_if_eq (tgt := 45) hx hb dX0_placeAt_31 (by decide) (fun c1 => ?_) (fun c1 => ?_)
    · have h := zif_t c1 h
      refine lv_iconst (v := (-1 : Int32)) hx hb dX0_placeAt_45 (by decide) ?_
      cases zend h
      exact hq hP hD hS dX0_placeAt_46
    · have h := zif_f c1 h
      refine lv_iload_n hx hb dX0_placeAt_34 rfl (lv_at hl 2 rfl) ?_
      refine lv_aload_n hx hb dX0_placeAt_35 rfl (lv_at hl 1 rfl) ?_
      refine va_get (D := D) (ci := 0) (v := .int (Gs 1)) (C := RX0) (T := TX0) (N := 4) hx hb hts inX0 hown hK hP 0 rfl rfl 1 (by decide) lk19 (fun _ h9 => h9) rfl dX0_placeAt_36 ?_
      refine lv_imul hx hb dX0_placeAt_39 ?_
      refine lv_iload_n hx hb dX0_placeAt_40 rfl (lv_at hl 3 rfl) ?_
      refine lv_iadd hx hb dX0_placeAt_41 ?_
      refine lv_goto (tgt := 46) hx hb dX0_placeAt_42 (by decide) ?_
      cases zend h
      exact hq hP hD hS dX0_placeAt_46
  clear h
  have h := j2
  clear j2
  obtain ⟨J28, eJ28, h⟩ := zjn_s h
  have K28 : ∀ (u : Unit), J28 u = some v29 → ∀ (H : Heap) (locs : List Loc) (ls : Array Slot), va_P D vwCl (zwG cI Go Gp Gs Ga) H → va_D A (zwG cI Go Gp Gs Ga) → va_S A s.heap H locs → lv_has ls 4 [(0, .ref Go), (1, .int a0), (2, .int a1)] → W p l e R s m args below meth c H locs 0 0 Q (F0 m 28 ls []) := by
    subst eJ28
    intro u h H locs ls hP hD hS hl
    refine lv_iconst (v := (0 : Int32)) hx hb dX0_placeAt_28 (by decide) ?_
    cases zend h
    exact K29 _ _ _ hP hD hS (lv_sub hl [0, 1, 2] rfl)
  clear eJ28
  refine lv_if_lt (tgt := 28) hx hb dX0_placeAt_1 (by decide) (fun c3 => ?_) (fun c3 => ?_)
  · have h := zif_t c3 h
    exact K28 _ h _ _ _ hP hD hS (lv_sub hl [0, 1, 2] rfl)
  · have h := zif_f c3 h
    refine lv_iload_n hx hb dX0_placeAt_4 rfl (lv_at hl 1 rfl) ?_
    refine lv_aload_n hx hb dX0_placeAt_5 rfl (lv_at hl 0 rfl) ?_
    refine va_get (D := D) (ci := 0) (v := .int (Gs 0)) (C := RX0) (T := TX0) (N := 4) hx hb hts inX0 hown hK hP 0 rfl rfl 0 (by decide) lk15 (fun _ h9 => h9) rfl dX0_placeAt_6 ?_
    refine lv_icmp_ge (tgt := 28) hx hb dX0_placeAt_9 (by decide) (fun c4 => ?_) (fun c4 => ?_)
    · have h := zif_t c4 h
      exact K28 _ h _ _ _ hP hD hS (lv_sub hl [0, 1, 2] rfl)
    · have h := zif_f c4 h
      refine lv_iload_n hx hb dX0_placeAt_12 rfl (lv_at hl 2 rfl) ?_
      refine lv_if_lt (tgt := 28) hx hb dX0_placeAt_13 (by decide) (fun c5 => ?_) (fun c5 => ?_)
      · have h := zif_t c5 h
        exact K28 _ h _ _ _ hP hD hS (lv_sub hl [0, 1, 2] rfl)
      · have h := zif_f c5 h
        refine lv_iload_n hx hb dX0_placeAt_16 rfl (lv_at hl 2 rfl) ?_
        refine lv_aload_n hx hb dX0_placeAt_17 rfl (lv_at hl 0 rfl) ?_
        refine va_get (D := D) (ci := 0) (v := .int (Gs 1)) (C := RX0) (T := TX0) (N := 4) hx hb hts inX0 hown hK hP 0 rfl rfl 1 (by decide) lk19 (fun _ h9 => h9) rfl dX0_placeAt_18 ?_
        refine lv_icmp_ge (tgt := 28) hx hb dX0_placeAt_21 (by decide) (fun c6 => ?_) (fun c6 => ?_)
        · have h := zif_t c6 h
          exact K28 _ h _ _ _ hP hD hS (lv_sub hl [0, 1, 2] rfl)
        · have h := zif_f c6 h
          refine lv_iconst (v := (1 : Int32)) hx hb dX0_placeAt_24 (by decide) ?_
          refine lv_goto (tgt := 29) hx hb dX0_placeAt_25 (by decide) ?_
          cases zend h
          exact K29 _ _ _ hP hD hS (lv_sub hl [0, 1, 2] rfl)
set_option maxHeartbeats 4000000 in
set_option maxRecDepth 100000 in
theorem c_X0_lay (l : Launch) (D : va_G) (cI cB cO : ClassId) (Go : Nat) (Gp : Nat → Nat) (Gs : Nat → Int32) (Ga : Nat → Nat → Int32) (a0 : Int32) (a1 : Int32) (Gs' : Nat → Int32) (Ga' : Nat → Nat → Int32) (sz : Nat) (h : fX0_lay Gs Ga a0 a1 = some (Gs', Ga')) : Met l yX0_lay wsX0_lay ({ frames := 1, cells := 0, slots := 0, locals := 23 } : Room) (va_Pc [.ref Go, .int a0, .int a1] (zPre D (zTY cI cB cO) (zwG cI Go Gp Gs Ga) sz)) (va_Qv (fun (_ : Unit) => True) (fun _ => zPost D (zTY cI cB cO) (zwG cI Go Gp Gs' Ga') (va_A (zwG cI Go Gp Gs Ga) sz)) (va_A (zwG cI Go Gp Gs Ga) sz)) 0 0 (va_A (zwG cI Go Gp Gs Ga) sz) := by
  unfold fX0_lay at h
  refine zmet_v (cc := cX0_lay) (maxL := 7) (by decide) rfl (Nat.le_of_ble_eq_true rfl) rfl rfl ?_
  intro p e s m args below meth c R Q A ls hx hb hts hown hml hK hP hD hE hA hS hRf hRl hl hq
  have hown : s.vm.findClass RX0 = some m.cls := hown
  have hl : lv_has ls 7 [(0, .ref Go), (1, .int a0), (2, .int a1)] := hl
  obtain ⟨tCOLUMN_STEPS, zzCOLUMN_STEPS, ztCOLUMN_STEPS⟩ := hE.1.2.2.2.2.1
  obtain ⟨tROW_STEPS, zzROW_STEPS, ztROW_STEPS⟩ := hE.1.2.2.2.1
  have inX0 : ∀ w ∈ u_ws RX0 TX0 4, w ∈ wsX0_lay := by decide +kernel
  have lk15 : (Cond.fieldLink RX0 15 "PegField$Grid" "rows" "I").before args s = true := hts _ (by decide +kernel)
  have lk19 : (Cond.fieldLink RX0 19 "PegField$Grid" "columns" "I").before args s = true := hts _ (by decide +kernel)
  have lk22 : (Cond.fieldLink RX0 22 "PegField$Grid" "places" "I").before args s = true := hts _ (by decide +kernel)
  have lk9 : (Cond.fieldLink RX0 9 "PegField$Grid" "beside" "[I").before args s = true := hts _ (by decide +kernel)
  have lk25 : (Cond.fieldLinkNest RX0 25 "PegField" "ROW_STEPS" "[I" "PegField").before args s = true := hE.2.use (by decide +kernel)
  have lk28 : (Cond.fieldLinkNest RX0 28 "PegField" "COLUMN_STEPS" "[I" "PegField").before args s = true := hE.2.use (by decide +kernel)
  refine lv_iload_n hx hb dX0_lay_0 rfl (lv_at hl 1 rfl) ?_
  obtain ⟨v23, j17, h⟩ := zb1_s h
  have K23 : ∀ (H : Heap) (locs : List Loc) (ls : Array Slot), va_P D vwCl (zwG cI Go Gp Gs Ga) H → va_D A (zwG cI Go Gp Gs Ga) → va_S A s.heap H locs → lv_has ls 7 [(0, .ref Go), (1, .int a0), (2, .int a1)] → W p l e R s m args below meth c H locs 0 0 Q (F0 m 23 ls [.int v23]) := by
    intro H locs ls hP hD hS hl
    refine lv_istore_n (lv' := [(3, .int v23), (0, .ref Go), (1, .int a0), (2, .int a1)]) hx hb dX0_lay_23 rfl hl (by decide) rfl (fun ls hl => ?_)
    refine lv_iload_n hx hb dX0_lay_24 rfl (lv_at hl 0 rfl) ?_
    refine lv_if_eq (tgt := 36) hx hb dX0_lay_25 (by decide) (fun c1 => ?_) (fun c1 => ?_)
    · have h := zif_t c1 h
      cases zend h
      exact hq hP hD hS dX0_lay_36
    · have h := zif_f c1 h
      refine lv_iload_n hx hb dX0_lay_28 rfl (lv_at hl 2 rfl) ?_
      refine lv_iload_n hx hb dX0_lay_29 rfl (lv_at hl 3 rfl) ?_
      refine lv_imul hx hb dX0_lay_30 ?_
      refine lv_bipush (v := (12 : Int32)) hx hb dX0_lay_31 (by decide) ?_
      refine lv_icmp_le (tgt := 37) hx hb dX0_lay_33 (by decide) (fun c2 => ?_) (fun c2 => ?_)
      · have h := zif_t c2 h
        refine lv_aload_n hx hb dX0_lay_37 rfl (lv_at hl 1 rfl) ?_
        refine lv_iload_n hx hb dX0_lay_38 rfl (lv_at hl 2 rfl) ?_
        refine va_put (D := D) (ci := 0) (v := .int a0) (ty := .int) (C := RX0) (T := TX0) (N := 4) hx hb hts inX0 tyX0 tyX0_ok nmX0 hown hK hP hD hS 0 rfl rfl 0 (by decide) lk15 (fun _ h9 => h9) rfl (by decide +kernel) rfl rfl (Nat.le_of_ble_eq_true rfl) dX0_lay_39 (fun H locs hP hD hS => ?_)
        have hP : va_P D vwCl (zwG cI Go Gp (upd Gs 0 a0) Ga) H := hP
        have hD : va_D A (zwG cI Go Gp (upd Gs 0 a0) Ga) := hD
        refine lv_aload_n hx hb dX0_lay_42 rfl (lv_at hl 1 rfl) ?_
        refine lv_iload_n hx hb dX0_lay_43 rfl (lv_at hl 3 rfl) ?_
        refine va_put (D := D) (ci := 0) (v := .int a1) (ty := .int) (C := RX0) (T := TX0) (N := 4) hx hb hts inX0 tyX0 tyX0_ok nmX0 hown hK hP hD hS 0 rfl rfl 1 (by decide) lk19 (fun _ h9 => h9) rfl (by decide +kernel) rfl rfl (Nat.le_of_ble_eq_true rfl) dX0_lay_44 (fun H locs hP hD hS => ?_)
        have hP : va_P D vwCl (zwG cI Go Gp (upd (upd Gs 0 a0) 1 a1) Ga) H := hP
        have hD : va_D A (zwG cI Go Gp (upd (upd Gs 0 a0) 1 a1) Ga) := hD
        refine lv_aload_n hx hb dX0_lay_47 rfl (lv_at hl 1 rfl) ?_
        refine lv_iload_n hx hb dX0_lay_48 rfl (lv_at hl 2 rfl) ?_
        refine lv_iload_n hx hb dX0_lay_49 rfl (lv_at hl 3 rfl) ?_
        refine lv_imul hx hb dX0_lay_50 ?_
        refine va_put (D := D) (ci := 0) (v := .int (a0 * a1)) (ty := .int) (C := RX0) (T := TX0) (N := 4) hx hb hts inX0 tyX0 tyX0_ok nmX0 hown hK hP hD hS 0 rfl rfl 2 (by decide) lk22 (fun _ h9 => h9) rfl (by decide +kernel) rfl rfl (Nat.le_of_ble_eq_true rfl) dX0_lay_51 (fun H locs hP hD hS => ?_)
        have hP : va_P D vwCl (zwG cI Go Gp (upd (upd (upd Gs 0 a0) 1 a1) 2 (a0 * a1)) Ga) H := hP
        have hD : va_D A (zwG cI Go Gp (upd (upd (upd Gs 0 a0) 1 a1) 2 (a0 * a1)) Ga) := hD
        refine lv_iconst (v := (0 : Int32)) hx hb dX0_lay_54 (by decide) ?_
        refine lv_istore (lv' := [(4, .int (0 : Int32)), (3, .int v23), (0, .ref Go), (1, .int a0), (2, .int a1)]) hx hb dX0_lay_55 hl (by decide) rfl (fun ls hl => ?_)
        obtain ⟨Ga_149x57, i16, h⟩ := zb1_s h
        have KX149 : ∀ (H : Heap) (locs : List Loc) (ls : Array Slot), va_P D vwCl (zwG cI Go Gp (upd (upd (upd Gs 0 a0) 1 a1) 2 (a0 * a1)) Ga_149x57) H → va_D A (zwG cI Go Gp (upd (upd (upd Gs 0 a0) 1 a1) 2 (a0 * a1)) Ga_149x57) → va_S A s.heap H locs → lv_has ls 7 [] → W p l e R s m args below meth c H locs 0 0 Q (F0 m 149 ls []) := by
          intro H locs ls hP hD hS hl
          cases zend h
          exact hq hP hD hS dX0_lay_149
        clear h
        refine zi2_ind (P := (fun (x4_57h : Int32) (Ga_57h : Nat → Nat → Int32) => ∀ (H : Heap) (locs : List Loc) (ls : Array Slot), va_P D vwCl (zwG cI Go Gp (upd (upd (upd Gs 0 a0) 1 a1) 2 (a0 * a1)) Ga_57h) H → va_D A (zwG cI Go Gp (upd (upd (upd Gs 0 a0) 1 a1) 2 (a0 * a1)) Ga_57h) → va_S A s.heap H locs → lv_has ls 7 [(0, .ref Go), (4, .int x4_57h)] → W p l e R s m args below meth c H locs 0 0 Q (F0 m 57 ls []))) ?_ i16 _ _ _ hP hD hS (lv_sub hl [2, 0] rfl)
        clear i16 hP hD hS hl
        intro x4_57h Ga_57h z57 h zl57 zr57 H locs ls hP hD hS hl
        refine lv_iload hx hb dX0_lay_57 (lv_at hl 1 rfl) ?_
        refine lv_aload_n hx hb dX0_lay_59 rfl (lv_at hl 0 rfl) ?_
        refine va_get (D := D) (ci := 0) (v := .int a0) (C := RX0) (T := TX0) (N := 4) hx hb hts inX0 hown hK hP 0 rfl rfl 0 (by decide) lk15 (fun _ h9 => h9) rfl dX0_lay_60 ?_
        refine lv_icmp_ge (tgt := 149) hx hb dX0_lay_63 (by decide) (fun c4 => ?_) (fun c4 => ?_)
        · have h := zif_t c4 h
          cases zr57 _ (zend h).symm
          exact KX149 _ _ _ hP hD hS (lv_sub hl [] rfl)
        · have h := zif_f c4 h
          refine lv_iconst (v := (0 : Int32)) hx hb dX0_lay_66 (by decide) ?_
          refine lv_istore (lv' := [(5, .int (0 : Int32)), (0, .ref Go), (4, .int x4_57h)]) hx hb dX0_lay_67 hl (by decide) rfl (fun ls hl => ?_)
          obtain ⟨Ga_143x69, i15, h⟩ := zb1_s h
          have KX143 : ∀ (H : Heap) (locs : List Loc) (ls : Array Slot), va_P D vwCl (zwG cI Go Gp (upd (upd (upd Gs 0 a0) 1 a1) 2 (a0 * a1)) Ga_143x69) H → va_D A (zwG cI Go Gp (upd (upd (upd Gs 0 a0) 1 a1) 2 (a0 * a1)) Ga_143x69) → va_S A s.heap H locs → lv_has ls 7 [(0, .ref Go), (4, .int x4_57h)] → W p l e R s m args below meth c H locs 0 0 Q (F0 m 143 ls []) := by
            intro H locs ls hP hD hS hl
            refine lv_iinc (v := (x4_57h + (1 : Int32))) (lv' := [(4, .int (x4_57h + (1 : Int32))), (0, .ref Go)]) hx hb dX0_lay_143 hl (k := 1) rfl rfl (by decide) rfl (fun ls hl => ?_)
            refine lv_goto (tgt := 57) hx hb dX0_lay_146 (by decide) ?_
            exact zl57 _ _ (zend h).symm _ _ _ hP hD hS (lv_sub hl [1, 0] rfl)
          clear h
          refine zi2_ind (P := (fun (x5_69h : Int32) (Ga_69h : Nat → Nat → Int32) => ∀ (H : Heap) (locs : List Loc) (ls : Array Slot), va_P D vwCl (zwG cI Go Gp (upd (upd (upd Gs 0 a0) 1 a1) 2 (a0 * a1)) Ga_69h) H → va_D A (zwG cI Go Gp (upd (upd (upd Gs 0 a0) 1 a1) 2 (a0 * a1)) Ga_69h) → va_S A s.heap H locs → lv_has ls 7 [(0, .ref Go), (4, .int x4_57h), (5, .int x5_69h)] → W p l e R s m args below meth c H locs 0 0 Q (F0 m 69 ls []))) ?_ i15 _ _ _ hP hD hS (lv_sub hl [1, 2, 0] rfl)
          clear i15 hP hD hS hl
          intro x5_69h Ga_69h z69 h zl69 zr69 H locs ls hP hD hS hl
          refine lv_iload hx hb dX0_lay_69 (lv_at hl 2 rfl) ?_
          refine lv_aload_n hx hb dX0_lay_71 rfl (lv_at hl 0 rfl) ?_
          refine va_get (D := D) (ci := 0) (v := .int a1) (C := RX0) (T := TX0) (N := 4) hx hb hts inX0 hown hK hP 0 rfl rfl 1 (by decide) lk19 (fun _ h9 => h9) rfl dX0_lay_72 ?_
          refine lv_icmp_ge (tgt := 143) hx hb dX0_lay_75 (by decide) (fun c6 => ?_) (fun c6 => ?_)
          · have h := zif_t c6 h
            cases zr69 _ (zend h).symm
            exact KX143 _ _ _ hP hD hS (lv_sub hl [0, 1] rfl)
          · have h := zif_f c6 h
            refine lv_iconst (v := (0 : Int32)) hx hb dX0_lay_78 (by decide) ?_
            refine lv_istore (lv' := [(6, .int (0 : Int32)), (0, .ref Go), (4, .int x4_57h), (5, .int x5_69h)]) hx hb dX0_lay_79 hl (by decide) rfl (fun ls hl => ?_)
            obtain ⟨Ga_137x81, i14, h⟩ := zb1_s h
            have KX137 : ∀ (H : Heap) (locs : List Loc) (ls : Array Slot), va_P D vwCl (zwG cI Go Gp (upd (upd (upd Gs 0 a0) 1 a1) 2 (a0 * a1)) Ga_137x81) H → va_D A (zwG cI Go Gp (upd (upd (upd Gs 0 a0) 1 a1) 2 (a0 * a1)) Ga_137x81) → va_S A s.heap H locs → lv_has ls 7 [(0, .ref Go), (4, .int x4_57h), (5, .int x5_69h)] → W p l e R s m args below meth c H locs 0 0 Q (F0 m 137 ls []) := by
              intro H locs ls hP hD hS hl
              refine lv_iinc (v := (x5_69h + (1 : Int32))) (lv' := [(5, .int (x5_69h + (1 : Int32))), (0, .ref Go), (4, .int x4_57h)]) hx hb dX0_lay_137 hl (k := 2) rfl rfl (by decide) rfl (fun ls hl => ?_)
              refine lv_goto (tgt := 69) hx hb dX0_lay_140 (by decide) ?_
              exact zl69 _ _ (zend h).symm _ _ _ hP hD hS (lv_sub hl [1, 2, 0] rfl)
            clear h
            refine zi2_ind (P := (fun (x6_81h : Int32) (Ga_81h : Nat → Nat → Int32) => ∀ (H : Heap) (locs : List Loc) (ls : Array Slot), va_P D vwCl (zwG cI Go Gp (upd (upd (upd Gs 0 a0) 1 a1) 2 (a0 * a1)) Ga_81h) H → va_D A (zwG cI Go Gp (upd (upd (upd Gs 0 a0) 1 a1) 2 (a0 * a1)) Ga_81h) → va_S A s.heap H locs → lv_has ls 7 [(0, .ref Go), (4, .int x4_57h), (5, .int x5_69h), (6, .int x6_81h)] → W p l e R s m args below meth c H locs 0 0 Q (F0 m 81 ls []))) ?_ i14 _ _ _ hP hD hS (lv_sub hl [1, 2, 3, 0] rfl)
            clear i14 hP hD hS hl
            intro x6_81h Ga_81h z81 h zl81 zr81 H locs ls hP hD hS hl
            refine lv_iload hx hb dX0_lay_81 (lv_at hl 3 rfl) ?_
            refine lv_bipush (v := (8 : Int32)) hx hb dX0_lay_83 (by decide) ?_
            refine lv_icmp_ge (tgt := 137) hx hb dX0_lay_85 (by decide) (fun c8 => ?_) (fun c8 => ?_)
            · have h := zif_t c8 h
              cases zr81 _ (zend h).symm
              exact KX137 _ _ _ hP hD hS (lv_sub hl [0, 1, 2] rfl)
            · have h := zif_f c8 h
              refine lv_aload_n hx hb dX0_lay_88 rfl (lv_at hl 0 rfl) ?_
              refine va_get (D := D) (ci := 0) (v := .ref (Gp 3)) (C := RX0) (T := TX0) (N := 4) hx hb hts inX0 hown hK hP 0 rfl rfl 3 (by decide) lk9 (fun _ h9 => h9) rfl dX0_lay_89 ?_
              refine lv_iload hx hb dX0_lay_92 (lv_at hl 1 rfl) ?_
              refine lv_aload_n hx hb dX0_lay_94 rfl (lv_at hl 0 rfl) ?_
              refine va_get (D := D) (ci := 0) (v := .int a1) (C := RX0) (T := TX0) (N := 4) hx hb hts inX0 hown hK hP 0 rfl rfl 1 (by decide) lk19 (fun _ h9 => h9) rfl dX0_lay_95 ?_
              refine lv_imul hx hb dX0_lay_98 ?_
              refine lv_iload hx hb dX0_lay_99 (lv_at hl 2 rfl) ?_
              refine lv_iadd hx hb dX0_lay_101 ?_
              refine lv_bipush (v := (8 : Int32)) hx hb dX0_lay_102 (by decide) ?_
              refine lv_imul hx hb dX0_lay_104 ?_
              refine lv_iload hx hb dX0_lay_105 (lv_at hl 3 rfl) ?_
              refine lv_iadd hx hb dX0_lay_107 ?_
              refine lv_aload_n hx hb dX0_lay_108 rfl (lv_at hl 0 rfl) ?_
              refine lv_iload hx hb dX0_lay_109 (lv_at hl 1 rfl) ?_
              refine va_getsN hx hb zzROW_STEPS hS hown lk25 (fun _ h9 => h9) dX0_lay_111 ?_
              refine lv_iload hx hb dX0_lay_114 (lv_at hl 3 rfl) ?_
              obtain ⟨z9, h⟩ := zck_s h
              refine va_ti (v := .int (zRS (x6_81h).toNatClampNeg)) hx hb ztROW_STEPS hS (zin_s z9) rfl dX0_lay_116 ?_
              refine lv_iadd hx hb dX0_lay_117 ?_
              refine lv_iload hx hb dX0_lay_118 (lv_at hl 2 rfl) ?_
              refine va_getsN hx hb zzCOLUMN_STEPS hS hown lk28 (fun _ h9 => h9) dX0_lay_120 ?_
              refine lv_iload hx hb dX0_lay_123 (lv_at hl 3 rfl) ?_
              obtain ⟨z10, h⟩ := zck_s h
              refine va_ti (v := .int (zCS (x6_81h).toNatClampNeg)) hx hb ztCOLUMN_STEPS hS (zin_s z10) rfl dX0_lay_125 ?_
              refine lv_iadd hx hb dX0_lay_126 ?_
              obtain ⟨r11, g12, h⟩ := zb1_s h
              have hFc := va_free (wc := (zwG cI Go Gp (upd (upd (upd Gs 0 a0) 1 a1) 2 (a0 * a1)) Ga_81h)) hD hS hA [0, 1] rfl
              refine zcall_i (w2 := (zwG cI Go Gp (upd (upd (upd Gs 0 a0) 1 a1) 2 (a0 * a1)) Ga_81h)) (va_runV (As := [.int (x4_57h + (zRS (x6_81h).toNatClampNeg)), .int (x5_69h + (zCS (x6_81h).toNatClampNeg))]) (rest := [.int ((((x4_57h * a1) + x5_69h) * (8 : Int32)) + x6_81h), .ref (Gp 3)]) ⟨hx, hb, hml, hown, hts⟩ (c_X0_placeAt l D cI cB cO Go Gp (upd (upd (upd Gs 0 a0) 1 a1) 2 (a0 * a1)) Ga_81h (x4_57h + (zRS (x6_81h).toNatClampNeg)) (x5_69h + (zCS (x6_81h).toNatClampNeg)) _ _ g12) (cwV 2 hts gX0_lay_X0_placeAt rfl rfl rfl kV_X0_placeAt ⟨Nat.le_trans (Nat.le_of_ble_eq_true rfl) hRf, Nat.le_trans (Nat.le_of_ble_eq_true rfl) hRl⟩) (zpreV hK hP hD hS hE hFc [0, 1] rfl rfl 0 (ci := 0) rfl rfl [.int (x4_57h + (zRS (x6_81h).toNatClampNeg)), .int (x5_69h + (zCS (x6_81h).toNatClampNeg))]) rfl rfl hl.1 rfl (lv_room (Nat.le_of_ble_eq_true rfl)) dX0_lay_127 ⟨Nat.zero_le _, Nat.zero_le _⟩) hP hD hS hFc [0, 1] [] [0, 1] 2 rfl rfl rfl rfl (fun H locs hP hD hS => ?_)
              obtain ⟨z13, h⟩ := zck_s h
              refine va_iast hx hb hK hP hD hS 1 0 rfl rfl (zin_s z13) dX0_lay_130 (fun H locs hP hD hS => ?_)
              have hP : va_P D vwCl (zwG cI Go Gp (upd (upd (upd Gs 0 a0) 1 a1) 2 (a0 * a1)) (va_up Ga_81h 3 (upd (Ga_81h 3) (((((x4_57h * a1) + x5_69h) * (8 : Int32)) + x6_81h)).toNatClampNeg r11))) H := hP
              have hD : va_D A (zwG cI Go Gp (upd (upd (upd Gs 0 a0) 1 a1) 2 (a0 * a1)) (va_up Ga_81h 3 (upd (Ga_81h 3) (((((x4_57h * a1) + x5_69h) * (8 : Int32)) + x6_81h)).toNatClampNeg r11))) := hD
              refine lv_iinc (v := (x6_81h + (1 : Int32))) (lv' := [(6, .int (x6_81h + (1 : Int32))), (0, .ref Go), (4, .int x4_57h), (5, .int x5_69h)]) hx hb dX0_lay_131 hl (k := 3) rfl rfl (by decide) rfl (fun ls hl => ?_)
              refine lv_goto (tgt := 81) hx hb dX0_lay_134 (by decide) ?_
              exact zl81 _ _ (zend h).symm _ _ _ hP hD hS (lv_sub hl [1, 2, 3, 0] rfl)
      · have h := zif_f c2 h
        cases zend h
        exact hq hP hD hS dX0_lay_36
  clear h
  have h := j17
  clear j17
  obtain ⟨J22, eJ22, h⟩ := zjn_s h
  have K22 : ∀ (u : Unit), J22 u = some v23 → ∀ (H : Heap) (locs : List Loc) (ls : Array Slot), va_P D vwCl (zwG cI Go Gp Gs Ga) H → va_D A (zwG cI Go Gp Gs Ga) → va_S A s.heap H locs → lv_has ls 7 [(0, .ref Go), (1, .int a0), (2, .int a1)] → W p l e R s m args below meth c H locs 0 0 Q (F0 m 22 ls []) := by
    subst eJ22
    intro u h H locs ls hP hD hS hl
    refine lv_iconst (v := (0 : Int32)) hx hb dX0_lay_22 (by decide) ?_
    cases zend h
    exact K23 _ _ _ hP hD hS (lv_sub hl [0, 1, 2] rfl)
  clear eJ22
  refine lv_if_le (tgt := 22) hx hb dX0_lay_1 (by decide) (fun c18 => ?_) (fun c18 => ?_)
  · have h := zif_t c18 h
    exact K22 _ h _ _ _ hP hD hS (lv_sub hl [0, 1, 2] rfl)
  · have h := zif_f c18 h
    refine lv_iload_n hx hb dX0_lay_4 rfl (lv_at hl 1 rfl) ?_
    refine lv_iconst (v := (4 : Int32)) hx hb dX0_lay_5 (by decide) ?_
    refine lv_icmp_gt (tgt := 22) hx hb dX0_lay_6 (by decide) (fun c19 => ?_) (fun c19 => ?_)
    · have h := zif_t c19 h
      exact K22 _ h _ _ _ hP hD hS (lv_sub hl [0, 1, 2] rfl)
    · have h := zif_f c19 h
      refine lv_iload_n hx hb dX0_lay_9 rfl (lv_at hl 2 rfl) ?_
      refine lv_if_le (tgt := 22) hx hb dX0_lay_10 (by decide) (fun c20 => ?_) (fun c20 => ?_)
      · have h := zif_t c20 h
        exact K22 _ h _ _ _ hP hD hS (lv_sub hl [0, 1, 2] rfl)
      · have h := zif_f c20 h
        refine lv_iload_n hx hb dX0_lay_13 rfl (lv_at hl 2 rfl) ?_
        refine lv_iconst (v := (4 : Int32)) hx hb dX0_lay_14 (by decide) ?_
        refine lv_icmp_gt (tgt := 22) hx hb dX0_lay_15 (by decide) (fun c21 => ?_) (fun c21 => ?_)
        · have h := zif_t c21 h
          exact K22 _ h _ _ _ hP hD hS (lv_sub hl [0, 1, 2] rfl)
        · have h := zif_f c21 h
          refine lv_iconst (v := (1 : Int32)) hx hb dX0_lay_18 (by decide) ?_
          refine lv_goto (tgt := 23) hx hb dX0_lay_19 (by decide) ?_
          cases zend h
          exact K23 _ _ _ hP hD hS (lv_sub hl [0, 1, 2] rfl)
set_option maxHeartbeats 4000000 in
set_option maxRecDepth 100000 in
theorem c_X0_has (l : Launch) (D : va_G) (cI cB cO : ClassId) (Go : Nat) (Gp : Nat → Nat) (Gs : Nat → Int32) (Ga : Nat → Nat → Int32) (a0 : Int32) (rv : Int32) (sz : Nat) (h : fX0_has Gs a0 = some rv) : Met l yX0_has wsX0_has ({ frames := 0, cells := 0, slots := 0, locals := 0 } : Room) (va_Pc [.ref Go, .int a0] (zPre D (zTY cI cB cO) (zwG cI Go Gp Gs Ga) sz)) (va_Qi (fun r (_ : Unit) => r = rv) (fun _ => zPost D (zTY cI cB cO) (zwG cI Go Gp Gs Ga) (va_A (zwG cI Go Gp Gs Ga) sz)) (va_A (zwG cI Go Gp Gs Ga) sz)) 0 0 (va_A (zwG cI Go Gp Gs Ga) sz) := by
  unfold fX0_has at h
  refine zmet_z (cc := cX0_has) (maxL := 2) (by decide) rfl (Nat.le_of_ble_eq_true rfl) rfl rfl ?_
  intro p e s m args below meth c R Q A ls hx hb hts hown hml hK hP hD hE hA hS hRf hRl hl hq
  have hown : s.vm.findClass RX0 = some m.cls := hown
  have hl : lv_has ls 2 [(0, .ref Go), (1, .int a0)] := hl
  have inX0 : ∀ w ∈ u_ws RX0 TX0 4, w ∈ wsX0_has := by decide +kernel
  have lk22 : (Cond.fieldLink RX0 22 "PegField$Grid" "places" "I").before args s = true := hts _ (by decide +kernel)
  refine lv_iload_n hx hb dX0_has_0 rfl (lv_at hl 1 rfl) ?_
  refine lv_if_lt (tgt := 22) hx hb dX0_has_1 (by decide) (fun c1 => ?_) (fun c1 => ?_)
  · have h := zif_t c1 h
    refine lv_iconst (v := (0 : Int32)) hx hb dX0_has_22 (by decide) ?_
    cases zend h
    exact hq hP hD hS (by decide) dX0_has_23
  · have h := zif_f c1 h
    refine lv_iload_n hx hb dX0_has_4 rfl (lv_at hl 1 rfl) ?_
    refine lv_bipush (v := (12 : Int32)) hx hb dX0_has_5 (by decide) ?_
    refine lv_icmp_ge (tgt := 22) hx hb dX0_has_7 (by decide) (fun c2 => ?_) (fun c2 => ?_)
    · have h := zif_t c2 h
      refine lv_iconst (v := (0 : Int32)) hx hb dX0_has_22 (by decide) ?_
      cases zend h
      exact hq hP hD hS (by decide) dX0_has_23
    · have h := zif_f c2 h
      refine lv_iload_n hx hb dX0_has_10 rfl (lv_at hl 1 rfl) ?_
      refine lv_aload_n hx hb dX0_has_11 rfl (lv_at hl 0 rfl) ?_
      refine va_get (D := D) (ci := 0) (v := .int (Gs 2)) (C := RX0) (T := TX0) (N := 4) hx hb hts inX0 hown hK hP 0 rfl rfl 2 (by decide) lk22 (fun _ h9 => h9) rfl dX0_has_12 ?_
      refine lv_icmp_ge (tgt := 22) hx hb dX0_has_15 (by decide) (fun c3 => ?_) (fun c3 => ?_)
      · have h := zif_t c3 h
        refine lv_iconst (v := (0 : Int32)) hx hb dX0_has_22 (by decide) ?_
        cases zend h
        exact hq hP hD hS (by decide) dX0_has_23
      · have h := zif_f c3 h
        refine lv_iconst (v := (1 : Int32)) hx hb dX0_has_18 (by decide) ?_
        refine lv_goto (tgt := 23) hx hb dX0_has_19 (by decide) ?_
        cases zend h
        exact hq hP hD hS (by decide) dX0_has_23
set_option maxHeartbeats 4000000 in
set_option maxRecDepth 100000 in
theorem c_X0_next (l : Launch) (D : va_G) (cI cB cO : ClassId) (Go : Nat) (Gp : Nat → Nat) (Gs : Nat → Int32) (Ga : Nat → Nat → Int32) (a0 : Int32) (a1 : Int32) (rv : Int32) (sz : Nat) (h : fX0_next Gs Ga a0 a1 = some rv) : Met l yX0_next wsX0_next ({ frames := 1, cells := 0, slots := 0, locals := 21 } : Room) (va_Pc [.ref Go, .int a0, .int a1] (zPre D (zTY cI cB cO) (zwG cI Go Gp Gs Ga) sz)) (va_Qi (fun r (_ : Unit) => r = rv) (fun _ => zPost D (zTY cI cB cO) (zwG cI Go Gp Gs Ga) (va_A (zwG cI Go Gp Gs Ga) sz)) (va_A (zwG cI Go Gp Gs Ga) sz)) 0 0 (va_A (zwG cI Go Gp Gs Ga) sz) := by
  unfold fX0_next at h
  refine zmet_i (cc := cX0_next) (maxL := 4) (by decide) rfl (Nat.le_of_ble_eq_true rfl) rfl rfl ?_
  intro p e s m args below meth c R Q A ls hx hb hts hown hml hK hP hD hE hA hS hRf hRl hl hq
  have hown : s.vm.findClass RX0 = some m.cls := hown
  have hl : lv_has ls 4 [(0, .ref Go), (1, .int a0), (2, .int a1)] := hl
  have inX0 : ∀ w ∈ u_ws RX0 TX0 4, w ∈ wsX0_next := by decide +kernel
  have lk9 : (Cond.fieldLink RX0 9 "PegField$Grid" "beside" "[I").before args s = true := hts _ (by decide +kernel)
  refine lv_aload_n hx hb dX0_next_0 rfl (lv_at hl 0 rfl) ?_
  refine lv_iload_n hx hb dX0_next_1 rfl (lv_at hl 1 rfl) ?_
  obtain ⟨r1, g2, h⟩ := zb1_s h
  have hFc := va_free (wc := (zwG cI Go Gp Gs Ga)) hD hS hA [0, 1] rfl
  refine zcall_i (w2 := (zwG cI Go Gp Gs Ga)) (va_runV (As := [.int a0]) (rest := []) ⟨hx, hb, hml, hown, hts⟩ (c_X0_has l D cI cB cO Go Gp Gs Ga a0 _ _ g2) (cwV 1 hts gX0_next_X0_has rfl rfl rfl kV_X0_has ⟨Nat.le_trans (Nat.le_of_ble_eq_true rfl) hRf, Nat.le_trans (Nat.le_of_ble_eq_true rfl) hRl⟩) (zpreV hK hP hD hS hE hFc [0, 1] rfl rfl 0 (ci := 0) rfl rfl [.int a0]) rfl rfl hl.1 rfl (lv_room (Nat.le_of_ble_eq_true rfl)) dX0_next_2 ⟨Nat.zero_le _, Nat.zero_le _⟩) hP hD hS hFc [0, 1] [] [0, 1] 2 rfl rfl rfl rfl (fun H locs hP hD hS => ?_)
  obtain ⟨v23, j5, h⟩ := zb1_s h
  have K23 : ∀ (H : Heap) (locs : List Loc) (ls : Array Slot), va_P D vwCl (zwG cI Go Gp Gs Ga) H → va_D A (zwG cI Go Gp Gs Ga) → va_S A s.heap H locs → lv_has ls 4 [(0, .ref Go), (1, .int a0), (2, .int a1)] → W p l e R s m args below meth c H locs 0 0 Q (F0 m 23 ls [.int v23]) := by
    intro H locs ls hP hD hS hl
    refine lv_istore_n (lv' := [(3, .int v23), (0, .ref Go), (1, .int a0), (2, .int a1)]) hx hb dX0_next_23 rfl hl (by decide) rfl (fun ls hl => ?_)
    refine lv_iload_n hx hb dX0_next_24 rfl (lv_at hl 0 rfl) ?_
    refine lv_if_eq (tgt := 42) hx hb dX0_next_25 (by decide) (fun c3 => ?_) (fun c3 => ?_)
    · have h := zif_t c3 h
      refine lv_iconst (v := (-1 : Int32)) hx hb dX0_next_42 (by decide) ?_
      cases zend h
      exact hq hP hD hS dX0_next_43
    · have h := zif_f c3 h
      refine lv_aload_n hx hb dX0_next_28 rfl (lv_at hl 1 rfl) ?_
      refine va_get (D := D) (ci := 0) (v := .ref (Gp 3)) (C := RX0) (T := TX0) (N := 4) hx hb hts inX0 hown hK hP 0 rfl rfl 3 (by decide) lk9 (fun _ h9 => h9) rfl dX0_next_29 ?_
      refine lv_iload_n hx hb dX0_next_32 rfl (lv_at hl 2 rfl) ?_
      refine lv_bipush (v := (8 : Int32)) hx hb dX0_next_33 (by decide) ?_
      refine lv_imul hx hb dX0_next_35 ?_
      refine lv_iload_n hx hb dX0_next_36 rfl (lv_at hl 3 rfl) ?_
      refine lv_iadd hx hb dX0_next_37 ?_
      obtain ⟨z4, h⟩ := zck_s h
      refine va_iald hx hb hK hP 1 0 rfl rfl (zin_s z4) dX0_next_38 ?_
      refine lv_goto (tgt := 43) hx hb dX0_next_39 (by decide) ?_
      cases zend h
      exact hq hP hD hS dX0_next_43
  clear h
  have h := j5
  clear j5
  obtain ⟨J22, eJ22, h⟩ := zjn_s h
  have K22 : ∀ (u : Unit), J22 u = some v23 → ∀ (H : Heap) (locs : List Loc) (ls : Array Slot), va_P D vwCl (zwG cI Go Gp Gs Ga) H → va_D A (zwG cI Go Gp Gs Ga) → va_S A s.heap H locs → lv_has ls 4 [(0, .ref Go), (1, .int a0), (2, .int a1)] → W p l e R s m args below meth c H locs 0 0 Q (F0 m 22 ls []) := by
    subst eJ22
    intro u h H locs ls hP hD hS hl
    refine lv_iconst (v := (0 : Int32)) hx hb dX0_next_22 (by decide) ?_
    cases zend h
    exact K23 _ _ _ hP hD hS (lv_sub hl [0, 1, 2] rfl)
  clear eJ22
  refine lv_if_eq (tgt := 22) hx hb dX0_next_5 (by decide) (fun c6 => ?_) (fun c6 => ?_)
  · have h := zif_t c6 h
    exact K22 _ h _ _ _ hP hD hS (lv_sub hl [0, 1, 2] rfl)
  · have h := zif_f c6 h
    refine lv_iload_n hx hb dX0_next_8 rfl (lv_at hl 2 rfl) ?_
    refine lv_if_lt (tgt := 22) hx hb dX0_next_9 (by decide) (fun c7 => ?_) (fun c7 => ?_)
    · have h := zif_t c7 h
      exact K22 _ h _ _ _ hP hD hS (lv_sub hl [0, 1, 2] rfl)
    · have h := zif_f c7 h
      refine lv_iload_n hx hb dX0_next_12 rfl (lv_at hl 2 rfl) ?_
      refine lv_bipush (v := (8 : Int32)) hx hb dX0_next_13 (by decide) ?_
      refine lv_icmp_ge (tgt := 22) hx hb dX0_next_15 (by decide) (fun c8 => ?_) (fun c8 => ?_)
      · have h := zif_t c8 h
        exact K22 _ h _ _ _ hP hD hS (lv_sub hl [0, 1, 2] rfl)
      · have h := zif_f c8 h
        refine lv_iconst (v := (1 : Int32)) hx hb dX0_next_18 (by decide) ?_
        refine lv_goto (tgt := 23) hx hb dX0_next_19 (by decide) ?_
        cases zend h
        exact K23 _ _ _ hP hD hS (lv_sub hl [0, 1, 2] rfl)
end
