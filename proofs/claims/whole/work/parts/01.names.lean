/-- a private method of a class that the tables say can be made, by its rows of tables_1 -/
def lw_okq (q : MethodName × Nat) : Prop := (q.1.cls ≠ "java/lang/invoke/MethodHandle" ∧ q.1.cls ≠ "java/lang/invoke/VarHandle") ∧ Cond.instantiable q.1.cls q.2 ∈ tables_1 ∧ Cond.privateMethod q.1 ∈ tables_1 ∧ Cond.instanceMethod q.1 ∈ tables_1
theorem lw_p0 : lw_okq (⟨"PlateWriters$Desk", "clearFor", "(LPlateWriters$Glass;I)V"⟩, 9) := ⟨⟨by decide +kernel, by decide +kernel⟩, List.mem_of_getElem? (i := 24) (by decide +kernel), List.mem_of_getElem? (i := 395) (by decide +kernel), List.mem_of_getElem? (i := 396) (by decide +kernel)⟩
theorem lw_p1 : lw_okq (⟨"PlateWriters$Desk", "clearedFor", "(FI)F"⟩, 9) := ⟨⟨by decide +kernel, by decide +kernel⟩, List.mem_of_getElem? (i := 24) (by decide +kernel), List.mem_of_getElem? (i := 399) (by decide +kernel), List.mem_of_getElem? (i := 400) (by decide +kernel)⟩
theorem lw_p2 : lw_okq (⟨"PlateWriters", "columnsThat", "(LPlateWriters$Glass;II)I"⟩, 6) := ⟨⟨by decide +kernel, by decide +kernel⟩, List.mem_of_getElem? (i := 16) (by decide +kernel), List.mem_of_getElem? (i := 425) (by decide +kernel), List.mem_of_getElem? (i := 426) (by decide +kernel)⟩
theorem lw_p3 : lw_okq (⟨"PlateWriters$Trial", "lookAhead", "(LPlateWriters$Desk;II)V"⟩, 2) := ⟨⟨by decide +kernel, by decide +kernel⟩, List.mem_of_getElem? (i := 187) (by decide +kernel), List.mem_of_getElem? (i := 504) (by decide +kernel), List.mem_of_getElem? (i := 505) (by decide +kernel)⟩
theorem lw_p4 : lw_okq (⟨"PlateWriters$Trial", "brightest", "(LPlateWriters$Desk;)I"⟩, 2) := ⟨⟨by decide +kernel, by decide +kernel⟩, List.mem_of_getElem? (i := 187) (by decide +kernel), List.mem_of_getElem? (i := 510) (by decide +kernel), List.mem_of_getElem? (i := 511) (by decide +kernel)⟩
theorem lw_p5 : lw_okq (⟨"PlateWriters$Trial", "lookAround", "(LPlateWriters$Desk;I)V"⟩, 2) := ⟨⟨by decide +kernel, by decide +kernel⟩, List.mem_of_getElem? (i := 187) (by decide +kernel), List.mem_of_getElem? (i := 522) (by decide +kernel), List.mem_of_getElem? (i := 523) (by decide +kernel)⟩
theorem lw_p6 : lw_okq (⟨"PlateWriters$Desk", "hoursUntilEnough", "(F)I"⟩, 9) := ⟨⟨by decide +kernel, by decide +kernel⟩, List.mem_of_getElem? (i := 24) (by decide +kernel), List.mem_of_getElem? (i := 544) (by decide +kernel), List.mem_of_getElem? (i := 545) (by decide +kernel)⟩
theorem lw_p7 : lw_okq (⟨"PlateWriters$Orders", "readOrder", "()Z"⟩, 12) := ⟨⟨by decide +kernel, by decide +kernel⟩, List.mem_of_getElem? (i := 119) (by decide +kernel), List.mem_of_getElem? (i := 579) (by decide +kernel), List.mem_of_getElem? (i := 580) (by decide +kernel)⟩
theorem lw_p8 : lw_okq (⟨"PlateWriters$Orders", "look", "()C"⟩, 12) := ⟨⟨by decide +kernel, by decide +kernel⟩, List.mem_of_getElem? (i := 119) (by decide +kernel), List.mem_of_getElem? (i := 583) (by decide +kernel), List.mem_of_getElem? (i := 584) (by decide +kernel)⟩
theorem lw_p9 : lw_okq (⟨"PlateWriters$Orders", "reads", "(C)Z"⟩, 12) := ⟨⟨by decide +kernel, by decide +kernel⟩, List.mem_of_getElem? (i := 119) (by decide +kernel), List.mem_of_getElem? (i := 587) (by decide +kernel), List.mem_of_getElem? (i := 588) (by decide +kernel)⟩
theorem lw_p10 : lw_okq (⟨"PlateWriters$Orders", "add", "(CI)Z"⟩, 12) := ⟨⟨by decide +kernel, by decide +kernel⟩, List.mem_of_getElem? (i := 119) (by decide +kernel), List.mem_of_getElem? (i := 591) (by decide +kernel), List.mem_of_getElem? (i := 592) (by decide +kernel)⟩
theorem lw_p11 : lw_okq (⟨"PlateWriters$Orders", "readFirstDigit", "()Z"⟩, 12) := ⟨⟨by decide +kernel, by decide +kernel⟩, List.mem_of_getElem? (i := 119) (by decide +kernel), List.mem_of_getElem? (i := 595) (by decide +kernel), List.mem_of_getElem? (i := 596) (by decide +kernel)⟩
theorem lw_p12 : lw_okq (⟨"PlateWriters$Orders", "readPlace", "()Z"⟩, 12) := ⟨⟨by decide +kernel, by decide +kernel⟩, List.mem_of_getElem? (i := 119) (by decide +kernel), List.mem_of_getElem? (i := 602) (by decide +kernel), List.mem_of_getElem? (i := 603) (by decide +kernel)⟩
theorem lw_p13 : lw_okq (⟨"PlateWriters$Orders", "readNumber", "()Z"⟩, 12) := ⟨⟨by decide +kernel, by decide +kernel⟩, List.mem_of_getElem? (i := 119) (by decide +kernel), List.mem_of_getElem? (i := 606) (by decide +kernel), List.mem_of_getElem? (i := 607) (by decide +kernel)⟩
theorem lw_p14 : lw_okq (⟨"PlateWriters$Orders", "readLetters", "()Z"⟩, 12) := ⟨⟨by decide +kernel, by decide +kernel⟩, List.mem_of_getElem? (i := 119) (by decide +kernel), List.mem_of_getElem? (i := 610) (by decide +kernel), List.mem_of_getElem? (i := 611) (by decide +kernel)⟩
theorem lw_p15 : lw_okq (⟨"PlateWriters$Orders", "readFirstNumber", "()Z"⟩, 12) := ⟨⟨by decide +kernel, by decide +kernel⟩, List.mem_of_getElem? (i := 119) (by decide +kernel), List.mem_of_getElem? (i := 617) (by decide +kernel), List.mem_of_getElem? (i := 618) (by decide +kernel)⟩
def lw_privs_1 : List (MethodName × Nat) := [(⟨"PlateWriters$Desk", "clearFor", "(LPlateWriters$Glass;I)V"⟩, 9), (⟨"PlateWriters$Desk", "clearedFor", "(FI)F"⟩, 9), (⟨"PlateWriters", "columnsThat", "(LPlateWriters$Glass;II)I"⟩, 6), (⟨"PlateWriters$Trial", "lookAhead", "(LPlateWriters$Desk;II)V"⟩, 2), (⟨"PlateWriters$Trial", "brightest", "(LPlateWriters$Desk;)I"⟩, 2), (⟨"PlateWriters$Trial", "lookAround", "(LPlateWriters$Desk;I)V"⟩, 2), (⟨"PlateWriters$Desk", "hoursUntilEnough", "(F)I"⟩, 9), (⟨"PlateWriters$Orders", "readOrder", "()Z"⟩, 12), (⟨"PlateWriters$Orders", "look", "()C"⟩, 12), (⟨"PlateWriters$Orders", "reads", "(C)Z"⟩, 12), (⟨"PlateWriters$Orders", "add", "(CI)Z"⟩, 12), (⟨"PlateWriters$Orders", "readFirstDigit", "()Z"⟩, 12), (⟨"PlateWriters$Orders", "readPlace", "()Z"⟩, 12), (⟨"PlateWriters$Orders", "readNumber", "()Z"⟩, 12), (⟨"PlateWriters$Orders", "readLetters", "()Z"⟩, 12), (⟨"PlateWriters$Orders", "readFirstNumber", "()Z"⟩, 12)]
theorem lw_r1 : ∀ q ∈ lw_privs_1, lw_okq q := List.forall_mem_cons.mpr ⟨lw_p0, List.forall_mem_cons.mpr ⟨lw_p1, List.forall_mem_cons.mpr ⟨lw_p2, List.forall_mem_cons.mpr ⟨lw_p3, List.forall_mem_cons.mpr ⟨lw_p4, List.forall_mem_cons.mpr ⟨lw_p5, List.forall_mem_cons.mpr ⟨lw_p6, List.forall_mem_cons.mpr ⟨lw_p7, List.forall_mem_cons.mpr ⟨lw_p8, List.forall_mem_cons.mpr ⟨lw_p9, List.forall_mem_cons.mpr ⟨lw_p10, List.forall_mem_cons.mpr ⟨lw_p11, List.forall_mem_cons.mpr ⟨lw_p12, List.forall_mem_cons.mpr ⟨lw_p13, List.forall_mem_cons.mpr ⟨lw_p14, List.forall_mem_cons.mpr ⟨lw_p15, fun _ h => absurd h List.not_mem_nil⟩⟩⟩⟩⟩⟩⟩⟩⟩⟩⟩⟩⟩⟩⟩⟩
theorem lw_p16 : lw_okq (⟨"PlateWriters", "obey", "(I)I"⟩, 6) := ⟨⟨by decide +kernel, by decide +kernel⟩, List.mem_of_getElem? (i := 16) (by decide +kernel), List.mem_of_getElem? (i := 625) (by decide +kernel), List.mem_of_getElem? (i := 626) (by decide +kernel)⟩
theorem lw_p17 : lw_okq (⟨"PlateWritersModel", "changes", "()V"⟩, 14) := ⟨⟨by decide +kernel, by decide +kernel⟩, List.mem_of_getElem? (i := 646) (by decide +kernel), List.mem_of_getElem? (i := 709) (by decide +kernel), List.mem_of_getElem? (i := 710) (by decide +kernel)⟩
theorem lw_p18 : lw_okq (⟨"PlateWritersModel", "copies", "(II)V"⟩, 14) := ⟨⟨by decide +kernel, by decide +kernel⟩, List.mem_of_getElem? (i := 646) (by decide +kernel), List.mem_of_getElem? (i := 713) (by decide +kernel), List.mem_of_getElem? (i := 714) (by decide +kernel)⟩
theorem lw_p19 : lw_okq (⟨"PlateWritersModel", "comes", "()I"⟩, 14) := ⟨⟨by decide +kernel, by decide +kernel⟩, List.mem_of_getElem? (i := 646) (by decide +kernel), List.mem_of_getElem? (i := 721) (by decide +kernel), List.mem_of_getElem? (i := 722) (by decide +kernel)⟩
theorem lw_p20 : lw_okq (⟨"PlateWritersModel", "layError", "(I)I"⟩, 14) := ⟨⟨by decide +kernel, by decide +kernel⟩, List.mem_of_getElem? (i := 646) (by decide +kernel), List.mem_of_getElem? (i := 735) (by decide +kernel), List.mem_of_getElem? (i := 736) (by decide +kernel)⟩
theorem lw_p21 : lw_okq (⟨"PlateWritersModel", "isPlate", "(I)Z"⟩, 14) := ⟨⟨by decide +kernel, by decide +kernel⟩, List.mem_of_getElem? (i := 646) (by decide +kernel), List.mem_of_getElem? (i := 739) (by decide +kernel), List.mem_of_getElem? (i := 740) (by decide +kernel)⟩
theorem lw_p22 : lw_okq (⟨"PlateWritersModel", "lays", "(I)I"⟩, 14) := ⟨⟨by decide +kernel, by decide +kernel⟩, List.mem_of_getElem? (i := 646) (by decide +kernel), List.mem_of_getElem? (i := 743) (by decide +kernel), List.mem_of_getElem? (i := 744) (by decide +kernel)⟩
theorem lw_p23 : lw_okq (⟨"PlateWritersModel", "writerError", "(I)I"⟩, 14) := ⟨⟨by decide +kernel, by decide +kernel⟩, List.mem_of_getElem? (i := 646) (by decide +kernel), List.mem_of_getElem? (i := 751) (by decide +kernel), List.mem_of_getElem? (i := 752) (by decide +kernel)⟩
theorem lw_p24 : lw_okq (⟨"PlateWritersModel", "joins", "(I)I"⟩, 14) := ⟨⟨by decide +kernel, by decide +kernel⟩, List.mem_of_getElem? (i := 646) (by decide +kernel), List.mem_of_getElem? (i := 756) (by decide +kernel), List.mem_of_getElem? (i := 757) (by decide +kernel)⟩
theorem lw_p25 : lw_okq (⟨"PlateWritersModel", "writeError", "(IIII)I"⟩, 14) := ⟨⟨by decide +kernel, by decide +kernel⟩, List.mem_of_getElem? (i := 646) (by decide +kernel), List.mem_of_getElem? (i := 764) (by decide +kernel), List.mem_of_getElem? (i := 765) (by decide +kernel)⟩
theorem lw_p26 : lw_okq (⟨"PlateWritersModel", "isWriter", "(I)Z"⟩, 14) := ⟨⟨by decide +kernel, by decide +kernel⟩, List.mem_of_getElem? (i := 646) (by decide +kernel), List.mem_of_getElem? (i := 768) (by decide +kernel), List.mem_of_getElem? (i := 769) (by decide +kernel)⟩
theorem lw_p27 : lw_okq (⟨"PlateWritersModel", "isThere", "(II)Z"⟩, 14) := ⟨⟨by decide +kernel, by decide +kernel⟩, List.mem_of_getElem? (i := 646) (by decide +kernel), List.mem_of_getElem? (i := 772) (by decide +kernel), List.mem_of_getElem? (i := 773) (by decide +kernel)⟩
theorem lw_p28 : lw_okq (⟨"PlateWritersModel", "promisedTo", "(III)I"⟩, 14) := ⟨⟨by decide +kernel, by decide +kernel⟩, List.mem_of_getElem? (i := 646) (by decide +kernel), List.mem_of_getElem? (i := 784) (by decide +kernel), List.mem_of_getElem? (i := 785) (by decide +kernel)⟩
theorem lw_p29 : lw_okq (⟨"PlateWritersModel", "hasLetter", "(III)Z"⟩, 14) := ⟨⟨by decide +kernel, by decide +kernel⟩, List.mem_of_getElem? (i := 646) (by decide +kernel), List.mem_of_getElem? (i := 788) (by decide +kernel), List.mem_of_getElem? (i := 789) (by decide +kernel)⟩
theorem lw_p30 : lw_okq (⟨"PlateWritersModel", "isBright", "(IF)Z"⟩, 14) := ⟨⟨by decide +kernel, by decide +kernel⟩, List.mem_of_getElem? (i := 646) (by decide +kernel), List.mem_of_getElem? (i := 792) (by decide +kernel), List.mem_of_getElem? (i := 793) (by decide +kernel)⟩
theorem lw_p31 : lw_okq (⟨"PlateWritersModel", "pens", "(III)I"⟩, 14) := ⟨⟨by decide +kernel, by decide +kernel⟩, List.mem_of_getElem? (i := 646) (by decide +kernel), List.mem_of_getElem? (i := 797) (by decide +kernel), List.mem_of_getElem? (i := 798) (by decide +kernel)⟩
def lw_privs_2 : List (MethodName × Nat) := [(⟨"PlateWriters", "obey", "(I)I"⟩, 6), (⟨"PlateWritersModel", "changes", "()V"⟩, 14), (⟨"PlateWritersModel", "copies", "(II)V"⟩, 14), (⟨"PlateWritersModel", "comes", "()I"⟩, 14), (⟨"PlateWritersModel", "layError", "(I)I"⟩, 14), (⟨"PlateWritersModel", "isPlate", "(I)Z"⟩, 14), (⟨"PlateWritersModel", "lays", "(I)I"⟩, 14), (⟨"PlateWritersModel", "writerError", "(I)I"⟩, 14), (⟨"PlateWritersModel", "joins", "(I)I"⟩, 14), (⟨"PlateWritersModel", "writeError", "(IIII)I"⟩, 14), (⟨"PlateWritersModel", "isWriter", "(I)Z"⟩, 14), (⟨"PlateWritersModel", "isThere", "(II)Z"⟩, 14), (⟨"PlateWritersModel", "promisedTo", "(III)I"⟩, 14), (⟨"PlateWritersModel", "hasLetter", "(III)Z"⟩, 14), (⟨"PlateWritersModel", "isBright", "(IF)Z"⟩, 14), (⟨"PlateWritersModel", "pens", "(III)I"⟩, 14)]
theorem lw_r2 : ∀ q ∈ lw_privs_2, lw_okq q := List.forall_mem_cons.mpr ⟨lw_p16, List.forall_mem_cons.mpr ⟨lw_p17, List.forall_mem_cons.mpr ⟨lw_p18, List.forall_mem_cons.mpr ⟨lw_p19, List.forall_mem_cons.mpr ⟨lw_p20, List.forall_mem_cons.mpr ⟨lw_p21, List.forall_mem_cons.mpr ⟨lw_p22, List.forall_mem_cons.mpr ⟨lw_p23, List.forall_mem_cons.mpr ⟨lw_p24, List.forall_mem_cons.mpr ⟨lw_p25, List.forall_mem_cons.mpr ⟨lw_p26, List.forall_mem_cons.mpr ⟨lw_p27, List.forall_mem_cons.mpr ⟨lw_p28, List.forall_mem_cons.mpr ⟨lw_p29, List.forall_mem_cons.mpr ⟨lw_p30, List.forall_mem_cons.mpr ⟨lw_p31, fun _ h => absurd h List.not_mem_nil⟩⟩⟩⟩⟩⟩⟩⟩⟩⟩⟩⟩⟩⟩⟩⟩
theorem lw_p32 : lw_okq (⟨"PlateWritersModel", "looks", "(I)V"⟩, 14) := ⟨⟨by decide +kernel, by decide +kernel⟩, List.mem_of_getElem? (i := 646) (by decide +kernel), List.mem_of_getElem? (i := 801) (by decide +kernel), List.mem_of_getElem? (i := 802) (by decide +kernel)⟩
theorem lw_p33 : lw_okq (⟨"PlateWritersModel", "canRead", "(III)Z"⟩, 14) := ⟨⟨by decide +kernel, by decide +kernel⟩, List.mem_of_getElem? (i := 646) (by decide +kernel), List.mem_of_getElem? (i := 805) (by decide +kernel), List.mem_of_getElem? (i := 806) (by decide +kernel)⟩
theorem lw_p34 : lw_okq (⟨"PlateWritersModel", "writes", "(IIIII)V"⟩, 14) := ⟨⟨by decide +kernel, by decide +kernel⟩, List.mem_of_getElem? (i := 646) (by decide +kernel), List.mem_of_getElem? (i := 809) (by decide +kernel), List.mem_of_getElem? (i := 810) (by decide +kernel)⟩
theorem lw_p35 : lw_okq (⟨"PlateWritersModel", "clouded", "(IFIII)F"⟩, 14) := ⟨⟨by decide +kernel, by decide +kernel⟩, List.mem_of_getElem? (i := 646) (by decide +kernel), List.mem_of_getElem? (i := 813) (by decide +kernel), List.mem_of_getElem? (i := 814) (by decide +kernel)⟩
theorem lw_p36 : lw_okq (⟨"PlateWritersModel", "spoilt", "(III)I"⟩, 14) := ⟨⟨by decide +kernel, by decide +kernel⟩, List.mem_of_getElem? (i := 646) (by decide +kernel), List.mem_of_getElem? (i := 817) (by decide +kernel), List.mem_of_getElem? (i := 818) (by decide +kernel)⟩
theorem lw_p37 : lw_okq (⟨"PlateWritersModel", "promiseError", "(III)I"⟩, 14) := ⟨⟨by decide +kernel, by decide +kernel⟩, List.mem_of_getElem? (i := 646) (by decide +kernel), List.mem_of_getElem? (i := 825) (by decide +kernel), List.mem_of_getElem? (i := 826) (by decide +kernel)⟩
theorem lw_p38 : lw_okq (⟨"PlateWritersModel", "hasRoom", "(III)Z"⟩, 14) := ⟨⟨by decide +kernel, by decide +kernel⟩, List.mem_of_getElem? (i := 646) (by decide +kernel), List.mem_of_getElem? (i := 829) (by decide +kernel), List.mem_of_getElem? (i := 830) (by decide +kernel)⟩
theorem lw_p39 : lw_okq (⟨"PlateWritersModel", "ahead", "(III)F"⟩, 14) := ⟨⟨by decide +kernel, by decide +kernel⟩, List.mem_of_getElem? (i := 646) (by decide +kernel), List.mem_of_getElem? (i := 833) (by decide +kernel), List.mem_of_getElem? (i := 834) (by decide +kernel)⟩
theorem lw_p40 : lw_okq (⟨"PlateWritersModel", "promises", "(II)I"⟩, 14) := ⟨⟨by decide +kernel, by decide +kernel⟩, List.mem_of_getElem? (i := 646) (by decide +kernel), List.mem_of_getElem? (i := 837) (by decide +kernel), List.mem_of_getElem? (i := 838) (by decide +kernel)⟩
theorem lw_p41 : lw_okq (⟨"PlateWritersModel", "promisedOn", "(I)I"⟩, 14) := ⟨⟨by decide +kernel, by decide +kernel⟩, List.mem_of_getElem? (i := 646) (by decide +kernel), List.mem_of_getElem? (i := 841) (by decide +kernel), List.mem_of_getElem? (i := 842) (by decide +kernel)⟩
theorem lw_p42 : lw_okq (⟨"PlateWritersModel", "rubError", "(II)I"⟩, 14) := ⟨⟨by decide +kernel, by decide +kernel⟩, List.mem_of_getElem? (i := 646) (by decide +kernel), List.mem_of_getElem? (i := 853) (by decide +kernel), List.mem_of_getElem? (i := 854) (by decide +kernel)⟩
theorem lw_p43 : lw_okq (⟨"PlateWritersModel", "rubs", "(I)I"⟩, 14) := ⟨⟨by decide +kernel, by decide +kernel⟩, List.mem_of_getElem? (i := 646) (by decide +kernel), List.mem_of_getElem? (i := 857) (by decide +kernel), List.mem_of_getElem? (i := 858) (by decide +kernel)⟩
theorem lw_p44 : lw_okq (⟨"PlateWritersModel", "passError", "(I)I"⟩, 14) := ⟨⟨by decide +kernel, by decide +kernel⟩, List.mem_of_getElem? (i := 646) (by decide +kernel), List.mem_of_getElem? (i := 865) (by decide +kernel), List.mem_of_getElem? (i := 866) (by decide +kernel)⟩
theorem lw_p45 : lw_okq (⟨"PlateWritersModel", "goesOn", "(I)I"⟩, 14) := ⟨⟨by decide +kernel, by decide +kernel⟩, List.mem_of_getElem? (i := 646) (by decide +kernel), List.mem_of_getElem? (i := 870) (by decide +kernel), List.mem_of_getElem? (i := 871) (by decide +kernel)⟩
theorem lw_p46 : lw_okq (⟨"PlateWritersModel", "clears", "(II)V"⟩, 14) := ⟨⟨by decide +kernel, by decide +kernel⟩, List.mem_of_getElem? (i := 646) (by decide +kernel), List.mem_of_getElem? (i := 874) (by decide +kernel), List.mem_of_getElem? (i := 875) (by decide +kernel)⟩
theorem lw_p47 : lw_okq (⟨"PlateWritersModel", "longestWord", "(II)I"⟩, 14) := ⟨⟨by decide +kernel, by decide +kernel⟩, List.mem_of_getElem? (i := 646) (by decide +kernel), List.mem_of_getElem? (i := 900) (by decide +kernel), List.mem_of_getElem? (i := 901) (by decide +kernel)⟩
def lw_privs_3 : List (MethodName × Nat) := [(⟨"PlateWritersModel", "looks", "(I)V"⟩, 14), (⟨"PlateWritersModel", "canRead", "(III)Z"⟩, 14), (⟨"PlateWritersModel", "writes", "(IIIII)V"⟩, 14), (⟨"PlateWritersModel", "clouded", "(IFIII)F"⟩, 14), (⟨"PlateWritersModel", "spoilt", "(III)I"⟩, 14), (⟨"PlateWritersModel", "promiseError", "(III)I"⟩, 14), (⟨"PlateWritersModel", "hasRoom", "(III)Z"⟩, 14), (⟨"PlateWritersModel", "ahead", "(III)F"⟩, 14), (⟨"PlateWritersModel", "promises", "(II)I"⟩, 14), (⟨"PlateWritersModel", "promisedOn", "(I)I"⟩, 14), (⟨"PlateWritersModel", "rubError", "(II)I"⟩, 14), (⟨"PlateWritersModel", "rubs", "(I)I"⟩, 14), (⟨"PlateWritersModel", "passError", "(I)I"⟩, 14), (⟨"PlateWritersModel", "goesOn", "(I)I"⟩, 14), (⟨"PlateWritersModel", "clears", "(II)V"⟩, 14), (⟨"PlateWritersModel", "longestWord", "(II)I"⟩, 14)]
theorem lw_r3 : ∀ q ∈ lw_privs_3, lw_okq q := List.forall_mem_cons.mpr ⟨lw_p32, List.forall_mem_cons.mpr ⟨lw_p33, List.forall_mem_cons.mpr ⟨lw_p34, List.forall_mem_cons.mpr ⟨lw_p35, List.forall_mem_cons.mpr ⟨lw_p36, List.forall_mem_cons.mpr ⟨lw_p37, List.forall_mem_cons.mpr ⟨lw_p38, List.forall_mem_cons.mpr ⟨lw_p39, List.forall_mem_cons.mpr ⟨lw_p40, List.forall_mem_cons.mpr ⟨lw_p41, List.forall_mem_cons.mpr ⟨lw_p42, List.forall_mem_cons.mpr ⟨lw_p43, List.forall_mem_cons.mpr ⟨lw_p44, List.forall_mem_cons.mpr ⟨lw_p45, List.forall_mem_cons.mpr ⟨lw_p46, List.forall_mem_cons.mpr ⟨lw_p47, fun _ h => absurd h List.not_mem_nil⟩⟩⟩⟩⟩⟩⟩⟩⟩⟩⟩⟩⟩⟩⟩⟩
theorem lw_p48 : lw_okq (⟨"PlateWritersModel", "isSo", "(III)Z"⟩, 14) := ⟨⟨by decide +kernel, by decide +kernel⟩, List.mem_of_getElem? (i := 646) (by decide +kernel), List.mem_of_getElem? (i := 904) (by decide +kernel), List.mem_of_getElem? (i := 905) (by decide +kernel)⟩
theorem lw_p49 : lw_okq (⟨"PlateWritersModel", "counted", "(II)I"⟩, 14) := ⟨⟨by decide +kernel, by decide +kernel⟩, List.mem_of_getElem? (i := 646) (by decide +kernel), List.mem_of_getElem? (i := 912) (by decide +kernel), List.mem_of_getElem? (i := 913) (by decide +kernel)⟩
theorem lw_p50 : lw_okq (⟨"PlateWritersModel", "leastLight", "(I)F"⟩, 14) := ⟨⟨by decide +kernel, by decide +kernel⟩, List.mem_of_getElem? (i := 646) (by decide +kernel), List.mem_of_getElem? (i := 920) (by decide +kernel), List.mem_of_getElem? (i := 921) (by decide +kernel)⟩
theorem lw_p51 : lw_okq (⟨"PlateWritersModel", "allLight", "(I)F"⟩, 14) := ⟨⟨by decide +kernel, by decide +kernel⟩, List.mem_of_getElem? (i := 646) (by decide +kernel), List.mem_of_getElem? (i := 924) (by decide +kernel), List.mem_of_getElem? (i := 925) (by decide +kernel)⟩
theorem lw_p52 : lw_okq (⟨"PlateWritersModel", "tooDark", "(II)I"⟩, 14) := ⟨⟨by decide +kernel, by decide +kernel⟩, List.mem_of_getElem? (i := 646) (by decide +kernel), List.mem_of_getElem? (i := 952) (by decide +kernel), List.mem_of_getElem? (i := 953) (by decide +kernel)⟩
theorem lw_p53 : lw_okq (⟨"PlateWritersModel", "rooms", "(II)I"⟩, 14) := ⟨⟨by decide +kernel, by decide +kernel⟩, List.mem_of_getElem? (i := 646) (by decide +kernel), List.mem_of_getElem? (i := 956) (by decide +kernel), List.mem_of_getElem? (i := 957) (by decide +kernel)⟩
theorem lw_p54 : lw_okq (⟨"PlateWritersModel", "best", "(II)I"⟩, 14) := ⟨⟨by decide +kernel, by decide +kernel⟩, List.mem_of_getElem? (i := 646) (by decide +kernel), List.mem_of_getElem? (i := 964) (by decide +kernel), List.mem_of_getElem? (i := 965) (by decide +kernel)⟩
theorem lw_p55 : lw_okq (⟨"PlateWritersModel", "leaves", "(II)F"⟩, 14) := ⟨⟨by decide +kernel, by decide +kernel⟩, List.mem_of_getElem? (i := 646) (by decide +kernel), List.mem_of_getElem? (i := 976) (by decide +kernel), List.mem_of_getElem? (i := 977) (by decide +kernel)⟩
theorem lw_p56 : lw_okq (⟨"PlateWritersModel", "areRead", "(II)Z"⟩, 14) := ⟨⟨by decide +kernel, by decide +kernel⟩, List.mem_of_getElem? (i := 646) (by decide +kernel), List.mem_of_getElem? (i := 984) (by decide +kernel), List.mem_of_getElem? (i := 985) (by decide +kernel)⟩
theorem lw_p57 : lw_okq (⟨"PlateWritersModel", "readsOrder", "()Z"⟩, 14) := ⟨⟨by decide +kernel, by decide +kernel⟩, List.mem_of_getElem? (i := 646) (by decide +kernel), List.mem_of_getElem? (i := 1006) (by decide +kernel), List.mem_of_getElem? (i := 1007) (by decide +kernel)⟩
theorem lw_p58 : lw_okq (⟨"PlateWritersModel", "digit", "()I"⟩, 14) := ⟨⟨by decide +kernel, by decide +kernel⟩, List.mem_of_getElem? (i := 646) (by decide +kernel), List.mem_of_getElem? (i := 1010) (by decide +kernel), List.mem_of_getElem? (i := 1011) (by decide +kernel)⟩
theorem lw_p59 : lw_okq (⟨"PlateWritersModel", "isHere", "(II)Z"⟩, 14) := ⟨⟨by decide +kernel, by decide +kernel⟩, List.mem_of_getElem? (i := 646) (by decide +kernel), List.mem_of_getElem? (i := 1014) (by decide +kernel), List.mem_of_getElem? (i := 1015) (by decide +kernel)⟩
theorem lw_p60 : lw_okq (⟨"PlateWritersModel", "readsPlace", "()Z"⟩, 14) := ⟨⟨by decide +kernel, by decide +kernel⟩, List.mem_of_getElem? (i := 646) (by decide +kernel), List.mem_of_getElem? (i := 1018) (by decide +kernel), List.mem_of_getElem? (i := 1019) (by decide +kernel)⟩
theorem lw_p61 : lw_okq (⟨"PlateWritersModel", "takes", "(I)Z"⟩, 14) := ⟨⟨by decide +kernel, by decide +kernel⟩, List.mem_of_getElem? (i := 646) (by decide +kernel), List.mem_of_getElem? (i := 1022) (by decide +kernel), List.mem_of_getElem? (i := 1023) (by decide +kernel)⟩
theorem lw_p62 : lw_okq (⟨"PlateWritersModel", "number", "()I"⟩, 14) := ⟨⟨by decide +kernel, by decide +kernel⟩, List.mem_of_getElem? (i := 646) (by decide +kernel), List.mem_of_getElem? (i := 1026) (by decide +kernel), List.mem_of_getElem? (i := 1027) (by decide +kernel)⟩
theorem lw_p63 : lw_okq (⟨"PlateWritersModel", "readsLetters", "()Z"⟩, 14) := ⟨⟨by decide +kernel, by decide +kernel⟩, List.mem_of_getElem? (i := 646) (by decide +kernel), List.mem_of_getElem? (i := 1030) (by decide +kernel), List.mem_of_getElem? (i := 1031) (by decide +kernel)⟩
def lw_privs_4 : List (MethodName × Nat) := [(⟨"PlateWritersModel", "isSo", "(III)Z"⟩, 14), (⟨"PlateWritersModel", "counted", "(II)I"⟩, 14), (⟨"PlateWritersModel", "leastLight", "(I)F"⟩, 14), (⟨"PlateWritersModel", "allLight", "(I)F"⟩, 14), (⟨"PlateWritersModel", "tooDark", "(II)I"⟩, 14), (⟨"PlateWritersModel", "rooms", "(II)I"⟩, 14), (⟨"PlateWritersModel", "best", "(II)I"⟩, 14), (⟨"PlateWritersModel", "leaves", "(II)F"⟩, 14), (⟨"PlateWritersModel", "areRead", "(II)Z"⟩, 14), (⟨"PlateWritersModel", "readsOrder", "()Z"⟩, 14), (⟨"PlateWritersModel", "digit", "()I"⟩, 14), (⟨"PlateWritersModel", "isHere", "(II)Z"⟩, 14), (⟨"PlateWritersModel", "readsPlace", "()Z"⟩, 14), (⟨"PlateWritersModel", "takes", "(I)Z"⟩, 14), (⟨"PlateWritersModel", "number", "()I"⟩, 14), (⟨"PlateWritersModel", "readsLetters", "()Z"⟩, 14)]
theorem lw_r4 : ∀ q ∈ lw_privs_4, lw_okq q := List.forall_mem_cons.mpr ⟨lw_p48, List.forall_mem_cons.mpr ⟨lw_p49, List.forall_mem_cons.mpr ⟨lw_p50, List.forall_mem_cons.mpr ⟨lw_p51, List.forall_mem_cons.mpr ⟨lw_p52, List.forall_mem_cons.mpr ⟨lw_p53, List.forall_mem_cons.mpr ⟨lw_p54, List.forall_mem_cons.mpr ⟨lw_p55, List.forall_mem_cons.mpr ⟨lw_p56, List.forall_mem_cons.mpr ⟨lw_p57, List.forall_mem_cons.mpr ⟨lw_p58, List.forall_mem_cons.mpr ⟨lw_p59, List.forall_mem_cons.mpr ⟨lw_p60, List.forall_mem_cons.mpr ⟨lw_p61, List.forall_mem_cons.mpr ⟨lw_p62, List.forall_mem_cons.mpr ⟨lw_p63, fun _ h => absurd h List.not_mem_nil⟩⟩⟩⟩⟩⟩⟩⟩⟩⟩⟩⟩⟩⟩⟩⟩
theorem lw_p64 : lw_okq (⟨"PlateWritersModel", "orderError", "(I)I"⟩, 14) := ⟨⟨by decide +kernel, by decide +kernel⟩, List.mem_of_getElem? (i := 646) (by decide +kernel), List.mem_of_getElem? (i := 1039) (by decide +kernel), List.mem_of_getElem? (i := 1040) (by decide +kernel)⟩
theorem lw_p65 : lw_okq (⟨"PlateWritersModel", "does", "(I)I"⟩, 14) := ⟨⟨by decide +kernel, by decide +kernel⟩, List.mem_of_getElem? (i := 646) (by decide +kernel), List.mem_of_getElem? (i := 1043) (by decide +kernel), List.mem_of_getElem? (i := 1044) (by decide +kernel)⟩
def lw_privs_5 : List (MethodName × Nat) := [(⟨"PlateWritersModel", "orderError", "(I)I"⟩, 14), (⟨"PlateWritersModel", "does", "(I)I"⟩, 14)]
theorem lw_r5 : ∀ q ∈ lw_privs_5, lw_okq q := List.forall_mem_cons.mpr ⟨lw_p64, List.forall_mem_cons.mpr ⟨lw_p65, fun _ h => absurd h List.not_mem_nil⟩⟩
def lw_privs : List (MethodName × Nat) := lw_privs_1 ++ (lw_privs_2 ++ (lw_privs_3 ++ (lw_privs_4 ++ (lw_privs_5))))
def lw_tbl : List Cond := k2_sels lw_privs ++ tables_1
theorem lw_privs_ok : ∀ q ∈ lw_privs, lw_okq q := by
  show ∀ q ∈ lw_privs_1 ++ (lw_privs_2 ++ (lw_privs_3 ++ (lw_privs_4 ++ (lw_privs_5)))), lw_okq q
  exact List.forall_mem_append.mpr ⟨lw_r1, List.forall_mem_append.mpr ⟨lw_r2, List.forall_mem_append.mpr ⟨lw_r3, List.forall_mem_append.mpr ⟨lw_r4, lw_r5⟩⟩⟩⟩
/-- the streams that the claim lets the run draw from -/
abbrev lw_cs : List Choice := [Jvm.Choice.named "NaN.bits"]
theorem lw_bits : nanBits ∈ lw_cs := by first | decide | exact List.mem_cons_self | simp [lw_cs, nanBits]
def RX0 : String := "PlateWriters$Desk"
def TX0 : u_T := fun k => match k with
  | 0 => ("PlateWriters$Desk", "settings", "[I", true)
  | 1 => ("PlateWriters$Desk", "press", "[I", true)
  | 2 => ("PlateWriters$Desk", "written", "[I", true)
  | 3 => ("PlateWriters$Desk", "spoiled", "[I", true)
  | 4 => ("PlateWriters$Desk", "glasses", "[LPlateWriters$Glass;", true)
  | 5 => ("PlateWriters$Desk", "hours", "I", false)
  | 6 => ("PlateWriters$Desk", "plates", "I", false)
  | 7 => ("PlateWriters$Desk", "onDesk", "I", false)
  | _ => ("PlateWriters$Desk", "people", "I", false)
def tyX0 : Nat → FieldType := fun k => match k with
  | 0 => .array .int
  | 1 => .array .int
  | 2 => .array .int
  | 3 => .array .int
  | 4 => .array (.object "PlateWriters$Glass")
  | 5 => .int
  | 6 => .int
  | 7 => .int
  | _ => .int
abbrev wsX00 : List Cond := u_ws RX0 TX0 9
theorem nmX0 : ∀ a, a < 9 → ∀ b, b < 9 → a ≠ b → (TX0 a).2.1 ≠ (TX0 b).2.1 := by decide +kernel
theorem tyX0_ok : ∀ k, k < 9 → parseFieldDescriptor (TX0 k).2.2.1 = some (tyX0 k) := by decide +kernel
abbrev cX0_init : ByteArray := prog_2_method_1_code
def yX0_init : MethodName := ⟨RX0, "<init>", "()V"⟩
abbrev cX0_copyFrom : ByteArray := prog_2_method_2_code
def yX0_copyFrom : MethodName := ⟨RX0, "copyFrom", "(LPlateWriters$Desk;)V"⟩
abbrev cX0_isPlate : ByteArray := prog_2_method_3_code
def yX0_isPlate : MethodName := ⟨RX0, "isPlate", "(I)Z"⟩
abbrev cX0_isWriter : ByteArray := prog_2_method_4_code
def yX0_isWriter : MethodName := ⟨RX0, "isWriter", "(I)Z"⟩
abbrev cX0_glassOnDesk : ByteArray := prog_2_method_5_code
def yX0_glassOnDesk : MethodName := ⟨RX0, "glassOnDesk", "()LPlateWriters$Glass;"⟩
abbrev cX0_change : ByteArray := prog_2_method_6_code
def yX0_change : MethodName := ⟨RX0, "change", "(II)I"⟩
abbrev cX0_addPlate : ByteArray := prog_2_method_7_code
def yX0_addPlate : MethodName := ⟨RX0, "addPlate", "()I"⟩
abbrev cX0_layPlate : ByteArray := prog_2_method_8_code
def yX0_layPlate : MethodName := ⟨RX0, "layPlate", "(I)I"⟩
abbrev cX0_addWriter : ByteArray := prog_2_method_9_code
def yX0_addWriter : MethodName := ⟨RX0, "addWriter", "(I)I"⟩
abbrev cX0_writeLetter : ByteArray := prog_2_method_10_code
def yX0_writeLetter : MethodName := ⟨RX0, "writeLetter", "(IIII)I"⟩
abbrev cX0_promisePlace : ByteArray := prog_2_method_11_code
def yX0_promisePlace : MethodName := ⟨RX0, "promisePlace", "(III)I"⟩
abbrev cX0_takePromiseBack : ByteArray := prog_2_method_12_code
def yX0_takePromiseBack : MethodName := ⟨RX0, "takePromiseBack", "(II)I"⟩
abbrev cX0_rubLetter : ByteArray := prog_2_method_13_code
def yX0_rubLetter : MethodName := ⟨RX0, "rubLetter", "(II)I"⟩
abbrev cX0_passHours : ByteArray := prog_2_method_14_code
def yX0_passHours : MethodName := ⟨RX0, "passHours", "(I)I"⟩
abbrev cX0_isEnough : ByteArray := prog_2_method_15_code
def yX0_isEnough : MethodName := ⟨RX0, "isEnough", "(F)Z"⟩
abbrev cX0_cleared : ByteArray := prog_2_method_16_code
def yX0_cleared : MethodName := ⟨RX0, "cleared", "(F)F"⟩
abbrev cX0_clearedFor : ByteArray := prog_2_method_17_code
def yX0_clearedFor : MethodName := ⟨RX0, "clearedFor", "(FI)F"⟩
abbrev cX0_clearFor : ByteArray := prog_2_method_18_code
def yX0_clearFor : MethodName := ⟨RX0, "clearFor", "(LPlateWriters$Glass;I)V"⟩
abbrev cX0_dimmed : ByteArray := prog_2_method_19_code
def yX0_dimmed : MethodName := ⟨RX0, "dimmed", "(FII)F"⟩
abbrev cX0_mark : ByteArray := prog_2_method_20_code
def yX0_mark : MethodName := ⟨RX0, "mark", "(LPlateWriters$Glass;III)I"⟩
abbrev cX0_lightAhead : ByteArray := prog_2_method_21_code
def yX0_lightAhead : MethodName := ⟨RX0, "lightAhead", "(LPlateWriters$Glass;I)F"⟩
abbrev cX0_lightLeftBy : ByteArray := prog_2_method_22_code
def yX0_lightLeftBy : MethodName := ⟨RX0, "lightLeftBy", "(LPlateWriters$Glass;II)F"⟩
abbrev cX0_hoursUntilReadable : ByteArray := prog_2_method_23_code
def yX0_hoursUntilReadable : MethodName := ⟨RX0, "hoursUntilReadable", "(LPlateWriters$Glass;)I"⟩
abbrev cX0_hoursUntilEnough : ByteArray := prog_2_method_24_code
def yX0_hoursUntilEnough : MethodName := ⟨RX0, "hoursUntilEnough", "(F)I"⟩
abbrev cX0_canBeRead : ByteArray := prog_2_method_25_code
def yX0_canBeRead : MethodName := ⟨RX0, "canBeRead", "(LPlateWriters$Glass;I)Z"⟩
abbrev cX0_hasRoom : ByteArray := prog_2_method_26_code
def yX0_hasRoom : MethodName := ⟨RX0, "hasRoom", "(LPlateWriters$Glass;I)Z"⟩
abbrev cX0_placeIs : ByteArray := prog_2_method_27_code
def yX0_placeIs : MethodName := ⟨RX0, "placeIs", "(LPlateWriters$Glass;II)Z"⟩
abbrev cX0_placesThat : ByteArray := prog_2_method_28_code
def yX0_placesThat : MethodName := ⟨RX0, "placesThat", "(LPlateWriters$Glass;I)I"⟩
abbrev cX0_placesOfWriter : ByteArray := prog_2_method_29_code
def yX0_placesOfWriter : MethodName := ⟨RX0, "placesOfWriter", "(II)I"⟩
abbrev cX0_distance : ByteArray := prog_2_method_30_code
def yX0_distance : MethodName := ⟨RX0, "distance", "(II)I"⟩
def RX1 : String := "PlateWriters$Glass"
def TX1 : u_T := fun k => match k with
  | 0 => ("PlateWriters$Glass", "light", "[F", true)
  | 1 => ("PlateWriters$Glass", "letters", "[I", true)
  | 2 => ("PlateWriters$Glass", "writers", "[I", true)
  | _ => ("PlateWriters$Glass", "promised", "[I", true)
def tyX1 : Nat → FieldType := fun k => match k with
  | 0 => .array .float
  | 1 => .array .int
  | 2 => .array .int
  | _ => .array .int
abbrev wsX10 : List Cond := u_ws RX1 TX1 4
theorem nmX1 : ∀ a, a < 4 → ∀ b, b < 4 → a ≠ b → (TX1 a).2.1 ≠ (TX1 b).2.1 := by decide +kernel
theorem tyX1_ok : ∀ k, k < 4 → parseFieldDescriptor (TX1 k).2.2.1 = some (tyX1 k) := by decide +kernel
abbrev cX1_init : ByteArray := prog_3_method_1_code
def yX1_init : MethodName := ⟨RX1, "<init>", "()V"⟩
abbrev cX1_makeNew : ByteArray := prog_3_method_2_code
def yX1_makeNew : MethodName := ⟨RX1, "makeNew", "()V"⟩
abbrev cX1_copyFrom : ByteArray := prog_3_method_3_code
def yX1_copyFrom : MethodName := ⟨RX1, "copyFrom", "(LPlateWriters$Glass;)V"⟩
abbrev cX1_isFree : ByteArray := prog_3_method_4_code
def yX1_isFree : MethodName := ⟨RX1, "isFree", "(I)Z"⟩
abbrev cX1_promisedPlaces : ByteArray := prog_3_method_5_code
def yX1_promisedPlaces : MethodName := ⟨RX1, "promisedPlaces", "()I"⟩
abbrev cX1_leastLight : ByteArray := prog_3_method_6_code
def yX1_leastLight : MethodName := ⟨RX1, "leastLight", "()F"⟩
abbrev cX1_sumOfLight : ByteArray := prog_3_method_7_code
def yX1_sumOfLight : MethodName := ⟨RX1, "sumOfLight", "()F"⟩
def RX2 : String := "PlateWriters$History"
def TX2 : u_T := fun k => match k with
  | 0 => ("PlateWriters$History", "states", "[LPlateWriters$Desk;", true)
  | 1 => ("PlateWriters$History", "next", "I", false)
  | _ => ("PlateWriters$History", "kept", "I", false)
def tyX2 : Nat → FieldType := fun k => match k with
  | 0 => .array (.object "PlateWriters$Desk")
  | 1 => .int
  | _ => .int
abbrev wsX20 : List Cond := u_ws RX2 TX2 3
theorem nmX2 : ∀ a, a < 3 → ∀ b, b < 3 → a ≠ b → (TX2 a).2.1 ≠ (TX2 b).2.1 := by decide +kernel
theorem tyX2_ok : ∀ k, k < 3 → parseFieldDescriptor (TX2 k).2.2.1 = some (tyX2 k) := by decide +kernel
abbrev cX2_init : ByteArray := prog_4_method_1_code
def yX2_init : MethodName := ⟨RX2, "<init>", "()V"⟩
abbrev cX2_prepare : ByteArray := prog_4_method_2_code
def yX2_prepare : MethodName := ⟨RX2, "prepare", "(LPlateWriters$Desk;)V"⟩
abbrev cX2_keepUnlessError : ByteArray := prog_4_method_3_code
def yX2_keepUnlessError : MethodName := ⟨RX2, "keepUnlessError", "(I)I"⟩
abbrev cX2_takeBackInto : ByteArray := prog_4_method_4_code
def yX2_takeBackInto : MethodName := ⟨RX2, "takeBackInto", "(LPlateWriters$Desk;)I"⟩
def RX3 : String := "PlateWriters$Orders"
def TX3 : u_T := fun k => match k with
  | 0 => ("PlateWriters$Orders", "pad", "LPlateWriters$Pad;", true)
  | 1 => ("PlateWriters$Orders", "kinds", "[C", true)
  | 2 => ("PlateWriters$Orders", "firsts", "[I", true)
  | 3 => ("PlateWriters$Orders", "rows", "[I", true)
  | 4 => ("PlateWriters$Orders", "columns", "[I", true)
  | 5 => ("PlateWriters$Orders", "letters", "[I", true)
  | 6 => ("PlateWriters$Orders", "size", "I", false)
  | 7 => ("PlateWriters$Orders", "next", "I", false)
  | 8 => ("PlateWriters$Orders", "number", "I", false)
  | 9 => ("PlateWriters$Orders", "first", "I", false)
  | 10 => ("PlateWriters$Orders", "row", "I", false)
  | _ => ("PlateWriters$Orders", "column", "I", false)
def tyX3 : Nat → FieldType := fun k => match k with
  | 0 => .object "PlateWriters$Pad"
  | 1 => .array .char
  | 2 => .array .int
  | 3 => .array .int
  | 4 => .array .int
  | 5 => .array .int
  | 6 => .int
  | 7 => .int
  | 8 => .int
  | 9 => .int
  | 10 => .int
  | _ => .int
abbrev wsX30 : List Cond := u_ws RX3 TX3 12
theorem nmX3 : ∀ a, a < 12 → ∀ b, b < 12 → a ≠ b → (TX3 a).2.1 ≠ (TX3 b).2.1 := by decide +kernel
theorem tyX3_ok : ∀ k, k < 12 → parseFieldDescriptor (TX3 k).2.2.1 = some (tyX3 k) := by decide +kernel
abbrev cX3_init : ByteArray := prog_5_method_1_code
def yX3_init : MethodName := ⟨RX3, "<init>", "()V"⟩
abbrev cX3_readPad : ByteArray := prog_5_method_2_code
def yX3_readPad : MethodName := ⟨RX3, "readPad", "()I"⟩
abbrev cX3_readOrder : ByteArray := prog_5_method_3_code
def yX3_readOrder : MethodName := ⟨RX3, "readOrder", "()Z"⟩
abbrev cX3_readFirstDigit : ByteArray := prog_5_method_4_code
def yX3_readFirstDigit : MethodName := ⟨RX3, "readFirstDigit", "()Z"⟩
abbrev cX3_readFirstNumber : ByteArray := prog_5_method_5_code
def yX3_readFirstNumber : MethodName := ⟨RX3, "readFirstNumber", "()Z"⟩
abbrev cX3_readPlace : ByteArray := prog_5_method_6_code
def yX3_readPlace : MethodName := ⟨RX3, "readPlace", "()Z"⟩
abbrev cX3_readNumber : ByteArray := prog_5_method_7_code
def yX3_readNumber : MethodName := ⟨RX3, "readNumber", "()Z"⟩
abbrev cX3_readLetters : ByteArray := prog_5_method_8_code
def yX3_readLetters : MethodName := ⟨RX3, "readLetters", "()Z"⟩
abbrev cX3_reads : ByteArray := prog_5_method_9_code
def yX3_reads : MethodName := ⟨RX3, "reads", "(C)Z"⟩
abbrev cX3_look : ByteArray := prog_5_method_10_code
def yX3_look : MethodName := ⟨RX3, "look", "()C"⟩
abbrev cX3_add : ByteArray := prog_5_method_11_code
def yX3_add : MethodName := ⟨RX3, "add", "(CI)Z"⟩
abbrev cX3_isDigit : ByteArray := prog_5_method_12_code
def yX3_isDigit : MethodName := ⟨RX3, "isDigit", "(C)Z"⟩
abbrev cX3_isLetter : ByteArray := prog_5_method_13_code
def yX3_isLetter : MethodName := ⟨RX3, "isLetter", "(C)Z"⟩
def RX4 : String := "PlateWriters$Pad"
def TX4 : u_T := fun k => match k with
  | 0 => ("PlateWriters$Pad", "signs", "[C", true)
  | _ => ("PlateWriters$Pad", "length", "I", false)
def tyX4 : Nat → FieldType := fun k => match k with
  | 0 => .array .char
  | _ => .int
abbrev wsX40 : List Cond := u_ws RX4 TX4 2
theorem nmX4 : ∀ a, a < 2 → ∀ b, b < 2 → a ≠ b → (TX4 a).2.1 ≠ (TX4 b).2.1 := by decide +kernel
theorem tyX4_ok : ∀ k, k < 2 → parseFieldDescriptor (TX4 k).2.2.1 = some (tyX4 k) := by decide +kernel
abbrev cX4_init : ByteArray := prog_6_method_1_code
def yX4_init : MethodName := ⟨RX4, "<init>", "()V"⟩
abbrev cX4_append : ByteArray := prog_6_method_2_code
def yX4_append : MethodName := ⟨RX4, "append", "(J)I"⟩
abbrev cX4_charactersIn : ByteArray := prog_6_method_3_code
def yX4_charactersIn : MethodName := ⟨RX4, "charactersIn", "(J)I"⟩
abbrev cX4_codeIn : ByteArray := prog_6_method_4_code
def yX4_codeIn : MethodName := ⟨RX4, "codeIn", "(JI)I"⟩
abbrev cX4_empty : ByteArray := prog_6_method_5_code
def yX4_empty : MethodName := ⟨RX4, "empty", "()I"⟩
def RX5 : String := "PlateWriters$Trial"
def TX5 : u_T := fun k => match k with
  | 0 => ("PlateWriters$Trial", "tried", "LPlateWriters$Glass;", true)
  | _ => ("PlateWriters$Trial", "ahead", "[F", true)
def tyX5 : Nat → FieldType := fun k => match k with
  | 0 => .object "PlateWriters$Glass"
  | _ => .array .float
abbrev wsX50 : List Cond := u_ws RX5 TX5 2
theorem nmX5 : ∀ a, a < 2 → ∀ b, b < 2 → a ≠ b → (TX5 a).2.1 ≠ (TX5 b).2.1 := by decide +kernel
theorem tyX5_ok : ∀ k, k < 2 → parseFieldDescriptor (TX5 k).2.2.1 = some (tyX5 k) := by decide +kernel
abbrev cX5_init : ByteArray := prog_7_method_1_code
def yX5_init : MethodName := ⟨RX5, "<init>", "()V"⟩
abbrev cX5_lettersSpoiled : ByteArray := prog_7_method_2_code
def yX5_lettersSpoiled : MethodName := ⟨RX5, "lettersSpoiled", "(LPlateWriters$Desk;LPlateWriters$Glass;II)I"⟩
abbrev cX5_promisesSpoiled : ByteArray := prog_7_method_3_code
def yX5_promisesSpoiled : MethodName := ⟨RX5, "promisesSpoiled", "(LPlateWriters$Desk;LPlateWriters$Glass;II)I"⟩
abbrev cX5_roomLeft : ByteArray := prog_7_method_4_code
def yX5_roomLeft : MethodName := ⟨RX5, "roomLeft", "(LPlateWriters$Desk;LPlateWriters$Glass;II)I"⟩
abbrev cX5_brightestOf : ByteArray := prog_7_method_5_code
def yX5_brightestOf : MethodName := ⟨RX5, "brightestOf", "(LPlateWriters$Desk;LPlateWriters$Glass;)I"⟩
abbrev cX5_lettersUntilFull : ByteArray := prog_7_method_6_code
def yX5_lettersUntilFull : MethodName := ⟨RX5, "lettersUntilFull", "(LPlateWriters$Desk;LPlateWriters$Glass;I)I"⟩
abbrev cX5_lookAhead : ByteArray := prog_7_method_7_code
def yX5_lookAhead : MethodName := ⟨RX5, "lookAhead", "(LPlateWriters$Desk;II)V"⟩
abbrev cX5_lookAround : ByteArray := prog_7_method_8_code
def yX5_lookAround : MethodName := ⟨RX5, "lookAround", "(LPlateWriters$Desk;I)V"⟩
abbrev cX5_brightest : ByteArray := prog_7_method_9_code
def yX5_brightest : MethodName := ⟨RX5, "brightest", "(LPlateWriters$Desk;)I"⟩
def RX6 : String := "PlateWriters"
def TX6 : u_T := fun k => match k with
  | 0 => ("PlateWriters", "now", "LPlateWriters$Desk;", true)
  | 1 => ("PlateWriters", "history", "LPlateWriters$History;", true)
  | 2 => ("PlateWriters", "slots", "[LPlateWriters$Desk;", true)
  | 3 => ("PlateWriters", "saved", "[Z", true)
  | 4 => ("PlateWriters", "orders", "LPlateWriters$Orders;", true)
  | _ => ("PlateWriters", "trial", "LPlateWriters$Trial;", true)
def tyX6 : Nat → FieldType := fun k => match k with
  | 0 => .object "PlateWriters$Desk"
  | 1 => .object "PlateWriters$History"
  | 2 => .array (.object "PlateWriters$Desk")
  | 3 => .array .boolean
  | 4 => .object "PlateWriters$Orders"
  | _ => .object "PlateWriters$Trial"
abbrev wsX60 : List Cond := u_ws RX6 TX6 6
theorem nmX6 : ∀ a, a < 6 → ∀ b, b < 6 → a ≠ b → (TX6 a).2.1 ≠ (TX6 b).2.1 := by decide +kernel
theorem tyX6_ok : ∀ k, k < 6 → parseFieldDescriptor (TX6 k).2.2.1 = some (tyX6 k) := by decide +kernel
abbrev cX6_init : ByteArray := prog_1_method_1_code
def yX6_init : MethodName := ⟨RX6, "<init>", "()V"⟩
abbrev cX6_set : ByteArray := prog_1_method_2_code
def yX6_set : MethodName := ⟨RX6, "set", "(II)I"⟩
abbrev cX6_plate : ByteArray := prog_1_method_3_code
def yX6_plate : MethodName := ⟨RX6, "plate", "()I"⟩
abbrev cX6_lay : ByteArray := prog_1_method_4_code
def yX6_lay : MethodName := ⟨RX6, "lay", "(I)I"⟩
abbrev cX6_writer : ByteArray := prog_1_method_5_code
def yX6_writer : MethodName := ⟨RX6, "writer", "(I)I"⟩
abbrev cX6_write : ByteArray := prog_1_method_6_code
def yX6_write : MethodName := ⟨RX6, "write", "(IIII)I"⟩
abbrev cX6_promise : ByteArray := prog_1_method_7_code
def yX6_promise : MethodName := ⟨RX6, "promise", "(III)I"⟩
abbrev cX6_takeBack : ByteArray := prog_1_method_8_code
def yX6_takeBack : MethodName := ⟨RX6, "takeBack", "(II)I"⟩
abbrev cX6_rub : ByteArray := prog_1_method_9_code
def yX6_rub : MethodName := ⟨RX6, "rub", "(II)I"⟩
abbrev cX6_pass : ByteArray := prog_1_method_10_code
def yX6_pass : MethodName := ⟨RX6, "pass", "(I)I"⟩
abbrev cX6_at : ByteArray := prog_1_method_11_code
def yX6_at : MethodName := ⟨RX6, "at", "(III)I"⟩
abbrev cX6_row : ByteArray := prog_1_method_12_code
def yX6_row : MethodName := ⟨RX6, "row", "(II)I"⟩
abbrev cX6_of : ByteArray := prog_1_method_13_code
def yX6_of : MethodName := ⟨RX6, "of", "(II)I"⟩
abbrev cX6_ofPlate : ByteArray := prog_1_method_14_code
def yX6_ofPlate : MethodName := ⟨RX6, "ofPlate", "(II)I"⟩
abbrev cX6_count : ByteArray := prog_1_method_15_code
def yX6_count : MethodName := ⟨RX6, "count", "(I)I"⟩
abbrev cX6_mean : ByteArray := prog_1_method_16_code
def yX6_mean : MethodName := ⟨RX6, "mean", "()J"⟩
abbrev cX6_ifWritten : ByteArray := prog_1_method_17_code
def yX6_ifWritten : MethodName := ⟨RX6, "ifWritten", "(IIII)I"⟩
abbrev cX6_bestPlace : ByteArray := prog_1_method_18_code
def yX6_bestPlace : MethodName := ⟨RX6, "bestPlace", "()I"⟩
abbrev cX6_fills : ByteArray := prog_1_method_19_code
def yX6_fills : MethodName := ⟨RX6, "fills", "(I)I"⟩
abbrev cX6_whoDims : ByteArray := prog_1_method_20_code
def yX6_whoDims : MethodName := ⟨RX6, "whoDims", "(II)I"⟩
abbrev cX6_readableIn : ByteArray := prog_1_method_21_code
def yX6_readableIn : MethodName := ⟨RX6, "readableIn", "(I)I"⟩
abbrev cX6_put : ByteArray := prog_1_method_22_code
def yX6_put : MethodName := ⟨RX6, "put", "(J)I"⟩
abbrev cX6_wipe : ByteArray := prog_1_method_23_code
def yX6_wipe : MethodName := ⟨RX6, "wipe", "()I"⟩
abbrev cX6_fault : ByteArray := prog_1_method_24_code
def yX6_fault : MethodName := ⟨RX6, "fault", "()I"⟩
abbrev cX6_carryOut : ByteArray := prog_1_method_25_code
def yX6_carryOut : MethodName := ⟨RX6, "carryOut", "()I"⟩
abbrev cX6_undo : ByteArray := prog_1_method_26_code
def yX6_undo : MethodName := ⟨RX6, "undo", "()I"⟩
abbrev cX6_save : ByteArray := prog_1_method_27_code
def yX6_save : MethodName := ⟨RX6, "save", "(I)I"⟩
abbrev cX6_restore : ByteArray := prog_1_method_28_code
def yX6_restore : MethodName := ⟨RX6, "restore", "(I)I"⟩
abbrev cX6_isPlace : ByteArray := prog_1_method_29_code
def yX6_isPlace : MethodName := ⟨RX6, "isPlace", "(II)Z"⟩
abbrev cX6_firstNear : ByteArray := prog_1_method_30_code
def yX6_firstNear : MethodName := ⟨RX6, "firstNear", "(I)I"⟩
abbrev cX6_lastNear : ByteArray := prog_1_method_31_code
def yX6_lastNear : MethodName := ⟨RX6, "lastNear", "(II)I"⟩
abbrev cX6_columnsThat : ByteArray := prog_1_method_32_code
def yX6_columnsThat : MethodName := ⟨RX6, "columnsThat", "(LPlateWriters$Glass;II)I"⟩
abbrev cX6_longestRun : ByteArray := prog_1_method_33_code
def yX6_longestRun : MethodName := ⟨RX6, "longestRun", "(I)I"⟩
abbrev cX6_obey : ByteArray := prog_1_method_34_code
def yX6_obey : MethodName := ⟨RX6, "obey", "(I)I"⟩
abbrev cX6_bitsOfFloat : ByteArray := prog_1_method_35_code
def yX6_bitsOfFloat : MethodName := ⟨RX6, "bitsOfFloat", "(F)I"⟩
abbrev cX6_bitsOfMean : ByteArray := prog_1_method_36_code
def yX6_bitsOfMean : MethodName := ⟨RX6, "bitsOfMean", "(D)J"⟩
def RX7 : String := "PlateWritersModel"
def TX7 : u_T := fun k => match k with
  | 0 => ("PlateWritersModel", "s", "[I", true)
  | 1 => ("PlateWritersModel", "light", "[F", true)
  | 2 => ("PlateWritersModel", "historyLong", "I", false)
  | 3 => ("PlateWritersModel", "isSaved", "[Z", true)
  | 4 => ("PlateWritersModel", "could", "[I", true)
  | 5 => ("PlateWritersModel", "text", "[I", true)
  | 6 => ("PlateWritersModel", "textLong", "I", false)
  | 7 => ("PlateWritersModel", "spot", "I", false)
  | 8 => ("PlateWritersModel", "kind", "C", false)
  | 9 => ("PlateWritersModel", "one", "I", false)
  | 10 => ("PlateWritersModel", "row", "I", false)
  | 11 => ("PlateWritersModel", "column", "I", false)
  | 12 => ("PlateWritersModel", "first", "I", false)
  | _ => ("PlateWritersModel", "last", "I", false)
def tyX7 : Nat → FieldType := fun k => match k with
  | 0 => .array .int
  | 1 => .array .float
  | 2 => .int
  | 3 => .array .boolean
  | 4 => .array .int
  | 5 => .array .int
  | 6 => .int
  | 7 => .int
  | 8 => .char
  | 9 => .int
  | 10 => .int
  | 11 => .int
  | 12 => .int
  | _ => .int
abbrev wsX70 : List Cond := u_ws RX7 TX7 14
theorem nmX7 : ∀ a, a < 14 → ∀ b, b < 14 → a ≠ b → (TX7 a).2.1 ≠ (TX7 b).2.1 := by decide +kernel
theorem tyX7_ok : ∀ k, k < 14 → parseFieldDescriptor (TX7 k).2.2.1 = some (tyX7 k) := by decide +kernel
abbrev cX7_init : ByteArray := prog_9_method_1_code
def yX7_init : MethodName := ⟨RX7, "<init>", "()V"⟩
abbrev cX7_in : ByteArray := prog_9_method_3_code
def yX7_in : MethodName := ⟨RX7, "in", "(JJJ)Z"⟩
abbrev cX7_copies : ByteArray := prog_9_method_4_code
def yX7_copies : MethodName := ⟨RX7, "copies", "(II)V"⟩
abbrev cX7_changes : ByteArray := prog_9_method_5_code
def yX7_changes : MethodName := ⟨RX7, "changes", "()V"⟩
abbrev cX7_inkAt : ByteArray := prog_9_method_6_code
def yX7_inkAt : MethodName := ⟨RX7, "inkAt", "(III)I"⟩
abbrev cX7_lightAt : ByteArray := prog_9_method_7_code
def yX7_lightAt : MethodName := ⟨RX7, "lightAt", "(III)I"⟩
abbrev cX7_hasLetter : ByteArray := prog_9_method_8_code
def yX7_hasLetter : MethodName := ⟨RX7, "hasLetter", "(III)Z"⟩
abbrev cX7_promisedTo : ByteArray := prog_9_method_9_code
def yX7_promisedTo : MethodName := ⟨RX7, "promisedTo", "(III)I"⟩
abbrev cX7_clouded : ByteArray := prog_9_method_10_code
def yX7_clouded : MethodName := ⟨RX7, "clouded", "(IFIII)F"⟩
abbrev cX7_isBright : ByteArray := prog_9_method_11_code
def yX7_isBright : MethodName := ⟨RX7, "isBright", "(IF)Z"⟩
abbrev cX7_ahead : ByteArray := prog_9_method_12_code
def yX7_ahead : MethodName := ⟨RX7, "ahead", "(III)F"⟩
abbrev cX7_hasRoom : ByteArray := prog_9_method_13_code
def yX7_hasRoom : MethodName := ⟨RX7, "hasRoom", "(III)Z"⟩
abbrev cX7_canRead : ByteArray := prog_9_method_14_code
def yX7_canRead : MethodName := ⟨RX7, "canRead", "(III)Z"⟩
abbrev cX7_rooms : ByteArray := prog_9_method_15_code
def yX7_rooms : MethodName := ⟨RX7, "rooms", "(II)I"⟩
abbrev cX7_looks : ByteArray := prog_9_method_16_code
def yX7_looks : MethodName := ⟨RX7, "looks", "(I)V"⟩
abbrev cX7_spoilt : ByteArray := prog_9_method_17_code
def yX7_spoilt : MethodName := ⟨RX7, "spoilt", "(III)I"⟩
abbrev cX7_writes : ByteArray := prog_9_method_18_code
def yX7_writes : MethodName := ⟨RX7, "writes", "(IIIII)V"⟩
abbrev cX7_best : ByteArray := prog_9_method_19_code
def yX7_best : MethodName := ⟨RX7, "best", "(II)I"⟩
abbrev cX7_clears : ByteArray := prog_9_method_20_code
def yX7_clears : MethodName := ⟨RX7, "clears", "(II)V"⟩
abbrev cX7_isWriter : ByteArray := prog_9_method_21_code
def yX7_isWriter : MethodName := ⟨RX7, "isWriter", "(I)Z"⟩
abbrev cX7_isPlate : ByteArray := prog_9_method_22_code
def yX7_isPlate : MethodName := ⟨RX7, "isPlate", "(I)Z"⟩
abbrev cX7_isRow : ByteArray := prog_9_method_23_code
def yX7_isRow : MethodName := ⟨RX7, "isRow", "(I)Z"⟩
abbrev cX7_isThere : ByteArray := prog_9_method_24_code
def yX7_isThere : MethodName := ⟨RX7, "isThere", "(II)Z"⟩
abbrev cX7_spotOf : ByteArray := prog_9_method_25_code
def yX7_spotOf : MethodName := ⟨RX7, "spotOf", "(II)I"⟩
abbrev cX7_layError : ByteArray := prog_9_method_26_code
def yX7_layError : MethodName := ⟨RX7, "layError", "(I)I"⟩
abbrev cX7_writerError : ByteArray := prog_9_method_27_code
def yX7_writerError : MethodName := ⟨RX7, "writerError", "(I)I"⟩
abbrev cX7_writeError : ByteArray := prog_9_method_28_code
def yX7_writeError : MethodName := ⟨RX7, "writeError", "(IIII)I"⟩
abbrev cX7_promiseError : ByteArray := prog_9_method_29_code
def yX7_promiseError : MethodName := ⟨RX7, "promiseError", "(III)I"⟩
abbrev cX7_rubError : ByteArray := prog_9_method_30_code
def yX7_rubError : MethodName := ⟨RX7, "rubError", "(II)I"⟩
abbrev cX7_passError : ByteArray := prog_9_method_31_code
def yX7_passError : MethodName := ⟨RX7, "passError", "(I)I"⟩
abbrev cX7_comes : ByteArray := prog_9_method_32_code
def yX7_comes : MethodName := ⟨RX7, "comes", "()I"⟩
abbrev cX7_lays : ByteArray := prog_9_method_33_code
def yX7_lays : MethodName := ⟨RX7, "lays", "(I)I"⟩
abbrev cX7_joins : ByteArray := prog_9_method_34_code
def yX7_joins : MethodName := ⟨RX7, "joins", "(I)I"⟩
abbrev cX7_pens : ByteArray := prog_9_method_35_code
def yX7_pens : MethodName := ⟨RX7, "pens", "(III)I"⟩
abbrev cX7_promisedOn : ByteArray := prog_9_method_36_code
def yX7_promisedOn : MethodName := ⟨RX7, "promisedOn", "(I)I"⟩
abbrev cX7_promises : ByteArray := prog_9_method_37_code
def yX7_promises : MethodName := ⟨RX7, "promises", "(II)I"⟩
abbrev cX7_rubs : ByteArray := prog_9_method_38_code
def yX7_rubs : MethodName := ⟨RX7, "rubs", "(I)I"⟩
abbrev cX7_goesOn : ByteArray := prog_9_method_39_code
def yX7_goesOn : MethodName := ⟨RX7, "goesOn", "(I)I"⟩
abbrev cX7_isValue : ByteArray := prog_9_method_40_code
def yX7_isValue : MethodName := ⟨RX7, "isValue", "(II)Z"⟩
abbrev cX7_set : ByteArray := prog_9_method_41_code
def yX7_set : MethodName := ⟨RX7, "set", "(II)I"⟩
abbrev cX7_plate : ByteArray := prog_9_method_42_code
def yX7_plate : MethodName := ⟨RX7, "plate", "()I"⟩
abbrev cX7_lay : ByteArray := prog_9_method_43_code
def yX7_lay : MethodName := ⟨RX7, "lay", "(I)I"⟩
abbrev cX7_writer : ByteArray := prog_9_method_44_code
def yX7_writer : MethodName := ⟨RX7, "writer", "(I)I"⟩
abbrev cX7_write : ByteArray := prog_9_method_45_code
def yX7_write : MethodName := ⟨RX7, "write", "(IIII)I"⟩
abbrev cX7_promise : ByteArray := prog_9_method_46_code
def yX7_promise : MethodName := ⟨RX7, "promise", "(III)I"⟩
abbrev cX7_takeBack : ByteArray := prog_9_method_47_code
def yX7_takeBack : MethodName := ⟨RX7, "takeBack", "(II)I"⟩
abbrev cX7_rub : ByteArray := prog_9_method_48_code
def yX7_rub : MethodName := ⟨RX7, "rub", "(II)I"⟩
abbrev cX7_pass : ByteArray := prog_9_method_49_code
def yX7_pass : MethodName := ⟨RX7, "pass", "(I)I"⟩
abbrev cX7_flag : ByteArray := prog_9_method_50_code
def yX7_flag : MethodName := ⟨RX7, "flag", "(Z)I"⟩
abbrev cX7_at : ByteArray := prog_9_method_51_code
def yX7_at : MethodName := ⟨RX7, "at", "(III)I"⟩
abbrev cX7_isSo : ByteArray := prog_9_method_52_code
def yX7_isSo : MethodName := ⟨RX7, "isSo", "(III)Z"⟩
abbrev cX7_longestWord : ByteArray := prog_9_method_53_code
def yX7_longestWord : MethodName := ⟨RX7, "longestWord", "(II)I"⟩
abbrev cX7_row : ByteArray := prog_9_method_54_code
def yX7_row : MethodName := ⟨RX7, "row", "(II)I"⟩
abbrev cX7_counted : ByteArray := prog_9_method_55_code
def yX7_counted : MethodName := ⟨RX7, "counted", "(II)I"⟩
abbrev cX7_of : ByteArray := prog_9_method_56_code
def yX7_of : MethodName := ⟨RX7, "of", "(II)I"⟩
abbrev cX7_leastLight : ByteArray := prog_9_method_57_code
def yX7_leastLight : MethodName := ⟨RX7, "leastLight", "(I)F"⟩
abbrev cX7_allLight : ByteArray := prog_9_method_58_code
def yX7_allLight : MethodName := ⟨RX7, "allLight", "(I)F"⟩
abbrev cX7_ofPlate : ByteArray := prog_9_method_59_code
def yX7_ofPlate : MethodName := ⟨RX7, "ofPlate", "(II)I"⟩
abbrev cX7_count : ByteArray := prog_9_method_60_code
def yX7_count : MethodName := ⟨RX7, "count", "(I)I"⟩
abbrev cX7_mean : ByteArray := prog_9_method_61_code
def yX7_mean : MethodName := ⟨RX7, "mean", "()J"⟩
abbrev cX7_tooDark : ByteArray := prog_9_method_62_code
def yX7_tooDark : MethodName := ⟨RX7, "tooDark", "(II)I"⟩
abbrev cX7_ifWritten : ByteArray := prog_9_method_63_code
def yX7_ifWritten : MethodName := ⟨RX7, "ifWritten", "(IIII)I"⟩
abbrev cX7_bestPlace : ByteArray := prog_9_method_64_code
def yX7_bestPlace : MethodName := ⟨RX7, "bestPlace", "()I"⟩
abbrev cX7_fills : ByteArray := prog_9_method_65_code
def yX7_fills : MethodName := ⟨RX7, "fills", "(I)I"⟩
abbrev cX7_leaves : ByteArray := prog_9_method_66_code
def yX7_leaves : MethodName := ⟨RX7, "leaves", "(II)F"⟩
abbrev cX7_whoDims : ByteArray := prog_9_method_67_code
def yX7_whoDims : MethodName := ⟨RX7, "whoDims", "(II)I"⟩
abbrev cX7_areRead : ByteArray := prog_9_method_68_code
def yX7_areRead : MethodName := ⟨RX7, "areRead", "(II)Z"⟩
abbrev cX7_readableIn : ByteArray := prog_9_method_69_code
def yX7_readableIn : MethodName := ⟨RX7, "readableIn", "(I)I"⟩
abbrev cX7_charactersOf : ByteArray := prog_9_method_70_code
def yX7_charactersOf : MethodName := ⟨RX7, "charactersOf", "(J)I"⟩
abbrev cX7_put : ByteArray := prog_9_method_71_code
def yX7_put : MethodName := ⟨RX7, "put", "(J)I"⟩
abbrev cX7_wipe : ByteArray := prog_9_method_72_code
def yX7_wipe : MethodName := ⟨RX7, "wipe", "()I"⟩
abbrev cX7_isHere : ByteArray := prog_9_method_73_code
def yX7_isHere : MethodName := ⟨RX7, "isHere", "(II)Z"⟩
abbrev cX7_takes : ByteArray := prog_9_method_74_code
def yX7_takes : MethodName := ⟨RX7, "takes", "(I)Z"⟩
abbrev cX7_digit : ByteArray := prog_9_method_75_code
def yX7_digit : MethodName := ⟨RX7, "digit", "()I"⟩
abbrev cX7_number : ByteArray := prog_9_method_76_code
def yX7_number : MethodName := ⟨RX7, "number", "()I"⟩
abbrev cX7_readsPlace : ByteArray := prog_9_method_77_code
def yX7_readsPlace : MethodName := ⟨RX7, "readsPlace", "()Z"⟩
abbrev cX7_readsLetters : ByteArray := prog_9_method_78_code
def yX7_readsLetters : MethodName := ⟨RX7, "readsLetters", "()Z"⟩
abbrev cX7_readsOrder : ByteArray := prog_9_method_79_code
def yX7_readsOrder : MethodName := ⟨RX7, "readsOrder", "()Z"⟩
abbrev cX7_fault : ByteArray := prog_9_method_80_code
def yX7_fault : MethodName := ⟨RX7, "fault", "()I"⟩
abbrev cX7_orderError : ByteArray := prog_9_method_81_code
def yX7_orderError : MethodName := ⟨RX7, "orderError", "(I)I"⟩
abbrev cX7_does : ByteArray := prog_9_method_82_code
def yX7_does : MethodName := ⟨RX7, "does", "(I)I"⟩
abbrev cX7_carryOut : ByteArray := prog_9_method_83_code
def yX7_carryOut : MethodName := ⟨RX7, "carryOut", "()I"⟩
abbrev cX7_undo : ByteArray := prog_9_method_84_code
def yX7_undo : MethodName := ⟨RX7, "undo", "()I"⟩
abbrev cX7_isSlot : ByteArray := prog_9_method_85_code
def yX7_isSlot : MethodName := ⟨RX7, "isSlot", "(I)Z"⟩
abbrev cX7_save : ByteArray := prog_9_method_86_code
def yX7_save : MethodName := ⟨RX7, "save", "(I)I"⟩
abbrev cX7_restore : ByteArray := prog_9_method_87_code
def yX7_restore : MethodName := ⟨RX7, "restore", "(I)I"⟩
def RJx145de : String := "java/io/Serializable"
def RJxb160c : String := "java/lang/Comparable"
def RJxe99ae : String := "java/lang/Double"
abbrev cJxe99ae_isNaN_b9ae7 : ByteArray := prog_10_method_6_code
def yJxe99ae_isNaN_b9ae7 : MethodName := ⟨RJxe99ae, "isNaN", "(D)Z"⟩
abbrev cJxe99ae_doubleToLongBits_ccdee : ByteArray := prog_10_method_23_code
def yJxe99ae_doubleToLongBits_ccdee : MethodName := ⟨RJxe99ae, "doubleToLongBits", "(D)J"⟩
def RJxf58ca : String := "java/lang/Float"
abbrev cJxf58ca_isNaN_12338 : ByteArray := prog_11_method_6_code
def yJxf58ca_isNaN_12338 : MethodName := ⟨RJxf58ca, "isNaN", "(F)Z"⟩
abbrev cJxf58ca_floatToIntBits_5c35a : ByteArray := prog_11_method_24_code
def yJxf58ca_floatToIntBits_5c35a : MethodName := ⟨RJxf58ca, "floatToIntBits", "(F)I"⟩
def RJ9 : String := "java/lang/Math"
abbrev cJ9_abs_0f7a4 : ByteArray := prog_12_method_59_code
def yJ9_abs_0f7a4 : MethodName := ⟨RJ9, "abs", "(I)I"⟩
abbrev cJ9_max_7cf53 : ByteArray := prog_12_method_65_code
def yJ9_max_7cf53 : MethodName := ⟨RJ9, "max", "(II)I"⟩
abbrev cJ9_min_7cf53 : ByteArray := prog_12_method_69_code
def yJ9_min_7cf53 : MethodName := ⟨RJ9, "min", "(II)I"⟩
def RJxd2413 : String := "java/lang/Number"
def RJ10 : String := "java/lang/System"
def RJxfd54e : String := "java/lang/constant/Constable"
def RJx3cf43 : String := "java/lang/constant/ConstantDesc"
def RJ7 : String := "java/util/Arrays"
abbrev cJ7_fill_53178 : ByteArray := prog_15_method_103_code
def yJ7_fill_53178 : MethodName := ⟨RJ7, "fill", "([II)V"⟩
abbrev cJ7_fill_e525d : ByteArray := prog_15_method_115_code
def yJ7_fill_e525d : MethodName := ⟨RJ7, "fill", "([FF)V"⟩
def RL : String := "PlateWritersLaw"
abbrev cL_law : ByteArray := code
def yL_law : MethodName := ⟨RL, "law", "([I)Z"⟩
abbrev vwCl : List vw_C := [(RX0, TX0, 9), (RX1, TX1, 4), (RX2, TX2, 3), (RX3, TX3, 12), (RX4, TX4, 2), (RX5, TX5, 2), (RX6, TX6, 6), (RX7, TX7, 14)]
