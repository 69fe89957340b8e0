section
/-- a private method of a class that the tables say can be made, by its rows of tables_1 -/
def lw_okq (q : MethodName × Nat) : Prop := (q.1.cls ≠ "java/lang/invoke/MethodHandle" ∧ q.1.cls ≠ "java/lang/invoke/VarHandle") ∧ Cond.instantiable q.1.cls q.2 ∈ tables_1 ∧ Cond.privateMethod q.1 ∈ tables_1 ∧ Cond.instanceMethod q.1 ∈ tables_1
theorem lw_p0 : lw_okq (⟨"PlateWriters$Desk", "clearFor", "(LPlateWriters$Glass;I)V"⟩, 9) := ⟨⟨by decide +kernel, by decide +kernel⟩, List.mem_of_getElem? (i := 24) (by decide +kernel), List.mem_of_getElem? (i := 395) (by decide +kernel), List.mem_of_getElem? (i := 396) (by decide +kernel)⟩
theorem lw_p1 : lw_okq (⟨"PlateWriters$Desk", "clearedFor", "(FI)F"⟩, 9) := ⟨⟨by decide +kernel, by decide +kernel⟩, List.mem_of_getElem? (i := 24) (by decide +kernel), List.mem_of_getElem? (i := 399) (by decide +kernel), List.mem_of_getElem? (i := 400) (by decide +kernel)⟩
theorem lw_p2 : lw_okq (⟨"PlateWriters", "columnsThat", "(LPlateWriters$Glass;II)I"⟩, 6) := ⟨⟨by decide +kernel, by decide +kernel⟩, List.mem_of_getElem? (i := 16) (by decide +kernel), List.mem_of_getElem? (i := 425) (by decide +kernel), List.mem_of_getElem? (i := 426) (by decide +kernel)⟩
theorem lw_p3 : lw_okq (⟨"PlateWriters$Trial", "lookAhead", "(LPlateWriters$Desk;II)V"⟩, 2) := ⟨⟨by decide +kernel, by decide +kernel⟩, List.mem_of_getElem? (i := 187) (by decide +kernel), List.mem_of_getElem? (i := 504) (by decide +kernel), List.mem_of_getElem? (i := 505) (by decide +kernel)⟩
theorem lw_p4 : lw_okq (⟨"PlateWriters$Trial", "brightest", "(LPlateWriters$Desk;)I"⟩, 2) := ⟨⟨by decide +kernel, by decide +kernel⟩, List.mem_of_getElem? (i := 187) (by decide +kernel), List.mem_of_getElem? (i := 510) (by decide +kernel), List.mem_of_getElem? (i := 511) (by decide +kernel)⟩
theorem lw_p5 : lw_okq (⟨"PlateWriters$Trial", "lookAround", "(LPlateWriters$Desk;I)V"⟩, 2) := ⟨⟨by decide +kernel, by decide +kernel⟩, List.mem_of_getElem? (i := 187) (by decide +kernel), List.mem_of_getElem? (i := 522) (by decide +kernel), List.mem_of_getElem? (i := 523) (by decide +kernel)⟩
theorem lw_p6 : lw_okq (⟨"PlateWriters$Desk", "hoursUntilEnough", "(F)I"⟩, 9) := ⟨⟨by decide +kernel, by decide +kernel⟩, List.mem_of_getElem? (i := 24) (by decide +kernel), List.mem_of_getElem? (i := 544) (by decide +kernel), List.mem_of_getElem? (i := 545) (by decide +kernel)⟩
theorem lw_p7 : lw_okq (⟨"PlateWriters$Orders", "readOrder", "()Z"⟩, 12) := ⟨⟨by decide +kernel, by decide +kernel⟩, List.mem_of_getElem? (i := 119) (by decide +kernel), List.mem_of_getElem? (i := 579) (by decide +kernel), List.mem_of_getElem? (i := 580) (by decide +kernel)⟩
theorem lw_p8 : lw_okq (⟨"PlateWriters$Orders", "look", "()C"⟩, 12) := ⟨⟨by decide +kernel, by decide +kernel⟩, List.mem_of_getElem? (i := 119) (by decide +kernel), List.mem_of_getElem? (i := 583) (by decide +kernel), List.mem_of_getElem? (i := 584) (by decide +kernel)⟩
theorem lw_p9 : lw_okq (⟨"PlateWriters$Orders", "reads", "(C)Z"⟩, 12) := ⟨⟨by decide +kernel, by decide +kernel⟩, List.mem_of_getElem? (i := 119) (by decide +kernel), List.mem_of_getElem? (i := 587) (by decide +kernel), List.mem_of_getElem? (i := 588) (by decide +kernel)⟩
theorem lw_p10 : lw_okq (⟨"PlateWriters$Orders", "add", "(CI)Z"⟩, 12) := ⟨⟨by decide +kernel, by decide +kernel⟩, List.mem_of_getElem? (i := 119) (by decide +kernel), List.mem_of_getElem? (i := 591) (by decide +kernel), List.mem_of_getElem? (i := 592) (by decide +kernel)⟩
theorem lw_p11 : lw_okq (⟨"PlateWriters$Orders", "readFirstDigit", "()Z"⟩, 12) := ⟨⟨by decide +kernel, by decide +kernel⟩, List.mem_of_getElem? (i := 119) (by decide +kernel), List.mem_of_getElem? (i := 595) (by decide +kernel), List.mem_of_getElem? (i := 596) (by decide +kernel)⟩
theorem lw_p12 : lw_okq (⟨"PlateWriters$Orders", "readPlace", "()Z"⟩, 12) := ⟨⟨by decide +kernel, by decide +kernel⟩, List.mem_of_getElem? (i := 119) (by decide +kernel), List.mem_of_getElem? (i := 602) (by decide +kernel), List.mem_of_getElem? (i := 603) (by decide +kernel)⟩
theorem lw_p13 : lw_okq (⟨"PlateWriters$Orders", "readNumber", "()Z"⟩, 12) := ⟨⟨by decide +kernel, by decide +kernel⟩, List.mem_of_getElem? (i := 119) (by decide +kernel), List.mem_of_getElem? (i := 606) (by decide +kernel), List.mem_of_getElem? (i := 607) (by decide +kernel)⟩
theorem lw_p14 : lw_okq (⟨"PlateWriters$Orders", "readLetters", "()Z"⟩, 12) := ⟨⟨by decide +kernel, by decide +kernel⟩, List.mem_of_getElem? (i := 119) (by decide +kernel), List.mem_of_getElem? (i := 610) (by decide +kernel), List.mem_of_getElem? (i := 611) (by decide +kernel)⟩
theorem lw_p15 : lw_okq (⟨"PlateWriters$Orders", "readFirstNumber", "()Z"⟩, 12) := ⟨⟨by decide +kernel, by decide +kernel⟩, List.mem_of_getElem? (i := 119) (by decide +kernel), List.mem_of_getElem? (i := 617) (by decide +kernel), List.mem_of_getElem? (i := 618) (by decide +kernel)⟩
def lw_privs_1 : List (MethodName × Nat) := [(⟨"PlateWriters$Desk", "clearFor", "(LPlateWriters$Glass;I)V"⟩, 9), (⟨"PlateWriters$Desk", "clearedFor", "(FI)F"⟩, 9), (⟨"PlateWriters", "columnsThat", "(LPlateWriters$Glass;II)I"⟩, 6), (⟨"PlateWriters$Trial", "lookAhead", "(LPlateWriters$Desk;II)V"⟩, 2), (⟨"PlateWriters$Trial", "brightest", "(LPlateWriters$Desk;)I"⟩, 2), (⟨"PlateWriters$Trial", "lookAround", "(LPlateWriters$Desk;I)V"⟩, 2), (⟨"PlateWriters$Desk", "hoursUntilEnough", "(F)I"⟩, 9), (⟨"PlateWriters$Orders", "readOrder", "()Z"⟩, 12), (⟨"PlateWriters$Orders", "look", "()C"⟩, 12), (⟨"PlateWriters$Orders", "reads", "(C)Z"⟩, 12), (⟨"PlateWriters$Orders", "add", "(CI)Z"⟩, 12), (⟨"PlateWriters$Orders", "readFirstDigit", "()Z"⟩, 12), (⟨"PlateWriters$Orders", "readPlace", "()Z"⟩, 12), (⟨"PlateWriters$Orders", "readNumber", "()Z"⟩, 12), (⟨"PlateWriters$Orders", "readLetters", "()Z"⟩, 12), (⟨"PlateWriters$Orders", "readFirstNumber", "()Z"⟩, 12)]
theorem lw_r1 : ∀ q ∈ lw_privs_1, lw_okq q := List.forall_mem_cons.mpr ⟨lw_p0, List.forall_mem_cons.mpr ⟨lw_p1, List.forall_mem_cons.mpr ⟨lw_p2, List.forall_mem_cons.mpr ⟨lw_p3, List.forall_mem_cons.mpr ⟨lw_p4, List.forall_mem_cons.mpr ⟨lw_p5, List.forall_mem_cons.mpr ⟨lw_p6, List.forall_mem_cons.mpr ⟨lw_p7, List.forall_mem_cons.mpr ⟨lw_p8, List.forall_mem_cons.mpr ⟨lw_p9, List.forall_mem_cons.mpr ⟨lw_p10, List.forall_mem_cons.mpr ⟨lw_p11, List.forall_mem_cons.mpr ⟨lw_p12, List.forall_mem_cons.mpr ⟨lw_p13, List.forall_mem_cons.mpr ⟨lw_p14, List.forall_mem_cons.mpr ⟨lw_p15, fun _ h => absurd h List.not_mem_nil⟩⟩⟩⟩⟩⟩⟩⟩⟩⟩⟩⟩⟩⟩⟩⟩
theorem lw_p16 : lw_okq (⟨"PlateWriters", "obey", "(I)I"⟩, 6) := ⟨⟨by decide +kernel, by decide +kernel⟩, List.mem_of_getElem? (i := 16) (by decide +kernel), List.mem_of_getElem? (i := 625) (by decide +kernel), List.mem_of_getElem? (i := 626) (by decide +kernel)⟩
theorem lw_p17 : lw_okq (⟨"PlateWritersModel", "changes", "()V"⟩, 14) := ⟨⟨by decide +kernel, by decide +kernel⟩, List.mem_of_getElem? (i := 646) (by decide +kernel), List.mem_of_getElem? (i := 709) (by decide +kernel), List.mem_of_getElem? (i := 710) (by decide +kernel)⟩
theorem lw_p18 : lw_okq (⟨"PlateWritersModel", "copies", "(II)V"⟩, 14) := ⟨⟨by decide +kernel, by decide +kernel⟩, List.mem_of_getElem? (i := 646) (by decide +kernel), List.mem_of_getElem? (i := 713) (by decide +kernel), List.mem_of_getElem? (i := 714) (by decide +kernel)⟩
theorem lw_p19 : lw_okq (⟨"PlateWritersModel", "comes", "()I"⟩, 14) := ⟨⟨by decide +kernel, by decide +kernel⟩, List.mem_of_getElem? (i := 646) (by decide +kernel), List.mem_of_getElem? (i := 721) (by decide +kernel), List.mem_of_getElem? (i := 722) (by decide +kernel)⟩
theorem lw_p20 : lw_okq (⟨"PlateWritersModel", "layError", "(I)I"⟩, 14) := ⟨⟨by decide +kernel, by decide +kernel⟩, List.mem_of_getElem? (i := 646) (by decide +kernel), List.mem_of_getElem? (i := 735) (by decide +kernel), List.mem_of_getElem? (i := 736) (by decide +kernel)⟩
theorem lw_p21 : lw_okq (⟨"PlateWritersModel", "isPlate", "(I)Z"⟩, 14) := ⟨⟨by decide +kernel, by decide +kernel⟩, List.mem_of_getElem? (i := 646) (by decide +kernel), List.mem_of_getElem? (i := 739) (by decide +kernel), List.mem_of_getElem? (i := 740) (by decide +kernel)⟩
theorem lw_p22 : lw_okq (⟨"PlateWritersModel", "lays", "(I)I"⟩, 14) := ⟨⟨by decide +kernel, by decide +kernel⟩, List.mem_of_getElem? (i := 646) (by decide +kernel), List.mem_of_getElem? (i := 743) (by decide +kernel), List.mem_of_getElem? (i := 744) (by decide +kernel)⟩
theorem lw_p23 : lw_okq (⟨"PlateWritersModel", "writerError", "(I)I"⟩, 14) := ⟨⟨by decide +kernel, by decide +kernel⟩, List.mem_of_getElem? (i := 646) (by decide +kernel), List.mem_of_getElem? (i := 751) (by decide +kernel), List.mem_of_getElem? (i := 752) (by decide +kernel)⟩
theorem lw_p24 : lw_okq (⟨"PlateWritersModel", "joins", "(I)I"⟩, 14) := ⟨⟨by decide +kernel, by decide +kernel⟩, List.mem_of_getElem? (i := 646) (by decide +kernel), List.mem_of_getElem? (i := 756) (by decide +kernel), List.mem_of_getElem? (i := 757) (by decide +kernel)⟩
theorem lw_p25 : lw_okq (⟨"PlateWritersModel", "writeError", "(IIII)I"⟩, 14) := ⟨⟨by decide +kernel, by decide +kernel⟩, List.mem_of_getElem? (i := 646) (by decide +kernel), List.mem_of_getElem? (i := 764) (by decide +kernel), List.mem_of_getElem? (i := 765) (by decide +kernel)⟩
theorem lw_p26 : lw_okq (⟨"PlateWritersModel", "isWriter", "(I)Z"⟩, 14) := ⟨⟨by decide +kernel, by decide +kernel⟩, List.mem_of_getElem? (i := 646) (by decide +kernel), List.mem_of_getElem? (i := 768) (by decide +kernel), List.mem_of_getElem? (i := 769) (by decide +kernel)⟩
theorem lw_p27 : lw_okq (⟨"PlateWritersModel", "isThere", "(II)Z"⟩, 14) := ⟨⟨by decide +kernel, by decide +kernel⟩, List.mem_of_getElem? (i := 646) (by decide +kernel), List.mem_of_getElem? (i := 772) (by decide +kernel), List.mem_of_getElem? (i := 773) (by decide +kernel)⟩
theorem lw_p28 : lw_okq (⟨"PlateWritersModel", "promisedTo", "(III)I"⟩, 14) := ⟨⟨by decide +kernel, by decide +kernel⟩, List.mem_of_getElem? (i := 646) (by decide +kernel), List.mem_of_getElem? (i := 784) (by decide +kernel), List.mem_of_getElem? (i := 785) (by decide +kernel)⟩
theorem lw_p29 : lw_okq (⟨"PlateWritersModel", "hasLetter", "(III)Z"⟩, 14) := ⟨⟨by decide +kernel, by decide +kernel⟩, List.mem_of_getElem? (i := 646) (by decide +kernel), List.mem_of_getElem? (i := 788) (by decide +kernel), List.mem_of_getElem? (i := 789) (by decide +kernel)⟩
theorem lw_p30 : lw_okq (⟨"PlateWritersModel", "isBright", "(IF)Z"⟩, 14) := ⟨⟨by decide +kernel, by decide +kernel⟩, List.mem_of_getElem? (i := 646) (by decide +kernel), List.mem_of_getElem? (i := 792) (by decide +kernel), List.mem_of_getElem? (i := 793) (by decide +kernel)⟩
theorem lw_p31 : lw_okq (⟨"PlateWritersModel", "pens", "(III)I"⟩, 14) := ⟨⟨by decide +kernel, by decide +kernel⟩, List.mem_of_getElem? (i := 646) (by decide +kernel), List.mem_of_getElem? (i := 797) (by decide +kernel), List.mem_of_getElem? (i := 798) (by decide +kernel)⟩
def lw_privs_2 : List (MethodName × Nat) := [(⟨"PlateWriters", "obey", "(I)I"⟩, 6), (⟨"PlateWritersModel", "changes", "()V"⟩, 14), (⟨"PlateWritersModel", "copies", "(II)V"⟩, 14), (⟨"PlateWritersModel", "comes", "()I"⟩, 14), (⟨"PlateWritersModel", "layError", "(I)I"⟩, 14), (⟨"PlateWritersModel", "isPlate", "(I)Z"⟩, 14), (⟨"PlateWritersModel", "lays", "(I)I"⟩, 14), (⟨"PlateWritersModel", "writerError", "(I)I"⟩, 14), (⟨"PlateWritersModel", "joins", "(I)I"⟩, 14), (⟨"PlateWritersModel", "writeError", "(IIII)I"⟩, 14), (⟨"PlateWritersModel", "isWriter", "(I)Z"⟩, 14), (⟨"PlateWritersModel", "isThere", "(II)Z"⟩, 14), (⟨"PlateWritersModel", "promisedTo", "(III)I"⟩, 14), (⟨"PlateWritersModel", "hasLetter", "(III)Z"⟩, 14), (⟨"PlateWritersModel", "isBright", "(IF)Z"⟩, 14), (⟨"PlateWritersModel", "pens", "(III)I"⟩, 14)]
theorem lw_r2 : ∀ q ∈ lw_privs_2, lw_okq q := List.forall_mem_cons.mpr ⟨lw_p16, List.forall_mem_cons.mpr ⟨lw_p17, List.forall_mem_cons.mpr ⟨lw_p18, List.forall_mem_cons.mpr ⟨lw_p19, List.forall_mem_cons.mpr ⟨lw_p20, List.forall_mem_cons.mpr ⟨lw_p21, List.forall_mem_cons.mpr ⟨lw_p22, List.forall_mem_cons.mpr ⟨lw_p23, List.forall_mem_cons.mpr ⟨lw_p24, List.forall_mem_cons.mpr ⟨lw_p25, List.forall_mem_cons.mpr ⟨lw_p26, List.forall_mem_cons.mpr ⟨lw_p27, List.forall_mem_cons.mpr ⟨lw_p28, List.forall_mem_cons.mpr ⟨lw_p29, List.forall_mem_cons.mpr ⟨lw_p30, List.forall_mem_cons.mpr ⟨lw_p31, fun _ h => absurd h List.not_mem_nil⟩⟩⟩⟩⟩⟩⟩⟩⟩⟩⟩⟩⟩⟩⟩⟩
theorem lw_p32 : lw_okq (⟨"PlateWritersModel", "looks", "(I)V"⟩, 14) := ⟨⟨by decide +kernel, by decide +kernel⟩, List.mem_of_getElem? (i := 646) (by decide +kernel), List.mem_of_getElem? (i := 801) (by decide +kernel), List.mem_of_getElem? (i := 802) (by decide +kernel)⟩
theorem lw_p33 : lw_okq (⟨"PlateWritersModel", "canRead", "(III)Z"⟩, 14) := ⟨⟨by decide +kernel, by decide +kernel⟩, List.mem_of_getElem? (i := 646) (by decide +kernel), List.mem_of_getElem? (i := 805) (by decide +kernel), List.mem_of_getElem? (i := 806) (by decide +kernel)⟩
theorem lw_p34 : lw_okq (⟨"PlateWritersModel", "writes", "(IIIII)V"⟩, 14) := ⟨⟨by decide +kernel, by decide +kernel⟩, List.mem_of_getElem? (i := 646) (by decide +kernel), List.mem_of_getElem? (i := 809) (by decide +kernel), List.mem_of_getElem? (i := 810) (by decide +kernel)⟩
theorem lw_p35 : lw_okq (⟨"PlateWritersModel", "clouded", "(IFIII)F"⟩, 14) := ⟨⟨by decide +kernel, by decide +kernel⟩, List.mem_of_getElem? (i := 646) (by decide +kernel), List.mem_of_getElem? (i := 813) (by decide +kernel), List.mem_of_getElem? (i := 814) (by decide +kernel)⟩
theorem lw_p36 : lw_okq (⟨"PlateWritersModel", "spoilt", "(III)I"⟩, 14) := ⟨⟨by decide +kernel, by decide +kernel⟩, List.mem_of_getElem? (i := 646) (by decide +kernel), List.mem_of_getElem? (i := 817) (by decide +kernel), List.mem_of_getElem? (i := 818) (by decide +kernel)⟩
theorem lw_p37 : lw_okq (⟨"PlateWritersModel", "promiseError", "(III)I"⟩, 14) := ⟨⟨by decide +kernel, by decide +kernel⟩, List.mem_of_getElem? (i := 646) (by decide +kernel), List.mem_of_getElem? (i := 825) (by decide +kernel), List.mem_of_getElem? (i := 826) (by decide +kernel)⟩
theorem lw_p38 : lw_okq (⟨"PlateWritersModel", "hasRoom", "(III)Z"⟩, 14) := ⟨⟨by decide +kernel, by decide +kernel⟩, List.mem_of_getElem? (i := 646) (by decide +kernel), List.mem_of_getElem? (i := 829) (by decide +kernel), List.mem_of_getElem? (i := 830) (by decide +kernel)⟩
theorem lw_p39 : lw_okq (⟨"PlateWritersModel", "ahead", "(III)F"⟩, 14) := ⟨⟨by decide +kernel, by decide +kernel⟩, List.mem_of_getElem? (i := 646) (by decide +kernel), List.mem_of_getElem? (i := 833) (by decide +kernel), List.mem_of_getElem? (i := 834) (by decide +kernel)⟩
theorem lw_p40 : lw_okq (⟨"PlateWritersModel", "promises", "(II)I"⟩, 14) := ⟨⟨by decide +kernel, by decide +kernel⟩, List.mem_of_getElem? (i := 646) (by decide +kernel), List.mem_of_getElem? (i := 837) (by decide +kernel), List.mem_of_getElem? (i := 838) (by decide +kernel)⟩
theorem lw_p41 : lw_okq (⟨"PlateWritersModel", "promisedOn", "(I)I"⟩, 14) := ⟨⟨by decide +kernel, by decide +kernel⟩, List.mem_of_getElem? (i := 646) (by decide +kernel), List.mem_of_getElem? (i := 841) (by decide +kernel), List.mem_of_getElem? (i := 842) (by decide +kernel)⟩
theorem lw_p42 : lw_okq (⟨"PlateWritersModel", "rubError", "(II)I"⟩, 14) := ⟨⟨by decide +kernel, by decide +kernel⟩, List.mem_of_getElem? (i := 646) (by decide +kernel), List.mem_of_getElem? (i := 853) (by decide +kernel), List.mem_of_getElem? (i := 854) (by decide +kernel)⟩
theorem lw_p43 : lw_okq (⟨"PlateWritersModel", "rubs", "(I)I"⟩, 14) := ⟨⟨by decide +kernel, by decide +kernel⟩, List.mem_of_getElem? (i := 646) (by decide +kernel), List.mem_of_getElem? (i := 857) (by decide +kernel), List.mem_of_getElem? (i := 858) (by decide +kernel)⟩
theorem lw_p44 : lw_okq (⟨"PlateWritersModel", "passError", "(I)I"⟩, 14) := ⟨⟨by decide +kernel, by decide +kernel⟩, List.mem_of_getElem? (i := 646) (by decide +kernel), List.mem_of_getElem? (i := 865) (by decide +kernel), List.mem_of_getElem? (i := 866) (by decide +kernel)⟩
theorem lw_p45 : lw_okq (⟨"PlateWritersModel", "goesOn", "(I)I"⟩, 14) := ⟨⟨by decide +kernel, by decide +kernel⟩, List.mem_of_getElem? (i := 646) (by decide +kernel), List.mem_of_getElem? (i := 870) (by decide +kernel), List.mem_of_getElem? (i := 871) (by decide +kernel)⟩
theorem lw_p46 : lw_okq (⟨"PlateWritersModel", "clears", "(II)V"⟩, 14) := ⟨⟨by decide +kernel, by decide +kernel⟩, List.mem_of_getElem? (i := 646) (by decide +kernel), List.mem_of_getElem? (i := 874) (by decide +kernel), List.mem_of_getElem? (i := 875) (by decide +kernel)⟩
theorem lw_p47 : lw_okq (⟨"PlateWritersModel", "longestWord", "(II)I"⟩, 14) := ⟨⟨by decide +kernel, by decide +kernel⟩, List.mem_of_getElem? (i := 646) (by decide +kernel), List.mem_of_getElem? (i := 900) (by decide +kernel), List.mem_of_getElem? (i := 901) (by decide +kernel)⟩
def lw_privs_3 : List (MethodName × Nat) := [(⟨"PlateWritersModel", "looks", "(I)V"⟩, 14), (⟨"PlateWritersModel", "canRead", "(III)Z"⟩, 14), (⟨"PlateWritersModel", "writes", "(IIIII)V"⟩, 14), (⟨"PlateWritersModel", "clouded", "(IFIII)F"⟩, 14), (⟨"PlateWritersModel", "spoilt", "(III)I"⟩, 14), (⟨"PlateWritersModel", "promiseError", "(III)I"⟩, 14), (⟨"PlateWritersModel", "hasRoom", "(III)Z"⟩, 14), (⟨"PlateWritersModel", "ahead", "(III)F"⟩, 14), (⟨"PlateWritersModel", "promises", "(II)I"⟩, 14), (⟨"PlateWritersModel", "promisedOn", "(I)I"⟩, 14), (⟨"PlateWritersModel", "rubError", "(II)I"⟩, 14), (⟨"PlateWritersModel", "rubs", "(I)I"⟩, 14), (⟨"PlateWritersModel", "passError", "(I)I"⟩, 14), (⟨"PlateWritersModel", "goesOn", "(I)I"⟩, 14), (⟨"PlateWritersModel", "clears", "(II)V"⟩, 14), (⟨"PlateWritersModel", "longestWord", "(II)I"⟩, 14)]
theorem lw_r3 : ∀ q ∈ lw_privs_3, lw_okq q := List.forall_mem_cons.mpr ⟨lw_p32, List.forall_mem_cons.mpr ⟨lw_p33, List.forall_mem_cons.mpr ⟨lw_p34, List.forall_mem_cons.mpr ⟨lw_p35, List.forall_mem_cons.mpr ⟨lw_p36, List.forall_mem_cons.mpr ⟨lw_p37, List.forall_mem_cons.mpr ⟨lw_p38, List.forall_mem_cons.mpr ⟨lw_p39, List.forall_mem_cons.mpr ⟨lw_p40, List.forall_mem_cons.mpr ⟨lw_p41, List.forall_mem_cons.mpr ⟨lw_p42, List.forall_mem_cons.mpr ⟨lw_p43, List.forall_mem_cons.mpr ⟨lw_p44, List.forall_mem_cons.mpr ⟨lw_p45, List.forall_mem_cons.mpr ⟨lw_p46, List.forall_mem_cons.mpr ⟨lw_p47, fun _ h => absurd h List.not_mem_nil⟩⟩⟩⟩⟩⟩⟩⟩⟩⟩⟩⟩⟩⟩⟩⟩
theorem lw_p48 : lw_okq (⟨"PlateWritersModel", "isSo", "(III)Z"⟩, 14) := ⟨⟨by decide +kernel, by decide +kernel⟩, List.mem_of_getElem? (i := 646) (by decide +kernel), List.mem_of_getElem? (i := 904) (by decide +kernel), List.mem_of_getElem? (i := 905) (by decide +kernel)⟩
theorem lw_p49 : lw_okq (⟨"PlateWritersModel", "counted", "(II)I"⟩, 14) := ⟨⟨by decide +kernel, by decide +kernel⟩, List.mem_of_getElem? (i := 646) (by decide +kernel), List.mem_of_getElem? (i := 912) (by decide +kernel), List.mem_of_getElem? (i := 913) (by decide +kernel)⟩
theorem lw_p50 : lw_okq (⟨"PlateWritersModel", "leastLight", "(I)F"⟩, 14) := ⟨⟨by decide +kernel, by decide +kernel⟩, List.mem_of_getElem? (i := 646) (by decide +kernel), List.mem_of_getElem? (i := 920) (by decide +kernel), List.mem_of_getElem? (i := 921) (by decide +kernel)⟩
theorem lw_p51 : lw_okq (⟨"PlateWritersModel", "allLight", "(I)F"⟩, 14) := ⟨⟨by decide +kernel, by decide +kernel⟩, List.mem_of_getElem? (i := 646) (by decide +kernel), List.mem_of_getElem? (i := 924) (by decide +kernel), List.mem_of_getElem? (i := 925) (by decide +kernel)⟩
theorem lw_p52 : lw_okq (⟨"PlateWritersModel", "tooDark", "(II)I"⟩, 14) := ⟨⟨by decide +kernel, by decide +kernel⟩, List.mem_of_getElem? (i := 646) (by decide +kernel), List.mem_of_getElem? (i := 952) (by decide +kernel), List.mem_of_getElem? (i := 953) (by decide +kernel)⟩
theorem lw_p53 : lw_okq (⟨"PlateWritersModel", "rooms", "(II)I"⟩, 14) := ⟨⟨by decide +kernel, by decide +kernel⟩, List.mem_of_getElem? (i := 646) (by decide +kernel), List.mem_of_getElem? (i := 956) (by decide +kernel), List.mem_of_getElem? (i := 957) (by decide +kernel)⟩
theorem lw_p54 : lw_okq (⟨"PlateWritersModel", "best", "(II)I"⟩, 14) := ⟨⟨by decide +kernel, by decide +kernel⟩, List.mem_of_getElem? (i := 646) (by decide +kernel), List.mem_of_getElem? (i := 964) (by decide +kernel), List.mem_of_getElem? (i := 965) (by decide +kernel)⟩
theorem lw_p55 : lw_okq (⟨"PlateWritersModel", "leaves", "(II)F"⟩, 14) := ⟨⟨by decide +kernel, by decide +kernel⟩, List.mem_of_getElem? (i := 646) (by decide +kernel), List.mem_of_getElem? (i := 976) (by decide +kernel), List.mem_of_getElem? (i := 977) (by decide +kernel)⟩
theorem lw_p56 : lw_okq (⟨"PlateWritersModel", "areRead", "(II)Z"⟩, 14) := ⟨⟨by decide +kernel, by decide +kernel⟩, List.mem_of_getElem? (i := 646) (by decide +kernel), List.mem_of_getElem? (i := 984) (by decide +kernel), List.mem_of_getElem? (i := 985) (by decide +kernel)⟩
theorem lw_p57 : lw_okq (⟨"PlateWritersModel", "readsOrder", "()Z"⟩, 14) := ⟨⟨by decide +kernel, by decide +kernel⟩, List.mem_of_getElem? (i := 646) (by decide +kernel), List.mem_of_getElem? (i := 1006) (by decide +kernel), List.mem_of_getElem? (i := 1007) (by decide +kernel)⟩
theorem lw_p58 : lw_okq (⟨"PlateWritersModel", "digit", "()I"⟩, 14) := ⟨⟨by decide +kernel, by decide +kernel⟩, List.mem_of_getElem? (i := 646) (by decide +kernel), List.mem_of_getElem? (i := 1010) (by decide +kernel), List.mem_of_getElem? (i := 1011) (by decide +kernel)⟩
theorem lw_p59 : lw_okq (⟨"PlateWritersModel", "isHere", "(II)Z"⟩, 14) := ⟨⟨by decide +kernel, by decide +kernel⟩, List.mem_of_getElem? (i := 646) (by decide +kernel), List.mem_of_getElem? (i := 1014) (by decide +kernel), List.mem_of_getElem? (i := 1015) (by decide +kernel)⟩
theorem lw_p60 : lw_okq (⟨"PlateWritersModel", "readsPlace", "()Z"⟩, 14) := ⟨⟨by decide +kernel, by decide +kernel⟩, List.mem_of_getElem? (i := 646) (by decide +kernel), List.mem_of_getElem? (i := 1018) (by decide +kernel), List.mem_of_getElem? (i := 1019) (by decide +kernel)⟩
theorem lw_p61 : lw_okq (⟨"PlateWritersModel", "takes", "(I)Z"⟩, 14) := ⟨⟨by decide +kernel, by decide +kernel⟩, List.mem_of_getElem? (i := 646) (by decide +kernel), List.mem_of_getElem? (i := 1022) (by decide +kernel), List.mem_of_getElem? (i := 1023) (by decide +kernel)⟩
theorem lw_p62 : lw_okq (⟨"PlateWritersModel", "number", "()I"⟩, 14) := ⟨⟨by decide +kernel, by decide +kernel⟩, List.mem_of_getElem? (i := 646) (by decide +kernel), List.mem_of_getElem? (i := 1026) (by decide +kernel), List.mem_of_getElem? (i := 1027) (by decide +kernel)⟩
theorem lw_p63 : lw_okq (⟨"PlateWritersModel", "readsLetters", "()Z"⟩, 14) := ⟨⟨by decide +kernel, by decide +kernel⟩, List.mem_of_getElem? (i := 646) (by decide +kernel), List.mem_of_getElem? (i := 1030) (by decide +kernel), List.mem_of_getElem? (i := 1031) (by decide +kernel)⟩
def lw_privs_4 : List (MethodName × Nat) := [(⟨"PlateWritersModel", "isSo", "(III)Z"⟩, 14), (⟨"PlateWritersModel", "counted", "(II)I"⟩, 14), (⟨"PlateWritersModel", "leastLight", "(I)F"⟩, 14), (⟨"PlateWritersModel", "allLight", "(I)F"⟩, 14), (⟨"PlateWritersModel", "tooDark", "(II)I"⟩, 14), (⟨"PlateWritersModel", "rooms", "(II)I"⟩, 14), (⟨"PlateWritersModel", "best", "(II)I"⟩, 14), (⟨"PlateWritersModel", "leaves", "(II)F"⟩, 14), (⟨"PlateWritersModel", "areRead", "(II)Z"⟩, 14), (⟨"PlateWritersModel", "readsOrder", "()Z"⟩, 14), (⟨"PlateWritersModel", "digit", "()I"⟩, 14), (⟨"PlateWritersModel", "isHere", "(II)Z"⟩, 14), (⟨"PlateWritersModel", "readsPlace", "()Z"⟩, 14), (⟨"PlateWritersModel", "takes", "(I)Z"⟩, 14), (⟨"PlateWritersModel", "number", "()I"⟩, 14), (⟨"PlateWritersModel", "readsLetters", "()Z"⟩, 14)]
theorem lw_r4 : ∀ q ∈ lw_privs_4, lw_okq q := List.forall_mem_cons.mpr ⟨lw_p48, List.forall_mem_cons.mpr ⟨lw_p49, List.forall_mem_cons.mpr ⟨lw_p50, List.forall_mem_cons.mpr ⟨lw_p51, List.forall_mem_cons.mpr ⟨lw_p52, List.forall_mem_cons.mpr ⟨lw_p53, List.forall_mem_cons.mpr ⟨lw_p54, List.forall_mem_cons.mpr ⟨lw_p55, List.forall_mem_cons.mpr ⟨lw_p56, List.forall_mem_cons.mpr ⟨lw_p57, List.forall_mem_cons.mpr ⟨lw_p58, List.forall_mem_cons.mpr ⟨lw_p59, List.forall_mem_cons.mpr ⟨lw_p60, List.forall_mem_cons.mpr ⟨lw_p61, List.forall_mem_cons.mpr ⟨lw_p62, List.forall_mem_cons.mpr ⟨lw_p63, fun _ h => absurd h List.not_mem_nil⟩⟩⟩⟩⟩⟩⟩⟩⟩⟩⟩⟩⟩⟩⟩⟩
theorem lw_p64 : lw_okq (⟨"PlateWritersModel", "orderError", "(I)I"⟩, 14) := ⟨⟨by decide +kernel, by decide +kernel⟩, List.mem_of_getElem? (i := 646) (by decide +kernel), List.mem_of_getElem? (i := 1039) (by decide +kernel), List.mem_of_getElem? (i := 1040) (by decide +kernel)⟩
theorem lw_p65 : lw_okq (⟨"PlateWritersModel", "does", "(I)I"⟩, 14) := ⟨⟨by decide +kernel, by decide +kernel⟩, List.mem_of_getElem? (i := 646) (by decide +kernel), List.mem_of_getElem? (i := 1043) (by decide +kernel), List.mem_of_getElem? (i := 1044) (by decide +kernel)⟩
def lw_privs_5 : List (MethodName × Nat) := [(⟨"PlateWritersModel", "orderError", "(I)I"⟩, 14), (⟨"PlateWritersModel", "does", "(I)I"⟩, 14)]
theorem lw_r5 : ∀ q ∈ lw_privs_5, lw_okq q := List.forall_mem_cons.mpr ⟨lw_p64, List.forall_mem_cons.mpr ⟨lw_p65, fun _ h => absurd h List.not_mem_nil⟩⟩
def lw_privs : List (MethodName × Nat) := lw_privs_1 ++ (lw_privs_2 ++ (lw_privs_3 ++ (lw_privs_4 ++ (lw_privs_5))))
def lw_tbl : List Cond := k2_sels lw_privs ++ tables_1
theorem lw_privs_ok : ∀ q ∈ lw_privs, lw_okq q := by
  show ∀ q ∈ lw_privs_1 ++ (lw_privs_2 ++ (lw_privs_3 ++ (lw_privs_4 ++ (lw_privs_5)))), lw_okq q
  exact List.forall_mem_append.mpr ⟨lw_r1, List.forall_mem_append.mpr ⟨lw_r2, List.forall_mem_append.mpr ⟨lw_r3, List.forall_mem_append.mpr ⟨lw_r4, lw_r5⟩⟩⟩⟩
/-- the streams that the claim lets the run draw from -/
abbrev lw_cs : List Choice := [Jvm.Choice.named "NaN.bits"]
theorem lw_bits : nanBits ∈ lw_cs := by first | decide | exact List.mem_cons_self | simp [lw_cs, nanBits]
def RX0 : String := "PlateWriters$Desk"
def TX0 : u_T := fun k => match k with
  | 0 => ("PlateWriters$Desk", "settings", "[I", true)
  | 1 => ("PlateWriters$Desk", "press", "[I", true)
  | 2 => ("PlateWriters$Desk", "written", "[I", true)
  | 3 => ("PlateWriters$Desk", "spoiled", "[I", true)
  | 4 => ("PlateWriters$Desk", "glasses", "[LPlateWriters$Glass;", true)
  | 5 => ("PlateWriters$Desk", "hours", "I", false)
  | 6 => ("PlateWriters$Desk", "plates", "I", false)
  | 7 => ("PlateWriters$Desk", "onDesk", "I", false)
  | _ => ("PlateWriters$Desk", "people", "I", false)
def tyX0 : Nat → FieldType := fun k => match k with
  | 0 => .array .int
  | 1 => .array .int
  | 2 => .array .int
  | 3 => .array .int
  | 4 => .array (.object "PlateWriters$Glass")
  | 5 => .int
  | 6 => .int
  | 7 => .int
  | _ => .int
abbrev wsX00 : List Cond := u_ws RX0 TX0 9
theorem nmX0 : ∀ a, a < 9 → ∀ b, b < 9 → a ≠ b → (TX0 a).2.1 ≠ (TX0 b).2.1 := by decide +kernel
theorem tyX0_ok : ∀ k, k < 9 → parseFieldDescriptor (TX0 k).2.2.1 = some (tyX0 k) := by decide +kernel
abbrev cX0_init : ByteArray := prog_2_method_1_code
def yX0_init : MethodName := ⟨RX0, "<init>", "()V"⟩
abbrev cX0_copyFrom : ByteArray := prog_2_method_2_code
def yX0_copyFrom : MethodName := ⟨RX0, "copyFrom", "(LPlateWriters$Desk;)V"⟩
abbrev cX0_isPlate : ByteArray := prog_2_method_3_code
def yX0_isPlate : MethodName := ⟨RX0, "isPlate", "(I)Z"⟩
abbrev cX0_isWriter : ByteArray := prog_2_method_4_code
def yX0_isWriter : MethodName := ⟨RX0, "isWriter", "(I)Z"⟩
abbrev cX0_glassOnDesk : ByteArray := prog_2_method_5_code
def yX0_glassOnDesk : MethodName := ⟨RX0, "glassOnDesk", "()LPlateWriters$Glass;"⟩
abbrev cX0_change : ByteArray := prog_2_method_6_code
def yX0_change : MethodName := ⟨RX0, "change", "(II)I"⟩
abbrev cX0_addPlate : ByteArray := prog_2_method_7_code
def yX0_addPlate : MethodName := ⟨RX0, "addPlate", "()I"⟩
abbrev cX0_layPlate : ByteArray := prog_2_method_8_code
def yX0_layPlate : MethodName := ⟨RX0, "layPlate", "(I)I"⟩
abbrev cX0_addWriter : ByteArray := prog_2_method_9_code
def yX0_addWriter : MethodName := ⟨RX0, "addWriter", "(I)I"⟩
abbrev cX0_writeLetter : ByteArray := prog_2_method_10_code
def yX0_writeLetter : MethodName := ⟨RX0, "writeLetter", "(IIII)I"⟩
abbrev cX0_promisePlace : ByteArray := prog_2_method_11_code
def yX0_promisePlace : MethodName := ⟨RX0, "promisePlace", "(III)I"⟩
abbrev cX0_takePromiseBack : ByteArray := prog_2_method_12_code
def yX0_takePromiseBack : MethodName := ⟨RX0, "takePromiseBack", "(II)I"⟩
abbrev cX0_rubLetter : ByteArray := prog_2_method_13_code
def yX0_rubLetter : MethodName := ⟨RX0, "rubLetter", "(II)I"⟩
abbrev cX0_passHours : ByteArray := prog_2_method_14_code
def yX0_passHours : MethodName := ⟨RX0, "passHours", "(I)I"⟩
abbrev cX0_isEnough : ByteArray := prog_2_method_15_code
def yX0_isEnough : MethodName := ⟨RX0, "isEnough", "(F)Z"⟩
abbrev cX0_cleared : ByteArray := prog_2_method_16_code
def yX0_cleared : MethodName := ⟨RX0, "cleared", "(F)F"⟩
abbrev cX0_clearedFor : ByteArray := prog_2_method_17_code
def yX0_clearedFor : MethodName := ⟨RX0, "clearedFor", "(FI)F"⟩
abbrev cX0_clearFor : ByteArray := prog_2_method_18_code
def yX0_clearFor : MethodName := ⟨RX0, "clearFor", "(LPlateWriters$Glass;I)V"⟩
abbrev cX0_dimmed : ByteArray := prog_2_method_19_code
def yX0_dimmed : MethodName := ⟨RX0, "dimmed", "(FII)F"⟩
abbrev cX0_mark : ByteArray := prog_2_method_20_code
def yX0_mark : MethodName := ⟨RX0, "mark", "(LPlateWriters$Glass;III)I"⟩
abbrev cX0_lightAhead : ByteArray := prog_2_method_21_code
def yX0_lightAhead : MethodName := ⟨RX0, "lightAhead", "(LPlateWriters$Glass;I)F"⟩
abbrev cX0_lightLeftBy : ByteArray := prog_2_method_22_code
def yX0_lightLeftBy : MethodName := ⟨RX0, "lightLeftBy", "(LPlateWriters$Glass;II)F"⟩
abbrev cX0_hoursUntilReadable : ByteArray := prog_2_method_23_code
def yX0_hoursUntilReadable : MethodName := ⟨RX0, "hoursUntilReadable", "(LPlateWriters$Glass;)I"⟩
abbrev cX0_hoursUntilEnough : ByteArray := prog_2_method_24_code
def yX0_hoursUntilEnough : MethodName := ⟨RX0, "hoursUntilEnough", "(F)I"⟩
abbrev cX0_canBeRead : ByteArray := prog_2_method_25_code
def yX0_canBeRead : MethodName := ⟨RX0, "canBeRead", "(LPlateWriters$Glass;I)Z"⟩
abbrev cX0_hasRoom : ByteArray := prog_2_method_26_code
def yX0_hasRoom : MethodName := ⟨RX0, "hasRoom", "(LPlateWriters$Glass;I)Z"⟩
abbrev cX0_placeIs : ByteArray := prog_2_method_27_code
def yX0_placeIs : MethodName := ⟨RX0, "placeIs", "(LPlateWriters$Glass;II)Z"⟩
abbrev cX0_placesThat : ByteArray := prog_2_method_28_code
def yX0_placesThat : MethodName := ⟨RX0, "placesThat", "(LPlateWriters$Glass;I)I"⟩
abbrev cX0_placesOfWriter : ByteArray := prog_2_method_29_code
def yX0_placesOfWriter : MethodName := ⟨RX0, "placesOfWriter", "(II)I"⟩
abbrev cX0_distance : ByteArray := prog_2_method_30_code
def yX0_distance : MethodName := ⟨RX0, "distance", "(II)I"⟩
def RX1 : String := "PlateWriters$Glass"
def TX1 : u_T := fun k => match k with
  | 0 => ("PlateWriters$Glass", "light", "[F", true)
  | 1 => ("PlateWriters$Glass", "letters", "[I", true)
  | 2 => ("PlateWriters$Glass", "writers", "[I", true)
  | _ => ("PlateWriters$Glass", "promised", "[I", true)
def tyX1 : Nat → FieldType := fun k => match k with
  | 0 => .array .float
  | 1 => .array .int
  | 2 => .array .int
  | _ => .array .int
abbrev wsX10 : List Cond := u_ws RX1 TX1 4
theorem nmX1 : ∀ a, a < 4 → ∀ b, b < 4 → a ≠ b → (TX1 a).2.1 ≠ (TX1 b).2.1 := by decide +kernel
theorem tyX1_ok : ∀ k, k < 4 → parseFieldDescriptor (TX1 k).2.2.1 = some (tyX1 k) := by decide +kernel
abbrev cX1_init : ByteArray := prog_3_method_1_code
def yX1_init : MethodName := ⟨RX1, "<init>", "()V"⟩
abbrev cX1_makeNew : ByteArray := prog_3_method_2_code
def yX1_makeNew : MethodName := ⟨RX1, "makeNew", "()V"⟩
abbrev cX1_copyFrom : ByteArray := prog_3_method_3_code
def yX1_copyFrom : MethodName := ⟨RX1, "copyFrom", "(LPlateWriters$Glass;)V"⟩
abbrev cX1_isFree : ByteArray := prog_3_method_4_code
def yX1_isFree : MethodName := ⟨RX1, "isFree", "(I)Z"⟩
abbrev cX1_promisedPlaces : ByteArray := prog_3_method_5_code
def yX1_promisedPlaces : MethodName := ⟨RX1, "promisedPlaces", "()I"⟩
abbrev cX1_leastLight : ByteArray := prog_3_method_6_code
def yX1_leastLight : MethodName := ⟨RX1, "leastLight", "()F"⟩
abbrev cX1_sumOfLight : ByteArray := prog_3_method_7_code
def yX1_sumOfLight : MethodName := ⟨RX1, "sumOfLight", "()F"⟩
def RX2 : String := "PlateWriters$History"
def TX2 : u_T := fun k => match k with
  | 0 => ("PlateWriters$History", "states", "[LPlateWriters$Desk;", true)
  | 1 => ("PlateWriters$History", "next", "I", false)
  | _ => ("PlateWriters$History", "kept", "I", false)
def tyX2 : Nat → FieldType := fun k => match k with
  | 0 => .array (.object "PlateWriters$Desk")
  | 1 => .int
  | _ => .int
abbrev wsX20 : List Cond := u_ws RX2 TX2 3
theorem nmX2 : ∀ a, a < 3 → ∀ b, b < 3 → a ≠ b → (TX2 a).2.1 ≠ (TX2 b).2.1 := by decide +kernel
theorem tyX2_ok : ∀ k, k < 3 → parseFieldDescriptor (TX2 k).2.2.1 = some (tyX2 k) := by decide +kernel
abbrev cX2_init : ByteArray := prog_4_method_1_code
def yX2_init : MethodName := ⟨RX2, "<init>", "()V"⟩
abbrev cX2_prepare : ByteArray := prog_4_method_2_code
def yX2_prepare : MethodName := ⟨RX2, "prepare", "(LPlateWriters$Desk;)V"⟩
abbrev cX2_keepUnlessError : ByteArray := prog_4_method_3_code
def yX2_keepUnlessError : MethodName := ⟨RX2, "keepUnlessError", "(I)I"⟩
abbrev cX2_takeBackInto : ByteArray := prog_4_method_4_code
def yX2_takeBackInto : MethodName := ⟨RX2, "takeBackInto", "(LPlateWriters$Desk;)I"⟩
def RX3 : String := "PlateWriters$Orders"
def TX3 : u_T := fun k => match k with
  | 0 => ("PlateWriters$Orders", "pad", "LPlateWriters$Pad;", true)
  | 1 => ("PlateWriters$Orders", "kinds", "[C", true)
  | 2 => ("PlateWriters$Orders", "firsts", "[I", true)
  | 3 => ("PlateWriters$Orders", "rows", "[I", true)
  | 4 => ("PlateWriters$Orders", "columns", "[I", true)
  | 5 => ("PlateWriters$Orders", "letters", "[I", true)
  | 6 => ("PlateWriters$Orders", "size", "I", false)
  | 7 => ("PlateWriters$Orders", "next", "I", false)
  | 8 => ("PlateWriters$Orders", "number", "I", false)
  | 9 => ("PlateWriters$Orders", "first", "I", false)
  | 10 => ("PlateWriters$Orders", "row", "I", false)
  | _ => ("PlateWriters$Orders", "column", "I", false)
def tyX3 : Nat → FieldType := fun k => match k with
  | 0 => .object "PlateWriters$Pad"
  | 1 => .array .char
  | 2 => .array .int
  | 3 => .array .int
  | 4 => .array .int
  | 5 => .array .int
  | 6 => .int
  | 7 => .int
  | 8 => .int
  | 9 => .int
  | 10 => .int
  | _ => .int
abbrev wsX30 : List Cond := u_ws RX3 TX3 12
theorem nmX3 : ∀ a, a < 12 → ∀ b, b < 12 → a ≠ b → (TX3 a).2.1 ≠ (TX3 b).2.1 := by decide +kernel
theorem tyX3_ok : ∀ k, k < 12 → parseFieldDescriptor (TX3 k).2.2.1 = some (tyX3 k) := by decide +kernel
abbrev cX3_init : ByteArray := prog_5_method_1_code
def yX3_init : MethodName := ⟨RX3, "<init>", "()V"⟩
abbrev cX3_readPad : ByteArray := prog_5_method_2_code
def yX3_readPad : MethodName := ⟨RX3, "readPad", "()I"⟩
abbrev cX3_readOrder : ByteArray := prog_5_method_3_code
def yX3_readOrder : MethodName := ⟨RX3, "readOrder", "()Z"⟩
abbrev cX3_readFirstDigit : ByteArray := prog_5_method_4_code
def yX3_readFirstDigit : MethodName := ⟨RX3, "readFirstDigit", "()Z"⟩
abbrev cX3_readFirstNumber : ByteArray := prog_5_method_5_code
def yX3_readFirstNumber : MethodName := ⟨RX3, "readFirstNumber", "()Z"⟩
abbrev cX3_readPlace : ByteArray := prog_5_method_6_code
def yX3_readPlace : MethodName := ⟨RX3, "readPlace", "()Z"⟩
abbrev cX3_readNumber : ByteArray := prog_5_method_7_code
def yX3_readNumber : MethodName := ⟨RX3, "readNumber", "()Z"⟩
abbrev cX3_readLetters : ByteArray := prog_5_method_8_code
def yX3_readLetters : MethodName := ⟨RX3, "readLetters", "()Z"⟩
abbrev cX3_reads : ByteArray := prog_5_method_9_code
def yX3_reads : MethodName := ⟨RX3, "reads", "(C)Z"⟩
abbrev cX3_look : ByteArray := prog_5_method_10_code
def yX3_look : MethodName := ⟨RX3, "look", "()C"⟩
abbrev cX3_add : ByteArray := prog_5_method_11_code
def yX3_add : MethodName := ⟨RX3, "add", "(CI)Z"⟩
abbrev cX3_isDigit : ByteArray := prog_5_method_12_code
def yX3_isDigit : MethodName := ⟨RX3, "isDigit", "(C)Z"⟩
abbrev cX3_isLetter : ByteArray := prog_5_method_13_code
def yX3_isLetter : MethodName := ⟨RX3, "isLetter", "(C)Z"⟩
def RX4 : String := "PlateWriters$Pad"
def TX4 : u_T := fun k => match k with
  | 0 => ("PlateWriters$Pad", "signs", "[C", true)
  | _ => ("PlateWriters$Pad", "length", "I", false)
def tyX4 : Nat → FieldType := fun k => match k with
  | 0 => .array .char
  | _ => .int
abbrev wsX40 : List Cond := u_ws RX4 TX4 2
theorem nmX4 : ∀ a, a < 2 → ∀ b, b < 2 → a ≠ b → (TX4 a).2.1 ≠ (TX4 b).2.1 := by decide +kernel
theorem tyX4_ok : ∀ k, k < 2 → parseFieldDescriptor (TX4 k).2.2.1 = some (tyX4 k) := by decide +kernel
abbrev cX4_init : ByteArray := prog_6_method_1_code
def yX4_init : MethodName := ⟨RX4, "<init>", "()V"⟩
abbrev cX4_append : ByteArray := prog_6_method_2_code
def yX4_append : MethodName := ⟨RX4, "append", "(J)I"⟩
abbrev cX4_charactersIn : ByteArray := prog_6_method_3_code
def yX4_charactersIn : MethodName := ⟨RX4, "charactersIn", "(J)I"⟩
abbrev cX4_codeIn : ByteArray := prog_6_method_4_code
def yX4_codeIn : MethodName := ⟨RX4, "codeIn", "(JI)I"⟩
abbrev cX4_empty : ByteArray := prog_6_method_5_code
def yX4_empty : MethodName := ⟨RX4, "empty", "()I"⟩
def RX5 : String := "PlateWriters$Trial"
def TX5 : u_T := fun k => match k with
  | 0 => ("PlateWriters$Trial", "tried", "LPlateWriters$Glass;", true)
  | _ => ("PlateWriters$Trial", "ahead", "[F", true)
def tyX5 : Nat → FieldType := fun k => match k with
  | 0 => .object "PlateWriters$Glass"
  | _ => .array .float
abbrev wsX50 : List Cond := u_ws RX5 TX5 2
theorem nmX5 : ∀ a, a < 2 → ∀ b, b < 2 → a ≠ b → (TX5 a).2.1 ≠ (TX5 b).2.1 := by decide +kernel
theorem tyX5_ok : ∀ k, k < 2 → parseFieldDescriptor (TX5 k).2.2.1 = some (tyX5 k) := by decide +kernel
abbrev cX5_init : ByteArray := prog_7_method_1_code
def yX5_init : MethodName := ⟨RX5, "<init>", "()V"⟩
abbrev cX5_lettersSpoiled : ByteArray := prog_7_method_2_code
def yX5_lettersSpoiled : MethodName := ⟨RX5, "lettersSpoiled", "(LPlateWriters$Desk;LPlateWriters$Glass;II)I"⟩
abbrev cX5_promisesSpoiled : ByteArray := prog_7_method_3_code
def yX5_promisesSpoiled : MethodName := ⟨RX5, "promisesSpoiled", "(LPlateWriters$Desk;LPlateWriters$Glass;II)I"⟩
abbrev cX5_roomLeft : ByteArray := prog_7_method_4_code
def yX5_roomLeft : MethodName := ⟨RX5, "roomLeft", "(LPlateWriters$Desk;LPlateWriters$Glass;II)I"⟩
abbrev cX5_brightestOf : ByteArray := prog_7_method_5_code
def yX5_brightestOf : MethodName := ⟨RX5, "brightestOf", "(LPlateWriters$Desk;LPlateWriters$Glass;)I"⟩
abbrev cX5_lettersUntilFull : ByteArray := prog_7_method_6_code
def yX5_lettersUntilFull : MethodName := ⟨RX5, "lettersUntilFull", "(LPlateWriters$Desk;LPlateWriters$Glass;I)I"⟩
abbrev cX5_lookAhead : ByteArray := prog_7_method_7_code
def yX5_lookAhead : MethodName := ⟨RX5, "lookAhead", "(LPlateWriters$Desk;II)V"⟩
abbrev cX5_lookAround : ByteArray := prog_7_method_8_code
def yX5_lookAround : MethodName := ⟨RX5, "lookAround", "(LPlateWriters$Desk;I)V"⟩
abbrev cX5_brightest : ByteArray := prog_7_method_9_code
def yX5_brightest : MethodName := ⟨RX5, "brightest", "(LPlateWriters$Desk;)I"⟩
def RX6 : String := "PlateWriters"
def TX6 : u_T := fun k => match k with
  | 0 => ("PlateWriters", "now", "LPlateWriters$Desk;", true)
  | 1 => ("PlateWriters", "history", "LPlateWriters$History;", true)
  | 2 => ("PlateWriters", "slots", "[LPlateWriters$Desk;", true)
  | 3 => ("PlateWriters", "saved", "[Z", true)
  | 4 => ("PlateWriters", "orders", "LPlateWriters$Orders;", true)
  | _ => ("PlateWriters", "trial", "LPlateWriters$Trial;", true)
def tyX6 : Nat → FieldType := fun k => match k with
  | 0 => .object "PlateWriters$Desk"
  | 1 => .object "PlateWriters$History"
  | 2 => .array (.object "PlateWriters$Desk")
  | 3 => .array .boolean
  | 4 => .object "PlateWriters$Orders"
  | _ => .object "PlateWriters$Trial"
abbrev wsX60 : List Cond := u_ws RX6 TX6 6
theorem nmX6 : ∀ a, a < 6 → ∀ b, b < 6 → a ≠ b → (TX6 a).2.1 ≠ (TX6 b).2.1 := by decide +kernel
theorem tyX6_ok : ∀ k, k < 6 → parseFieldDescriptor (TX6 k).2.2.1 = some (tyX6 k) := by decide +kernel
abbrev cX6_init : ByteArray := prog_1_method_1_code
def yX6_init : MethodName := ⟨RX6, "<init>", "()V"⟩
abbrev cX6_set : ByteArray := prog_1_method_2_code
def yX6_set : MethodName := ⟨RX6, "set", "(II)I"⟩
abbrev cX6_plate : ByteArray := prog_1_method_3_code
def yX6_plate : MethodName := ⟨RX6, "plate", "()I"⟩
abbrev cX6_lay : ByteArray := prog_1_method_4_code
def yX6_lay : MethodName := ⟨RX6, "lay", "(I)I"⟩
abbrev cX6_writer : ByteArray := prog_1_method_5_code
def yX6_writer : MethodName := ⟨RX6, "writer", "(I)I"⟩
abbrev cX6_write : ByteArray := prog_1_method_6_code
def yX6_write : MethodName := ⟨RX6, "write", "(IIII)I"⟩
abbrev cX6_promise : ByteArray := prog_1_method_7_code
def yX6_promise : MethodName := ⟨RX6, "promise", "(III)I"⟩
abbrev cX6_takeBack : ByteArray := prog_1_method_8_code
def yX6_takeBack : MethodName := ⟨RX6, "takeBack", "(II)I"⟩
abbrev cX6_rub : ByteArray := prog_1_method_9_code
def yX6_rub : MethodName := ⟨RX6, "rub", "(II)I"⟩
abbrev cX6_pass : ByteArray := prog_1_method_10_code
def yX6_pass : MethodName := ⟨RX6, "pass", "(I)I"⟩
abbrev cX6_at : ByteArray := prog_1_method_11_code
def yX6_at : MethodName := ⟨RX6, "at", "(III)I"⟩
abbrev cX6_row : ByteArray := prog_1_method_12_code
def yX6_row : MethodName := ⟨RX6, "row", "(II)I"⟩
abbrev cX6_of : ByteArray := prog_1_method_13_code
def yX6_of : MethodName := ⟨RX6, "of", "(II)I"⟩
abbrev cX6_ofPlate : ByteArray := prog_1_method_14_code
def yX6_ofPlate : MethodName := ⟨RX6, "ofPlate", "(II)I"⟩
abbrev cX6_count : ByteArray := prog_1_method_15_code
def yX6_count : MethodName := ⟨RX6, "count", "(I)I"⟩
abbrev cX6_mean : ByteArray := prog_1_method_16_code
def yX6_mean : MethodName := ⟨RX6, "mean", "()J"⟩
abbrev cX6_ifWritten : ByteArray := prog_1_method_17_code
def yX6_ifWritten : MethodName := ⟨RX6, "ifWritten", "(IIII)I"⟩
abbrev cX6_bestPlace : ByteArray := prog_1_method_18_code
def yX6_bestPlace : MethodName := ⟨RX6, "bestPlace", "()I"⟩
abbrev cX6_fills : ByteArray := prog_1_method_19_code
def yX6_fills : MethodName := ⟨RX6, "fills", "(I)I"⟩
abbrev cX6_whoDims : ByteArray := prog_1_method_20_code
def yX6_whoDims : MethodName := ⟨RX6, "whoDims", "(II)I"⟩
abbrev cX6_readableIn : ByteArray := prog_1_method_21_code
def yX6_readableIn : MethodName := ⟨RX6, "readableIn", "(I)I"⟩
abbrev cX6_put : ByteArray := prog_1_method_22_code
def yX6_put : MethodName := ⟨RX6, "put", "(J)I"⟩
abbrev cX6_wipe : ByteArray := prog_1_method_23_code
def yX6_wipe : MethodName := ⟨RX6, "wipe", "()I"⟩
abbrev cX6_fault : ByteArray := prog_1_method_24_code
def yX6_fault : MethodName := ⟨RX6, "fault", "()I"⟩
abbrev cX6_carryOut : ByteArray := prog_1_method_25_code
def yX6_carryOut : MethodName := ⟨RX6, "carryOut", "()I"⟩
abbrev cX6_undo : ByteArray := prog_1_method_26_code
def yX6_undo : MethodName := ⟨RX6, "undo", "()I"⟩
abbrev cX6_save : ByteArray := prog_1_method_27_code
def yX6_save : MethodName := ⟨RX6, "save", "(I)I"⟩
abbrev cX6_restore : ByteArray := prog_1_method_28_code
def yX6_restore : MethodName := ⟨RX6, "restore", "(I)I"⟩
abbrev cX6_isPlace : ByteArray := prog_1_method_29_code
def yX6_isPlace : MethodName := ⟨RX6, "isPlace", "(II)Z"⟩
abbrev cX6_firstNear : ByteArray := prog_1_method_30_code
def yX6_firstNear : MethodName := ⟨RX6, "firstNear", "(I)I"⟩
abbrev cX6_lastNear : ByteArray := prog_1_method_31_code
def yX6_lastNear : MethodName := ⟨RX6, "lastNear", "(II)I"⟩
abbrev cX6_columnsThat : ByteArray := prog_1_method_32_code
def yX6_columnsThat : MethodName := ⟨RX6, "columnsThat", "(LPlateWriters$Glass;II)I"⟩
abbrev cX6_longestRun : ByteArray := prog_1_method_33_code
def yX6_longestRun : MethodName := ⟨RX6, "longestRun", "(I)I"⟩
abbrev cX6_obey : ByteArray := prog_1_method_34_code
def yX6_obey : MethodName := ⟨RX6, "obey", "(I)I"⟩
abbrev cX6_bitsOfFloat : ByteArray := prog_1_method_35_code
def yX6_bitsOfFloat : MethodName := ⟨RX6, "bitsOfFloat", "(F)I"⟩
abbrev cX6_bitsOfMean : ByteArray := prog_1_method_36_code
def yX6_bitsOfMean : MethodName := ⟨RX6, "bitsOfMean", "(D)J"⟩
def RX7 : String := "PlateWritersModel"
def TX7 : u_T := fun k => match k with
  | 0 => ("PlateWritersModel", "s", "[I", true)
  | 1 => ("PlateWritersModel", "light", "[F", true)
  | 2 => ("PlateWritersModel", "historyLong", "I", false)
  | 3 => ("PlateWritersModel", "isSaved", "[Z", true)
  | 4 => ("PlateWritersModel", "could", "[I", true)
  | 5 => ("PlateWritersModel", "text", "[I", true)
  | 6 => ("PlateWritersModel", "textLong", "I", false)
  | 7 => ("PlateWritersModel", "spot", "I", false)
  | 8 => ("PlateWritersModel", "kind", "C", false)
  | 9 => ("PlateWritersModel", "one", "I", false)
  | 10 => ("PlateWritersModel", "row", "I", false)
  | 11 => ("PlateWritersModel", "column", "I", false)
  | 12 => ("PlateWritersModel", "first", "I", false)
  | _ => ("PlateWritersModel", "last", "I", false)
def tyX7 : Nat → FieldType := fun k => match k with
  | 0 => .array .int
  | 1 => .array .float
  | 2 => .int
  | 3 => .array .boolean
  | 4 => .array .int
  | 5 => .array .int
  | 6 => .int
  | 7 => .int
  | 8 => .char
  | 9 => .int
  | 10 => .int
  | 11 => .int
  | 12 => .int
  | _ => .int
abbrev wsX70 : List Cond := u_ws RX7 TX7 14
theorem nmX7 : ∀ a, a < 14 → ∀ b, b < 14 → a ≠ b → (TX7 a).2.1 ≠ (TX7 b).2.1 := by decide +kernel
theorem tyX7_ok : ∀ k, k < 14 → parseFieldDescriptor (TX7 k).2.2.1 = some (tyX7 k) := by decide +kernel
abbrev cX7_init : ByteArray := prog_9_method_1_code
def yX7_init : MethodName := ⟨RX7, "<init>", "()V"⟩
abbrev cX7_in : ByteArray := prog_9_method_3_code
def yX7_in : MethodName := ⟨RX7, "in", "(JJJ)Z"⟩
abbrev cX7_copies : ByteArray := prog_9_method_4_code
def yX7_copies : MethodName := ⟨RX7, "copies", "(II)V"⟩
abbrev cX7_changes : ByteArray := prog_9_method_5_code
def yX7_changes : MethodName := ⟨RX7, "changes", "()V"⟩
abbrev cX7_inkAt : ByteArray := prog_9_method_6_code
def yX7_inkAt : MethodName := ⟨RX7, "inkAt", "(III)I"⟩
abbrev cX7_lightAt : ByteArray := prog_9_method_7_code
def yX7_lightAt : MethodName := ⟨RX7, "lightAt", "(III)I"⟩
abbrev cX7_hasLetter : ByteArray := prog_9_method_8_code
def yX7_hasLetter : MethodName := ⟨RX7, "hasLetter", "(III)Z"⟩
abbrev cX7_promisedTo : ByteArray := prog_9_method_9_code
def yX7_promisedTo : MethodName := ⟨RX7, "promisedTo", "(III)I"⟩
abbrev cX7_clouded : ByteArray := prog_9_method_10_code
def yX7_clouded : MethodName := ⟨RX7, "clouded", "(IFIII)F"⟩
abbrev cX7_isBright : ByteArray := prog_9_method_11_code
def yX7_isBright : MethodName := ⟨RX7, "isBright", "(IF)Z"⟩
abbrev cX7_ahead : ByteArray := prog_9_method_12_code
def yX7_ahead : MethodName := ⟨RX7, "ahead", "(III)F"⟩
abbrev cX7_hasRoom : ByteArray := prog_9_method_13_code
def yX7_hasRoom : MethodName := ⟨RX7, "hasRoom", "(III)Z"⟩
abbrev cX7_canRead : ByteArray := prog_9_method_14_code
def yX7_canRead : MethodName := ⟨RX7, "canRead", "(III)Z"⟩
abbrev cX7_rooms : ByteArray := prog_9_method_15_code
def yX7_rooms : MethodName := ⟨RX7, "rooms", "(II)I"⟩
abbrev cX7_looks : ByteArray := prog_9_method_16_code
def yX7_looks : MethodName := ⟨RX7, "looks", "(I)V"⟩
abbrev cX7_spoilt : ByteArray := prog_9_method_17_code
def yX7_spoilt : MethodName := ⟨RX7, "spoilt", "(III)I"⟩
abbrev cX7_writes : ByteArray := prog_9_method_18_code
def yX7_writes : MethodName := ⟨RX7, "writes", "(IIIII)V"⟩
abbrev cX7_best : ByteArray := prog_9_method_19_code
def yX7_best : MethodName := ⟨RX7, "best", "(II)I"⟩
abbrev cX7_clears : ByteArray := prog_9_method_20_code
def yX7_clears : MethodName := ⟨RX7, "clears", "(II)V"⟩
abbrev cX7_isWriter : ByteArray := prog_9_method_21_code
def yX7_isWriter : MethodName := ⟨RX7, "isWriter", "(I)Z"⟩
abbrev cX7_isPlate : ByteArray := prog_9_method_22_code
def yX7_isPlate : MethodName := ⟨RX7, "isPlate", "(I)Z"⟩
abbrev cX7_isRow : ByteArray := prog_9_method_23_code
def yX7_isRow : MethodName := ⟨RX7, "isRow", "(I)Z"⟩
abbrev cX7_isThere : ByteArray := prog_9_method_24_code
def yX7_isThere : MethodName := ⟨RX7, "isThere", "(II)Z"⟩
abbrev cX7_spotOf : ByteArray := prog_9_method_25_code
def yX7_spotOf : MethodName := ⟨RX7, "spotOf", "(II)I"⟩
abbrev cX7_layError : ByteArray := prog_9_method_26_code
def yX7_layError : MethodName := ⟨RX7, "layError", "(I)I"⟩
abbrev cX7_writerError : ByteArray := prog_9_method_27_code
def yX7_writerError : MethodName := ⟨RX7, "writerError", "(I)I"⟩
abbrev cX7_writeError : ByteArray := prog_9_method_28_code
def yX7_writeError : MethodName := ⟨RX7, "writeError", "(IIII)I"⟩
abbrev cX7_promiseError : ByteArray := prog_9_method_29_code
def yX7_promiseError : MethodName := ⟨RX7, "promiseError", "(III)I"⟩
abbrev cX7_rubError : ByteArray := prog_9_method_30_code
def yX7_rubError : MethodName := ⟨RX7, "rubError", "(II)I"⟩
abbrev cX7_passError : ByteArray := prog_9_method_31_code
def yX7_passError : MethodName := ⟨RX7, "passError", "(I)I"⟩
abbrev cX7_comes : ByteArray := prog_9_method_32_code
def yX7_comes : MethodName := ⟨RX7, "comes", "()I"⟩
abbrev cX7_lays : ByteArray := prog_9_method_33_code
def yX7_lays : MethodName := ⟨RX7, "lays", "(I)I"⟩
abbrev cX7_joins : ByteArray := prog_9_method_34_code
def yX7_joins : MethodName := ⟨RX7, "joins", "(I)I"⟩
abbrev cX7_pens : ByteArray := prog_9_method_35_code
def yX7_pens : MethodName := ⟨RX7, "pens", "(III)I"⟩
abbrev cX7_promisedOn : ByteArray := prog_9_method_36_code
def yX7_promisedOn : MethodName := ⟨RX7, "promisedOn", "(I)I"⟩
abbrev cX7_promises : ByteArray := prog_9_method_37_code
def yX7_promises : MethodName := ⟨RX7, "promises", "(II)I"⟩
abbrev cX7_rubs : ByteArray := prog_9_method_38_code
def yX7_rubs : MethodName := ⟨RX7, "rubs", "(I)I"⟩
abbrev cX7_goesOn : ByteArray := prog_9_method_39_code
def yX7_goesOn : MethodName := ⟨RX7, "goesOn", "(I)I"⟩
abbrev cX7_isValue : ByteArray := prog_9_method_40_code
def yX7_isValue : MethodName := ⟨RX7, "isValue", "(II)Z"⟩
abbrev cX7_set : ByteArray := prog_9_method_41_code
def yX7_set : MethodName := ⟨RX7, "set", "(II)I"⟩
abbrev cX7_plate : ByteArray := prog_9_method_42_code
def yX7_plate : MethodName := ⟨RX7, "plate", "()I"⟩
abbrev cX7_lay : ByteArray := prog_9_method_43_code
def yX7_lay : MethodName := ⟨RX7, "lay", "(I)I"⟩
abbrev cX7_writer : ByteArray := prog_9_method_44_code
def yX7_writer : MethodName := ⟨RX7, "writer", "(I)I"⟩
abbrev cX7_write : ByteArray := prog_9_method_45_code
def yX7_write : MethodName := ⟨RX7, "write", "(IIII)I"⟩
abbrev cX7_promise : ByteArray := prog_9_method_46_code
def yX7_promise : MethodName := ⟨RX7, "promise", "(III)I"⟩
abbrev cX7_takeBack : ByteArray := prog_9_method_47_code
def yX7_takeBack : MethodName := ⟨RX7, "takeBack", "(II)I"⟩
abbrev cX7_rub : ByteArray := prog_9_method_48_code
def yX7_rub : MethodName := ⟨RX7, "rub", "(II)I"⟩
abbrev cX7_pass : ByteArray := prog_9_method_49_code
def yX7_pass : MethodName := ⟨RX7, "pass", "(I)I"⟩
abbrev cX7_flag : ByteArray := prog_9_method_50_code
def yX7_flag : MethodName := ⟨RX7, "flag", "(Z)I"⟩
abbrev cX7_at : ByteArray := prog_9_method_51_code
def yX7_at : MethodName := ⟨RX7, "at", "(III)I"⟩
abbrev cX7_isSo : ByteArray := prog_9_method_52_code
def yX7_isSo : MethodName := ⟨RX7, "isSo", "(III)Z"⟩
abbrev cX7_longestWord : ByteArray := prog_9_method_53_code
def yX7_longestWord : MethodName := ⟨RX7, "longestWord", "(II)I"⟩
abbrev cX7_row : ByteArray := prog_9_method_54_code
def yX7_row : MethodName := ⟨RX7, "row", "(II)I"⟩
abbrev cX7_counted : ByteArray := prog_9_method_55_code
def yX7_counted : MethodName := ⟨RX7, "counted", "(II)I"⟩
abbrev cX7_of : ByteArray := prog_9_method_56_code
def yX7_of : MethodName := ⟨RX7, "of", "(II)I"⟩
abbrev cX7_leastLight : ByteArray := prog_9_method_57_code
def yX7_leastLight : MethodName := ⟨RX7, "leastLight", "(I)F"⟩
abbrev cX7_allLight : ByteArray := prog_9_method_58_code
def yX7_allLight : MethodName := ⟨RX7, "allLight", "(I)F"⟩
abbrev cX7_ofPlate : ByteArray := prog_9_method_59_code
def yX7_ofPlate : MethodName := ⟨RX7, "ofPlate", "(II)I"⟩
abbrev cX7_count : ByteArray := prog_9_method_60_code
def yX7_count : MethodName := ⟨RX7, "count", "(I)I"⟩
abbrev cX7_mean : ByteArray := prog_9_method_61_code
def yX7_mean : MethodName := ⟨RX7, "mean", "()J"⟩
abbrev cX7_tooDark : ByteArray := prog_9_method_62_code
def yX7_tooDark : MethodName := ⟨RX7, "tooDark", "(II)I"⟩
abbrev cX7_ifWritten : ByteArray := prog_9_method_63_code
def yX7_ifWritten : MethodName := ⟨RX7, "ifWritten", "(IIII)I"⟩
abbrev cX7_bestPlace : ByteArray := prog_9_method_64_code
def yX7_bestPlace : MethodName := ⟨RX7, "bestPlace", "()I"⟩
abbrev cX7_fills : ByteArray := prog_9_method_65_code
def yX7_fills : MethodName := ⟨RX7, "fills", "(I)I"⟩
abbrev cX7_leaves : ByteArray := prog_9_method_66_code
def yX7_leaves : MethodName := ⟨RX7, "leaves", "(II)F"⟩
abbrev cX7_whoDims : ByteArray := prog_9_method_67_code
def yX7_whoDims : MethodName := ⟨RX7, "whoDims", "(II)I"⟩
abbrev cX7_areRead : ByteArray := prog_9_method_68_code
def yX7_areRead : MethodName := ⟨RX7, "areRead", "(II)Z"⟩
abbrev cX7_readableIn : ByteArray := prog_9_method_69_code
def yX7_readableIn : MethodName := ⟨RX7, "readableIn", "(I)I"⟩
abbrev cX7_charactersOf : ByteArray := prog_9_method_70_code
def yX7_charactersOf : MethodName := ⟨RX7, "charactersOf", "(J)I"⟩
abbrev cX7_put : ByteArray := prog_9_method_71_code
def yX7_put : MethodName := ⟨RX7, "put", "(J)I"⟩
abbrev cX7_wipe : ByteArray := prog_9_method_72_code
def yX7_wipe : MethodName := ⟨RX7, "wipe", "()I"⟩
abbrev cX7_isHere : ByteArray := prog_9_method_73_code
def yX7_isHere : MethodName := ⟨RX7, "isHere", "(II)Z"⟩
abbrev cX7_takes : ByteArray := prog_9_method_74_code
def yX7_takes : MethodName := ⟨RX7, "takes", "(I)Z"⟩
abbrev cX7_digit : ByteArray := prog_9_method_75_code
def yX7_digit : MethodName := ⟨RX7, "digit", "()I"⟩
abbrev cX7_number : ByteArray := prog_9_method_76_code
def yX7_number : MethodName := ⟨RX7, "number", "()I"⟩
abbrev cX7_readsPlace : ByteArray := prog_9_method_77_code
def yX7_readsPlace : MethodName := ⟨RX7, "readsPlace", "()Z"⟩
abbrev cX7_readsLetters : ByteArray := prog_9_method_78_code
def yX7_readsLetters : MethodName := ⟨RX7, "readsLetters", "()Z"⟩
abbrev cX7_readsOrder : ByteArray := prog_9_method_79_code
def yX7_readsOrder : MethodName := ⟨RX7, "readsOrder", "()Z"⟩
abbrev cX7_fault : ByteArray := prog_9_method_80_code
def yX7_fault : MethodName := ⟨RX7, "fault", "()I"⟩
abbrev cX7_orderError : ByteArray := prog_9_method_81_code
def yX7_orderError : MethodName := ⟨RX7, "orderError", "(I)I"⟩
abbrev cX7_does : ByteArray := prog_9_method_82_code
def yX7_does : MethodName := ⟨RX7, "does", "(I)I"⟩
abbrev cX7_carryOut : ByteArray := prog_9_method_83_code
def yX7_carryOut : MethodName := ⟨RX7, "carryOut", "()I"⟩
abbrev cX7_undo : ByteArray := prog_9_method_84_code
def yX7_undo : MethodName := ⟨RX7, "undo", "()I"⟩
abbrev cX7_isSlot : ByteArray := prog_9_method_85_code
def yX7_isSlot : MethodName := ⟨RX7, "isSlot", "(I)Z"⟩
abbrev cX7_save : ByteArray := prog_9_method_86_code
def yX7_save : MethodName := ⟨RX7, "save", "(I)I"⟩
abbrev cX7_restore : ByteArray := prog_9_method_87_code
def yX7_restore : MethodName := ⟨RX7, "restore", "(I)I"⟩
def RJx145de : String := "java/io/Serializable"
def RJxb160c : String := "java/lang/Comparable"
def RJxe99ae : String := "java/lang/Double"
abbrev cJxe99ae_isNaN_b9ae7 : ByteArray := prog_10_method_6_code
def yJxe99ae_isNaN_b9ae7 : MethodName := ⟨RJxe99ae, "isNaN", "(D)Z"⟩
abbrev cJxe99ae_doubleToLongBits_ccdee : ByteArray := prog_10_method_23_code
def yJxe99ae_doubleToLongBits_ccdee : MethodName := ⟨RJxe99ae, "doubleToLongBits", "(D)J"⟩
def RJxf58ca : String := "java/lang/Float"
abbrev cJxf58ca_isNaN_12338 : ByteArray := prog_11_method_6_code
def yJxf58ca_isNaN_12338 : MethodName := ⟨RJxf58ca, "isNaN", "(F)Z"⟩
abbrev cJxf58ca_floatToIntBits_5c35a : ByteArray := prog_11_method_24_code
def yJxf58ca_floatToIntBits_5c35a : MethodName := ⟨RJxf58ca, "floatToIntBits", "(F)I"⟩
def RJ9 : String := "java/lang/Math"
abbrev cJ9_abs_0f7a4 : ByteArray := prog_12_method_59_code
def yJ9_abs_0f7a4 : MethodName := ⟨RJ9, "abs", "(I)I"⟩
abbrev cJ9_max_7cf53 : ByteArray := prog_12_method_65_code
def yJ9_max_7cf53 : MethodName := ⟨RJ9, "max", "(II)I"⟩
abbrev cJ9_min_7cf53 : ByteArray := prog_12_method_69_code
def yJ9_min_7cf53 : MethodName := ⟨RJ9, "min", "(II)I"⟩
def RJxd2413 : String := "java/lang/Number"
def RJ10 : String := "java/lang/System"
def RJxfd54e : String := "java/lang/constant/Constable"
def RJx3cf43 : String := "java/lang/constant/ConstantDesc"
def RJ7 : String := "java/util/Arrays"
abbrev cJ7_fill_53178 : ByteArray := prog_15_method_103_code
def yJ7_fill_53178 : MethodName := ⟨RJ7, "fill", "([II)V"⟩
abbrev cJ7_fill_e525d : ByteArray := prog_15_method_115_code
def yJ7_fill_e525d : MethodName := ⟨RJ7, "fill", "([FF)V"⟩
def RL : String := "PlateWritersLaw"
abbrev cL_law : ByteArray := code
def yL_law : MethodName := ⟨RL, "law", "([I)Z"⟩
abbrev vwCl : List vw_C := [(RX0, TX0, 9), (RX1, TX1, 4), (RX2, TX2, 3), (RX3, TX3, 12), (RX4, TX4, 2), (RX5, TX5, 2), (RX6, TX6, 6), (RX7, TX7, 14)]
end
section
/-! THE PLAIN MACHINE: states as functions of addresses, and what holds between one and the heap -/
/-- the tables' words that keep -/
def lw_all : List Cond := lw_tbl.filter goodWord
theorem all_good {w : Cond} (h : w ∈ lw_all) : (w.onTables && w.keeps) = true ∨ ∃ ty, w = .arrayClass ty := good_of_word (List.mem_filter.mp h).2
theorem all_tbl {w : Cond} (h : w ∈ lw_all) : w ∈ lw_tbl := (List.mem_filter.mp h).1
/-- the word at a place of the tables -/
def wAt (k : Nat) (w : Cond) : Bool := decide (lw_tbl[k]? = some w) && goodWord w
theorem wAt_in {k : Nat} {w : Cond} (h : wAt k w = true) : w ∈ lw_all := by
  unfold wAt at h
  rw [Bool.and_eq_true, decide_eq_true_eq] at h
  exact List.mem_filter.mpr ⟨List.mem_of_getElem? h.1, h.2⟩
/-- kinds of cells (with their lengths), references, the next address, whole numbers, floats -/
abbrev SS : Type := (Nat → Option (Nat × Nat)) × (Nat → Nat → Option Nat) × Nat × (Nat → Nat → Int32) × (Nat → Nat → UInt32)
def sK (S : SS) : Nat → Option (Nat × Nat) := S.1
def sR (S : SS) : Nat → Nat → Option Nat := S.2.1
def sZ (S : SS) : Nat := S.2.2.1
def sI (S : SS) : Nat → Nat → Int32 := S.2.2.2.1
def sF (S : SS) : Nat → Nat → UInt32 := S.2.2.2.2
def up2 {α : Type} (f : Nat → Nat → α) (a k : Nat) (v : α) : Nat → Nat → α := fun b j => if b = a ∧ j = k then v else f b j
def upA {α : Type} (f : Nat → α) (a : Nat) (v : α) : Nat → α := fun b => if b = a then v else f b
def stI (S : SS) (a k : Nat) (v : Int32) : SS := (S.1, S.2.1, S.2.2.1, up2 S.2.2.2.1 a k v, S.2.2.2.2)
def stF (S : SS) (a k : Nat) (v : UInt32) : SS := (S.1, S.2.1, S.2.2.1, S.2.2.2.1, up2 S.2.2.2.2 a k v)
def stR (S : SS) (a k : Nat) (v : Option Nat) : SS := (S.1, up2 S.2.1 a k v, S.2.2.1, S.2.2.2.1, S.2.2.2.2)
/-- a whole row laid anew -/
def stIA (S : SS) (a : Nat) (f : Nat → Int32) : SS := (S.1, S.2.1, S.2.2.1, upA S.2.2.2.1 a f, S.2.2.2.2)
def stFA (S : SS) (a : Nat) (f : Nat → UInt32) : SS := (S.1, S.2.1, S.2.2.1, S.2.2.2.1, upA S.2.2.2.2 a f)
/-- a new cell -/
def stN (S : SS) (kd n : Nat) : SS := (upA S.1 S.2.2.1 (some (kd, n)), upA S.2.1 S.2.2.1 (fun _ => none), S.2.2.1 + 1, upA S.2.2.2.1 S.2.2.1 (fun _ => 0), upA S.2.2.2.2 S.2.2.1 (fun _ => FP.fconst0))
/-- the class ids and slots of the objects; those of the rows by their kinds; the given rows (address, length, numbers); from where on all is ours -/
abbrev Gx : Type := va_G × (Nat → ClassId) × (Nat → Nat × Nat × (Nat → Int32)) × Nat
def gA (G : Gx) : Nat → Prop := fun q => G.2.2.2 ≤ q
/-- the types of the fields of an object of a kind -/
def fty (ci : Nat) : Nat → FieldType := match ci with
  | 0 => tyX0 | 1 => tyX1 | 2 => tyX2 | 3 => tyX3 | 4 => tyX4 | 5 => tyX5 | 6 => tyX6 | _ => tyX7
def isRefTy : FieldType → Bool
  | .object _ | .array _ => true
  | _ => false
def nf (ci : Nat) : Nat := match ci with
  | 0 => 9 | 1 => 4 | 2 => 3 | 3 => 12 | 4 => 2 | 5 => 2 | 6 => 6 | _ => 14
/-- the types of the rows -/
def aty (kd : Nat) : FieldType := match kd with
  | 8 => .int | 9 => .float | 10 => .boolean | 11 => .char | 12 => .object "PlateWriters$Desk" | _ => .object "PlateWriters$Glass"
def fV (S : SS) (a ci k : Nat) : Value := match isRefTy (fty ci k) with
  | true => va_rf (sR S a k)
  | false => .int (sI S a k)
def arC (S : SS) (a kd : Nat) : (Nat → Int32) ⊕ (Nat → Int64) ⊕ (Nat → UInt32) ⊕ (Nat → UInt64) ⊕ (Nat → Option Nat) :=
  if kd = 9 then .inr (.inr (.inl (sF S a))) else if kd = 12 ∨ kd = 13 then .inr (.inr (.inr (.inr (sR S a)))) else .inl (sI S a)
def cel (G : Gx) (S : SS) (a kd n : Nat) : va_E := if kd < 8 then .inr (kd, (List.range (nf kd)).map (fV S a kd)) else .inl (G.2.1 kd, n, arC S a kd)
def gTys (G : Gx) : List (ClassId × FieldType) := [(G.2.1 8, aty 8), (G.2.1 9, aty 9), (G.2.1 10, aty 10), (G.2.1 11, aty 11), (G.2.1 12, aty 12), (G.2.1 13, aty 13)]
/-- the words of private members of a nest mate -/
def nestW : List Cond := lw_tbl.filter (fun w => match w with | .methodLinkNest _ _ _ _ => true | .fieldLinkNest _ _ _ _ _ _ => true | _ => false)
/-- what the machine's tables and the given rows say -/
def gOK (G : Gx) (U : State) (H : Heap) : Prop := va_K G.1 vwCl (gTys G) U ∧ (∀ w ∈ nestW, va_Nw w U) ∧ (va_AO "PlateWriters$Desk" U ∧ va_AO "PlateWriters$Glass" U) ∧
  (va_Z "PlateWriters" "LEAST_OF_SETTING" "[I" (.ref (G.2.2.1 0).1) (gA G) U H ∧ va_Z "PlateWriters" "MOST_OF_SETTING" "[I" (.ref (G.2.2.1 1).1) (gA G) U H) ∧
  ∀ i, i < 3 → va_T .int (G.2.2.1 i).1 (G.2.2.1 i).2.1 (fun j => .int ((G.2.2.1 i).2.2 j)) (gA G) U H
def Rep (G : Gx) (S : SS) (H : Heap) : Prop := H.size = sZ S ∧ ∀ a kd n, sK S a = some (kd, n) →
  (kd < 14 → G.2.2.2 ≤ a ∧ va_at G.1 vwCl (a, cel G S a kd n) H) ∧
  (14 ≤ kd → kd < 17 ∧ a = (G.2.2.1 (kd - 14)).1 ∧ n = (G.2.2.1 (kd - 14)).2.1 ∧ ∀ j, j < n → sI S a j = (G.2.2.1 (kd - 14)).2.2 j)
theorem nest_in {k : Nat} {a : String} {i : Nat} {y : MethodName} {h : String} (hk : lw_tbl[k]? = some (.methodLinkNest a i y h)) : Cond.methodLinkNest a i y h ∈ nestW := List.mem_filter.mpr ⟨List.mem_of_getElem? hk, rfl⟩
theorem nest_inF {k : Nat} {a : String} {i : Nat} {b n d h : String} (hk : lw_tbl[k]? = some (.fieldLinkNest a i b n d h)) : Cond.fieldLinkNest a i b n d h ∈ nestW := List.mem_filter.mpr ⟨List.mem_of_getElem? hk, rfl⟩
theorem nest_form {w : Cond} (h : w ∈ nestW) : (∃ a i y q, w = .methodLinkNest a i y q) ∨ ∃ a i b n d q, w = .fieldLinkNest a i b n d q := by
  have h2 := (List.mem_filter.mp h).2
  cases w <;> first | exact Or.inl ⟨_, _, _, _, rfl⟩ | exact Or.inr ⟨_, _, _, _, _, _, rfl⟩ | simp at h2
theorem gOK.warm {G : Gx} {s U : State} {H : Heap} (h : gOK G s H) (hW : s.WarmedH U.vm) : gOK G U H := by
  obtain ⟨h1, h2, ⟨h3, h4⟩, ⟨h5, h6⟩, h7⟩ := h
  refine ⟨va_K.moved hW.alike h1, fun w hw => ?_, ⟨va_AO.moved hW.alike h3, va_AO.moved hW.alike h4⟩, ⟨va_Z.moved hW.alike h5, va_Z.moved hW.alike h6⟩, fun i hi => va_T.moved hW.alike (h7 i hi)⟩
  rcases nest_form hw with ⟨a, i, y, q, rfl⟩ | ⟨a, i, b, n, d, q, rfl⟩
  · exact va_Nw.warmM hW (h2 _ hw)
  · exact va_Nw.warmF hW (h2 _ hw)
theorem gOK.kept {G : Gx} {s : State} {H H1 : Heap} (h : gOK G s H) (hq : ∀ a : Nat, a < H.size → ¬ gA G a → H1[a]? = H[a]?) : gOK G s H1 := by
  obtain ⟨h1, h2, h34, ⟨h5, h6⟩, h7⟩ := h
  exact ⟨h1, h2, h34, ⟨h5.kept hq, h6.kept hq⟩, fun i hi => (h7 i hi).kept hq⟩
theorem gOK.calling {G : Gx} {U : State} {H : Heap} (g : JFrame) (mk : MethodId) (a : Array Value) (h : gOK G U H) : gOK G (U.calling g mk a) H := by
  obtain ⟨h1, h2, ⟨h3, h4⟩, ⟨h5, h6⟩, h7⟩ := h
  have hal : U.vm.Alike (U.calling g mk a).vm := Vm.Alike.refl U.vm
  refine ⟨va_K.moved hal h1, fun w hw => ?_, ⟨va_AO.moved hal h3, va_AO.moved hal h4⟩, ⟨va_Z.moved hal h5, va_Z.moved hal h6⟩, fun i hi => va_T.moved hal (h7 i hi)⟩
  rcases nest_form hw with ⟨a, i, y, q, rfl⟩ | ⟨a, i, b, n, d, q, rfl⟩
  · exact va_Nw.same rfl rfl (h2 _ hw)
  · exact va_Nw.same rfl rfl (h2 _ hw)
/-- one cell changed -/
theorem Rep.upd {G : Gx} {S S' : SS} {H H' : Heap} {a kd n : Nat} (h : Rep G S H) (hK : sK S' = sK S) (hZ : sZ S' = sZ S) (ha : sK S a = some (kd, n)) (hkd : kd < 14)
    (hI : ∀ b, b ≠ a → sI S' b = sI S b) (hF : ∀ b, b ≠ a → sF S' b = sF S b) (hR : ∀ b, b ≠ a → sR S' b = sR S b)
    (z : H'.size = H.size) (o : ∀ q : Nat, q ≠ a → H'[q]? = H[q]?) (he : va_at G.1 vwCl (a, cel G S' a kd n) H') : Rep G S' H' := by
  refine ⟨by rw [z, hZ]; exact h.1, fun b kb nb hb => ?_⟩
  rw [hK] at hb
  by_cases hba : b = a
  · subst hba
    rw [ha] at hb
    cases hb
    exact ⟨fun _ => ⟨((h.2 _ _ _ ha).1 hkd).1, he⟩, fun q => absurd q (by omega)⟩
  · refine ⟨fun q => ⟨((h.2 _ _ _ hb).1 q).1, ?_⟩, fun q => ?_⟩
    · have h1 := ((h.2 _ _ _ hb).1 q).2
      have e : cel G S' b kb nb = cel G S b kb nb := by
        unfold cel arC
        split
        · have : fV S' b kb = fV S b kb := by funext k; unfold fV; rw [hI b hba, hR b hba]
          rw [this]
        · rw [hI b hba, hF b hba, hR b hba]
      rw [e]
      exact h1.kept (o b hba)
    · obtain ⟨q1, q2, q3, q4⟩ := (h.2 _ _ _ hb).2 q
      exact ⟨q1, q2, q3, fun j hj => by rw [hI b hba]; exact q4 j hj⟩
/-- a new cell at the end -/
theorem Rep.push {G : Gx} {S : SS} {H H' : Heap} {kd n : Nat} (h : Rep G S H) (hkd : kd < 14) (hb : G.2.2.2 ≤ H.size) (z : H'.size = H.size + 1) (o : ∀ q : Nat, q < H.size → H'[q]? = H[q]?) (hlt : ∀ i, i < 3 → (G.2.2.1 i).1 < H.size)
    (he : va_at G.1 vwCl (H.size, cel G (stN S kd n) H.size kd n) H') : Rep G (stN S kd n) H' := by
  have hz := h.1
  refine ⟨by rw [z, hz]; rfl, fun b kb nb hbk => ?_⟩
  by_cases hba : b = H.size
  · subst hba
    have e : sK (stN S kd n) H.size = some (kd, n) := by show upA S.1 S.2.2.1 _ _ = _; unfold upA; rw [if_pos (by exact hz)]
    rw [e] at hbk
    cases hbk
    exact ⟨fun _ => ⟨hb, he⟩, fun q => absurd q (by omega)⟩
  · have hbz : ¬ b = S.2.2.1 := by intro q; exact hba (q.trans hz.symm)
    have e : sK (stN S kd n) b = sK S b := by show upA S.1 S.2.2.1 _ _ = _; unfold upA; rw [if_neg hbz]; rfl
    rw [e] at hbk
    have eI : sI (stN S kd n) b = sI S b := by show upA S.2.2.2.1 S.2.2.1 _ _ = _; unfold upA; rw [if_neg hbz]; rfl
    have eF : sF (stN S kd n) b = sF S b := by show upA S.2.2.2.2 S.2.2.1 _ _ = _; unfold upA; rw [if_neg hbz]; rfl
    have eR : sR (stN S kd n) b = sR S b := by show upA S.2.1 S.2.2.1 _ _ = _; unfold upA; rw [if_neg hbz]; rfl
    refine ⟨fun q => ⟨((h.2 _ _ _ hbk).1 q).1, ?_⟩, fun q => ?_⟩
    · have h1 := ((h.2 _ _ _ hbk).1 q).2
      have e2 : cel G (stN S kd n) b kb nb = cel G S b kb nb := by
        unfold cel arC
        split
        · have : fV (stN S kd n) b kb = fV S b kb := by funext k; unfold fV; rw [eI, eR]
          rw [this]
        · rw [eI, eF, eR]
      rw [e2]
      exact h1.kept (o b h1.lt)
    · obtain ⟨q1, q2, q3, q4⟩ := (h.2 _ _ _ hbk).2 q
      exact ⟨q1, q2, q3, fun j hj => by rw [eI]; exact q4 j hj⟩
/-- the locals, by their places -/
def lvh (ls : Array Slot) (nL : Nat) (L : List (Option Value)) : Prop := ls.size = nL ∧ lv_wf ls ∧ L.length = nL ∧ ∀ (i : Nat) (v : Value), L[i]? = some (some v) → ls[i]? = some (.val v)
def lvl (L : List (Option Value)) : List (Nat × Value) := (List.range L.length).filterMap (fun i => match L[i]? with | some (some v) => some (i, v) | _ => none)
theorem lvl_mem {L : List (Option Value)} {i : Nat} {v : Value} (h : L[i]? = some (some v)) : (i, v) ∈ lvl L :=
  List.mem_filterMap.mpr ⟨i, List.mem_range.mpr (List.getElem?_eq_some_iff.mp h).1, by rw [h]⟩
theorem mem_lvl {L : List (Option Value)} {q : Nat × Value} (h : q ∈ lvl L) : L[q.1]? = some (some q.2) := by
  obtain ⟨i, -, hi⟩ := List.mem_filterMap.mp h
  split at hi
  · rename_i v hv
    cases hi
    exact hv
  · cases hi
theorem lvh.has {ls : Array Slot} {nL : Nat} {L : List (Option Value)} (h : lvh ls nL L) : lv_has ls nL (lvl L) := ⟨h.1, h.2.1, fun q hq => h.2.2.2 _ _ (mem_lvl hq)⟩
/-- what stands ahead of place i is lost where its second half is written over -/
def wipeL (L : List (Option Value)) (i : Nat) : List (Option Value) := match i with
  | 0 => L
  | j + 1 => match L[j]? with
    | some (some (.long _)) | some (some (.double _)) => L.set j none
    | _ => L
def stL (L : List (Option Value)) (i : Nat) (v : Value) : List (Option Value) := match v with
  | .long _ | .double _ => ((wipeL L i).set i (some v)).set (i + 1) none
  | _ => (wipeL L i).set i (some v)
theorem wipeL_len (L : List (Option Value)) (i : Nat) : (wipeL L i).length = L.length := by
  unfold wipeL
  split
  · rfl
  · split <;> simp
theorem wipeL_get {L : List (Option Value)} {i j : Nat} {w : Value} (h : (wipeL L i)[j]? = some (some w)) : L[j]? = some (some w) ∧ ¬ (j + 1 = i ∧ w.category = 2) := by
  unfold wipeL at h
  split at h
  · exact ⟨h, by omega⟩
  · rename_i k
    split at h
    · rename_i x hx
      by_cases hjk : j = k
      · subst hjk
        rw [List.getElem?_set] at h
        split at h
        · split at h <;> simp at h
        · simp at *
      · rw [List.getElem?_set_ne (Ne.symm hjk)] at h
        exact ⟨h, fun q => hjk (by omega)⟩
    · rename_i x hx
      by_cases hjk : j = k
      · subst hjk
        rw [List.getElem?_set] at h
        split at h
        · split at h <;> simp at h
        · simp at *
      · rw [List.getElem?_set_ne (Ne.symm hjk)] at h
        exact ⟨h, fun q => hjk (by omega)⟩
    · rename_i hx1 hx2
      refine ⟨h, fun q => ?_⟩
      have : j = k := by omega
      subst this
      cases w with
      | long x => exact hx1 x h
      | double x => exact hx2 x h
      | _ => exact absurd q.2 (by simp [Value.category])
theorem lvh.store1 {ls : Array Slot} {nL i : Nat} {L : List (Option Value)} {v : Value} (h : lvh ls nL L) (hi : i < nL) (hc : v.category = 1) : ∃ ls', storeLocals ls i v = some ls' ∧ lvh ls' nL (stL L i v) := by
  obtain ⟨ls', e, h1, h2, h3⟩ := lv_store1 (v := v) h.has hi hc
  have es : stL L i v = (wipeL L i).set i (some v) := by unfold stL; split <;> first | rfl | (simp [Value.category] at hc)
  refine ⟨ls', e, h1, h2, by rw [es, List.length_set, wipeL_len]; exact h.2.2.1, fun j w hj => ?_⟩
  rw [es] at hj
  by_cases hji : j = i
  · subst hji
    rw [List.getElem?_set_self (by rw [wipeL_len, h.2.2.1]; exact hi)] at hj
    cases hj
    exact h3 _ List.mem_cons_self
  · rw [List.getElem?_set_ne (Ne.symm hji)] at hj
    obtain ⟨g1, g2⟩ := wipeL_get hj
    refine h3 (j, w) (List.mem_cons_of_mem _ (List.mem_filter.mpr ⟨lvl_mem g1, ?_⟩))
    simp only [Bool.and_eq_true, Bool.not_eq_true', beq_eq_false_iff_ne, ne_eq, Bool.and_eq_false_iff]
    refine ⟨hji, ?_⟩
    by_cases z : j + 1 = i
    · exact Or.inr (fun z2 => g2 ⟨z, z2⟩)
    · exact Or.inl z
theorem lvh.store2 {ls : Array Slot} {nL i : Nat} {L : List (Option Value)} {v : Value} (h : lvh ls nL L) (hi : i + 1 < nL) (hc : v.category = 2) : ∃ ls', storeLocals ls i v = some ls' ∧ lvh ls' nL (stL L i v) := by
  obtain ⟨ls', e, h1, h2, h3⟩ := lv_store2 (v := v) h.has hi hc
  have es : stL L i v = ((wipeL L i).set i (some v)).set (i + 1) none := by unfold stL; split <;> first | rfl | (rename_i q1 q2; cases v <;> simp_all [Value.category])
  refine ⟨ls', e, h1, h2, by rw [es, List.length_set, List.length_set, wipeL_len]; exact h.2.2.1, fun j w hj => ?_⟩
  rw [es] at hj
  by_cases hj1 : j = i + 1
  · subst hj1
    rw [List.getElem?_set_self (by rw [List.length_set, wipeL_len, h.2.2.1]; exact hi)] at hj
    simp at hj
  · rw [List.getElem?_set_ne (Ne.symm hj1)] at hj
    by_cases hji : j = i
    · subst hji
      rw [List.getElem?_set_self (by rw [wipeL_len, h.2.2.1]; omega)] at hj
      cases hj
      exact h3 _ List.mem_cons_self
    · rw [List.getElem?_set_ne (Ne.symm hji)] at hj
      obtain ⟨g1, g2⟩ := wipeL_get hj
      refine h3 (j, w) (List.mem_cons_of_mem _ (List.mem_filter.mpr ⟨lvl_mem g1, ?_⟩))
      simp only [Bool.and_eq_true, Bool.not_eq_true', beq_eq_false_iff_ne, ne_eq, Bool.and_eq_false_iff]
      refine ⟨hji, hj1, ?_⟩
      by_cases z : j + 1 = i
      · exact Or.inr (fun z2 => g2 ⟨z, z2⟩)
      · exact Or.inl z
end
section
/-! rows over the plain machine: one instruction each -/
/-- what a body knows of its machine -/
def CX (G : Gx) (cc : ByteArray) (nL : Nat) (own : String) (p : Program) (s : State) (m : MethodId) (args : Array Value) (c : Code) : Prop :=
  p.tables.exec = Jvm.exec ∧ c.code = cc ∧ c.maxLocals = nL ∧ s.vm.findClass own = some m.cls ∧ (∀ w ∈ lw_all, w.before args s = true) ∧ gOK G s s.heap ∧ G.2.2.2 ≤ s.heap.size
/-- the machine comes to Q from the frame at pc -/
def VW (G : Gx) (nL : Nat) (p : Program) (l : Launch) (e : Env) (R : Room) (s : State) (m : MethodId) (args : Array Value) (below : List Frame) (meth : Method) (c : Code) (Q : State → Prop) (pc : Nat) (L : List (Option Value)) (st : List Value) (S : SS) (cs sl : Nat) : Prop :=
  ∀ (H : Heap) (locs : List Loc) (ls : Array Slot), Rep G S H → va_S (gA G) s.heap H locs → lvh ls nL L → W p l e R s m args below meth c H locs cs sl Q (F0 m pc ls st)
/-- a whole number out of two natural ones: x, or -x -/
def kI (y x : Nat) : Int32 := match y with
  | 0 => nI x
  | _ => - nI x
/-- lengths of the instructions (of a switch: as told) -/
def ilen (i : Instr) (x : Nat) : Nat := match i with
  | .tableswitch _ _ _ _ => x
  | .bipush _ | .iload _ | .lload _ | .fload _ | .dload _ | .aload _ | .istore _ | .lstore _ | .fstore _ | .dstore _ | .astore _ | .ldc _ | .newarray _ => 2
  | .sipush _ | .iinc _ _ | .if_icmp _ _ | .ifCond _ _ | .ifnull _ | .ifnonnull _ | .goto _ | .getfield _ | .putfield _ | .getstatic _ | .invokevirtual _ | .invokespecial _ | .invokestatic _ | .new _ | .anewarray _ | .ldc2_w _ => 3
  | _ => 1
/-- what the stack alone decides: a condition, and the stack behind it; constants are told as numbers x, y -/
def pst (i : Instr) (x y : Nat) (st : List Value) : Option (Prop × List Value) := match i with
  | .iconst n => if Int32.ofInt n = kI y x then some (True, .int (kI y x) :: st) else none
  | .bipush n => if (Int8.ofInt n).toInt32 = kI y x then some (True, .int (kI y x) :: st) else none
  | .sipush n => if (Int16.ofInt n).toInt32 = kI y x then some (True, .int (kI y x) :: st) else none
  | .lconst n => some (True, .long (lN n) :: st)
  | .fconst n => some (True, .float (if n = 0 then FP.fconst0 else if n = 1 then FP.fconst1 else FP.fconst2) :: st)
  | .dconst n => some (True, .double (if n = 0 then FP.dconst0 else FP.dconst1) :: st)
  | .aconst_null => some (True, .null :: st)
  | .iadd => (match st with | .int b :: .int a :: st => some (True, .int (a + b) :: st) | _ => none)
  | .isub => (match st with | .int b :: .int a :: st => some (True, .int (a - b) :: st) | _ => none)
  | .imul => (match st with | .int b :: .int a :: st => some (True, .int (a * b) :: st) | _ => none)
  | .iand => (match st with | .int b :: .int a :: st => some (True, .int (a &&& b) :: st) | _ => none)
  | .ior => (match st with | .int b :: .int a :: st => some (True, .int (a ||| b) :: st) | _ => none)
  | .idiv => (match st with | .int b :: .int a :: st => some (¬ b = 0, .int (a / b) :: st) | _ => none)
  | .irem => (match st with | .int b :: .int a :: st => some (¬ b = 0, .int (a - a / b * b) :: st) | _ => none)
  | .ineg => (match st with | .int a :: st => some (True, .int (-a) :: st) | _ => none)
  | .ishl => (match st with | .int b :: .int a :: st => some (True, .int (a <<< (b &&& 31)) :: st) | _ => none)
  | .ishr => (match st with | .int b :: .int a :: st => some (True, .int (a >>> (b &&& 31)) :: st) | _ => none)
  | .land => (match st with | .long b :: .long a :: st => some (True, .long (a &&& b) :: st) | _ => none)
  | .lor => (match st with | .long b :: .long a :: st => some (True, .long (a ||| b) :: st) | _ => none)
  | .lushr => (match st with | .int b :: .long a :: st => some (True, .long (a.toUInt64 >>> (b.toInt64.toUInt64 &&& Int64.toUInt64 63)).toInt64 :: st) | _ => none)
  | .lshl => (match st with | .int b :: .long a :: st => some (True, .long (a <<< (b.toInt64 &&& 63)) :: st) | _ => none)
  | .lcmp => (match st with | .long b :: .long a :: st => some (True, .int (lg_cmp a b) :: st) | _ => none)
  | .i2l => (match st with | .int a :: st => some (True, .long a.toInt64 :: st) | _ => none)
  | .l2i => (match st with | .long a :: st => some (True, .int a.toInt32 :: st) | _ => none)
  | .i2c => (match st with | .int a :: st => some (True, .int (a.toUInt32 % 65536).toInt32 :: st) | _ => none)
  | .i2f => (match st with | .int a :: st => some (True, .float (FP.i2f a) :: st) | _ => none)
  | .f2d => (match st with | .float a :: st => some (vf_n64 (FP.f2d a), .double (FP.f2d a) :: st) | _ => none)
  | .d2i => (match st with | .double a :: st => some (True, .int (FP.d2i a) :: st) | _ => none)
  | .d2l => (match st with | .double a :: st => some (True, .long (FP.d2l a) :: st) | _ => none)
  | .fadd => (match st with | .float b :: .float a :: st => some (vf_n32 (FP.fadd a b), .float (FP.fadd a b) :: st) | _ => none)
  | .fsub => (match st with | .float b :: .float a :: st => some (vf_n32 (FP.fsub a b), .float (FP.fsub a b) :: st) | _ => none)
  | .fmul => (match st with | .float b :: .float a :: st => some (vf_n32 (FP.fmul a b), .float (FP.fmul a b) :: st) | _ => none)
  | .fdiv => (match st with | .float b :: .float a :: st => some (vf_n32 (FP.fdiv a b), .float (FP.fdiv a b) :: st) | _ => none)
  | .dadd => (match st with | .double b :: .double a :: st => some (vf_n64 (FP.dadd a b), .double (FP.dadd a b) :: st) | _ => none)
  | .dsub => (match st with | .double b :: .double a :: st => some (vf_n64 (FP.dsub a b), .double (FP.dsub a b) :: st) | _ => none)
  | .dmul => (match st with | .double b :: .double a :: st => some (vf_n64 (FP.dmul a b), .double (FP.dmul a b) :: st) | _ => none)
  | .ddiv => (match st with | .double b :: .double a :: st => some (vf_n64 (FP.ddiv a b), .double (FP.ddiv a b) :: st) | _ => none)
  | .fcmp op => (match st with | .float b :: .float a :: st => some (True, .int (Op.cmpValue (FP.fcmp a b) op) :: st) | _ => none)
  | .dcmp op => (match st with | .double b :: .double a :: st => some (True, .int (Op.cmpValue (FP.dcmp a b) op) :: st) | _ => none)
  | .dup => (match st with | .int a :: st => some (True, .int a :: .int a :: st) | .ref a :: st => some (True, .ref a :: .ref a :: st) | _ => none)
  | .dup2 => (match st with | .int b :: .ref a :: st => some (True, .int b :: .ref a :: .int b :: .ref a :: st) | _ => none)
  | .pop => (match st with | .int _ :: st => some (True, st) | .ref _ :: st => some (True, st) | _ => none)
  | _ => none
section PS
variable {G : Gx} {nL : Nat} {p : Program} {l : Launch} {e : Env} {R : Room} {s : State} {m : MethodId} {args : Array Value} {below : List Frame} {meth : Method} {c : Code} {Q : State → Prop} {cc : ByteArray} {pc : Nat} {L : List (Option Value)} {S : SS} {cs sl : Nat}
set_option maxHeartbeats 4000000 in
theorem pst_ok (hx : p.tables.exec = Jvm.exec) (hb : c.code = cc) {i : Instr} {x y : Nat} {st st' : List Value} {P : Prop} (hp : pst i x y st = some (P, st')) (hd : decode cc pc = .ok (i, ilen i x)) (hP : P)
    (k : VW G nL p l e R s m args below meth c Q (pc + ilen i x) L st' S cs sl) : VW G nL p l e R s m args below meth c Q pc L st S cs sl := by
  intro H locs ls h1 h2 h3
  have kk := k H locs ls h1 h2 h3
  cases i <;> simp only [pst] at hp <;> try (cases hp; done)
  case iconst n => split at hp <;> cases hp; rename_i hq; exact lv_iconst hx hb hd hq kk
  case bipush n => split at hp <;> cases hp; rename_i hq; exact lv_bipush hx hb hd hq kk
  case sipush n => split at hp <;> cases hp; rename_i hq; exact lv_sipush hx hb hd hq kk
  case lconst n => cases hp; exact lv_lconst hx hb hd rfl kk
  case fconst n =>
    cases hp
    match n, hd, kk with
    | 0, hd, kk => exact lv_fconst0 hx hb hd kk
    | 1, hd, kk => exact lv_fconst1 hx hb hd kk
    | 2, hd, kk => exact lv_fconst2 hx hb hd kk
  case dconst n =>
    cases hp
    match n, hd, kk with
    | 0, hd, kk => exact lv_dconst0 hx hb hd kk
    | 1, hd, kk => exact lv_dconst1 hx hb hd kk
  case aconst_null => cases hp; exact lv_null hx hb hd kk
  case iadd => split at hp <;> cases hp; exact lv_iadd hx hb hd kk
  case isub => split at hp <;> cases hp; exact lv_isub hx hb hd kk
  case imul => split at hp <;> cases hp; exact lv_imul hx hb hd kk
  case iand => split at hp <;> cases hp; exact lv_iand hx hb hd kk
  case ior => split at hp <;> cases hp; exact lv_ior hx hb hd kk
  case idiv => split at hp <;> cases hp; exact lv_idiv hx hb hd hP kk
  case irem => split at hp <;> cases hp; exact lv_irem hx hb hd hP kk
  case ineg => split at hp <;> cases hp; exact lv_ineg hx hb hd kk
  case ishl => split at hp <;> cases hp; exact lv_ishl hx hb hd kk
  case ishr => split at hp <;> cases hp; exact lv_ishr hx hb hd kk
  case land => split at hp <;> cases hp; exact lv_land hx hb hd kk
  case lor => split at hp <;> cases hp; exact lv_lor hx hb hd kk
  case lushr => split at hp <;> cases hp; exact lv_lushr hx hb hd rfl kk
  case lshl => split at hp <;> cases hp; exact lv_lshl hx hb hd rfl kk
  case lcmp => split at hp <;> cases hp; exact W.lcmp hx hb hd kk
  case i2l => split at hp <;> cases hp; exact lv_i2l hx hb hd rfl kk
  case l2i => split at hp <;> cases hp; exact lv_l2i hx hb hd rfl kk
  case i2c => split at hp <;> cases hp; exact lv_i2c hx hb hd rfl kk
  case i2f => split at hp <;> cases hp; exact lv_i2f hx hb hd kk
  case f2d => split at hp <;> cases hp; exact lv_f2d hx hb hd hP kk
  case d2i => split at hp <;> cases hp; exact lv_d2i hx hb hd kk
  case d2l => split at hp <;> cases hp; exact lv_d2l hx hb hd kk
  case fadd => split at hp <;> cases hp; exact lv_fadd hx hb hd hP kk
  case fsub => split at hp <;> cases hp; exact lv_fsub hx hb hd hP kk
  case fmul => split at hp <;> cases hp; exact lv_fmul hx hb hd hP kk
  case fdiv => split at hp <;> cases hp; exact lv_fdiv hx hb hd hP kk
  case dadd => split at hp <;> cases hp; exact lv_dadd hx hb hd hP kk
  case dsub => split at hp <;> cases hp; exact lv_dsub hx hb hd hP kk
  case dmul => split at hp <;> cases hp; exact lv_dmul hx hb hd hP kk
  case ddiv => split at hp <;> cases hp; exact lv_ddiv hx hb hd hP kk
  case fcmp op => split at hp <;> cases hp; exact lv_fcmp hx hb hd kk
  case dcmp op => split at hp <;> cases hp; exact lv_dcmp hx hb hd kk
  case dup => split at hp <;> cases hp <;> exact lv_dup hx hb hd rfl kk
  case dup2 => split at hp <;> cases hp; exact lv_dup2_11 hx hb hd rfl rfl kk
  case pop => split at hp <;> cases hp <;> exact lv_pop hx hb hd rfl kk
/-- which kind a value is: whole number, long, float, double, reference -/
def vtag : Value → Nat
  | .int _ => 0 | .long _ => 1 | .float _ => 2 | .double _ => 3 | .null => 4 | .ref _ => 4 | _ => 5
def ldI (i : Instr) : Option (Nat × Nat) := match i with
  | .iload k => some (k, 0) | .iload_n k => some (k.val, 0) | .lload k => some (k, 1) | .lload_n k => some (k.val, 1) | .fload k => some (k, 2) | .fload_n k => some (k.val, 2)
  | .dload k => some (k, 3) | .dload_n k => some (k.val, 3) | .aload k => some (k, 4) | .aload_n k => some (k.val, 4) | _ => none
def sdI (i : Instr) : Option (Nat × Nat) := match i with
  | .istore k => some (k, 0) | .istore_n k => some (k.val, 0) | .lstore k => some (k, 1) | .lstore_n k => some (k.val, 1) | .fstore k => some (k, 2) | .fstore_n k => some (k.val, 2)
  | .dstore k => some (k, 3) | .dstore_n k => some (k.val, 3) | .astore k => some (k, 4) | .astore_n k => some (k.val, 4) | _ => none
set_option maxHeartbeats 4000000 in
theorem ldI_ok (hx : p.tables.exec = Jvm.exec) (hb : c.code = cc) {i : Instr} {x k tg : Nat} {v : Value} {st : List Value} (hp : ldI i = some (k, tg)) (hd : decode cc pc = .ok (i, ilen i x)) (hv : L[k]? = some (some v)) (ht : vtag v = tg)
    (kk : VW G nL p l e R s m args below meth c Q (pc + ilen i x) L (v :: st) S cs sl) : VW G nL p l e R s m args below meth c Q pc L st S cs sl := by
  intro H locs ls h1 h2 h3
  have kk := kk H locs ls h1 h2 h3
  have hl := h3.2.2.2 _ _ hv
  cases i <;> simp only [ldI] at hp <;> try (cases hp; done)
  all_goals (cases hp; cases v <;> simp [vtag] at ht)
  case iload.refl.int => exact lv_iload hx hb hd hl kk
  case iload_n.refl.int => exact lv_iload_n hx hb hd rfl hl kk
  case lload.refl.long => exact lv_lload hx hb hd hl kk
  case lload_n.refl.long => exact lv_lload_n hx hb hd rfl hl kk
  case fload.refl.float => exact lv_fload hx hb hd hl kk
  case fload_n.refl.float => exact lv_fload_n hx hb hd rfl hl kk
  case dload.refl.double => exact lv_dload hx hb hd hl kk
  case dload_n.refl.double => exact lv_dload_n hx hb hd rfl hl kk
  case aload.refl.ref => exact lv_aload hx hb hd hl kk
  case aload_n.refl.ref => exact lv_aload_n hx hb hd rfl hl kk
  case aload.refl.null => exact lv_aloadN hx hb hd hl kk
  case aload_n.refl.null => exact lv_aload_nN hx hb hd rfl hl kk
set_option maxHeartbeats 4000000 in
theorem sdI_ok (hx : p.tables.exec = Jvm.exec) (hb : c.code = cc) {i : Instr} {x k tg : Nat} {v : Value} {st : List Value} (hp : sdI i = some (k, tg)) (hd : decode cc pc = .ok (i, ilen i x)) (ht : vtag v = tg) (hk : k + v.category ≤ L.length)
    (kk : VW G nL p l e R s m args below meth c Q (pc + ilen i x) (stL L k v) st S cs sl) : VW G nL p l e R s m args below meth c Q pc L (v :: st) S cs sl := by
  intro H locs ls h1 h2 h3
  have hl := h3.2.2.1
  have one : v.category = 1 → ∃ ls', storeLocals ls k v = some ls' ∧ lvh ls' nL (stL L k v) := fun hc => h3.store1 (by omega) hc
  have two : v.category = 2 → ∃ ls', storeLocals ls k v = some ls' ∧ lvh ls' nL (stL L k v) := fun hc => h3.store2 (by omega) hc
  have both : ∃ ls', storeLocals ls k v = some ls' ∧ lvh ls' nL (stL L k v) := by
    rcases lv_cat v with h | h
    · exact one h
    · exact two h
  obtain ⟨ls', e', h'⟩ := both
  have kk := kk H locs ls' h1 h2 h'
  intro T hT X
  obtain ⟨t, a, b⟩ := kk T hT X
  refine ⟨t, ?_, b⟩
  cases i <;> simp only [sdI] at hp <;> try (cases hp; done)
  all_goals (cases hp; cases v <;> simp [vtag] at ht)
  all_goals (jvm_step X.here [X.here.top, ↓top_set X.here.top, hx, hb, hd, e', Value.isRef]; exact a)
theorem iinc_ok (hx : p.tables.exec = Jvm.exec) (hb : c.code = cc) {k : Nat} {n : Int} {x v : Int32} {st : List Value} (hd : decode cc pc = .ok (.iinc k n, 3)) (hg : L[k]? = some (some (.int x))) (hv : Int32.ofInt n = v)
    (kk : VW G nL p l e R s m args below meth c Q (pc + 3) (stL L k (.int (x + v))) st S cs sl) : VW G nL p l e R s m args below meth c Q pc L st S cs sl := by
  subst hv
  intro H locs ls h1 h2 h3
  have hl := h3.2.2.1
  have hk : k < L.length := (List.getElem?_eq_some_iff.mp hg).1
  have hg' := h3.2.2.2 _ _ hg
  obtain ⟨ls', e', h'⟩ := h3.store1 (v := .int (x + Int32.ofInt n)) (i := k) (by omega) rfl
  have kk := kk H locs ls' h1 h2 h'
  intro T hT X
  obtain ⟨t, a, b⟩ := kk T hT X
  refine ⟨t, ?_, b⟩
  jvm_step X.here [X.here.top, ↓top_set X.here.top, hx, hb, hd, hg', e']
  exact a
/-- a branch: its condition, how far, the stack behind it -/
def brI (i : Instr) (st : List Value) : Option (Prop × Int × List Value) := match i with
  | .if_icmp .eq o => (match st with | .int b :: .int a :: st => some (a = b, o, st) | _ => none)
  | .if_icmp .ne o => (match st with | .int b :: .int a :: st => some (¬ a = b, o, st) | _ => none)
  | .if_icmp .lt o => (match st with | .int b :: .int a :: st => some (a < b, o, st) | _ => none)
  | .if_icmp .ge o => (match st with | .int b :: .int a :: st => some (b ≤ a, o, st) | _ => none)
  | .if_icmp .gt o => (match st with | .int b :: .int a :: st => some (b < a, o, st) | _ => none)
  | .if_icmp .le o => (match st with | .int b :: .int a :: st => some (a ≤ b, o, st) | _ => none)
  | .ifCond .eq o => (match st with | .int a :: st => some (a = 0, o, st) | _ => none)
  | .ifCond .ne o => (match st with | .int a :: st => some (¬ a = 0, o, st) | _ => none)
  | .ifCond .lt o => (match st with | .int a :: st => some (a < 0, o, st) | _ => none)
  | .ifCond .ge o => (match st with | .int a :: st => some (0 ≤ a, o, st) | _ => none)
  | .ifCond .gt o => (match st with | .int a :: st => some (0 < a, o, st) | _ => none)
  | .ifCond .le o => (match st with | .int a :: st => some (a ≤ 0, o, st) | _ => none)
  | .ifnull o => (match st with | .null :: st => some (True, o, st) | .ref _ :: st => some (False, o, st) | _ => none)
  | .ifnonnull o => (match st with | .null :: st => some (False, o, st) | .ref _ :: st => some (True, o, st) | _ => none)
  | _ => none
set_option maxHeartbeats 4000000 in
theorem brI_ok (hx : p.tables.exec = Jvm.exec) (hb : c.code = cc) {i : Instr} {x : Nat} {P : Prop} {o : Int} {tgt : Nat} {st st' : List Value} (hp : brI i st = some (P, o, st')) (hd : decode cc pc = .ok (i, ilen i x)) (ht : (pc : Int) + o = (tgt : Int))
    (k1 : P → VW G nL p l e R s m args below meth c Q tgt L st' S cs sl) (k2 : ¬ P → VW G nL p l e R s m args below meth c Q (pc + 3) L st' S cs sl) : VW G nL p l e R s m args below meth c Q pc L st S cs sl := by
  intro H locs ls h1 h2 h3
  have k1 := fun q => k1 q H locs ls h1 h2 h3
  have k2 := fun q => k2 q H locs ls h1 h2 h3
  cases i <;> try (simp only [brI] at hp; cases hp; done)
  case if_icmp q o => cases q <;> simp only [brI] at hp <;> split at hp <;> cases hp <;> first | exact lv_icmp_eq hx hb hd ht k1 k2 | exact lv_icmp_ne hx hb hd ht k1 (fun q => k2 (fun z => z q)) | exact lv_icmp_lt hx hb hd ht k1 k2 | exact lv_icmp_ge hx hb hd ht k1 k2 | exact lv_icmp_gt hx hb hd ht k1 k2 | exact lv_icmp_le hx hb hd ht k1 k2
  case ifCond q o => cases q <;> simp only [brI] at hp <;> split at hp <;> cases hp <;> first | exact lv_if_eq hx hb hd ht k1 k2 | exact lv_if_ne hx hb hd ht k1 (fun q => k2 (fun z => z q)) | exact lv_if_lt hx hb hd ht k1 k2 | exact lv_if_ge hx hb hd ht k1 k2 | exact lv_if_gt hx hb hd ht k1 k2 | exact lv_if_le hx hb hd ht k1 k2
  case ifnull o =>
    simp only [brI] at hp
    split at hp <;> cases hp
    · exact lv_ifnullN hx hb hd ht (k1 trivial)
    · exact lv_ifnull hx hb hd (k2 id)
  case ifnonnull o =>
    simp only [brI] at hp
    split at hp <;> cases hp
    · exact lv_ifnonnullN hx hb hd (k2 id)
    · exact lv_ifnonnull hx hb hd ht (k1 trivial)
theorem goto_ok (hx : p.tables.exec = Jvm.exec) (hb : c.code = cc) {o : Int} {tgt : Nat} {st : List Value} (hd : decode cc pc = .ok (.goto o, 3)) (ht : (pc : Int) + o = (tgt : Int))
    (k : VW G nL p l e R s m args below meth c Q tgt L st S cs sl) : VW G nL p l e R s m args below meth c Q pc L st S cs sl :=
  fun H locs ls h1 h2 h3 => lv_goto hx hb hd ht (k H locs ls h1 h2 h3)
/-- a switch: what each of its keys asks -/
def tblW (P : Nat → Prop) (v : Int32) (pc : Nat) : Int → List Int → Prop
  | _, [] => True
  | k, o :: os => (v = Int32.ofInt k → P ((pc : Int) + o).toNat) ∧ tblW P v pc (k + 1) os
theorem tblW_at {P : Nat → Prop} {v : Int32} {pc : Nat} : ∀ {os : List Int} {lo : Int} {j : Nat} {o : Int}, tblW P v pc lo os → os[j]? = some o → v = Int32.ofInt (lo + j) → P ((pc : Int) + o).toNat
  | [], lo, j, o, _, h, _ => by simp at h
  | o1 :: os, lo, 0, o, h, h1, h2 => by
    simp at h1
    subst h1
    exact h.1 (by rw [h2]; simp)
  | o1 :: os, lo, j + 1, o, h, h1, h2 => by
    simp at h1
    exact tblW_at h.2 h1 (by rw [h2]; congr 1; omega)
theorem tbl_ok (hx : p.tables.exec = Jvm.exec) (hb : c.code = cc) {dflt lo hi : Int} {offs : Array Int} {len : Nat} {v : Int32} {st : List Value} (hd : decode cc pc = .ok (.tableswitch dflt lo hi offs, len)) (hs : offs.size = (hi - lo + 1).toNat) (h0 : 0 ≤ (pc : Int) + dflt) (hofs : offs.toList.all (fun o => decide (0 ≤ (pc : Int) + o)) = true)
    (kin : tblW (fun t => VW G nL p l e R s m args below meth c Q t L st S cs sl) v pc lo offs.toList) (kout : v.toInt < lo ∨ hi < v.toInt → VW G nL p l e R s m args below meth c Q ((pc : Int) + dflt).toNat L st S cs sl) : VW G nL p l e R s m args below meth c Q pc L (.int v :: st) S cs sl := by
  intro H locs ls h1 h2 h3
  by_cases hv : v.toInt < lo ∨ hi < v.toInt
  · exact lv_tableOut hx hb hd hv (by omega) (kout hv H locs ls h1 h2 h3)
  · have g1 : ¬ v.toInt < lo := fun q => hv (Or.inl q)
    have g2 : ¬ hi < v.toInt := fun q => hv (Or.inr q)
    have hlt : (v.toInt - lo).toNat < offs.size := by omega
    obtain ⟨o, ho⟩ : ∃ o, offs[(v.toInt - lo).toNat]? = some o := ⟨_, Array.getElem?_eq_getElem hlt⟩
    have hol : offs.toList[(v.toInt - lo).toNat]? = some o := by rw [Array.getElem?_toList]; exact ho
    have hpos : 0 ≤ (pc : Int) + o := by
      have := List.all_eq_true.mp hofs o (List.mem_of_getElem? hol)
      simpa using this
    have hk := tblW_at kin hol (by
      have e : lo + (((v.toInt - lo).toNat : Nat) : Int) = v.toInt := by omega
      rw [e]; simp)
    exact lv_tableIn hx hb hd g1 g2 ho (by omega) (hk H locs ls h1 h2 h3)
/-- constants of the pool: a number and its kind -/
def ldcV (x y : Nat) : Value := match y with
  | 0 => .int (nI x) | 1 => .float (UInt32.ofNat x) | 2 => .long (lN x) | _ => .double (UInt64.ofNat x)
def ldcW (own : String) (idx x y : Nat) : Cond := match y with
  | 0 => .constant own idx (nI x) | 1 => .constantFloat own idx (UInt32.ofNat x) | 2 => .constantLong own idx (lN x) | _ => .constantDouble own idx (UInt64.ofNat x)
theorem ldc_ok (hx : p.tables.exec = Jvm.exec) (hb : c.code = cc) {own : String} (hown : s.vm.findClass own = some m.cls) {idx x y : Nat} {st : List Value} (hw : (ldcW own idx x y).before args s = true) (hy : y < 2) (hd : decode cc pc = .ok (.ldc idx, 2))
    (k : VW G nL p l e R s m args below meth c Q (pc + 2) L (ldcV x y :: st) S cs sl) : VW G nL p l e R s m args below meth c Q pc L st S cs sl := by
  intro H locs ls h1 h2 h3
  have k := k H locs ls h1 h2 h3
  match y, hy, hw, k with
  | 0, _, hw, k => exact lv_ldc hx hb hown hw hd k
  | 1, _, hw, k => exact lv_ldcf hx hb hown hw hd k
theorem ldc2_ok (hx : p.tables.exec = Jvm.exec) (hb : c.code = cc) {own : String} (hown : s.vm.findClass own = some m.cls) {idx x y : Nat} {st : List Value} (hw : (ldcW own idx x y).before args s = true) (hy : 2 ≤ y) (hd : decode cc pc = .ok (.ldc2_w idx, 3))
    (k : VW G nL p l e R s m args below meth c Q (pc + 3) L (ldcV x y :: st) S cs sl) : VW G nL p l e R s m args below meth c Q pc L st S cs sl := by
  intro H locs ls h1 h2 h3
  have k := k H locs ls h1 h2 h3
  match y, hy, hw, k with
  | 2, _, hw, k => exact lv_ldc2 hx hb hown hw hd k
  | y + 3, _, hw, k => exact lv_ldc2d hx hb hown hw hd k
end PS
end
section
/-! rows over the plain machine: fields and rows of values -/
set_option maxRecDepth 100000 in
theorem in_wsX0 : ∀ w ∈ wsX00, w ∈ lw_all := by decide +kernel
set_option maxRecDepth 100000 in
theorem in_wsX1 : ∀ w ∈ wsX10, w ∈ lw_all := by decide +kernel
set_option maxRecDepth 100000 in
theorem in_wsX2 : ∀ w ∈ wsX20, w ∈ lw_all := by decide +kernel
set_option maxRecDepth 100000 in
theorem in_wsX3 : ∀ w ∈ wsX30, w ∈ lw_all := by decide +kernel
set_option maxRecDepth 100000 in
theorem in_wsX4 : ∀ w ∈ wsX40, w ∈ lw_all := by decide +kernel
set_option maxRecDepth 100000 in
theorem in_wsX5 : ∀ w ∈ wsX50, w ∈ lw_all := by decide +kernel
set_option maxRecDepth 100000 in
theorem in_wsX6 : ∀ w ∈ wsX60, w ∈ lw_all := by decide +kernel
set_option maxRecDepth 100000 in
theorem in_wsX7 : ∀ w ∈ wsX70, w ∈ lw_all := by decide +kernel
/-- a class of ours: its name, its fields -/
def clR (ci : Nat) : String := match ci with
  | 0 => RX0 | 1 => RX1 | 2 => RX2 | 3 => RX3 | 4 => RX4 | 5 => RX5 | 6 => RX6 | _ => RX7
def clT (ci : Nat) : u_T := match ci with
  | 0 => TX0 | 1 => TX1 | 2 => TX2 | 3 => TX3 | 4 => TX4 | 5 => TX5 | 6 => TX6 | _ => TX7
theorem cl_at {ci : Nat} (h : ci < 8) : vwCl[ci]? = some (clR ci, clT ci, nf ci) := by
  match ci, h with
  | 0, _ | 1, _ | 2, _ | 3, _ | 4, _ | 5, _ | 6, _ | 7, _ => rfl
theorem cl_in {ci : Nat} (h : ci < 8) : ∀ w ∈ u_ws (clR ci) (clT ci) (nf ci), w ∈ lw_all := by
  match ci, h with
  | 0, _ => exact in_wsX0
  | 1, _ => exact in_wsX1
  | 2, _ => exact in_wsX2
  | 3, _ => exact in_wsX3
  | 4, _ => exact in_wsX4
  | 5, _ => exact in_wsX5
  | 6, _ => exact in_wsX6
  | 7, _ => exact in_wsX7
theorem cl_ty {ci : Nat} (h : ci < 8) : ∀ k, k < nf ci → parseFieldDescriptor (clT ci k).2.2.1 = some (fty ci k) := by
  match ci, h with
  | 0, _ => exact tyX0_ok
  | 1, _ => exact tyX1_ok
  | 2, _ => exact tyX2_ok
  | 3, _ => exact tyX3_ok
  | 4, _ => exact tyX4_ok
  | 5, _ => exact tyX5_ok
  | 6, _ => exact tyX6_ok
  | 7, _ => exact tyX7_ok
theorem cl_nm {ci : Nat} (h : ci < 8) : ∀ a, a < nf ci → ∀ b, b < nf ci → a ≠ b → (clT ci a).2.1 ≠ (clT ci b).2.1 := by
  match ci, h with
  | 0, _ => exact nmX0
  | 1, _ => exact nmX1
  | 2, _ => exact nmX2
  | 3, _ => exact nmX3
  | 4, _ => exact nmX4
  | 5, _ => exact nmX5
  | 6, _ => exact nmX6
  | 7, _ => exact nmX7
theorem cel_V {S : SS} {a ci k : Nat} (h : k < nf ci) : vp_V ((List.range (nf ci)).map (fV S a ci)) k = fV S a ci k := by
  unfold vp_V
  rw [List.getD_eq_getElem?_getD, List.getElem?_map, List.getElem?_range h]
  rfl
/-- an object's cell -/
theorem Rep.obj {G : Gx} {S : SS} {H : Heap} {a ci n : Nat} (h : Rep G S H) (hc : ci < 8) (ha : sK S a = some (ci, n)) : G.2.2.2 ≤ a ∧ t_OB a (G.1.1 ci) (nf ci) (G.1.2 ci) H (fV S a ci) := by
  obtain ⟨h1, h2⟩ := (h.2 _ _ _ ha).1 (by omega)
  refine ⟨h1, ?_⟩
  unfold cel at h2
  rw [if_pos hc] at h2
  obtain ⟨r, g1, g2⟩ := h2
  have hr : r = (clR ci, clT ci, nf ci) := Option.some.inj (g1.symm.trans (cl_at hc))
  subst hr
  exact g2.to (fun k hk => cel_V hk)
theorem obj_cel {G : Gx} {S : SS} {H : Heap} {a ci n : Nat} (hc : ci < 8) (h : t_OB a (G.1.1 ci) (nf ci) (G.1.2 ci) H (fV S a ci)) : va_at G.1 vwCl (a, cel G S a ci n) H := by
  unfold cel
  rw [if_pos hc]
  exact ⟨_, cl_at hc, h.to (fun k hk => (cel_V hk).symm)⟩
theorem Rep.arr {G : Gx} {S : SS} {H : Heap} {a kd n : Nat} (h : Rep G S H) (hc : 8 ≤ kd) (hd : kd < 14) (ha : sK S a = some (kd, n)) : G.2.2.2 ≤ a ∧ H[a]? = some (vp_cell (G.2.1 kd) (n, arC S a kd)) := by
  obtain ⟨h1, h2⟩ := (h.2 _ _ _ ha).1 (by omega)
  unfold cel at h2
  rw [if_neg (by omega)] at h2
  exact ⟨h1, h2⟩
theorem arr_cel {G : Gx} {S : SS} {H : Heap} {a kd n : Nat} (hc : 8 ≤ kd) (h : H[a]? = some (vp_cell (G.2.1 kd) (n, arC S a kd))) : va_at G.1 vwCl (a, cel G S a kd n) H := by
  unfold cel
  rw [if_neg (by omega)]
  exact h
theorem gTy {G : Gx} {s : State} {H : Heap} (h : gOK G s H) {kd : Nat} (hc : 8 ≤ kd) (hd : kd < 14) : ArrOfT s (G.2.1 kd) (aty kd) ∧ va_RA s (G.2.1 kd) (aty kd) := by
  refine h.1.2 (kd - 8) (G.2.1 kd, aty kd) ?_
  match kd, hc, hd with
  | 8, _, _ | 9, _, _ | 10, _, _ | 11, _, _ | 12, _, _ | 13, _, _ => rfl
section HP
variable {G : Gx} {nL : Nat} {p : Program} {l : Launch} {e : Env} {R : Room} {s : State} {m : MethodId} {args : Array Value} {below : List Frame} {meth : Method} {c : Code} {Q : State → Prop} {cc : ByteArray} {pc : Nat} {L : List (Option Value)} {S : SS} {cs sl : Nat} {own : String}
theorem getf_ok (C0 : CX G cc nL own p s m args c) {ci k idx n a : Nat} {st : List Value} (hc : ci < 8) (hk : k < nf ci) (hw : Cond.fieldLink own idx (clR ci) (clT ci k).2.1 (clT ci k).2.2.1 ∈ lw_all) (hsame : (clT ci k).1 = clR ci) (ha : sK S a = some (ci, n)) (hd : decode cc pc = .ok (.getfield idx, 3))
    (kk : VW G nL p l e R s m args below meth c Q (pc + 3) L (fV S a ci k :: st) S cs sl) : VW G nL p l e R s m args below meth c Q pc L (.ref a :: st) S cs sl := by
  obtain ⟨hx, hb, hml, hown, hts, hG, hbase⟩ := C0
  intro H locs ls h1 h2 h3
  have kk := kk H locs ls h1 h2 h3
  obtain ⟨-, cell, q1, q2, q3, q4⟩ := h1.obj hc ha
  obtain ⟨hS, hfc, kC, hkC, hkind⟩ := hG.1.1 ci _ (cl_at hc)
  obtain ⟨cf, kf, fi, f, hi, hsl⟩ := hS k hk
  rw [← hsame] at hw
  exact W.getf hx hb hown (hts _ hw) hi (u_facts hfc hkC (u_lays hts (cl_in hc) hk) hi).1 q1 (by rw [q3]; exact fun h => by cases h) (v := fV S a ci k) (by rw [hsl, q4 k hk]) rfl rfl hd kk
/-- what a field of small numbers keeps as it is -/
def fitI (ty : FieldType) (v : Int32) : Prop := narrow ty (.int v) = .int v ∧ fits ty (.int v) = true
theorem fitI_int (v : Int32) : fitI .int v := ⟨rfl, rfl⟩
theorem va_S.put' {A : Nat → Prop} {H0 H H1 : Heap} {locs : List Loc} {a k : Nat} (h : va_S A H0 H locs) (z : H1.size = H.size) (oq : ∀ q : Nat, q ≠ a → H1[q]? = H[q]?) (ha : A a) : va_S A H0 H1 (locs ++ [⟨a, k⟩]) := h.put z oq ha
theorem putf_ok (C0 : CX G cc nL own p s m args c) {ci k idx n a : Nat} {v : Value} {S' : SS} {st : List Value} (hc : ci < 8) (hk : k < nf ci) (hw : Cond.fieldLink own idx (clR ci) (clT ci k).2.1 (clT ci k).2.2.1 ∈ lw_all) (hsame : (clT ci k).1 = clR ci) (ha : sK S a = some (ci, n))
    (hfin : (clT ci k).2.2.2 = true → meth.name = "<init>" ∧ clR ci = own) (hn : narrow (fty ci k) v = v) (hf : fits (fty ci k) v = true)
    (hK : sK S' = sK S) (hZ : sZ S' = sZ S) (hI : ∀ b, b ≠ a → sI S' b = sI S b) (hF : ∀ b, b ≠ a → sF S' b = sF S b) (hR : ∀ b, b ≠ a → sR S' b = sR S b) (hV : ∀ j, j < nf ci → updV (fV S a ci) k v j = fV S' a ci j)
    (hd : decode cc pc = .ok (.putfield idx, 3))
    (kk : VW G nL p l e R s m args below meth c Q (pc + 3) L st S' cs sl) : VW G nL p l e R s m args below meth c Q pc L (v :: .ref a :: st) S cs sl := by
  obtain ⟨hx, hb, hml, hown, hts, hG, hbase⟩ := C0
  intro H locs ls h1 h2 h3
  obtain ⟨hA, cell, q1, q2, q3, q4⟩ := h1.obj hc ha
  have hap := va_apart (own := own) hts (cl_in hc) (fty ci) (cl_ty hc) (cl_nm hc) hG.1 (cl_at hc)
  obtain ⟨hS, hfc, kC, hkC, hkind⟩ := hG.1.1 ci _ (cl_at hc)
  obtain ⟨cf, kf, fi, f, hi, hsl⟩ := hS k hk
  have hlays := u_lays hts (cl_in hc) hk
  have hst := (u_facts hfc hkC hlays hi).1
  have hw' := hts _ hw
  have hi' : s.fieldFound? (clR ci) (clT ci k).2.1 (clT ci k).2.2.1 = some (cf, kf, fi, f) := by rw [← hsame]; exact hi
  have key : ∀ (H' : Heap), H'[a]? = some (cell.setSlot f.slot v) → H'.size = H.size → (∀ q, q ≠ a → H'[q]? = H[q]?) → W p l e R s m args below meth c H' (locs ++ [⟨a, f.slot⟩]) cs sl Q (F0 m (pc + 3) ls st) := by
    intro H' e1 e2 e3
    rw [hsl] at e1 ⊢
    refine kk H' _ ls (h1.upd hK hZ ha (by omega) hI hF hR e2 e3 (obj_cel hc (t_OB.to (V := updV (fV S a ci) k v) ⟨_, e1, q2, q3, t_set q4 hap hk v⟩ hV))) (h2.put e2 e3 hA) h3
  have hlay := hts _ (cl_in hc _ (u_in_lay hk))
  unfold u_lay at hlay
  cases hb2 : (clT ci k).2.2.2 with
  | false =>
    rw [if_neg (by rw [hb2]; decide)] at hlay
    have h6 := u_store hfc hkC hkind hlay hi (cl_ty hc k hk) hn hf
    exact W.putK hx hb (f := f) ⟨hown, hw', ⟨_, _, _, hi'⟩, hst⟩ (by rw [q2]; exact h6) q1 q3 (by rw [hsl]; exact k2_hasslot (q4 k hk)) rfl rfl hd key
  | true =>
    obtain ⟨g1, g2⟩ := hfin hb2
    rw [if_pos hb2] at hlay
    have hcf : m.cls = cf := by
      obtain ⟨_, _, c', _, _, _, -, -, hf', -, -, -, hown2, -⟩ := Cond.laysFinal_spec hlay
      have e1 : c' = cf := by have := hi.symm.trans hf'; simp at this; exact this.1.symm
      rw [hsame, g2] at hown2
      rw [← e1]; exact Option.some.inj (hown.symm.trans hown2)
    have h6 := u_fits hfc hkC hkind (Or.inr hlay) hi (cl_ty hc k hk) hn hf
    exact W.putFinK hx hb hown hw' hi' hst hcf g1 (by rw [q2]; exact h6) q1 q3 (by rw [hsl]; exact k2_hasslot (q4 k hk)) rfl rfl hd key
theorem putI_ok (C0 : CX G cc nL own p s m args c) {ci k idx n a : Nat} {v : Int32} {st : List Value} (hc : ci < 8) (hk : k < nf ci) (hw : Cond.fieldLink own idx (clR ci) (clT ci k).2.1 (clT ci k).2.2.1 ∈ lw_all) (hsame : (clT ci k).1 = clR ci) (ha : sK S a = some (ci, n))
    (hfin : (clT ci k).2.2.2 = true → meth.name = "<init>" ∧ clR ci = own) (hr : isRefTy (fty ci k) = false) (hf : fitI (fty ci k) v) (hd : decode cc pc = .ok (.putfield idx, 3))
    (kk : VW G nL p l e R s m args below meth c Q (pc + 3) L st (stI S a k v) cs sl) : VW G nL p l e R s m args below meth c Q pc L (.int v :: .ref a :: st) S cs sl := by
  refine putf_ok C0 hc hk hw hsame ha hfin hf.1 hf.2 (S' := stI S a k v) rfl rfl ?_ (fun _ _ => rfl) (fun _ _ => rfl) ?_ hd kk
  · intro b hb
    funext j
    show up2 S.2.2.2.1 a k v b j = _
    unfold up2
    rw [if_neg (fun q => hb q.1)]
    rfl
  · intro j hj
    unfold updV
    by_cases hjk : j = k
    · subst hjk
      rw [if_pos rfl]
      unfold fV
      rw [hr]
      show _ = Value.int (up2 S.2.2.2.1 a j v a j)
      unfold up2
      rw [if_pos ⟨rfl, rfl⟩]
    · rw [if_neg hjk]
      unfold fV
      split
      · rfl
      · show _ = Value.int (up2 S.2.2.2.1 a k v a j)
        unfold up2
        rw [if_neg (fun q => hjk q.2)]
        rfl
theorem putR_ok (C0 : CX G cc nL own p s m args c) {ci k idx n a r : Nat} {st : List Value} (hc : ci < 8) (hk : k < nf ci) (hw : Cond.fieldLink own idx (clR ci) (clT ci k).2.1 (clT ci k).2.2.1 ∈ lw_all) (hsame : (clT ci k).1 = clR ci) (ha : sK S a = some (ci, n))
    (hfin : (clT ci k).2.2.2 = true → meth.name = "<init>" ∧ clR ci = own) (hr : isRefTy (fty ci k) = true) (hd : decode cc pc = .ok (.putfield idx, 3))
    (kk : VW G nL p l e R s m args below meth c Q (pc + 3) L st (stR S a k (some r)) cs sl) : VW G nL p l e R s m args below meth c Q pc L (.ref r :: .ref a :: st) S cs sl := by
  have hty : narrow (fty ci k) (.ref r) = .ref r ∧ fits (fty ci k) (.ref r) = true := by
    cases h : fty ci k <;> rw [h] at hr <;> first | exact ⟨rfl, rfl⟩ | cases hr
  refine putf_ok C0 hc hk hw hsame ha hfin hty.1 hty.2 (S' := stR S a k (some r)) rfl rfl (fun _ _ => rfl) (fun _ _ => rfl) ?_ ?_ hd kk
  · intro b hb
    funext j
    show up2 S.2.1 a k (some r) b j = _
    unfold up2
    rw [if_neg (fun q => hb q.1)]
    rfl
  · intro j hj
    unfold updV
    by_cases hjk : j = k
    · subst hjk
      rw [if_pos rfl]
      unfold fV
      rw [hr]
      show _ = va_rf (up2 S.2.1 a j (some r) a j)
      unfold up2
      rw [if_pos ⟨rfl, rfl⟩]
      rfl
    · rw [if_neg hjk]
      unfold fV
      split
      · show _ = va_rf (up2 S.2.1 a k (some r) a j)
        unfold up2
        rw [if_neg (fun q => hjk q.2)]
        rfl
      · rfl
end HP
end
section
/-! rows over the plain machine: arrays, new cells, natives -/
section AR
variable {G : Gx} {nL : Nat} {p : Program} {l : Launch} {e : Env} {R : Room} {s : State} {m : MethodId} {args : Array Value} {below : List Frame} {meth : Method} {c : Code} {Q : State → Prop} {cc : ByteArray} {pc : Nat} {L : List (Option Value)} {S : SS} {cs sl : Nat} {own : String}
theorem in_lt {i : Int32} {n : Nat} (h : vp_in i n) : i.toNatClampNeg < n := Nat.not_le.mp fun q => h (Or.inr q)
theorem iald_ok (C0 : CX G cc nL own p s m args c) {a n : Nat} {i : Int32} {st : List Value} (ha : sK S a = some (8, n)) (hin : vp_in i n) (hd : decode cc pc = .ok (.iaload, 1))
    (kk : VW G nL p l e R s m args below meth c Q (pc + 1) L (.int (sI S a i.toNatClampNeg) :: st) S cs sl) : VW G nL p l e R s m args below meth c Q pc L (.int i :: .ref a :: st) S cs sl := by
  obtain ⟨hx, hb, hml, hown, hts, hG, hbase⟩ := C0
  intro H locs ls h1 h2 h3
  have kk := kk H locs ls h1 h2 h3
  have hc := (h1.arr (by omega) (by omega) ha).2
  exact W.iald (v := .int (sI S a i.toNatClampNeg)) hx hb hc ((gTy hG (kd := 8) (by omega) (by omega)).1 n (fun j => .int (sI S a j))) (fun q => by cases q) (by show ¬ (i < 0 ∨ (arrV _ _ _).slots.size ≤ _); rw [arrV_size]; exact hin) (by show (arrV _ _ _).slots[_]? = _; rw [arrV_read _ _ (in_lt hin)]) rfl rfl hd kk
theorem tald_ok (C0 : CX G cc nL own p s m args c) {a n kd : Nat} {i : Int32} {st : List Value} (ha : sK S a = some (kd, n)) (hk : 14 ≤ kd) (hin : vp_in i n) (hd : decode cc pc = .ok (.iaload, 1))
    (kk : VW G nL p l e R s m args below meth c Q (pc + 1) L (.int (sI S a i.toNatClampNeg) :: st) S cs sl) : VW G nL p l e R s m args below meth c Q pc L (.int i :: .ref a :: st) S cs sl := by
  obtain ⟨hx, hb, hml, hown, hts, hG, hbase⟩ := C0
  intro H locs ls h1 h2 h3
  have kk := kk H locs ls h1 h2 h3
  obtain ⟨q1, q2, q3, q4⟩ := (h1.2 _ _ _ ha).2 hk
  have hT := hG.2.2.2.2 (kd - 14) (by omega)
  subst q2
  subst q3
  exact va_ti hx hb hT h2 hin (by rw [q4 _ (in_lt hin)]) hd kk
theorem fald_ok (C0 : CX G cc nL own p s m args c) {a n : Nat} {i : Int32} {st : List Value} (ha : sK S a = some (9, n)) (hin : vp_in i n) (hd : decode cc pc = .ok (.faload, 1))
    (kk : VW G nL p l e R s m args below meth c Q (pc + 1) L (.float (sF S a i.toNatClampNeg) :: st) S cs sl) : VW G nL p l e R s m args below meth c Q pc L (.int i :: .ref a :: st) S cs sl := by
  obtain ⟨hx, hb, hml, hown, hts, hG, hbase⟩ := C0
  intro H locs ls h1 h2 h3
  have kk := kk H locs ls h1 h2 h3
  have hc := (h1.arr (by omega) (by omega) ha).2
  exact W.fald (v := .float (sF S a i.toNatClampNeg)) hx hb hc ((gTy hG (kd := 9) (by omega) (by omega)).1 n (fun j => .float (sF S a j))) (fun q => by cases q) (by show ¬ (i < 0 ∨ (arrV _ _ _).slots.size ≤ _); rw [arrV_size]; exact hin) (by show (arrV _ _ _).slots[_]? = _; rw [arrV_read _ _ (in_lt hin)]) rfl rfl hd kk
theorem zald_ok (C0 : CX G cc nL own p s m args c) {a n : Nat} {i : Int32} {st : List Value} (ha : sK S a = some (10, n)) (hin : vp_in i n) (hd : decode cc pc = .ok (.baload, 1))
    (kk : VW G nL p l e R s m args below meth c Q (pc + 1) L (.int (sI S a i.toNatClampNeg) :: st) S cs sl) : VW G nL p l e R s m args below meth c Q pc L (.int i :: .ref a :: st) S cs sl := by
  obtain ⟨hx, hb, hml, hown, hts, hG, hbase⟩ := C0
  intro H locs ls h1 h2 h3
  have kk := kk H locs ls h1 h2 h3
  have hc := (h1.arr (by omega) (by omega) ha).2
  exact W.zald (v := .int (sI S a i.toNatClampNeg)) hx hb hc ((gTy hG (kd := 10) (by omega) (by omega)).1 n (fun j => .int (sI S a j))) (fun q => by cases q) (by show ¬ (i < 0 ∨ (arrV _ _ _).slots.size ≤ _); rw [arrV_size]; exact hin) (by show (arrV _ _ _).slots[_]? = _; rw [arrV_read _ _ (in_lt hin)]) rfl rfl hd kk
theorem cald_ok (C0 : CX G cc nL own p s m args c) {a n : Nat} {i : Int32} {st : List Value} (ha : sK S a = some (11, n)) (hin : vp_in i n) (hd : decode cc pc = .ok (.caload, 1))
    (kk : VW G nL p l e R s m args below meth c Q (pc + 1) L (.int (sI S a i.toNatClampNeg) :: st) S cs sl) : VW G nL p l e R s m args below meth c Q pc L (.int i :: .ref a :: st) S cs sl := by
  obtain ⟨hx, hb, hml, hown, hts, hG, hbase⟩ := C0
  intro H locs ls h1 h2 h3
  have kk := kk H locs ls h1 h2 h3
  have hc := (h1.arr (by omega) (by omega) ha).2
  exact W.cald (v := .int (sI S a i.toNatClampNeg)) hx hb hc ((gTy hG (kd := 11) (by omega) (by omega)).1 n (fun j => .int (sI S a j))) (fun q => by cases q) (by show ¬ (i < 0 ∨ (arrV _ _ _).slots.size ≤ _); rw [arrV_size]; exact hin) (by show (arrV _ _ _).slots[_]? = _; rw [arrV_read _ _ (in_lt hin)]) rfl rfl hd kk
theorem arC_q {S : SS} {a kd : Nat} (h : kd = 12 ∨ kd = 13) : arC S a kd = .inr (.inr (.inr (.inr (sR S a)))) := by
  rcases h with rfl | rfl <;> rfl
theorem aald_ok (C0 : CX G cc nL own p s m args c) {a n kd r : Nat} {i : Int32} {st : List Value} (hk : kd = 12 ∨ kd = 13) (ha : sK S a = some (kd, n)) (hin : vp_in i n) (hr : sR S a i.toNatClampNeg = some r) (hd : decode cc pc = .ok (.aaload, 1))
    (kk : VW G nL p l e R s m args below meth c Q (pc + 1) L (.ref r :: st) S cs sl) : VW G nL p l e R s m args below meth c Q pc L (.int i :: .ref a :: st) S cs sl := by
  obtain ⟨hx, hb, hml, hown, hts, hG, hbase⟩ := C0
  intro H locs ls h1 h2 h3
  have kk := kk H locs ls h1 h2 h3
  have hc := (h1.arr (by omega) (by omega) ha).2
  rw [arC_q hk] at hc
  have hty : ∃ C, aty kd = .object C := by rcases hk with rfl | rfl <;> exact ⟨_, rfl⟩
  obtain ⟨C, hC⟩ := hty
  have hT := (gTy hG (kd := kd) (by omega) (by omega)).1
  rw [hC] at hT
  exact W.aald (v := .ref r) (ty := .object C) hx hb hc (hT n (fun j => va_rf (sR S a j))) rfl (fun q => by cases q) (by show ¬ (i < 0 ∨ (arrV _ _ _).slots.size ≤ _); rw [arrV_size]; exact hin) (by show (arrV _ _ _).slots[_]? = _; rw [arrV_read _ _ (in_lt hin), hr]; rfl) rfl rfl hd kk
theorem stI_same {S : SS} {a k : Nat} {v : Int32} (b : Nat) (h : b ≠ a) : sI (stI S a k v) b = sI S b := by
  funext j
  show up2 S.2.2.2.1 a k v b j = _
  unfold up2
  rw [if_neg (fun q => h q.1)]
  rfl
theorem stF_same {S : SS} {a k : Nat} {v : UInt32} (b : Nat) (h : b ≠ a) : sF (stF S a k v) b = sF S b := by
  funext j
  show up2 S.2.2.2.2 a k v b j = _
  unfold up2
  rw [if_neg (fun q => h q.1)]
  rfl
theorem stR_same {S : SS} {a k : Nat} {v : Option Nat} (b : Nat) (h : b ≠ a) : sR (stR S a k v) b = sR S b := by
  funext j
  show up2 S.2.1 a k v b j = _
  unfold up2
  rw [if_neg (fun q => h q.1)]
  rfl
theorem stI_row (S : SS) (a k : Nat) (v : Int32) : (fun j => Value.int (sI (stI S a k v) a j)) = updV (fun j => Value.int (sI S a j)) k (.int v) := by
  funext j
  show Value.int (up2 S.2.2.2.1 a k v a j) = _
  unfold up2 updV
  by_cases h : j = k
  · rw [if_pos ⟨rfl, h⟩, if_pos h]
  · rw [if_neg (fun q => h q.2), if_neg h]
    rfl
theorem stF_row (S : SS) (a k : Nat) (v : UInt32) : (fun j => Value.float (sF (stF S a k v) a j)) = updV (fun j => Value.float (sF S a j)) k (.float v) := by
  funext j
  show Value.float (up2 S.2.2.2.2 a k v a j) = _
  unfold up2 updV
  by_cases h : j = k
  · rw [if_pos ⟨rfl, h⟩, if_pos h]
  · rw [if_neg (fun q => h q.2), if_neg h]
    rfl
theorem stR_row (S : SS) (a k r : Nat) : (fun j => va_rf (sR (stR S a k (some r)) a j)) = updV (fun j => va_rf (sR S a j)) k (.ref r) := by
  funext j
  show va_rf (up2 S.2.1 a k (some r) a j) = _
  unfold up2 updV
  by_cases h : j = k
  · rw [if_pos ⟨rfl, h⟩, if_pos h]
    rfl
  · rw [if_neg (fun q => h q.2), if_neg h]
    rfl
theorem iast_ok (C0 : CX G cc nL own p s m args c) {a n : Nat} {i v : Int32} {st : List Value} (ha : sK S a = some (8, n)) (hin : vp_in i n) (hd : decode cc pc = .ok (.iastore, 1))
    (kk : VW G nL p l e R s m args below meth c Q (pc + 1) L st (stI S a i.toNatClampNeg v) cs sl) : VW G nL p l e R s m args below meth c Q pc L (.int v :: .int i :: .ref a :: st) S cs sl := by
  obtain ⟨hx, hb, hml, hown, hts, hG, hbase⟩ := C0
  intro H locs ls h1 h2 h3
  obtain ⟨hA, hc⟩ := h1.arr (by omega) (by omega) ha
  refine W.iast hx hb hc ((gTy hG (kd := 8) (by omega) (by omega)).1 n (fun j => .int (sI S a j))) (fun q => by cases q) (by show ¬ (i < 0 ∨ (arrV _ _ _).slots.size ≤ _); rw [arrV_size]; exact hin) rfl rfl hd fun H' e1 e2 e3 => ?_
  refine kk H' _ ls (h1.upd rfl rfl ha (by omega) stI_same (fun _ _ => rfl) (fun _ _ => rfl) e2 e3 (arr_cel (by omega) ?_)) (h2.put e2 e3 hA) h3
  rw [e1]
  show some ((arrV _ _ _).setSlot _ _) = some (arrV _ _ (fun j => Value.int (sI (stI S a i.toNatClampNeg v) a j)))
  rw [arrV_store, stI_row]
theorem fast_ok (C0 : CX G cc nL own p s m args c) {a n : Nat} {i : Int32} {v : UInt32} {st : List Value} (ha : sK S a = some (9, n)) (hin : vp_in i n) (hd : decode cc pc = .ok (.fastore, 1))
    (kk : VW G nL p l e R s m args below meth c Q (pc + 1) L st (stF S a i.toNatClampNeg v) cs sl) : VW G nL p l e R s m args below meth c Q pc L (.float v :: .int i :: .ref a :: st) S cs sl := by
  obtain ⟨hx, hb, hml, hown, hts, hG, hbase⟩ := C0
  intro H locs ls h1 h2 h3
  obtain ⟨hA, hc⟩ := h1.arr (by omega) (by omega) ha
  refine W.fast hx hb hc ((gTy hG (kd := 9) (by omega) (by omega)).1 n (fun j => .float (sF S a j))) (fun q => by cases q) (by show ¬ (i < 0 ∨ (arrV _ _ _).slots.size ≤ _); rw [arrV_size]; exact hin) rfl rfl hd fun H' e1 e2 e3 => ?_
  refine kk H' _ ls (h1.upd rfl rfl ha (by omega) (fun _ _ => rfl) stF_same (fun _ _ => rfl) e2 e3 (arr_cel (by omega) ?_)) (h2.put e2 e3 hA) h3
  rw [e1]
  show some ((arrV _ _ _).setSlot _ _) = some (arrV _ _ (fun j => Value.float (sF (stF S a i.toNatClampNeg v) a j)))
  rw [arrV_store, stF_row]
theorem zast_ok (C0 : CX G cc nL own p s m args c) {a n : Nat} {i v : Int32} {st : List Value} (ha : sK S a = some (10, n)) (hin : vp_in i n) (hv : fitI .boolean v) (hd : decode cc pc = .ok (.bastore, 1))
    (kk : VW G nL p l e R s m args below meth c Q (pc + 1) L st (stI S a i.toNatClampNeg v) cs sl) : VW G nL p l e R s m args below meth c Q pc L (.int v :: .int i :: .ref a :: st) S cs sl := by
  obtain ⟨hx, hb, hml, hown, hts, hG, hbase⟩ := C0
  intro H locs ls h1 h2 h3
  obtain ⟨hA, hc⟩ := h1.arr (by omega) (by omega) ha
  refine W.zast hx hb hc ((gTy hG (kd := 10) (by omega) (by omega)).1 n (fun j => .int (sI S a j))) (fun q => by cases q) (by show ¬ (i < 0 ∨ (arrV _ _ _).slots.size ≤ _); rw [arrV_size]; exact hin) rfl rfl hd fun H' e1 e2 e3 => ?_
  rw [hv.1] at e1
  refine kk H' _ ls (h1.upd rfl rfl ha (by omega) stI_same (fun _ _ => rfl) (fun _ _ => rfl) e2 e3 (arr_cel (by omega) ?_)) (h2.put e2 e3 hA) h3
  rw [e1]
  show some ((arrV _ _ _).setSlot _ _) = some (arrV _ _ (fun j => Value.int (sI (stI S a i.toNatClampNeg v) a j)))
  rw [arrV_store, stI_row]
theorem cast_ok (C0 : CX G cc nL own p s m args c) {a n : Nat} {i v : Int32} {st : List Value} (ha : sK S a = some (11, n)) (hin : vp_in i n) (hv : fitI .char v) (hd : decode cc pc = .ok (.castore, 1))
    (kk : VW G nL p l e R s m args below meth c Q (pc + 1) L st (stI S a i.toNatClampNeg v) cs sl) : VW G nL p l e R s m args below meth c Q pc L (.int v :: .int i :: .ref a :: st) S cs sl := by
  obtain ⟨hx, hb, hml, hown, hts, hG, hbase⟩ := C0
  intro H locs ls h1 h2 h3
  obtain ⟨hA, hc⟩ := h1.arr (by omega) (by omega) ha
  refine W.cast hx hb hc ((gTy hG (kd := 11) (by omega) (by omega)).1 n (fun j => .int (sI S a j))) (fun q => by cases q) (by show ¬ (i < 0 ∨ (arrV _ _ _).slots.size ≤ _); rw [arrV_size]; exact hin) rfl rfl hd fun H' e1 e2 e3 => ?_
  rw [hv.1] at e1
  refine kk H' _ ls (h1.upd rfl rfl ha (by omega) stI_same (fun _ _ => rfl) (fun _ _ => rfl) e2 e3 (arr_cel (by omega) ?_)) (h2.put e2 e3 hA) h3
  rw [e1]
  show some ((arrV _ _ _).setSlot _ _) = some (arrV _ _ (fun j => Value.int (sI (stI S a i.toNatClampNeg v) a j)))
  rw [arrV_store, stI_row]
theorem aast_ok (C0 : CX G cc nL own p s m args c) {a n kd r rn : Nat} {i : Int32} {st : List Value} (hk : kd = 12 ∨ kd = 13) (ha : sK S a = some (kd, n)) (hr : sK S r = some (kd - 12, rn)) (hin : vp_in i n) (hd : decode cc pc = .ok (.aastore, 1))
    (kk : VW G nL p l e R s m args below meth c Q (pc + 1) L st (stR S a i.toNatClampNeg (some r)) cs sl) : VW G nL p l e R s m args below meth c Q pc L (.ref r :: .int i :: .ref a :: st) S cs sl := by
  obtain ⟨hx, hb, hml, hown, hts, hG, hbase⟩ := C0
  intro H locs ls h1 h2 h3
  obtain ⟨hA, hc⟩ := h1.arr (by omega) (by omega) ha
  rw [arC_q hk] at hc
  obtain ⟨-, cellV, g1, g2, g3, -⟩ := h1.obj (ci := kd - 12) (by omega) hr
  have hcls := (hG.1.1 (kd - 12) _ (cl_at (by omega))).2
  have hty : aty kd = .object (clR (kd - 12)) := by rcases hk with rfl | rfl <;> rfl
  have hT := (gTy hG (kd := kd) (by omega) (by omega)).2
  rw [hty] at hT
  obtain ⟨kA, comp, k1, k2, k3, -⟩ := hT
  have hcomp : comp = G.1.1 (kd - 12) := Option.some.inj (k3.symm.trans hcls.1)
  subst hcomp
  obtain ⟨kC, hkC, -⟩ := hcls.2
  refine W.aast hx hb hc (fun q h => by cases h) (fun h => by cases h) k1 k2 rfl hkC ⟨fun q => hin (Or.inl q), by show _ < (arrV _ _ _).slots.size; rw [arrV_size]; exact in_lt hin⟩ g1 (fun q h => by rw [g3] at h; cases h) (by rw [g2]; exact hkC) (by rw [g2]; exact va_assign hcls) rfl rfl hd fun H' e1 e2 e3 => ?_
  refine kk H' _ ls (h1.upd rfl rfl ha (by omega) (fun _ _ => rfl) (fun _ _ => rfl) stR_same e2 e3 (arr_cel (by omega) ?_)) (h2.put e2 e3 hA) h3
  rw [e1, arC_q hk]
  show some ((arrV _ _ _).setSlot _ _) = some (arrV _ _ (fun j => va_rf (sR (stR S a i.toNatClampNeg (some r)) a j)))
  rw [arrV_store, stR_row]
theorem alen_ok (C0 : CX G cc nL own p s m args c) {a n kd : Nat} {st : List Value} (h8 : 8 ≤ kd) (ha : sK S a = some (kd, n)) (hd : decode cc pc = .ok (.arraylength, 1))
    (kk : VW G nL p l e R s m args below meth c Q (pc + 1) L (.int (nI n) :: st) S cs sl) : VW G nL p l e R s m args below meth c Q pc L (.ref a :: st) S cs sl := by
  obtain ⟨hx, hb, hml, hown, hts, hG, hbase⟩ := C0
  intro H locs ls h1 h2 h3
  have kk := kk H locs ls h1 h2 h3
  by_cases h14 : kd < 14
  · have hc := (h1.arr h8 h14 ha).2
    have hsz : (vp_cell (G.2.1 kd) (n, arC S a kd)).slots.size = n := by
      unfold vp_cell arC
      split <;> exact arrV_size _ _ _
    have hT := (gTy hG (kd := kd) h8 h14).1
    have harr : s.isArrayOf (vp_cell (G.2.1 kd) (n, arC S a kd)) (aty kd) := by
      unfold vp_cell
      split <;> exact hT _ _
    exact W.alen (n := nI n) hx hb hc harr (by rw [hsz]; rfl) rfl rfl hd kk
  · obtain ⟨q1, q2, q3, q4⟩ := (h1.2 _ _ _ ha).2 (by omega)
    subst q2
    subst q3
    exact va_tlen hx hb (hG.2.2.2.2 (kd - 14) (by omega)) h2 rfl hd kk
theorem gets_ok (C0 : CX G cc nL own p s m args c) {i idx : Nat} {st : List Value} (hi : i < 2) (hw : Cond.fieldLinkNest own idx "PlateWriters" (if i = 0 then "LEAST_OF_SETTING" else "MOST_OF_SETTING") "[I" "PlateWriters" ∈ nestW) (hd : decode cc pc = .ok (.getstatic idx, 3))
    (kk : VW G nL p l e R s m args below meth c Q (pc + 3) L (.ref (G.2.2.1 i).1 :: st) S cs sl) : VW G nL p l e R s m args below meth c Q pc L st S cs sl := by
  obtain ⟨hx, hb, hml, hown, hts, hG, hbase⟩ := C0
  intro H locs ls h1 h2 h3
  have kk := kk H locs ls h1 h2 h3
  match i, hi, hw, kk with
  | 0, _, hw, kk => exact va_getsN hx hb hG.2.2.2.1.1 h2 hown (va_Nw.use rfl (hG.2.1 _ hw)) (fun _ h => h) hd kk
  | 1, _, hw, kk => exact va_getsN hx hb hG.2.2.2.1.2 h2 hown (va_Nw.use rfl (hG.2.1 _ hw)) (fun _ h => h) hd kk
end AR
end
section
/-! rows over the plain machine: whole rows copied, natives, new cells, calls, ends -/
section NW
variable {G : Gx} {nL : Nat} {p : Program} {l : Launch} {e : Env} {R : Room} {s : State} {m : MethodId} {args : Array Value} {below : List Frame} {meth : Method} {c : Code} {Q : State → Prop} {cc : ByteArray} {pc : Nat} {L : List (Option Value)} {S : SS} {cs sl : Nat} {own : String}
theorem natW : nativeFrameWords "java/lang/System" "arraycopy" 5 + 11 ≤ 24 := by decide +kernel
theorem copyI_ok (C0 : CX G cc nL own p s m args c) {idx a0 a n0 n1 : Nat} {sp dp n : Int32} {st : List Value} (hl : Cond.methodLink own idx arraycopyName ∈ lw_all) (hn : Cond.native arraycopyName ∈ lw_all) (hs : Cond.static arraycopyName ∈ lw_all) (hi : Cond.initialized "java/lang/System" ∈ lw_all)
    (ha0 : sK S a0 = some (8, n0)) (ha : sK S a = some (8, n1)) (h1' : ¬ sp < 0) (h2' : ¬ dp < 0) (h3' : ¬ n < 0) (h4 : sp.toNatClampNeg + n.toNatClampNeg ≤ n0) (h5 : dp.toNatClampNeg + n.toNatClampNeg ≤ n1) (hframes : 1 ≤ R.frames) (hlocals : (st.map fun v => v.category).sum + 24 ≤ R.locals) (hd : decode cc pc = .ok (.invokestatic idx, 3))
    (kk : VW G nL p l e R s m args below meth c Q (pc + 3) L st (stIA S a (va_cpy (sI S a0) (sI S a) sp.toNatClampNeg dp.toNatClampNeg n.toNatClampNeg)) cs sl) : VW G nL p l e R s m args below meth c Q pc L (.int n :: .int dp :: .ref a :: .int sp :: .ref a0 :: st) S cs sl := by
  obtain ⟨hexec, hb, hml, hown, hts, hG, hbase⟩ := C0
  intro H locs ls h1 h2 h3
  have hls : c.maxLocals = ls.size := by rw [hml, h3.1]
  have nn : ∀ z : Int32, ¬ z < 0 → z.toInt = (z.toNatClampNeg : Int) := by
    intro z hz
    have hz0 : (0 : Int) ≤ z.toInt := by
      have := Int32.not_lt.mp hz
      simpa using Int32.le_iff_toInt_le.mp this
    show z.toInt = ((z.toInt.toNat : Nat) : Int)
    omega
  obtain ⟨hA0, hc0⟩ := h1.arr (by omega) (by omega) ha0
  obtain ⟨hA, hc1⟩ := h1.arr (by omega) (by omega) ha
  intro T hT X
  have hc0 : H[a0]? = some (vp_cell (G.2.1 8) (n0, .inl (sI S a0))) := hc0
  have hc1 : H[a]? = some (vp_cell (G.2.1 8) (n1, .inl (sI S a))) := hc1
  obtain ⟨-, k0, hk0, cm0, hkk0⟩ := (gTy hG (kd := 8) (by omega) (by omega)).1 n0 (fun j => .int (sI S a0 j))
  obtain ⟨-, k1, hk1, cm1, hkk1⟩ := (gTy hG (kd := 8) (by omega) (by omega)).1 n1 (fun j => .int (sI S a j))
  obtain ⟨vm', X', step⟩ := X.arraycopy hexec hown (hts _ hl) (hts _ hn) (hts _ hs) (hts _ hi) (src := a0) (dst := a) (cs := vp_cell (G.2.1 8) (n0, .inl (sI S a0))) (cd := vp_cell (G.2.1 8) (n1, .inl (sI S a))) (srcPos := sp) (destPos := dp) (n := n) (by rw [hT]; exact hc0) (by rw [hT]; exact hc1)
    (fun _ h => by cases h) (fun _ h => by cases h) (fun h => by cases h) (fun h => by cases h) hk0 hk1 hkk0 hkk1 (by simp [aty, refKind]) h1' h2' h3'
    (by rw [nn sp h1', nn n h3']; show ¬ _ > ((arrV (G.2.1 8) n0 (fun j => .int (sI S a0 j))).slots.size : Int); rw [arrV_size]; omega)
    (by rw [nn dp h2', nn n h3']; show ¬ _ > ((arrV (G.2.1 8) n1 (fun j => .int (sI S a j))).slots.size : Int); rw [arrV_size]; omega)
    (fun vm₁ _ i hi => by
      have e : (vp_cell (G.2.1 8) (n0, .inl (sI S a0))).slots.getD (sp.toNatClampNeg + i) .null = .int (sI S a0 (sp.toNatClampNeg + i)) := by
        show (arrV (G.2.1 8) n0 (fun j => .int (sI S a0 j))).slots.getD _ _ = _
        rw [Array.getD_eq_getD_getElem?, arrV_read _ _ (by omega)]
        rfl
      refine ⟨?_, ?_⟩
      · rw [e]
        rfl
      · rw [e]
        exact trivial)
    (g := F0 m pc ls (.int n :: .int dp :: .ref a :: .int sp :: .ref a0 :: st)) rfl (by rw [hls]) (rest := st) rfl (by rw [hb]; exact hd) hframes (by show 2 * 0 + _ + _ ≤ _; have := natW; omega)
  have e1 : copied (vp_cell (G.2.1 8) (n0, .inl (sI S a0))) (vp_cell (G.2.1 8) (n1, .inl (sI S a))) sp dp n = vp_cell (G.2.1 8) (n1, .inl (va_cpy (sI S a0) (sI S a) sp.toNatClampNeg dp.toNatClampNeg n.toNatClampNeg)) := va_copied (fun z => .int z) (G.2.1 8) (G.2.1 8) (sI S a0) (sI S a) h4
  rw [e1] at X' step
  have hl : a < H.size := (Array.getElem?_eq_some_iff.mp hc1).1
  generalize hY : vp_cell (G.2.1 8) (n1, .inl (va_cpy (sI S a0) (sI S a) sp.toNatClampNeg dp.toNatClampNeg n.toNatClampNeg)) = Y at X' step
  have hheap : ((T.setVm vm').setCell a Y).heap = H.setIfInBounds a Y := by rw [← hT]; rfl
  have oq : ∀ q : Nat, q ≠ a → (H.setIfInBounds a Y)[q]? = H[q]? := fun q hq => by simp [Array.getElem?_setIfInBounds, Ne.symm hq]
  have hz : (H.setIfInBounds a Y).size = H.size := by simp
  have hs2 : ∀ L' : List Loc, (∀ q ∈ L', q.base = a) → va_S (gA G) s.heap (H.setIfInBounds a Y) (locs ++ L') := fun L' hL' => ⟨by rw [hz]; exact h2.1, fun q g1 g2 => by
      rw [oq q (fun e => g2 (by rw [e]; exact hA))]
      exact h2.2.1 q g1 g2, fun q hq => by
      rcases List.mem_append.mp hq with h | h
      · exact h2.2.2 q h
      · rw [hL' q h]
        exact hA⟩
  have same : ∀ b, b ≠ a → sI (stIA S a (va_cpy (sI S a0) (sI S a) sp.toNatClampNeg dp.toNatClampNeg n.toNatClampNeg)) b = sI S b := fun b hb => by
    show upA S.2.2.2.1 a _ b = _
    unfold upA
    rw [if_neg hb]
    rfl
  have hY2 : arC (stIA S a (va_cpy (sI S a0) (sI S a) sp.toNatClampNeg dp.toNatClampNeg n.toNatClampNeg)) a 8 = .inl (va_cpy (sI S a0) (sI S a) sp.toNatClampNeg dp.toNatClampNeg n.toNatClampNeg) := by
    show Sum.inl (upA S.2.2.2.1 a _ a) = _
    unfold upA
    rw [if_pos rfl]
  obtain ⟨t, a1, b1⟩ := kk _ _ ls (h1.upd rfl rfl ha (by omega) same (fun _ _ => rfl) (fun _ _ => rfl) hz oq (arr_cel (by omega) (by rw [hY2, hY]; simp [Array.getElem?_setIfInBounds, hl]))) (hs2 _ (fun q hq => by obtain ⟨z, -, hz⟩ := List.mem_map.mp hq; rw [← hz])) h3 _ hheap X'
  exact ⟨t, step t a1, b1⟩
theorem copyF_ok (C0 : CX G cc nL own p s m args c) {idx a0 a n0 n1 : Nat} {sp dp n : Int32} {st : List Value} (hl : Cond.methodLink own idx arraycopyName ∈ lw_all) (hn : Cond.native arraycopyName ∈ lw_all) (hs : Cond.static arraycopyName ∈ lw_all) (hi : Cond.initialized "java/lang/System" ∈ lw_all)
    (ha0 : sK S a0 = some (9, n0)) (ha : sK S a = some (9, n1)) (h1' : ¬ sp < 0) (h2' : ¬ dp < 0) (h3' : ¬ n < 0) (h4 : sp.toNatClampNeg + n.toNatClampNeg ≤ n0) (h5 : dp.toNatClampNeg + n.toNatClampNeg ≤ n1) (hframes : 1 ≤ R.frames) (hlocals : (st.map fun v => v.category).sum + 24 ≤ R.locals) (hd : decode cc pc = .ok (.invokestatic idx, 3))
    (kk : VW G nL p l e R s m args below meth c Q (pc + 3) L st (stFA S a (va_cpy (sF S a0) (sF S a) sp.toNatClampNeg dp.toNatClampNeg n.toNatClampNeg)) cs sl) : VW G nL p l e R s m args below meth c Q pc L (.int n :: .int dp :: .ref a :: .int sp :: .ref a0 :: st) S cs sl := by
  obtain ⟨hexec, hb, hml, hown, hts, hG, hbase⟩ := C0
  intro H locs ls h1 h2 h3
  have hls : c.maxLocals = ls.size := by rw [hml, h3.1]
  have nn : ∀ z : Int32, ¬ z < 0 → z.toInt = (z.toNatClampNeg : Int) := by
    intro z hz
    have hz0 : (0 : Int) ≤ z.toInt := by
      have := Int32.not_lt.mp hz
      simpa using Int32.le_iff_toInt_le.mp this
    show z.toInt = ((z.toInt.toNat : Nat) : Int)
    omega
  obtain ⟨hA0, hc0⟩ := h1.arr (by omega) (by omega) ha0
  obtain ⟨hA, hc1⟩ := h1.arr (by omega) (by omega) ha
  intro T hT X
  have hc0 : H[a0]? = some (vp_cell (G.2.1 9) (n0, .inr (.inr (.inl (sF S a0))))) := hc0
  have hc1 : H[a]? = some (vp_cell (G.2.1 9) (n1, .inr (.inr (.inl (sF S a))))) := hc1
  obtain ⟨-, k0, hk0, cm0, hkk0⟩ := (gTy hG (kd := 9) (by omega) (by omega)).1 n0 (fun j => .float (sF S a0 j))
  obtain ⟨-, k1, hk1, cm1, hkk1⟩ := (gTy hG (kd := 9) (by omega) (by omega)).1 n1 (fun j => .float (sF S a j))
  obtain ⟨vm', X', step⟩ := X.arraycopy hexec hown (hts _ hl) (hts _ hn) (hts _ hs) (hts _ hi) (src := a0) (dst := a) (cs := vp_cell (G.2.1 9) (n0, .inr (.inr (.inl (sF S a0))))) (cd := vp_cell (G.2.1 9) (n1, .inr (.inr (.inl (sF S a))))) (srcPos := sp) (destPos := dp) (n := n) (by rw [hT]; exact hc0) (by rw [hT]; exact hc1)
    (fun _ h => by cases h) (fun _ h => by cases h) (fun h => by cases h) (fun h => by cases h) hk0 hk1 hkk0 hkk1 (by simp [aty, refKind]) h1' h2' h3'
    (by rw [nn sp h1', nn n h3']; show ¬ _ > ((arrV (G.2.1 9) n0 (fun j => .float (sF S a0 j))).slots.size : Int); rw [arrV_size]; omega)
    (by rw [nn dp h2', nn n h3']; show ¬ _ > ((arrV (G.2.1 9) n1 (fun j => .float (sF S a j))).slots.size : Int); rw [arrV_size]; omega)
    (fun vm₁ _ i hi => by
      have e : (vp_cell (G.2.1 9) (n0, .inr (.inr (.inl (sF S a0))))).slots.getD (sp.toNatClampNeg + i) .null = .float (sF S a0 (sp.toNatClampNeg + i)) := by
        show (arrV (G.2.1 9) n0 (fun j => .float (sF S a0 j))).slots.getD _ _ = _
        rw [Array.getD_eq_getD_getElem?, arrV_read _ _ (by omega)]
        rfl
      refine ⟨?_, ?_⟩
      · rw [e]
        rfl
      · rw [e]
        exact trivial)
    (g := F0 m pc ls (.int n :: .int dp :: .ref a :: .int sp :: .ref a0 :: st)) rfl (by rw [hls]) (rest := st) rfl (by rw [hb]; exact hd) hframes (by show 2 * 0 + _ + _ ≤ _; have := natW; omega)
  have e1 : copied (vp_cell (G.2.1 9) (n0, .inr (.inr (.inl (sF S a0))))) (vp_cell (G.2.1 9) (n1, .inr (.inr (.inl (sF S a))))) sp dp n = vp_cell (G.2.1 9) (n1, .inr (.inr (.inl (va_cpy (sF S a0) (sF S a) sp.toNatClampNeg dp.toNatClampNeg n.toNatClampNeg)))) := va_copied (fun z => .float z) (G.2.1 9) (G.2.1 9) (sF S a0) (sF S a) h4
  rw [e1] at X' step
  have hl : a < H.size := (Array.getElem?_eq_some_iff.mp hc1).1
  generalize hY : vp_cell (G.2.1 9) (n1, .inr (.inr (.inl (va_cpy (sF S a0) (sF S a) sp.toNatClampNeg dp.toNatClampNeg n.toNatClampNeg)))) = Y at X' step
  have hheap : ((T.setVm vm').setCell a Y).heap = H.setIfInBounds a Y := by rw [← hT]; rfl
  have oq : ∀ q : Nat, q ≠ a → (H.setIfInBounds a Y)[q]? = H[q]? := fun q hq => by simp [Array.getElem?_setIfInBounds, Ne.symm hq]
  have hz : (H.setIfInBounds a Y).size = H.size := by simp
  have hs2 : ∀ L' : List Loc, (∀ q ∈ L', q.base = a) → va_S (gA G) s.heap (H.setIfInBounds a Y) (locs ++ L') := fun L' hL' => ⟨by rw [hz]; exact h2.1, fun q g1 g2 => by
      rw [oq q (fun e => g2 (by rw [e]; exact hA))]
      exact h2.2.1 q g1 g2, fun q hq => by
      rcases List.mem_append.mp hq with h | h
      · exact h2.2.2 q h
      · rw [hL' q h]
        exact hA⟩
  have same : ∀ b, b ≠ a → sF (stFA S a (va_cpy (sF S a0) (sF S a) sp.toNatClampNeg dp.toNatClampNeg n.toNatClampNeg)) b = sF S b := fun b hb => by
    show upA S.2.2.2.2 a _ b = _
    unfold upA
    rw [if_neg hb]
    rfl
  have hY2 : arC (stFA S a (va_cpy (sF S a0) (sF S a) sp.toNatClampNeg dp.toNatClampNeg n.toNatClampNeg)) a 9 = .inr (.inr (.inl (va_cpy (sF S a0) (sF S a) sp.toNatClampNeg dp.toNatClampNeg n.toNatClampNeg))) := by
    show Sum.inr (Sum.inr (Sum.inl (upA S.2.2.2.2 a _ a))) = _
    unfold upA
    rw [if_pos rfl]
  obtain ⟨t, a1, b1⟩ := kk _ _ ls (h1.upd rfl rfl ha (by omega) (fun _ _ => rfl) same (fun _ _ => rfl) hz oq (arr_cel (by omega) (by rw [hY2, hY]; simp [Array.getElem?_setIfInBounds, hl]))) (hs2 _ (fun q hq => by obtain ⟨z, -, hz⟩ := List.mem_map.mp hq; rw [← hz])) h3 _ hheap X'
  exact ⟨t, step t a1, b1⟩
theorem f2i_ok (C0 : CX G cc nL own p s m args c) {idx : Nat} {b : UInt32} {st : List Value} (hl : Cond.methodLink own idx ⟨"java/lang/Float", "floatToRawIntBits", "(F)I"⟩ ∈ lw_all) (hn : Cond.native ⟨"java/lang/Float", "floatToRawIntBits", "(F)I"⟩ ∈ lw_all) (hs : Cond.static ⟨"java/lang/Float", "floatToRawIntBits", "(F)I"⟩ ∈ lw_all) (hi : Cond.initialized "java/lang/Float" ∈ lw_all)
    (hframes : 1 ≤ R.frames) (hlocals : (st.map fun v => v.category).sum + 15 ≤ R.locals) (hd : decode cc pc = .ok (.invokestatic idx, 3))
    (kk : VW G nL p l e R s m args below meth c Q (pc + 3) L (.int b.toInt32 :: st) S cs sl) : VW G nL p l e R s m args below meth c Q pc L (.float b :: st) S cs sl := by
  obtain ⟨hexec, hb, hml, hown, hts, hG, hbase⟩ := C0
  intro H locs ls h1 h2 h3
  exact vn_f2i hexec hb (by rw [hml, h3.1]) hown (hts _ hl) (hts _ hn) (hts _ hs) (hts _ hi) hframes hlocals hd (kk H locs ls h1 h2 h3)
theorem d2l_ok (C0 : CX G cc nL own p s m args c) {idx : Nat} {b : UInt64} {st : List Value} (hl : Cond.methodLink own idx ⟨"java/lang/Double", "doubleToRawLongBits", "(D)J"⟩ ∈ lw_all) (hn : Cond.native ⟨"java/lang/Double", "doubleToRawLongBits", "(D)J"⟩ ∈ lw_all) (hs : Cond.static ⟨"java/lang/Double", "doubleToRawLongBits", "(D)J"⟩ ∈ lw_all) (hi : Cond.initialized "java/lang/Double" ∈ lw_all)
    (hframes : 1 ≤ R.frames) (hlocals : (st.map fun v => v.category).sum + 15 ≤ R.locals) (hd : decode cc pc = .ok (.invokestatic idx, 3))
    (kk : VW G nL p l e R s m args below meth c Q (pc + 3) L (.long b.toInt64 :: st) S cs sl) : VW G nL p l e R s m args below meth c Q pc L (.double b :: st) S cs sl := by
  obtain ⟨hexec, hb, hml, hown, hts, hG, hbase⟩ := C0
  intro H locs ls h1 h2 h3
  exact vn_d2l hexec hb (by rw [hml, h3.1]) hown (hts _ hl) (hts _ hn) (hts _ hs) (hts _ hi) hframes hlocals hd (kk H locs ls h1 h2 h3)
theorem objInit_ok (C0 : CX G cc nL own p s m args c) {idx a : Nat} {st : List Value} (hl : Cond.methodLink own idx Lib.objectInit ∈ lw_all) (hn : Cond.instanceMethod Lib.objectInit ∈ lw_all) (hc : Cond.code Lib.objectInit ⟨#[0xb1]⟩ 1 none ∈ lw_all)
    (hframes : 1 ≤ R.frames) (hlocals : (st.map fun v => v.category).sum + 12 ≤ R.locals) (hd : decode cc pc = .ok (.invokespecial idx, 3))
    (kk : VW G nL p l e R s m args below meth c Q (pc + 3) L st S cs sl) : VW G nL p l e R s m args below meth c Q pc L (.ref a :: st) S cs sl := by
  obtain ⟨hexec, hb, hml, hown, hts, hG, hbase⟩ := C0
  intro H locs ls h1 h2 h3
  exact W.objInit hexec hb hown (hts _ hl) (hts _ hn) (hts _ hc) (a := a) (rest := st) rfl (by rw [hml]; exact h3.1) rfl hd hframes (by show 2 * 0 + _ + 12 ≤ _; omega) (kk H locs ls h1 h2 h3)
theorem tblLt {n : Nat} (hG : gOK G s s.heap) (hz : s.heap.size ≤ n) : ∀ i, i < 3 → (G.2.2.1 i).1 < n := fun i hi => by
  obtain ⟨cell, h1, -⟩ := hG.2.2.2.2 i hi
  have := (Array.getElem?_eq_some_iff.mp h1).1
  omega
theorem push_S {A : Nat → Prop} {H0 H H1 : Heap} {locs : List Loc} (hS : va_S A H0 H locs) (z1 : H1.size = H.size + 1) (o1 : ∀ q, q < H.size → H1[q]? = H[q]?) : va_S A H0 H1 locs :=
  ⟨Nat.le_trans hS.1 (by omega), fun x h1 h2 => (o1 x (Nat.lt_of_lt_of_le h1 hS.1)).trans (hS.2.1 x h1 h2), hS.2.2⟩
/-- the types that our fields have -/
def okT : FieldType → Bool
  | .int | .char | .object _ | .array _ => true
  | _ => false
theorem okT_all : ∀ ci, ci < 8 → ∀ k, k < nf ci → okT (fty ci k) = true := by decide +kernel
theorem RA_prim {U : State} {cA : ClassId} {ty : FieldType} (h : va_RA U cA ty) (hn : isRefTy ty = false) : U.vm.findClass ("[" ++ ty.toString) = some cA := by
  cases ty <;> first | exact h | cases hn
theorem new_ok (C0 : CX G cc nL own p s m args c) {ci idx : Nat} {st : List Value} (hc : ci < 8) (hl : Cond.classLink own idx (clR ci) ∈ lw_all) (hi : Cond.instantiable (clR ci) (nf ci) ∈ lw_all) (hn : Cond.initialized (clR ci) ∈ lw_all)
    (hcs : cs + 1 ≤ R.cells) (hsl : sl + nf ci ≤ R.slots) (hd : decode cc pc = .ok (.new idx, 3))
    (kk : VW G nL p l e R s m args below meth c Q (pc + 3) L (.ref (sZ S) :: st) (stN S ci 0) (cs + 1) (sl + nf ci)) : VW G nL p l e R s m args below meth c Q pc L st S cs sl := by
  obtain ⟨hx, hb, hml, hown, hts, hG, hbase⟩ := C0
  intro H locs ls h1 h2 h3
  have hKn := hG.1.1 ci _ (cl_at hc)
  refine W.newcK hx hb hown (hts _ hl) (hts _ hi) (hts _ hn) rfl hd hcs hsl hKn.2.1 rfl fun H1 kC hkC e1 z1 o1 => ?_
  have hz := h1.1
  rw [← hz] at kk
  refine kk H1 _ ls (h1.push (by omega) (Nat.le_trans hbase h2.1) z1 o1 (tblLt hG h2.1) (obj_cel hc ((u_born (fty ci) hts (cl_in hc) hKn hkC e1 (cl_ty hc)).to fun k hk => ?_))) (push_S h2 z1 o1) h3
  have eI : sI (stN S ci 0) H.size = fun _ => 0 := by show upA S.2.2.2.1 S.2.2.1 _ _ = _; unfold upA; rw [if_pos (show H.size = S.2.2.1 from hz)]
  have eR : sR (stN S ci 0) H.size = fun _ => none := by show upA S.2.1 S.2.2.1 _ _ = _; unfold upA; rw [if_pos (show H.size = S.2.2.1 from hz)]
  unfold fV
  rw [eI, eR]
  have hok := okT_all ci hc k hk
  cases h : fty ci k <;> rw [h] at hok <;> first | rfl | (simp [okT] at hok)
/-- the kinds of rows of numbers -/
def atyp (kd : Nat) : ArrayType := match kd with
  | 8 => .int | 9 => .float | 10 => .boolean | _ => .char
theorem newa_ok (C0 : CX G cc nL own p s m args c) {kd : Nat} {v : Int32} {N : Nat} {st : List Value} (h8 : 8 ≤ kd) (h12 : kd < 12) (hw : Cond.arrayClass (aty kd) ∈ lw_all) (hv : ¬ v < 0) (hN : v.toNatClampNeg = N) (hNb : N ≤ 65536) (hcs : cs + 1 ≤ R.cells) (hsl : sl + N ≤ R.slots) (hd : decode cc pc = .ok (.newarray (atyp kd), 2))
    (kk : VW G nL p l e R s m args below meth c Q (pc + 2) L (.ref (sZ S) :: st) (stN S kd N) (cs + 1) (sl + N)) : VW G nL p l e R s m args below meth c Q pc L (.int v :: st) S cs sl := by
  obtain ⟨hx, hb, hml, hown, hts, hG, hbase⟩ := C0
  intro H locs ls h1 h2 h3
  have hz := h1.1
  rw [← hz] at kk
  have hty : newarray.typeOf (atyp kd) = aty kd := by match kd, h8, h12 with
    | 8, _, _ | 9, _, _ | 10, _, _ | 11, _, _ => rfl
  have hby : N * componentBytes (newarray.typeOf (atyp kd)) ≤ 536870912 := by
    rw [hty]
    have hcb : componentBytes (aty kd) ≤ 8 := by match kd, h8, h12 with
      | 8, _, _ | 9, _, _ | 10, _, _ | 11, _, _ => decide +kernel
    have := Nat.mul_le_mul hNb hcb
    omega
  refine va_newaK hx hb (atype := atyp kd) (by rw [hty]; exact hts _ hw) rfl hd rfl hv hN hby hcs hsl rfl fun H1 cA e1 z1 o1 hAr hNm => ?_
  have hcA : cA = G.2.1 kd := by
    have hpr : isRefTy (aty kd) = false := by match kd, h8, h12 with
      | 8, _, _ | 9, _, _ | 10, _, _ | 11, _, _ => rfl
    have hr := RA_prim (gTy hG (kd := kd) h8 (by omega)).2 hpr
    rw [hty] at hNm
    exact Option.some.inj (hNm.symm.trans hr)
  subst hcA
  refine kk H1 _ ls (h1.push (by omega) (Nat.le_trans hbase h2.1) z1 o1 (tblLt hG h2.1) (arr_cel h8 ?_)) (push_S h2 z1 o1) h3
  rw [e1, hty]
  have eI : sI (stN S kd N) H.size = fun _ => 0 := by show upA S.2.2.2.1 S.2.2.1 _ _ = _; unfold upA; rw [if_pos (show H.size = S.2.2.1 from hz)]
  have eF : sF (stN S kd N) H.size = fun _ => FP.fconst0 := by show upA S.2.2.2.2 S.2.2.1 _ _ = _; unfold upA; rw [if_pos (show H.size = S.2.2.1 from hz)]
  match kd, h8, h12 with
  | 8, _, _ => (show _ = some (vp_cell _ (N, .inl (sI (stN S 8 N) H.size))); rw [eI]; rfl)
  | 9, _, _ => (show _ = some (vp_cell _ (N, .inr (.inr (.inl (sF (stN S 9 N) H.size))))); rw [eF]; rfl)
  | 10, _, _ => (show _ = some (vp_cell _ (N, .inl (sI (stN S 10 N) H.size))); rw [eI]; rfl)
  | 11, _, _ => (show _ = some (vp_cell _ (N, .inl (sI (stN S 11 N) H.size))); rw [eI]; rfl)
theorem anew_ok (C0 : CX G cc nL own p s m args c) {kd idx : Nat} {v : Int32} {N : Nat} {st : List Value} (hk : kd = 12 ∨ kd = 13) (hl : Cond.classLink own idx (clR (kd - 12)) ∈ lw_all) (hv : ¬ v < 0) (hN : v.toNatClampNeg = N) (hNb : N ≤ 65536) (hcs : cs + 1 ≤ R.cells) (hsl : sl + N ≤ R.slots) (hd : decode cc pc = .ok (.anewarray idx, 3))
    (kk : VW G nL p l e R s m args below meth c Q (pc + 3) L (.ref (sZ S) :: st) (stN S kd N) (cs + 1) (sl + N)) : VW G nL p l e R s m args below meth c Q pc L (.int v :: st) S cs sl := by
  obtain ⟨hx, hb, hml, hown, hts, hG, hbase⟩ := C0
  intro H locs ls h1 h2 h3
  have hz := h1.1
  rw [← hz] at kk
  subst hN
  have hover : va_AO (clR (kd - 12)) s := by
    rcases hk with rfl | rfl
    · exact hG.2.2.1.1
    · exact hG.2.2.1.2
  refine W.anew hx hb hown (hts _ hl) (va_AO.use hover) rfl hd rfl hv (by omega) hcs hsl fun cA kA comp f1 f2 f3 f4 => ?_
  generalize hH1 : H.push ({ cls := cA, slots := Array.replicate v.toNatClampNeg .null, vm := .none } : Cell) = H1
  have z1 : H1.size = H.size + 1 := by rw [← hH1, Array.size_push]
  have e1 : H1[H.size]? = some (arrV cA v.toNatClampNeg (fun _ => .null)) := by rw [← hH1, Array.getElem?_push_size, ← arrV_new]
  have o1 : ∀ q : Nat, q < H.size → H1[q]? = H[q]? := fun q hq => by rw [← hH1, Array.getElem?_push, if_neg (Nat.ne_of_lt hq)]
  have hcA : cA = G.2.1 kd := by
    have hty : aty kd = .object (clR (kd - 12)) := by rcases hk with rfl | rfl <;> rfl
    have hr := (gTy hG (kd := kd) (by omega) (by omega)).2
    rw [hty] at hr
    obtain ⟨kA', comp', k1, k2, k3, k4⟩ := hr
    exact Option.some.inj (f1.symm.trans k4)
  subst hcA
  refine kk H1 _ ls (h1.push (by omega) (Nat.le_trans hbase h2.1) z1 o1 (tblLt hG h2.1) (arr_cel (by omega) ?_)) (push_S h2 z1 o1) h3
  have eR : sR (stN S kd v.toNatClampNeg) H.size = fun _ => none := by show upA S.2.1 S.2.2.1 _ _ = _; unfold upA; rw [if_pos (show H.size = S.2.2.1 from hz)]
  rw [e1, arC_q hk, eR]
  rfl
end NW
end
section
/-! contracts of methods in the words of the plain machine; calls; ends -/
/-- a method: name, bytes, locals, answer, room, parameters, kind (0 static, 1 of an object, 2 constructor), places of its words: code, initialized, static or instanceMethod, selects -/
abbrev MI : Type := MethodName × ByteArray × Nat × Option FieldType × Room × Nat × Nat × Nat × Nat × Nat × Nat
def mY (M : MI) : MethodName := M.1
def mC (M : MI) : ByteArray := M.2.1
def mL (M : MI) : Nat := M.2.2.1
def mT (M : MI) : Option FieldType := M.2.2.2.1
def mR (M : MI) : Room := M.2.2.2.2.1
def mP (M : MI) : Nat := M.2.2.2.2.2.1
def mK (M : MI) : Nat := M.2.2.2.2.2.2.1
def wsM (M : MI) : List Cond := .code (mY M) (mC M) (mL M) (mT M) :: lw_all
def okM (M : MI) : Bool := plainFor (mY M) && decide ((mY M).cls ≠ "java/lang/invoke/MethodHandle" ∧ (mY M).cls ≠ "java/lang/invoke/VarHandle") && decide ((parseMethodDescriptor (mY M).desc).map (fun d => d.parameters.length) = some (mP M)) &&
  wAt M.2.2.2.2.2.2.2.1 (.code (mY M) (mC M) (mL M) (mT M)) && wAt M.2.2.2.2.2.2.2.2.1 (.initialized (mY M).cls) &&
  (match mK M with
    | 0 => wAt M.2.2.2.2.2.2.2.2.2.1 (.static (mY M))
    | 1 => wAt M.2.2.2.2.2.2.2.2.2.1 (.instanceMethod (mY M)) && wAt M.2.2.2.2.2.2.2.2.2.2 (.selects (mY M).cls (mY M) (mY M))
    | _ => wAt M.2.2.2.2.2.2.2.2.2.1 (.instanceMethod (mY M)) && decide ((mY M).name = "<init>" ∧ mT M = none))
theorem okM_use {M : MI} (h : okM M = true) : plainFor (mY M) = true ∧ ((mY M).cls ≠ "java/lang/invoke/MethodHandle" ∧ (mY M).cls ≠ "java/lang/invoke/VarHandle") ∧ (parseMethodDescriptor (mY M).desc).map (fun d => d.parameters.length) = some (mP M) ∧
    Cond.code (mY M) (mC M) (mL M) (mT M) ∈ lw_all ∧ Cond.initialized (mY M).cls ∈ lw_all ∧ (mK M = 0 → Cond.static (mY M) ∈ lw_all) ∧ (mK M = 1 → Cond.instanceMethod (mY M) ∈ lw_all ∧ Cond.selects (mY M).cls (mY M) (mY M) ∈ lw_all) ∧ (mK M = 2 → Cond.instanceMethod (mY M) ∈ lw_all ∧ (mY M).name = "<init>" ∧ mT M = none) := by
  unfold okM at h
  simp only [Bool.and_eq_true, decide_eq_true_eq] at h
  obtain ⟨⟨⟨⟨⟨h1, h2⟩, h3⟩, h4⟩, h5⟩, h6⟩ := h
  refine ⟨h1, h2, h3, wAt_in h4, wAt_in h5, fun k => ?_, fun k => ?_, fun k => ?_⟩
  · rw [k] at h6
    exact wAt_in h6
  · rw [k] at h6
    simp only [Bool.and_eq_true] at h6
    exact ⟨wAt_in h6.1, wAt_in h6.2⟩
  · rw [k] at h6
    simp only [Bool.and_eq_true, decide_eq_true_eq] at h6
    exact ⟨wAt_in h6.1, h6.2⟩
/-- what a method's end says -/
def QE (G : Gx) (E : Option Value → SS → Prop) : Array Value → State → Outcome → State → Prop := fun _ st o t => (∃ v S', o = .returned v ∧ E v S' ∧ Rep G S' t.heap) ∧ va_F (gA G) st t
/-- what a method's start says -/
def PB (G : Gx) (S : SS) : State → Prop := fun U => Rep G S U.heap ∧ gOK G U U.heap ∧ G.2.2.2 ≤ U.heap.size
/-- a method does what P says: from arguments and a state, to every end E that P allows -/
def Ct (l : Launch) (G : Gx) (M : MI) (P : List Value → SS → (Option Value → SS → Prop) → Prop) : Prop :=
  okM M = true ∧ ∀ (as : List Value) (S : SS) (E : Option Value → SS → Prop), P as S E → Met l (mY M) (wsM M) (mR M) (va_Pc as (PB G S)) (QE G E) (mR M).cells (mR M).slots (gA G)
theorem good_wsM {M : MI} (h : okM M = true) : GoodIn lw_all (wsM M) := by
  intro w hw
  have hin : w ∈ lw_all := by
    rcases List.mem_cons.mp hw with rfl | hw
    · exact (okM_use h).2.2.2.1
    · exact hw
  exact ⟨hin, all_good hin⟩
section CA
variable {G : Gx} {nL : Nat} {p : Program} {l : Launch} {e : Env} {R : Room} {s : State} {m : MethodId} {args : Array Value} {below : List Frame} {meth : Method} {c : Code} {Q : State → Prop} {cc : ByteArray} {pc : Nat} {L : List (Option Value)} {S : SS} {cs sl : Nat} {own : String} {H : Heap} {locs : List Loc}
theorem run_go {ls : Array Slot} {rest st0 : List Value} {a : Array Value} {mc ms : Nat} {E : Option Value → SS → Prop} (hr : va_Run p l e R s m args below meth c H locs cs sl mc ms (F0 m pc ls st0) rest (QE G E a) (gA G)) (hS : va_S (gA G) s.heap H locs)
    (kk : ∀ (v : Option Value) (S' : SS) (H1 : Heap) (locs1 : List Loc), E v S' → Rep G S' H1 → va_S (gA G) s.heap H1 locs1 → W p l e R s m args below meth c H1 locs1 (cs + mc) (sl + ms) Q (F0 m (pc + 3) ls (v.toList ++ rest))) : W p l e R s m args below meth c H locs cs sl Q (F0 m pc ls st0) := by
  intro T hT X
  obtain ⟨v, st₀, t, T', L', h0, X', hL, e1, e2, ⟨⟨v', S', hv, hE, hR⟩, hz, hk⟩, st⟩ := hr T hT X
  cases hv
  rw [h0] at hz hk
  obtain ⟨t2, a1, b1⟩ := kk v S' T'.heap (locs ++ L') hE (by rw [e1]; exact hR)
    ⟨Nat.le_trans hS.1 (by rw [e1]; exact hz), fun q h1 h2 => by rw [e1, hk q (Nat.lt_of_lt_of_le h1 hS.1) h2]; exact hS.2.1 q h1 h2, fun q hq => by
      rcases List.mem_append.mp hq with h | h
      · exact hS.2.2 q h
      · exact hL q h⟩ T' rfl X'
  exact ⟨t2, st t2 a1, b1⟩
theorem gOK_on (hG : gOK G s s.heap) (hbase : G.2.2.2 ≤ s.heap.size) (h1 : Rep G S H) (h2 : va_S (gA G) s.heap H locs) {U : State} (hU : U.heap = H) (hW : s.WarmedH U.vm) : PB G S U := by
  unfold PB
  rw [hU]
  exact ⟨h1, (hG.kept h2.2.1).warm hW, Nat.le_trans hbase h2.1⟩
theorem blind {as : List Value} : FrameBlind (va_Pc as (PB G S)) := fun a U g mk h => ⟨h.1, h.2.1, h.2.2.1.calling g mk a, h.2.2.2⟩
/-- the room that a call needs -/
def fitsR (M : MI) (R : Room) : Prop := (mR M).frames + 1 ≤ R.frames ∧ 8 + (mL M + 11) + (mR M).locals ≤ R.locals
theorem callB {M : MI} (hM : okM M = true) (C0 : CX G cc nL own p s m args c) {idx : Nat} (hl : Cond.methodLink own idx (mY M) ∈ lw_all) (hR : fitsR M R) :
    CallB R s args own idx (mY M) (mC M) (mL M) (mT M) (wsM M) (mR M) (mR M).cells (mR M).slots (mP M) := by
  obtain ⟨h1, h2, h3, h4, h5, -⟩ := okM_use hM
  obtain ⟨hx, hb, hml, hown, hts, hG, hbase⟩ := C0
  exact callB_of (mP M) hts (good_wsM hM) rfl rfl rfl (hts _ h5) (hts _ hl) ⟨h2.1, h2.2, h3⟩ hR
theorem callN {M : MI} (hM : okM M = true) (C0 : CX G cc nL own p s m args c) {idx : Nat} {host : String} (hl : Cond.methodLinkNest own idx (mY M) host ∈ nestW) (hR : fitsR M R) :
    va_CN R s args own idx (mY M) host (mC M) (mL M) (mT M) (wsM M) (mR M) (mR M).cells (mR M).slots (mP M) := by
  obtain ⟨h1, h2, h3, h4, h5, -⟩ := okM_use hM
  obtain ⟨hx, hb, hml, hown, hts, hG, hbase⟩ := C0
  exact va_cnB (mP M) hts (good_wsM hM) rfl rfl rfl (hG.2.1 _ hl) (hts _ h5) ⟨h2.1, h2.2, h3⟩ hR
theorem callS_ok {M : MI} {P : List Value → SS → (Option Value → SS → Prop) → Prop} (hC : Ct l G M P) (C0 : CX G cc nL own p s m args c) {idx : Nat} {as st : List Value} (hk : mK M = 0) (hl : Cond.methodLink own idx (mY M) ∈ lw_all) (hR : fitsR M R) (hn : as.length = mP M) (hst : (st.map fun v => v.category).sum ≤ 8)
    (hcs : cs + (mR M).cells ≤ R.cells) (hsl : sl + (mR M).slots ≤ R.slots) (hd : decode cc pc = .ok (.invokestatic idx, 3)) {E : Option Value → SS → Prop} (hP : P as S E)
    (kk : ∀ v S', E v S' → VW G nL p l e R s m args below meth c Q (pc + 3) L (v.toList ++ st) S' (cs + (mR M).cells) (sl + (mR M).slots)) : VW G nL p l e R s m args below meth c Q pc L (as.reverse ++ st) S cs sl := by
  intro H locs ls h1 h2 h3
  have C1 := C0
  obtain ⟨hx, hb, hml, hown, hts, hG, hbase⟩ := C0
  exact run_go (va_runS (As := as) (rest := st) ⟨hx, hb, hml, hown, hts⟩ (hC.2 as S E hP) ⟨callB hC.1 C1 hl hR, hts _ ((okM_use hC.1).2.2.2.2.2.1 hk)⟩ ⟨blind, fun U hU hW => ⟨rfl, gOK_on hG hbase h1 h2 hU hW⟩⟩ rfl hn h3.1 rfl (by show 2 * 0 + _ ≤ 8; omega) hd ⟨hcs, hsl⟩) h2
    (fun v S' H1 locs1 hE hR1 hS1 => kk v S' hE H1 locs1 ls hR1 hS1 h3)
theorem callSN_ok {M : MI} {P : List Value → SS → (Option Value → SS → Prop) → Prop} (hC : Ct l G M P) (C0 : CX G cc nL own p s m args c) {idx : Nat} {host : String} {as st : List Value} (hk : mK M = 0) (hl : Cond.methodLinkNest own idx (mY M) host ∈ nestW) (hR : fitsR M R) (hn : as.length = mP M) (hst : (st.map fun v => v.category).sum ≤ 8)
    (hcs : cs + (mR M).cells ≤ R.cells) (hsl : sl + (mR M).slots ≤ R.slots) (hd : decode cc pc = .ok (.invokestatic idx, 3)) {E : Option Value → SS → Prop} (hP : P as S E)
    (kk : ∀ v S', E v S' → VW G nL p l e R s m args below meth c Q (pc + 3) L (v.toList ++ st) S' (cs + (mR M).cells) (sl + (mR M).slots)) : VW G nL p l e R s m args below meth c Q pc L (as.reverse ++ st) S cs sl := by
  intro H locs ls h1 h2 h3
  have C1 := C0
  obtain ⟨hx, hb, hml, hown, hts, hG, hbase⟩ := C0
  exact run_go (va_runSN (As := as) (rest := st) ⟨hx, hb, hml, hown, hts⟩ (hC.2 as S E hP) ⟨callN hC.1 C1 hl hR, hts _ ((okM_use hC.1).2.2.2.2.2.1 hk), trivial⟩ ⟨blind, fun U hU hW => ⟨rfl, gOK_on hG hbase h1 h2 hU hW⟩⟩ rfl hn h3.1 rfl (by show 2 * 0 + _ ≤ 8; omega) hd ⟨hcs, hsl⟩) h2
    (fun v S' H1 locs1 hE hR1 hS1 => kk v S' hE H1 locs1 ls hR1 hS1 h3)
theorem callV_ok {M : MI} {P : List Value → SS → (Option Value → SS → Prop) → Prop} (hC : Ct l G M P) (C0 : CX G cc nL own p s m args c) {idx ci n0 a : Nat} {as st : List Value} (hk : mK M = 1) (hl : Cond.methodLink own idx (mY M) ∈ lw_all) (hR : fitsR M R) (hn : as.length = mP M) (hst : (st.map fun v => v.category).sum ≤ 8)
    (hc : ci < 8) (hcl : (mY M).cls = clR ci) (ha : sK S a = some (ci, n0)) (hcs : cs + (mR M).cells ≤ R.cells) (hsl : sl + (mR M).slots ≤ R.slots) (hd : decode cc pc = .ok (.invokevirtual idx, 3)) {E : Option Value → SS → Prop} (hP : P (.ref a :: as) S E)
    (kk : ∀ v S', E v S' → VW G nL p l e R s m args below meth c Q (pc + 3) L (v.toList ++ st) S' (cs + (mR M).cells) (sl + (mR M).slots)) : VW G nL p l e R s m args below meth c Q pc L (as.reverse ++ .ref a :: st) S cs sl := by
  intro H locs ls h1 h2 h3
  have C1 := C0
  obtain ⟨hx, hb, hml, hown, hts, hG, hbase⟩ := C0
  obtain ⟨-, cell, q1, q2, q3, -⟩ := h1.obj hc ha
  have hw := (okM_use hC.1).2.2.2.2.2.2.1 hk
  have hrec : ∃ cellB : Cell, H[a]? = some cellB ∧ cellB.vm.isStatics = false ∧ s.vm.findClass (mY M).cls = some cellB.cls := ⟨cell, q1, by rw [q3]; rfl, by rw [q2, hcl]; exact (hG.1.1 ci _ (cl_at hc)).2.1⟩
  exact run_go (va_runV (As := as) (rest := st) (b := a) ⟨hx, hb, hml, hown, hts⟩ (hC.2 (.ref a :: as) S E hP) ⟨callB hC.1 C1 hl hR, hts _ hw.1, hts _ hw.2⟩ ⟨blind, hrec, fun U hU hW => ⟨rfl, gOK_on hG hbase h1 h2 hU hW⟩⟩ rfl hn h3.1 rfl (by show 2 * 0 + _ ≤ 8; omega) hd ⟨hcs, hsl⟩) h2
    (fun v S' H1 locs1 hE hR1 hS1 => kk v S' hE H1 locs1 ls hR1 hS1 h3)
theorem callI_ok {M : MI} {P : List Value → SS → (Option Value → SS → Prop) → Prop} (hC : Ct l G M P) (C0 : CX G cc nL own p s m args c) {idx a : Nat} {as st : List Value} (hk : mK M = 2) (hl : Cond.methodLink own idx (mY M) ∈ lw_all) (hR : fitsR M R) (hn : as.length = mP M) (hst : (st.map fun v => v.category).sum ≤ 8)
    (hcs : cs + (mR M).cells ≤ R.cells) (hsl : sl + (mR M).slots ≤ R.slots) (hd : decode cc pc = .ok (.invokespecial idx, 3)) {E : Option Value → SS → Prop} (hP : P (.ref a :: as) S E)
    (kk : ∀ v S', E v S' → VW G nL p l e R s m args below meth c Q (pc + 3) L (v.toList ++ st) S' (cs + (mR M).cells) (sl + (mR M).slots)) : VW G nL p l e R s m args below meth c Q pc L (as.reverse ++ .ref a :: st) S cs sl := by
  intro H locs ls h1 h2 h3
  have C1 := C0
  have hw := (okM_use hC.1).2.2.2.2.2.2.2 hk
  have hB := callB hC.1 C1 hl hR
  have hMt := hC.2 (.ref a :: as) S E hP
  rw [hw.2.2] at hB
  obtain ⟨hx, hb, hml, hown, hts, hG, hbase⟩ := C0
  exact run_go (va_runI (As := as) (rest := st) (b := a) ⟨hx, hb, hml, hown, hts⟩ hMt ⟨hB, hw.2.1, hts _ hw.1⟩ ⟨blind, fun U hU hW => ⟨rfl, gOK_on hG hbase h1 h2 hU hW⟩⟩ rfl hn h3.1 rfl (by show 2 * 0 + _ ≤ 8; omega) hd ⟨hcs, hsl⟩) h2
    (fun v S' H1 locs1 hE hR1 hS1 => kk v S' hE H1 locs1 ls hR1 hS1 h3)
theorem callIN_ok {M : MI} {P : List Value → SS → (Option Value → SS → Prop) → Prop} (hC : Ct l G M P) (C0 : CX G cc nL own p s m args c) {idx a : Nat} {host : String} {as st : List Value} (hk : mK M = 2) (hl : Cond.methodLinkNest own idx (mY M) host ∈ nestW) (hR : fitsR M R) (hn : as.length = mP M) (hst : (st.map fun v => v.category).sum ≤ 8)
    (hcs : cs + (mR M).cells ≤ R.cells) (hsl : sl + (mR M).slots ≤ R.slots) (hd : decode cc pc = .ok (.invokespecial idx, 3)) {E : Option Value → SS → Prop} (hP : P (.ref a :: as) S E)
    (kk : ∀ v S', E v S' → VW G nL p l e R s m args below meth c Q (pc + 3) L (v.toList ++ st) S' (cs + (mR M).cells) (sl + (mR M).slots)) : VW G nL p l e R s m args below meth c Q pc L (as.reverse ++ .ref a :: st) S cs sl := by
  intro H locs ls h1 h2 h3
  have C1 := C0
  have hw := (okM_use hC.1).2.2.2.2.2.2.2 hk
  have hB := callN hC.1 C1 hl hR
  have hMt := hC.2 (.ref a :: as) S E hP
  rw [hw.2.2] at hB
  obtain ⟨hx, hb, hml, hown, hts, hG, hbase⟩ := C0
  exact run_go (va_runIN (As := as) (rest := st) (b := a) ⟨hx, hb, hml, hown, hts⟩ hMt ⟨hB, hw.2.1, hts _ hw.1⟩ ⟨blind, fun U hU hW => ⟨rfl, gOK_on hG hbase h1 h2 hU hW⟩⟩ rfl hn h3.1 rfl (by show 2 * 0 + _ ≤ 8; omega) hd ⟨hcs, hsl⟩) h2
    (fun v S' H1 locs1 hE hR1 hS1 => kk v S' hE H1 locs1 ls hR1 hS1 h3)
/-- which answers an end may give -/
def retOK (i : Instr) (ret : Option FieldType) (v : Option Value) : Prop := match i, v with
  | .ireturn, some (.int x) => ∃ ty, ret = some ty ∧ narrow ty (.int x) = .int x
  | .lreturn, some (.long _) => ret = some .long
  | .freturn, some (.float _) => ret = some .float
  | .areturn, some (.ref _) => ∃ C, ret = some (.object C)
  | .areturn, some .null => ∃ C, ret = some (.object C)
  | .return_, none => ret = none
  | _, _ => False
theorem ret_ok {ret : Option FieldType} {E : Option Value → SS → Prop} {mc ms : Nat} (C0 : CX G cc nL own p s m args c) (hr : meth.sig.returnType = ret) (hlocks : meth.locks = false) {i : Instr} {v : Option Value} (hv : retOK i ret v) (hE : E v S) (h1' : cs ≤ mc) (h2' : sl ≤ ms) (hd : decode cc pc = .ok (i, 1)) :
    VW G nL p l e R s m args below meth c (MQ below (QE G E) args s mc ms (gA G)) pc L v.toList S cs sl := by
  obtain ⟨hx, hb, hml, hown, hts, hG, hbase⟩ := C0
  intro H locs ls h1 h2 h3
  refine W.widen h1' h2' ?_
  have key : ∀ t : State, t.heap = H → s.WarmedH t.vm → QE G E args s (.returned v) t := fun t ht hW => ⟨⟨v, S, rfl, hE, by rw [ht]; exact h1⟩, h2.F ht⟩
  unfold retOK at hv
  split at hv
  · obtain ⟨ty, rfl, hn⟩ := hv
    exact W.zret hx hb hr hn key h2.2.2 hd
  · subst hv
    exact W.lret hx hb hr key h2.2.2 hd
  · subst hv
    exact W.fret hx hb hr key h2.2.2 hd
  · obtain ⟨C, rfl⟩ := hv
    exact W.aret hx hb hr (Or.inl ⟨_, rfl⟩) (Or.inr ⟨_, rfl⟩) key h2.2.2 hd
  · obtain ⟨C, rfl⟩ := hv
    exact W.aret hx hb hr (Or.inl ⟨_, rfl⟩) (Or.inl rfl) key h2.2.2 hd
  · subst hv
    exact W.vret hx hb hr key h2.2.2 hd
  · exact hv.elim
end CA
/-- the locals at the entry -/
def entL : List Value → List (Option Value)
  | [] => []
  | v :: vs => match v with
    | .long _ | .double _ => some v :: none :: entL vs
    | _ => some v :: entL vs
theorem entL_len : ∀ vs : List Value, (entL vs).length = (lg_sl vs).length
  | [] => rfl
  | v :: vs => by
    have ih := entL_len vs
    cases v <;> simp_all [entL, lg_sl, Value.category]
theorem entL_at : ∀ (vs : List Value) (t : List Slot) (u : List (Option Value)) (i : Nat) (v : Value), (∀ w, some w ∉ u) → (entL vs ++ u)[i]? = some (some v) → (lg_sl vs ++ t)[i]? = some (.val v)
  | [], t, u, i, v, hu, h => by
    simp only [entL, List.nil_append] at h
    exact absurd (List.mem_of_getElem? h) (hu v)
  | w :: vs, t, u, i, v, hu, h => by
    have ih := entL_at vs t u
    have one : (some w :: (entL vs ++ u))[i]? = some (some v) → (Slot.val w :: (lg_sl vs ++ t))[i]? = some (.val v) := by
      intro h
      cases i with
      | zero => simp at h ⊢; exact h
      | succ i => simp only [List.getElem?_cons_succ] at h ⊢; exact ih i v hu h
    have two : (some w :: none :: (entL vs ++ u))[i]? = some (some v) → (Slot.val w :: Slot.second :: (lg_sl vs ++ t))[i]? = some (.val v) := by
      intro h
      match i, h with
      | 0, h => simp at h ⊢; exact h
      | 1, h => simp at h
      | i + 2, h => simp only [List.getElem?_cons_succ] at h ⊢; exact ih i v hu h
    cases w <;> first | exact two h | exact one h
def entLn (vs : List Value) (n : Nat) : List (Option Value) := entL vs ++ List.replicate (n - (entL vs).length) none
theorem ent_h (vs : List Value) {n : Nat} (h : (entL vs).length ≤ n) : lvh ((lg_sl vs ++ List.replicate (n - (lg_sl vs).length) Slot.unset).toArray) n (entLn vs n) := by
  rw [entL_len] at h
  obtain ⟨h1, h2, -⟩ := lv_entry vs h
  refine ⟨h1, h2, by unfold entLn; simp [entL_len]; omega, fun i v hv => ?_⟩
  rw [List.getElem?_toArray]
  exact entL_at vs _ _ i v (fun w hw => by have := List.eq_of_mem_replicate hw; cases this) hv
/-- Met.ofW for a method of a class of which some are run otherwise -/
theorem Met.ofWF {l : Launch} {y : MethodName} {ws ws' : List Cond} {rm : Room} {Pc : Array Value → State → Prop} {Qc : Array Value → State → Outcome → State → Prop} {mc ms : Nat} {free : Addr → Prop} {cc : ByteArray} {maxL : Nat} {ret : Option FieldType}
    (hy : plainFor y = true) (hw : ws = Cond.code y cc maxL ret :: ws')
    (body : ∀ p e s m args below meth c s₁, BodyLoose p l y (headSpec ws rm) cc maxL ret e s m args below meth c s₁ → c.maxLocals = maxL → Pc args s →
      W p l e (headSpec ws rm).room s m args below meth c s.heap [] 0 0 (MQ below Qc args s mc ms free) (entryFrame m args maxL)) : Met l y ws rm Pc Qc mc ms free := by
  refine MetFree.of_bodySF (code := cc) (maxLocals := maxL) (ret := ret) hy ?_ ?_
  · intro args s m h hn
    obtain ⟨meth, c, h1, h2, h3, h4, h5, h6, -, -⟩ := Cond.code_spec hn (atoms_spec (ws := ws) h _ (by rw [hw]; exact List.mem_cons_self))
    exact ⟨meth, c, h1, h2, h3, h4, h5, h6⟩
  · intro p e s m args below meth c s₁ B hml hP _
    have hh0 : s₁.heap = s.heap := by rw [B.state]; rfl
    obtain ⟨t, a1, o, b1, b2, b3⟩ := body p e s m args below meth c s₁ B hml hP s₁ hh0 (Stand.of_body B)
    exact ⟨t, o, a1, b1, b2, ⟨b3.1, b3.2⟩⟩
/-- a contract out of a walk of the body -/
theorem Ct.of {l : Launch} {G : Gx} {M : MI} {P : List Value → SS → (Option Value → SS → Prop) → Prop} (hM : okM M = true)
    (body : ∀ (as : List Value) (S : SS) (E : Option Value → SS → Prop), P as S E → (entL as).length ≤ mL M ∧ ∀ (p : Program) (e : Env) (s : State) (m : MethodId) (args : Array Value) (below : List Frame) (meth : Method) (c : Code), CX G (mC M) (mL M) (mY M).cls p s m args c → meth.name = (mY M).name → meth.sig.returnType = mT M → meth.locks = false →
      VW G (mL M) p l e (mR M) s m args below meth c (MQ below (QE G E) args s (mR M).cells (mR M).slots (gA G)) 0 (entLn as (mL M)) [] S 0 0) : Ct l G M P := by
  refine ⟨hM, fun as S E hP => ?_⟩
  obtain ⟨hlen, hb⟩ := body as S E hP
  refine Met.ofWF (cc := mC M) (maxL := mL M) (ret := mT M) (okM_use hM).1 rfl ?_
  intro p e s m args below meth c s₁ B hml hv
  obtain ⟨rfl, hR, hG, hbs⟩ := hv
  have hts := atoms_spec (ws := wsM M) B.pre
  have C0 : CX G (mC M) (mL M) (mY M).cls p s m as.toArray c := ⟨B.exec, B.bytes, hml, findClass_of_methodNamed B.named, fun w hw => hts w (List.mem_cons_of_mem _ hw), hG, hbs⟩
  have hk := hb p e s m as.toArray below meth c C0 (name_of_methodNamed B.named B.method).1 B.returns B.notSynchronized
  rw [lg_entry_eq]
  exact hk s.heap [] _ hR va_S.rf (ent_h as hlen)
end
section
/-! what a stretch of code asks, computed; and that the machine does it -/
/-- pc, instruction, and four numbers that tell what it links -/
abbrev Ins : Type := Nat × Instr × Nat × Nat × Nat × Nat
abbrev PT : Type := List Value → SS → (Option Value → SS → Prop) → Prop
abbrev KT : Type := Nat → List (Option Value) → List Value → SS → Nat → Nat → Prop
abbrev ET : Type := Instr → Option Value → SS → Nat → Nat → Prop
/-- calls: of kinds 0 static, 1 static of a nest mate, 2 constructor, 3 constructor of a nest mate, 4 rows of whole numbers copied, 5 of floats, 6 and 7 bits, 8 Object's constructor, 10.. of an object of that kind -/
def wpC (Γ : List (MI × PT)) (R : Room) (kk : List Value → SS → Nat → Nat → Prop) (y z w : Nat) (st : List Value) (S : SS) (cs sl : Nat) : Prop := match z with
  | 4 => (match st with | .int n :: .int dp :: .ref a :: .int sp :: .ref a0 :: st => ∃ n0 n1, sK S a0 = some (8, n0) ∧ sK S a = some (8, n1) ∧ ¬ sp < 0 ∧ ¬ dp < 0 ∧ ¬ n < 0 ∧ sp.toNatClampNeg + n.toNatClampNeg ≤ n0 ∧ dp.toNatClampNeg + n.toNatClampNeg ≤ n1 ∧ (st.map fun v => v.category).sum ≤ 8 ∧ kk st (stIA S a (va_cpy (sI S a0) (sI S a) sp.toNatClampNeg dp.toNatClampNeg n.toNatClampNeg)) cs sl | _ => False)
  | 5 => (match st with | .int n :: .int dp :: .ref a :: .int sp :: .ref a0 :: st => ∃ n0 n1, sK S a0 = some (9, n0) ∧ sK S a = some (9, n1) ∧ ¬ sp < 0 ∧ ¬ dp < 0 ∧ ¬ n < 0 ∧ sp.toNatClampNeg + n.toNatClampNeg ≤ n0 ∧ dp.toNatClampNeg + n.toNatClampNeg ≤ n1 ∧ (st.map fun v => v.category).sum ≤ 8 ∧ kk st (stFA S a (va_cpy (sF S a0) (sF S a) sp.toNatClampNeg dp.toNatClampNeg n.toNatClampNeg)) cs sl | _ => False)
  | 6 => (match st with | .float b :: st => (st.map fun v => v.category).sum ≤ 8 ∧ kk (.int b.toInt32 :: st) S cs sl | _ => False)
  | 7 => (match st with | .double b :: st => (st.map fun v => v.category).sum ≤ 8 ∧ kk (.long b.toInt64 :: st) S cs sl | _ => False)
  | 8 => (match st with | .ref _ :: st => (st.map fun v => v.category).sum ≤ 8 ∧ kk st S cs sl | _ => False)
  | z => (match Γ[y]? with
    | some (M, P) => w ≤ st.length ∧ ((st.drop w).map fun v => v.category).sum ≤ 8 ∧ cs + (mR M).cells ≤ R.cells ∧ sl + (mR M).slots ≤ R.slots ∧
        (2 ≤ z → ∃ a, (st.take w).getLast? = some (.ref a) ∧ (10 ≤ z → sK S a = some (z - 10, 0))) ∧
        P (st.take w).reverse S (fun v S' => kk (v.toList ++ st.drop w) S' (cs + (mR M).cells) (sl + (mR M).slots))
    | none => False)
/-- what needs only the stack, the locals, or is a branch -/
def wpO (K : KT) (kk : List (Option Value) → List Value → Prop) (i : Instr) (x y z : Nat) (L : List (Option Value)) (st : List Value) (S : SS) (cs sl : Nat) : Prop := match pst i x y st with
  | some (P, st') => P ∧ kk L st'
  | none => match ldI i with
    | some (k, tg) => (match L[k]? with | some (some v) => vtag v = tg ∧ kk L (v :: st) | _ => False)
    | none => match sdI i with
      | some (k, tg) => (match st with | v :: st => vtag v = tg ∧ k + v.category ≤ L.length ∧ kk (stL L k v) st | _ => False)
      | none => match brI i st with
        | some (P, _, st') => (P → K z L st' S cs sl) ∧ (¬ P → kk L st')
        | none => False
def wp1 (G : Gx) (Γ : List (MI × PT)) (R : Room) (K : KT) (E : ET) (kk : List (Option Value) → List Value → SS → Nat → Nat → Prop) (q : Ins) (L : List (Option Value)) (st : List Value) (S : SS) (cs sl : Nat) : Prop := match q with
  | (pc, i, x, y, z, w) => match i with
    | .nop => K pc L st S cs sl
    | .goto _ => K z L st S cs sl
    | .tableswitch d lo hi offs => (match st with | .int v :: st => tblW (fun t => K t L st S cs sl) v pc lo offs.toList ∧ (v.toInt < lo ∨ hi < v.toInt → K ((pc : Int) + d).toNat L st S cs sl) | _ => False)
    | .iinc k _ => (match L[k]? with | some (some (.int a)) => kk (stL L k (.int (a + kI y x))) st S cs sl | _ => False)
    | .ldc _ => kk L (ldcV x y :: st) S cs sl
    | .ldc2_w _ => kk L (ldcV x y :: st) S cs sl
    | .getfield _ => (match st with | .ref a :: st => sK S a = some (x, 0) ∧ (match isRefTy (fty x y) with | true => ∃ r, sR S a y = some r ∧ kk L (.ref r :: st) S cs sl | false => kk L (.int (sI S a y) :: st) S cs sl) | _ => False)
    | .putfield _ => (match st with
      | .int v :: .ref a :: st => sK S a = some (x, 0) ∧ isRefTy (fty x y) = false ∧ fitI (fty x y) v ∧ kk L st (stI S a y v) cs sl
      | .ref r :: .ref a :: st => sK S a = some (x, 0) ∧ isRefTy (fty x y) = true ∧ kk L st (stR S a y (some r)) cs sl
      | _ => False)
    | .iaload => (match st with | .int j :: .ref a :: st => ∃ n, sK S a = some (x, n) ∧ vp_in j n ∧ kk L (.int (sI S a j.toNatClampNeg) :: st) S cs sl | _ => False)
    | .faload => (match st with | .int j :: .ref a :: st => ∃ n, sK S a = some (9, n) ∧ vp_in j n ∧ kk L (.float (sF S a j.toNatClampNeg) :: st) S cs sl | _ => False)
    | .baload => (match st with | .int j :: .ref a :: st => ∃ n, sK S a = some (10, n) ∧ vp_in j n ∧ kk L (.int (sI S a j.toNatClampNeg) :: st) S cs sl | _ => False)
    | .caload => (match st with | .int j :: .ref a :: st => ∃ n, sK S a = some (11, n) ∧ vp_in j n ∧ kk L (.int (sI S a j.toNatClampNeg) :: st) S cs sl | _ => False)
    | .aaload => (match st with | .int j :: .ref a :: st => ∃ n r, sK S a = some (x, n) ∧ vp_in j n ∧ sR S a j.toNatClampNeg = some r ∧ kk L (.ref r :: st) S cs sl | _ => False)
    | .iastore => (match st with | .int v :: .int j :: .ref a :: st => ∃ n, sK S a = some (8, n) ∧ vp_in j n ∧ kk L st (stI S a j.toNatClampNeg v) cs sl | _ => False)
    | .fastore => (match st with | .float v :: .int j :: .ref a :: st => ∃ n, sK S a = some (9, n) ∧ vp_in j n ∧ kk L st (stF S a j.toNatClampNeg v) cs sl | _ => False)
    | .bastore => (match st with | .int v :: .int j :: .ref a :: st => ∃ n, sK S a = some (10, n) ∧ vp_in j n ∧ fitI .boolean v ∧ kk L st (stI S a j.toNatClampNeg v) cs sl | _ => False)
    | .castore => (match st with | .int v :: .int j :: .ref a :: st => ∃ n, sK S a = some (11, n) ∧ vp_in j n ∧ fitI .char v ∧ kk L st (stI S a j.toNatClampNeg v) cs sl | _ => False)
    | .aastore => (match st with | .ref r :: .int j :: .ref a :: st => ∃ n, sK S a = some (x, n) ∧ sK S r = some (x - 12, 0) ∧ vp_in j n ∧ kk L st (stR S a j.toNatClampNeg (some r)) cs sl | _ => False)
    | .arraylength => (match st with | .ref a :: st => ∃ n, sK S a = some (x, n) ∧ kk L (.int (nI n) :: st) S cs sl | _ => False)
    | .getstatic _ => kk L (.ref (G.2.2.1 x).1 :: st) S cs sl
    | .new _ => cs + 1 ≤ R.cells ∧ sl + nf x ≤ R.slots ∧ kk L (.ref (sZ S) :: st) (stN S x 0) (cs + 1) (sl + nf x)
    | .newarray _ => (match st with | .int v :: st => ¬ v < 0 ∧ v.toNatClampNeg ≤ 65536 ∧ cs + 1 ≤ R.cells ∧ sl + v.toNatClampNeg ≤ R.slots ∧ kk L (.ref (sZ S) :: st) (stN S x v.toNatClampNeg) (cs + 1) (sl + v.toNatClampNeg) | _ => False)
    | .anewarray _ => (match st with | .int v :: st => ¬ v < 0 ∧ v.toNatClampNeg ≤ 65536 ∧ cs + 1 ≤ R.cells ∧ sl + v.toNatClampNeg ≤ R.slots ∧ kk L (.ref (sZ S) :: st) (stN S x v.toNatClampNeg) (cs + 1) (sl + v.toNatClampNeg) | _ => False)
    | .invokestatic _ => wpC Γ R (kk L) y z w st S cs sl
    | .invokespecial _ => wpC Γ R (kk L) y z w st S cs sl
    | .invokevirtual _ => wpC Γ R (kk L) y z w st S cs sl
    | .return_ => (match st with | [] => E i none S cs sl | _ => False)
    | .ireturn => (match st with | [v] => E i (some v) S cs sl | _ => False)
    | .lreturn => (match st with | [v] => E i (some v) S cs sl | _ => False)
    | .freturn => (match st with | [v] => E i (some v) S cs sl | _ => False)
    | .areturn => (match st with | [v] => E i (some v) S cs sl | _ => False)
    | i => wpO K (fun L st => kk L st S cs sl) i x y z L st S cs sl
def wp (G : Gx) (Γ : List (MI × PT)) (R : Room) (K : KT) (E : ET) : List Ins → List (Option Value) → List Value → SS → Nat → Nat → Prop
  | [] => fun _ _ _ _ _ => False
  | q :: qs => wp1 G Γ R K E (wp G Γ R K E qs) q
def brO : Instr → Option Int
  | .if_icmp _ o => some o | .ifCond _ o => some o | .ifnull o => some o | .ifnonnull o => some o | _ => none
/-- is an instruction what it says, and its words in the tables? -/
def insOK (cc : ByteArray) (own : String) (ini : Bool) (R : Room) (Γ : List MI) (q : Ins) : Bool := match q with
  | (pc, i, x, y, z, w) => match i with
    | .nop => true
    | i => decide (decode cc pc = .ok (i, ilen i x)) && (match i with
      | .goto o => decide ((pc : Int) + o = (z : Int))
      | .tableswitch d lo hi offs => decide (offs.size = (hi - lo + 1).toNat) && decide (0 ≤ (pc : Int) + d) && offs.toList.all (fun o => decide (0 ≤ (pc : Int) + o))
      | .iinc _ n => decide (Int32.ofInt n = kI y x)
      | .ldc idx => wAt z (ldcW own idx x y) && decide (y < 2)
      | .ldc2_w idx => wAt z (ldcW own idx x y) && decide (2 ≤ y)
      | .getfield idx => decide (x < 8) && decide (y < nf x) && wAt z (.fieldLink own idx (clR x) (clT x y).2.1 (clT x y).2.2.1) && decide ((clT x y).1 = clR x)
      | .putfield idx => decide (x < 8) && decide (y < nf x) && wAt z (.fieldLink own idx (clR x) (clT x y).2.1 (clT x y).2.2.1) && decide ((clT x y).1 = clR x) && (!(clT x y).2.2.2 || (ini && decide (clR x = own)))
      | .getstatic idx => decide (x < 2) && decide (lw_tbl[z]? = some (.fieldLinkNest own idx "PlateWriters" (if x = 0 then "LEAST_OF_SETTING" else "MOST_OF_SETTING") "[I" "PlateWriters"))
      | .new idx => decide (x < 8) && wAt z (.classLink own idx (clR x)) && wAt y (.instantiable (clR x) (nf x)) && wAt w (.initialized (clR x))
      | .newarray at_ => decide (8 ≤ x) && decide (x < 12) && decide (at_ = atyp x) && wAt z (.arrayClass (aty x))
      | .anewarray idx => decide (x = 12 ∨ x = 13) && wAt z (.classLink own idx (clR (x - 12)))
      | .iaload => decide (x = 8 ∨ 14 ≤ x)
      | .aaload => decide (x = 12 ∨ x = 13)
      | .aastore => decide (x = 12 ∨ x = 13)
      | .arraylength => decide (8 ≤ x)
      | .invokestatic idx => (match z with
        | 4 => wAt x (.methodLink own idx arraycopyName) && decide (1 ≤ R.frames ∧ 40 ≤ R.locals)
        | 5 => wAt x (.methodLink own idx arraycopyName) && decide (1 ≤ R.frames ∧ 40 ≤ R.locals)
        | 6 => wAt x (.methodLink own idx ⟨"java/lang/Float", "floatToRawIntBits", "(F)I"⟩) && decide (1 ≤ R.frames ∧ 40 ≤ R.locals)
        | 7 => wAt x (.methodLink own idx ⟨"java/lang/Double", "doubleToRawLongBits", "(D)J"⟩) && decide (1 ≤ R.frames ∧ 40 ≤ R.locals)
        | 0 => (match Γ[y]? with | some M => wAt x (.methodLink own idx (mY M)) && decide (mK M = 0 ∧ w = mP M ∧ (mR M).frames + 1 ≤ R.frames ∧ 8 + (mL M + 11) + (mR M).locals ≤ R.locals) | none => false)
        | 1 => (match Γ[y]? with | some M => decide (lw_tbl[x]? = some (.methodLinkNest own idx (mY M) "PlateWriters")) && decide (mK M = 0 ∧ w = mP M ∧ (mR M).frames + 1 ≤ R.frames ∧ 8 + (mL M + 11) + (mR M).locals ≤ R.locals) | none => false)
        | _ => false)
      | .invokespecial idx => (match z with
        | 8 => wAt x (.methodLink own idx Lib.objectInit) && decide (1 ≤ R.frames ∧ 40 ≤ R.locals)
        | 2 => (match Γ[y]? with | some M => wAt x (.methodLink own idx (mY M)) && decide (mK M = 2 ∧ w = mP M + 1 ∧ (mR M).frames + 1 ≤ R.frames ∧ 8 + (mL M + 11) + (mR M).locals ≤ R.locals) | none => false)
        | 3 => (match Γ[y]? with | some M => decide (lw_tbl[x]? = some (.methodLinkNest own idx (mY M) "PlateWriters")) && decide (mK M = 2 ∧ w = mP M + 1 ∧ (mR M).frames + 1 ≤ R.frames ∧ 8 + (mL M + 11) + (mR M).locals ≤ R.locals) | none => false)
        | _ => false)
      | .invokevirtual idx => (match Γ[y]? with | some M => wAt x (.methodLink own idx (mY M)) && decide (10 ≤ z ∧ z - 10 < 8 ∧ (mY M).cls = clR (z - 10) ∧ mK M = 1 ∧ w = mP M + 1 ∧ (mR M).frames + 1 ≤ R.frames ∧ 8 + (mL M + 11) + (mR M).locals ≤ R.locals) | none => false)
      | i => (match brO i with | some o => decide ((pc : Int) + o = (z : Int)) | none => true))
def isEnd : Instr → Bool
  | .nop | .goto _ | .tableswitch _ _ _ _ | .return_ | .ireturn | .lreturn | .freturn | .areturn => true
  | _ => false
def segOK (cc : ByteArray) (own : String) (ini : Bool) (R : Room) (Γ : List MI) : List Ins → Bool
  | [] => true
  | q :: qs => insOK cc own ini R Γ q && (isEnd q.2.1 || (match qs with | [] => true | q2 :: _ => decide (q2.1 = q.1 + ilen q.2.1 q.2.2.1))) && segOK cc own ini R Γ qs
def segPc : List Ins → Nat
  | [] => 0
  | q :: _ => q.1
set_option maxRecDepth 100000 in
theorem natw1 : Cond.native arraycopyName ∈ lw_all ∧ Cond.static arraycopyName ∈ lw_all ∧ Cond.initialized "java/lang/System" ∈ lw_all := by decide +kernel
set_option maxRecDepth 100000 in
theorem natw2 : Cond.native ⟨"java/lang/Float", "floatToRawIntBits", "(F)I"⟩ ∈ lw_all ∧ Cond.static ⟨"java/lang/Float", "floatToRawIntBits", "(F)I"⟩ ∈ lw_all ∧ Cond.initialized "java/lang/Float" ∈ lw_all := by decide +kernel
set_option maxRecDepth 100000 in
theorem natw3 : Cond.native ⟨"java/lang/Double", "doubleToRawLongBits", "(D)J"⟩ ∈ lw_all ∧ Cond.static ⟨"java/lang/Double", "doubleToRawLongBits", "(D)J"⟩ ∈ lw_all ∧ Cond.initialized "java/lang/Double" ∈ lw_all := by decide +kernel
set_option maxRecDepth 100000 in
theorem natw4 : Cond.instanceMethod Lib.objectInit ∈ lw_all ∧ Cond.code Lib.objectInit ⟨#[0xb1]⟩ 1 none ∈ lw_all := by decide +kernel
end
section
/-! the machine does what a stretch of code is computed to ask -/
section SO
variable {G : Gx} {nL : Nat} {p : Program} {l : Launch} {e : Env} {R : Room} {s : State} {m : MethodId} {args : Array Value} {below : List Frame} {meth : Method} {c : Code} {Q : State → Prop} {cc : ByteArray} {own : String} {Γ : List (MI × PT)} {K : KT} {E : ET}
theorem take_split {st : List Value} {w : Nat} (h : w ≤ st.length) : (st.take w).reverse.reverse ++ st.drop w = st := by
  rw [List.reverse_reverse, List.take_append_drop]
theorem last_split {st : List Value} {w : Nat} {v : Value} (h : (st.take w).getLast? = some v) : ∃ as : List Value, (st.take w).reverse = v :: as ∧ as.reverse ++ v :: st.drop w = st ∧ as.length + 1 = (st.take w).length := by
  have h1 : (st.take w).reverse.head? = some v := by rw [List.head?_reverse]; exact h
  cases hr : (st.take w).reverse with
  | nil => rw [hr] at h1; cases h1
  | cons a as =>
    rw [hr] at h1
    cases h1
    refine ⟨as, rfl, ?_, ?_⟩
    · have h2 : st.take w = as.reverse ++ [v] := by rw [← List.reverse_reverse (st.take w), hr, List.reverse_cons]
      have h3 : as.reverse ++ v :: st.drop w = st.take w ++ st.drop w := by rw [h2]; simp
      rw [h3, List.take_append_drop]
    · rw [← List.length_reverse (as := st.take w), hr]
      rfl
set_option maxHeartbeats 4000000 in
theorem wpC_ok (C0 : CX G cc nL own p s m args c) (hΓ : ∀ q ∈ Γ, Ct l G q.1 q.2) {kk : List Value → SS → Nat → Nat → Prop} {pc x y z w : Nat} {i : Instr} {L : List (Option Value)} {st : List Value} {S : SS} {cs sl : Nat}
    (hi : (∃ k, i = .invokestatic k) ∨ (∃ k, i = .invokespecial k) ∨ (∃ k, i = .invokevirtual k)) {ini : Bool} (hok : insOK cc own ini R (Γ.map Prod.fst) (pc, i, x, y, z, w) = true) (hw : wpC Γ R kk y z w st S cs sl)
    (hkk : ∀ st S cs sl, kk st S cs sl → VW G nL p l e R s m args below meth c Q (pc + 3) L st S cs sl) : VW G nL p l e R s m args below meth c Q pc L st S cs sl := by
  have call : ∀ (M : MI) (P : PT), Γ[y]? = some (M, P) → (Γ.map Prod.fst)[y]? = some M ∧ Ct l G M P := by
    intro M P h
    refine ⟨by rw [List.getElem?_map, h]; rfl, hΓ _ (List.mem_of_getElem? h)⟩
  rcases hi with ⟨k, rfl⟩ | ⟨k, rfl⟩ | ⟨k, rfl⟩
  · simp only [insOK, Bool.and_eq_true, decide_eq_true_eq] at hok
    obtain ⟨hd, hok⟩ := hok
    have hd : decode cc pc = .ok (.invokestatic k, 3) := hd
    split at hok
    · simp only [wpC] at hw
      simp only [Bool.and_eq_true, decide_eq_true_eq] at hok
      split at hw
      · obtain ⟨n0, n1, q1, q2, q3, q4, q5, q6, q7, q8, q9⟩ := hw
        exact copyI_ok C0 (wAt_in hok.1) natw1.1 natw1.2.1 natw1.2.2 q1 q2 q3 q4 q5 q6 q7 hok.2.1 (by omega) hd (hkk _ _ _ _ q9)
      · exact hw.elim
    · simp only [wpC] at hw
      simp only [Bool.and_eq_true, decide_eq_true_eq] at hok
      split at hw
      · obtain ⟨n0, n1, q1, q2, q3, q4, q5, q6, q7, q8, q9⟩ := hw
        exact copyF_ok C0 (wAt_in hok.1) natw1.1 natw1.2.1 natw1.2.2 q1 q2 q3 q4 q5 q6 q7 hok.2.1 (by omega) hd (hkk _ _ _ _ q9)
      · exact hw.elim
    · simp only [wpC] at hw
      simp only [Bool.and_eq_true, decide_eq_true_eq] at hok
      split at hw
      · exact f2i_ok C0 (wAt_in hok.1) natw2.1 natw2.2.1 natw2.2.2 hok.2.1 (by omega) hd (hkk _ _ _ _ hw.2)
      · exact hw.elim
    · simp only [wpC] at hw
      simp only [Bool.and_eq_true, decide_eq_true_eq] at hok
      split at hw
      · exact d2l_ok C0 (wAt_in hok.1) natw3.1 natw3.2.1 natw3.2.2 hok.2.1 (by omega) hd (hkk _ _ _ _ hw.2)
      · exact hw.elim
    · simp only [wpC] at hw
      split at hw
      · rename_i M P hΓy
        obtain ⟨h1, h2⟩ := call M P hΓy
        rw [h1] at hok
        simp only [Bool.and_eq_true, decide_eq_true_eq] at hok
        obtain ⟨q1, q2, q3, q4, q5, q6⟩ := hw
        have hv := callS_ok (Q := Q) (st := st.drop w) h2 C0 (l := l) (e := e) (below := below) (meth := meth) (L := L) hok.2.1 (wAt_in hok.1) ⟨hok.2.2.2.1, hok.2.2.2.2⟩ (by rw [List.length_reverse, List.length_take]; omega) q2 q3 q4 hd q6 (fun v S' h => hkk _ _ _ _ h)
        rwa [take_split q1] at hv
      · exact hw.elim
    · simp only [wpC] at hw
      split at hw
      · rename_i M P hΓy
        obtain ⟨h1, h2⟩ := call M P hΓy
        rw [h1] at hok
        simp only [Bool.and_eq_true, decide_eq_true_eq] at hok
        obtain ⟨q1, q2, q3, q4, q5, q6⟩ := hw
        have hv := callSN_ok (Q := Q) (st := st.drop w) h2 C0 (l := l) (e := e) (below := below) (meth := meth) (L := L) hok.2.1 (nest_in hok.1) ⟨hok.2.2.2.1, hok.2.2.2.2⟩ (by rw [List.length_reverse, List.length_take]; omega) q2 q3 q4 hd q6 (fun v S' h => hkk _ _ _ _ h)
        rwa [take_split q1] at hv
      · exact hw.elim
    · cases hok
  · simp only [insOK, Bool.and_eq_true, decide_eq_true_eq] at hok
    obtain ⟨hd, hok⟩ := hok
    have hd : decode cc pc = .ok (.invokespecial k, 3) := hd
    split at hok
    · simp only [wpC] at hw
      simp only [Bool.and_eq_true, decide_eq_true_eq] at hok
      split at hw
      · exact objInit_ok C0 (wAt_in hok.1) natw4.1 natw4.2 hok.2.1 (by omega) hd (hkk _ _ _ _ hw.2)
      · exact hw.elim
    · simp only [wpC] at hw
      split at hw
      · rename_i M P hΓy
        obtain ⟨h1, h2⟩ := call M P hΓy
        rw [h1] at hok
        simp only [Bool.and_eq_true, decide_eq_true_eq] at hok
        obtain ⟨q1, q2, q3, q4, q5, q6⟩ := hw
        obtain ⟨a, q5, -⟩ := q5 (by omega)
        obtain ⟨as, e1, e2, e3⟩ := last_split q5
        rw [e1] at q6
        have hv := callI_ok (Q := Q) (st := st.drop w) h2 C0 (l := l) (e := e) (below := below) (meth := meth) (L := L) hok.2.1 (wAt_in hok.1) ⟨hok.2.2.2.1, hok.2.2.2.2⟩ (by rw [List.length_take] at e3; omega) q2 q3 q4 hd q6 (fun v S' h => hkk _ _ _ _ h)
        rwa [e2] at hv
      · exact hw.elim
    · simp only [wpC] at hw
      split at hw
      · rename_i M P hΓy
        obtain ⟨h1, h2⟩ := call M P hΓy
        rw [h1] at hok
        simp only [Bool.and_eq_true, decide_eq_true_eq] at hok
        obtain ⟨q1, q2, q3, q4, q5, q6⟩ := hw
        obtain ⟨a, q5, -⟩ := q5 (by omega)
        obtain ⟨as, e1, e2, e3⟩ := last_split q5
        rw [e1] at q6
        have hv := callIN_ok (Q := Q) (st := st.drop w) h2 C0 (l := l) (e := e) (below := below) (meth := meth) (L := L) hok.2.1 (nest_in hok.1) ⟨hok.2.2.2.1, hok.2.2.2.2⟩ (by rw [List.length_take] at e3; omega) q2 q3 q4 hd q6 (fun v S' h => hkk _ _ _ _ h)
        rwa [e2] at hv
      · exact hw.elim
    · cases hok
  · simp only [insOK, Bool.and_eq_true, decide_eq_true_eq] at hok
    obtain ⟨hd, hok⟩ := hok
    have hd : decode cc pc = .ok (.invokevirtual k, 3) := hd
    split at hok
    · rename_i M hΓy
      simp only [Bool.and_eq_true, decide_eq_true_eq] at hok
      obtain ⟨hl, hz, hz2, hcl, hmk, hwn, hR⟩ := hok
      unfold wpC at hw
      split at hw
      · omega
      · omega
      · omega
      · omega
      · omega
      · split at hw
        · rename_i M' P hΓy'
          obtain ⟨h1, h2⟩ := call M' P hΓy'
          rw [h1] at hΓy
          cases hΓy
          obtain ⟨q1, q2, q3, q4, q5, q6⟩ := hw
          obtain ⟨a, q5, q7⟩ := q5 (by omega)
          obtain ⟨as, e1, e2, e3⟩ := last_split q5
          rw [e1] at q6
          have hv := callV_ok (Q := Q) (st := st.drop w) h2 C0 (l := l) (e := e) (below := below) (meth := meth) (L := L) hmk (wAt_in hl) hR (by rw [List.length_take] at e3; omega) q2 hz2 hcl (q7 hz) q3 q4 hd q6 (fun v S' h => hkk _ _ _ _ h)
          rwa [e2] at hv
        · exact hw.elim
    · cases hok
/-- the ends of methods -/
def isRet : Instr → Bool
  | .return_ | .ireturn | .lreturn | .freturn | .areturn => true
  | _ => false
theorem brO_of {i : Instr} (x : Nat) {P : Prop} {o : Int} {st st' : List Value} (hp : brI i st = some (P, o, st')) : brO i = some o ∧ ilen i x = 3 := by
  cases i <;> try (simp only [brI] at hp; cases hp; done)
  case if_icmp q o => cases q <;> simp only [brI] at hp <;> split at hp <;> cases hp <;> exact ⟨rfl, rfl⟩
  case ifCond q o => cases q <;> simp only [brI] at hp <;> split at hp <;> cases hp <;> exact ⟨rfl, rfl⟩
  case ifnull o => simp only [brI] at hp; split at hp <;> cases hp <;> exact ⟨rfl, rfl⟩
  case ifnonnull o => simp only [brI] at hp; split at hp <;> cases hp <;> exact ⟨rfl, rfl⟩
set_option maxHeartbeats 8000000 in
theorem wpO_ok (C0 : CX G cc nL own p s m args c) {kk : List (Option Value) → List Value → Prop} {pc x y z : Nat} {i : Instr} {L : List (Option Value)} {st : List Value} {S : SS} {cs sl : Nat}
    (hd : decode cc pc = .ok (i, ilen i x)) (hb : ∀ o, brO i = some o → (pc : Int) + o = (z : Int)) (hw : wpO K kk i x y z L st S cs sl)
    (hK : ∀ pc L st S cs sl, K pc L st S cs sl → VW G nL p l e R s m args below meth c Q pc L st S cs sl)
    (hkk : ∀ L st, kk L st → VW G nL p l e R s m args below meth c Q (pc + ilen i x) L st S cs sl) : VW G nL p l e R s m args below meth c Q pc L st S cs sl := by
  unfold wpO at hw
  split at hw
  · rename_i P st' hp
    exact pst_ok C0.1 C0.2.1 hp hd hw.1 (hkk _ _ hw.2)
  · split at hw
    · rename_i k tg hp
      split at hw
      · rename_i v hv
        exact ldI_ok C0.1 C0.2.1 hp hd hv hw.1 (hkk _ _ hw.2)
      · exact hw.elim
    · split at hw
      · rename_i k tg hp
        split at hw
        · exact sdI_ok C0.1 C0.2.1 hp hd hw.1 hw.2.1 (hkk _ _ hw.2.2)
        · exact hw.elim
      · split at hw
        · rename_i P o st' hp
          have ho : brO i = some o ∧ ilen i x = 3 := brO_of x hp
          rw [ho.2] at hkk
          exact brI_ok C0.1 C0.2.1 hp hd (hb o ho.1) (fun q => hK _ _ _ _ _ _ (hw.1 q)) (fun q => hkk _ _ (hw.2 q))
        · exact hw.elim
set_option maxHeartbeats 16000000 in
theorem wp1_ok (C0 : CX G cc nL own p s m args c) {ini : Bool} (hini : ini = true → meth.name = "<init>") (hΓ : ∀ q ∈ Γ, Ct l G q.1 q.2) {kk : List (Option Value) → List Value → SS → Nat → Nat → Prop} {pc x y z w : Nat} {i : Instr} {L : List (Option Value)} {st : List Value} {S : SS} {cs sl : Nat}
    (hok : insOK cc own ini R (Γ.map Prod.fst) (pc, i, x, y, z, w) = true) (hw : wp1 G Γ R K E kk (pc, i, x, y, z, w) L st S cs sl)
    (hK : ∀ pc L st S cs sl, K pc L st S cs sl → VW G nL p l e R s m args below meth c Q pc L st S cs sl)
    (hE : ∀ pc i v L S cs sl, E i v S cs sl → isRet i = true → decode cc pc = .ok (i, 1) → VW G nL p l e R s m args below meth c Q pc L v.toList S cs sl)
    (hkk : ∀ L st S cs sl, isEnd i = false → kk L st S cs sl → VW G nL p l e R s m args below meth c Q (pc + ilen i x) L st S cs sl) : VW G nL p l e R s m args below meth c Q pc L st S cs sl := by
  have dflt : ∀ j : Instr, j = i → isEnd j = false → decode cc pc = .ok (j, ilen j x) → (∀ o, brO j = some o → (pc : Int) + o = (z : Int)) → wpO K (fun L st => kk L st S cs sl) j x y z L st S cs sl → VW G nL p l e R s m args below meth c Q pc L st S cs sl := by
    intro j hj he hd hb h
    subst hj
    exact wpO_ok C0 hd hb h hK (fun L st q => hkk L st S cs sl he q)
  cases i
  case nop => exact hK _ _ _ _ _ _ hw
  case goto o =>
    simp only [insOK, Bool.and_eq_true, decide_eq_true_eq] at hok
    exact goto_ok C0.1 C0.2.1 hok.1 hok.2 (hK _ _ _ _ _ _ hw)
  case tableswitch d lo hi offs =>
    simp only [insOK, Bool.and_eq_true, decide_eq_true_eq] at hok
    obtain ⟨hd, ⟨h1, h2⟩, h3⟩ := hok
    simp only [wp1] at hw
    split at hw
    · have hin : ∀ (v : Int32) (st : List Value) (os : List Int) (k : Int), tblW (fun t => K t L st S cs sl) v pc k os → tblW (fun t => VW G nL p l e R s m args below meth c Q t L st S cs sl) v pc k os := by
        intro v st os
        induction os with
        | nil => exact fun _ _ => trivial
        | cons o os ih => exact fun k h => ⟨fun q => hK _ _ _ _ _ _ (h.1 q), ih _ h.2⟩
      exact tbl_ok C0.1 C0.2.1 hd h1 h2 h3 (hin _ _ _ _ hw.1) (fun q => hK _ _ _ _ _ _ (hw.2 q))
    · exact hw.elim
  case iinc k n =>
    simp only [insOK, Bool.and_eq_true, decide_eq_true_eq] at hok
    simp only [wp1] at hw
    split at hw
    · rename_i a ha
      exact iinc_ok C0.1 C0.2.1 hok.1 ha hok.2 (hkk _ _ _ _ _ rfl hw)
    · exact hw.elim
  case ldc idx =>
    simp only [insOK, Bool.and_eq_true, decide_eq_true_eq] at hok
    exact ldc_ok C0.1 C0.2.1 C0.2.2.2.1 (C0.2.2.2.2.1 _ (wAt_in hok.2.1)) hok.2.2 hok.1 (hkk _ _ _ _ _ rfl hw)
  case ldc2_w idx =>
    simp only [insOK, Bool.and_eq_true, decide_eq_true_eq] at hok
    exact ldc2_ok C0.1 C0.2.1 C0.2.2.2.1 (C0.2.2.2.2.1 _ (wAt_in hok.2.1)) hok.2.2 hok.1 (hkk _ _ _ _ _ rfl hw)
  case getfield idx =>
    simp only [insOK, Bool.and_eq_true, decide_eq_true_eq] at hok
    obtain ⟨hd, ⟨⟨h1, h2⟩, h3⟩, h4⟩ := hok
    simp only [wp1] at hw
    split at hw
    · obtain ⟨q1, q2⟩ := hw
      refine getf_ok C0 h1 h2 (wAt_in h3) h4 q1 hd ?_
      unfold fV
      split at q2
      · rename_i hr
        obtain ⟨r, q3, q4⟩ := q2
        rw [hr, q3]
        exact hkk _ _ _ _ _ rfl q4
      · rename_i hr
        rw [hr]
        exact hkk _ _ _ _ _ rfl q2
    · exact hw.elim
  case putfield idx =>
    simp only [insOK, Bool.and_eq_true, decide_eq_true_eq, Bool.or_eq_true, Bool.not_eq_true'] at hok
    obtain ⟨hd, ⟨⟨⟨h1, h2⟩, h3⟩, h4⟩, h5⟩ := hok
    have hfin : (clT x y).2.2.2 = true → meth.name = "<init>" ∧ clR x = own := by
      intro q
      rcases h5 with h5 | h5
      · rw [q] at h5; cases h5
      · exact ⟨hini h5.1, h5.2⟩
    simp only [wp1] at hw
    split at hw
    · obtain ⟨q1, q2, q3, q4⟩ := hw
      exact putI_ok C0 h1 h2 (wAt_in h3) h4 q1 hfin q2 q3 hd (hkk _ _ _ _ _ rfl q4)
    · obtain ⟨q1, q2, q3⟩ := hw
      exact putR_ok C0 h1 h2 (wAt_in h3) h4 q1 hfin q2 hd (hkk _ _ _ _ _ rfl q3)
    · exact hw.elim
  case iaload =>
    simp only [insOK, Bool.and_eq_true, decide_eq_true_eq] at hok
    simp only [wp1] at hw
    split at hw
    · obtain ⟨n, q1, q2, q3⟩ := hw
      rcases hok.2 with h8 | h8
      · subst h8
        exact iald_ok C0 q1 q2 hok.1 (hkk _ _ _ _ _ rfl q3)
      · exact tald_ok C0 q1 h8 q2 hok.1 (hkk _ _ _ _ _ rfl q3)
    · exact hw.elim
  case faload =>
    simp only [insOK, Bool.and_eq_true, decide_eq_true_eq] at hok
    simp only [wp1] at hw
    split at hw
    · obtain ⟨n, q1, q2, q3⟩ := hw
      exact fald_ok C0 q1 q2 hok.1 (hkk _ _ _ _ _ rfl q3)
    · exact hw.elim
  case baload =>
    simp only [insOK, Bool.and_eq_true, decide_eq_true_eq] at hok
    simp only [wp1] at hw
    split at hw
    · obtain ⟨n, q1, q2, q3⟩ := hw
      exact zald_ok C0 q1 q2 hok.1 (hkk _ _ _ _ _ rfl q3)
    · exact hw.elim
  case caload =>
    simp only [insOK, Bool.and_eq_true, decide_eq_true_eq] at hok
    simp only [wp1] at hw
    split at hw
    · obtain ⟨n, q1, q2, q3⟩ := hw
      exact cald_ok C0 q1 q2 hok.1 (hkk _ _ _ _ _ rfl q3)
    · exact hw.elim
  case aaload =>
    simp only [insOK, Bool.and_eq_true, decide_eq_true_eq] at hok
    simp only [wp1] at hw
    split at hw
    · obtain ⟨n, r, q1, q2, q3, q4⟩ := hw
      exact aald_ok C0 hok.2 q1 q2 q3 hok.1 (hkk _ _ _ _ _ rfl q4)
    · exact hw.elim
  case iastore =>
    simp only [insOK, Bool.and_eq_true, decide_eq_true_eq] at hok
    simp only [wp1] at hw
    split at hw
    · obtain ⟨n, q1, q2, q3⟩ := hw
      exact iast_ok C0 q1 q2 hok.1 (hkk _ _ _ _ _ rfl q3)
    · exact hw.elim
  case fastore =>
    simp only [insOK, Bool.and_eq_true, decide_eq_true_eq] at hok
    simp only [wp1] at hw
    split at hw
    · obtain ⟨n, q1, q2, q3⟩ := hw
      exact fast_ok C0 q1 q2 hok.1 (hkk _ _ _ _ _ rfl q3)
    · exact hw.elim
  case bastore =>
    simp only [insOK, Bool.and_eq_true, decide_eq_true_eq] at hok
    simp only [wp1] at hw
    split at hw
    · obtain ⟨n, q1, q2, q3, q4⟩ := hw
      exact zast_ok C0 q1 q2 q3 hok.1 (hkk _ _ _ _ _ rfl q4)
    · exact hw.elim
  case castore =>
    simp only [insOK, Bool.and_eq_true, decide_eq_true_eq] at hok
    simp only [wp1] at hw
    split at hw
    · obtain ⟨n, q1, q2, q3, q4⟩ := hw
      exact cast_ok C0 q1 q2 q3 hok.1 (hkk _ _ _ _ _ rfl q4)
    · exact hw.elim
  case aastore =>
    simp only [insOK, Bool.and_eq_true, decide_eq_true_eq] at hok
    simp only [wp1] at hw
    split at hw
    · obtain ⟨n, q1, q2, q3, q4⟩ := hw
      exact aast_ok C0 hok.2 q1 q2 q3 hok.1 (hkk _ _ _ _ _ rfl q4)
    · exact hw.elim
  case arraylength =>
    simp only [insOK, Bool.and_eq_true, decide_eq_true_eq] at hok
    simp only [wp1] at hw
    split at hw
    · obtain ⟨n, q1, q2⟩ := hw
      exact alen_ok C0 hok.2 q1 hok.1 (hkk _ _ _ _ _ rfl q2)
    · exact hw.elim
  case getstatic idx =>
    simp only [insOK, Bool.and_eq_true, decide_eq_true_eq] at hok
    exact gets_ok C0 hok.2.1 (nest_inF hok.2.2) hok.1 (hkk _ _ _ _ _ rfl hw)
  case new idx =>
    simp only [insOK, Bool.and_eq_true, decide_eq_true_eq] at hok
    obtain ⟨hd, ⟨⟨h1, h2⟩, h3⟩, h4⟩ := hok
    exact new_ok C0 h1 (wAt_in h2) (wAt_in h3) (wAt_in h4) hw.1 hw.2.1 hd (hkk _ _ _ _ _ rfl hw.2.2)
  case newarray at_ =>
    simp only [insOK, Bool.and_eq_true, decide_eq_true_eq] at hok
    obtain ⟨hd, ⟨⟨h1, h2⟩, h3⟩, h4⟩ := hok
    subst h3
    simp only [wp1] at hw
    split at hw
    · obtain ⟨q1, q2, q3, q4, q5⟩ := hw
      exact newa_ok C0 h1 h2 (wAt_in h4) q1 rfl q2 q3 q4 hd (hkk _ _ _ _ _ rfl q5)
    · exact hw.elim
  case anewarray idx =>
    simp only [insOK, Bool.and_eq_true, decide_eq_true_eq] at hok
    obtain ⟨hd, h1, h2⟩ := hok
    simp only [wp1] at hw
    split at hw
    · obtain ⟨q1, q2, q3, q4, q5⟩ := hw
      exact anew_ok C0 h1 (wAt_in h2) q1 rfl q2 q3 q4 hd (hkk _ _ _ _ _ rfl q5)
    · exact hw.elim
  case invokestatic idx => exact wpC_ok C0 hΓ (Or.inl ⟨idx, rfl⟩) hok hw (fun st S cs sl q => hkk _ _ _ _ _ rfl q)
  case invokespecial idx => exact wpC_ok C0 hΓ (Or.inr (Or.inl ⟨idx, rfl⟩)) hok hw (fun st S cs sl q => hkk _ _ _ _ _ rfl q)
  case invokevirtual idx => exact wpC_ok C0 hΓ (Or.inr (Or.inr ⟨idx, rfl⟩)) hok hw (fun st S cs sl q => hkk _ _ _ _ _ rfl q)
  case return_ =>
    simp only [insOK, Bool.and_eq_true, decide_eq_true_eq] at hok
    simp only [wp1] at hw
    split at hw
    · exact hE pc .return_ none L S cs sl hw rfl hok.1
    · exact hw.elim
  case ireturn =>
    simp only [insOK, Bool.and_eq_true, decide_eq_true_eq] at hok
    simp only [wp1] at hw
    split at hw
    · rename_i v
      exact hE pc .ireturn (some v) L S cs sl hw rfl hok.1
    · exact hw.elim
  case lreturn =>
    simp only [insOK, Bool.and_eq_true, decide_eq_true_eq] at hok
    simp only [wp1] at hw
    split at hw
    · rename_i v
      exact hE pc .lreturn (some v) L S cs sl hw rfl hok.1
    · exact hw.elim
  case freturn =>
    simp only [insOK, Bool.and_eq_true, decide_eq_true_eq] at hok
    simp only [wp1] at hw
    split at hw
    · rename_i v
      exact hE pc .freturn (some v) L S cs sl hw rfl hok.1
    · exact hw.elim
  case areturn =>
    simp only [insOK, Bool.and_eq_true, decide_eq_true_eq] at hok
    simp only [wp1] at hw
    split at hw
    · rename_i v
      exact hE pc .areturn (some v) L S cs sl hw rfl hok.1
    · exact hw.elim
  all_goals
    refine dflt _ rfl rfl ?_ ?_ hw
    · simp only [insOK, Bool.and_eq_true, decide_eq_true_eq] at hok
      exact hok.1
    · intro o ho
      first
        | (simp only [brO] at ho; cases ho; done)
        | (simp only [insOK, brO, Bool.and_eq_true, decide_eq_true_eq] at hok
           simp only [brO, Option.some.injEq] at ho
           rw [← ho]
           exact hok.2)
theorem wp_ok (C0 : CX G cc nL own p s m args c) {ini : Bool} (hini : ini = true → meth.name = "<init>") (hΓ : ∀ q ∈ Γ, Ct l G q.1 q.2)
    (hK : ∀ pc L st S cs sl, K pc L st S cs sl → VW G nL p l e R s m args below meth c Q pc L st S cs sl)
    (hE : ∀ pc i v L S cs sl, E i v S cs sl → isRet i = true → decode cc pc = .ok (i, 1) → VW G nL p l e R s m args below meth c Q pc L v.toList S cs sl) :
    ∀ (sg : List Ins) (L : List (Option Value)) (st : List Value) (S : SS) (cs sl : Nat), segOK cc own ini R (Γ.map Prod.fst) sg = true → wp G Γ R K E sg L st S cs sl → VW G nL p l e R s m args below meth c Q (segPc sg) L st S cs sl
  | [], _, _, _, _, _, _, hw => hw.elim
  | (pc, i, x, y, z, w) :: qs, L, st, S, cs, sl, hok, hw => by
    simp only [segOK, Bool.and_eq_true, Bool.or_eq_true] at hok
    obtain ⟨⟨h1, h2⟩, h3⟩ := hok
    refine wp1_ok C0 hini hΓ h1 hw hK hE (fun L st S cs sl he q => ?_)
    have ih := wp_ok C0 hini hΓ hK hE qs L st S cs sl h3 q
    rcases h2 with h2 | h2
    · rw [he] at h2; cases h2
    · match qs, h2, q, ih with
      | [], _, q, _ => exact q.elim
      | q2 :: qs, h2, _, ih =>
        simp only [decide_eq_true_eq] at h2
        have e : segPc (q2 :: qs) = pc + ilen i x := h2
        rw [e] at ih
        exact ih
end SO
end
section
/-! methods over the plain machine; the rows by which a stretch of code is computed -/
/-- a method's body comes from pc to an end that E allows -/
def V (l : Launch) (G : Gx) (M : MI) (E : Option Value → SS → Prop) (pc : Nat) (L : List (Option Value)) (st : List Value) (S : SS) (cs sl : Nat) : Prop :=
  ∀ (p : Program) (e : Env) (s : State) (m : MethodId) (args : Array Value) (below : List Frame) (meth : Method) (c : Code), CX G (mC M) (mL M) (mY M).cls p s m args c → meth.name = (mY M).name → meth.sig.returnType = mT M → meth.locks = false →
    VW G (mL M) p l e (mR M) s m args below meth c (MQ below (QE G E) args s (mR M).cells (mR M).slots (gA G)) pc L st S cs sl
/-- an end -/
def EX (M : MI) (E : Option Value → SS → Prop) : ET := fun i v S cs sl => retOK i (mT M) v ∧ E v S ∧ cs ≤ (mR M).cells ∧ sl ≤ (mR M).slots
def iniM (M : MI) : Bool := decide ((mY M).name = "<init>")
def sgOK (M : MI) (Γ : List MI) (sg : List Ins) : Bool := segOK (mC M) (mY M).cls (iniM M) (mR M) Γ sg
theorem V.seg {l : Launch} {G : Gx} {M : MI} {Γ : List (MI × PT)} {E : Option Value → SS → Prop} (hΓ : ∀ q ∈ Γ, Ct l G q.1 q.2) {sg : List Ins} {L : List (Option Value)} {st : List Value} {S : SS} {cs sl : Nat} (hok : sgOK M (Γ.map Prod.fst) sg = true)
    (hw : wp G Γ (mR M) (V l G M E) (EX M E) sg L st S cs sl) : V l G M E (segPc sg) L st S cs sl := by
  intro p e s m args below meth c C0 hn hr hlk
  refine wp_ok C0 (ini := iniM M) (fun h => ?_) hΓ (fun pc L st S cs sl h => h p e s m args below meth c C0 hn hr hlk) (fun pc i v L S cs sl h hi hd => ?_) sg L st S cs sl hok hw
  · rw [hn]; exact of_decide_eq_true h
  · exact ret_ok C0 hr hlk h.1 h.2.1 h.2.2.1 h.2.2.2 hd
/-- several stretches, one behind another, as deep as n -/
def wpN (l : Launch) (G : Gx) (M : MI) (Γ : List (MI × PT)) (E : Option Value → SS → Prop) (sgs : Nat → Option (List Ins)) : Nat → KT
  | 0 => V l G M E
  | n + 1 => fun t L st S cs sl => match sgs t with
    | some sg => wp G Γ (mR M) (wpN l G M Γ E sgs n) (EX M E) sg L st S cs sl
    | none => V l G M E t L st S cs sl
def tabOK (M : MI) (Γ : List MI) (sgs : Nat → Option (List Ins)) (ts : List Nat) : Bool := ts.all (fun t => match sgs t with
  | some sg => sgOK M Γ sg && decide (segPc sg = t)
  | none => true)
theorem wpN_ok {l : Launch} {G : Gx} {M : MI} {Γ : List (MI × PT)} {E : Option Value → SS → Prop} {sgs : Nat → Option (List Ins)} (hΓ : ∀ q ∈ Γ, Ct l G q.1 q.2) (hok : ∀ t sg, sgs t = some sg → sgOK M (Γ.map Prod.fst) sg = true ∧ segPc sg = t) :
    ∀ (n t : Nat) (L : List (Option Value)) (st : List Value) (S : SS) (cs sl : Nat), wpN l G M Γ E sgs n t L st S cs sl → V l G M E t L st S cs sl
  | 0, _, _, _, _, _, _, h => h
  | n + 1, t, L, st, S, cs, sl, h => by
    simp only [wpN] at h
    cases ht : sgs t with
    | none => rw [ht] at h; exact h
    | some sg =>
      rw [ht] at h
      obtain ⟨h1, h2⟩ := hok t sg ht
      rw [← h2]
      intro p e s m args below meth c C0 hn hr hlk
      refine wp_ok C0 (ini := iniM M) (fun h => ?_) hΓ (fun pc L st S cs sl h => wpN_ok hΓ hok n pc L st S cs sl h p e s m args below meth c C0 hn hr hlk) (fun pc i v L S cs sl h hi hd => ?_) sg L st S cs sl h1 h
      · rw [hn]; exact of_decide_eq_true h
      · exact ret_ok C0 hr hlk h.1 h.2.1 h.2.2.1 h.2.2.2 hd
/-- from a loop's head: its own stretch first, then the others -/
theorem V.segN {l : Launch} {G : Gx} {M : MI} {Γ : List (MI × PT)} {E : Option Value → SS → Prop} {sgs : Nat → Option (List Ins)} (hΓ : ∀ q ∈ Γ, Ct l G q.1 q.2) (hok : ∀ t sg, sgs t = some sg → sgOK M (Γ.map Prod.fst) sg = true ∧ segPc sg = t) (n : Nat)
    {sg : List Ins} {L : List (Option Value)} {st : List Value} {S : SS} {cs sl : Nat} (h1 : sgOK M (Γ.map Prod.fst) sg = true)
    (hw : wp G Γ (mR M) (wpN l G M Γ E sgs n) (EX M E) sg L st S cs sl) : V l G M E (segPc sg) L st S cs sl := by
  intro p e s m args below meth c C0 hn hr hlk
  refine wp_ok C0 (ini := iniM M) (fun h => ?_) hΓ (fun pc L st S cs sl h => wpN_ok hΓ hok n pc L st S cs sl h p e s m args below meth c C0 hn hr hlk) (fun pc i v L S cs sl h hi hd => ?_) sg L st S cs sl h1 hw
  · rw [hn]; exact of_decide_eq_true h
  · exact ret_ok C0 hr hlk h.1 h.2.1 h.2.2.1 h.2.2.2 hd
theorem Ct.ofV {l : Launch} {G : Gx} {M : MI} {P : PT} (hM : okM M = true) (body : ∀ (as : List Value) (S : SS) (E : Option Value → SS → Prop), P as S E → (entL as).length ≤ mL M ∧ V l G M E 0 (entLn as (mL M)) [] S 0 0) : Ct l G M P :=
  Ct.of hM fun as S E h => ⟨(body as S E h).1, fun p e s m args below meth c C0 hn hr hlk => (body as S E h).2 p e s m args below meth c C0 hn hr hlk⟩
section XR
variable {G : Gx} {Γ : List (MI × PT)} {R : Room} {K : KT} {E : ET} {kk : List (Option Value) → List Value → SS → Nat → Nat → Prop} {pc x y z w : Nat} {L : List (Option Value)} {st : List Value} {S : SS} {cs sl : Nat}
theorem x_nop : wp1 G Γ R K E kk (pc, .nop, x, y, z, w) L st S cs sl = K pc L st S cs sl := rfl
theorem x_goto {o : Int} : wp1 G Γ R K E kk (pc, .goto o, x, y, z, w) L st S cs sl = K z L st S cs sl := rfl
theorem x_table {d lo hi : Int} {offs : Array Int} {v : Int32} : wp1 G Γ R K E kk (pc, .tableswitch d lo hi offs, x, y, z, w) L (.int v :: st) S cs sl = (tblW (fun t => K t L st S cs sl) v pc lo offs.toList ∧ (v.toInt < lo ∨ hi < v.toInt → K ((pc : Int) + d).toNat L st S cs sl)) := rfl
theorem x_iinc {k : Nat} {n : Int} : wp1 G Γ R K E kk (pc, .iinc k n, x, y, z, w) L st S cs sl = (match L[k]? with | some (some (.int a)) => kk (stL L k (.int (a + kI y x))) st S cs sl | _ => False) := rfl
theorem x_ldc {k : Nat} : wp1 G Γ R K E kk (pc, .ldc k, x, y, z, w) L st S cs sl = kk L (ldcV x y :: st) S cs sl := rfl
theorem x_ldc2 {k : Nat} : wp1 G Γ R K E kk (pc, .ldc2_w k, x, y, z, w) L st S cs sl = kk L (ldcV x y :: st) S cs sl := rfl
theorem x_getI {k a : Nat} (h : isRefTy (fty x y) = false) : wp1 G Γ R K E kk (pc, .getfield k, x, y, z, w) L (.ref a :: st) S cs sl = (sK S a = some (x, 0) ∧ kk L (.int (sI S a y) :: st) S cs sl) := by
  show (sK S a = some (x, 0) ∧ _) = _
  rw [h]
theorem x_getR {k a : Nat} (h : isRefTy (fty x y) = true) : wp1 G Γ R K E kk (pc, .getfield k, x, y, z, w) L (.ref a :: st) S cs sl = (sK S a = some (x, 0) ∧ ∃ r, sR S a y = some r ∧ kk L (.ref r :: st) S cs sl) := by
  show (sK S a = some (x, 0) ∧ _) = _
  rw [h]
theorem x_putI {k a : Nat} {v : Int32} (h : fty x y = .int) : wp1 G Γ R K E kk (pc, .putfield k, x, y, z, w) L (.int v :: .ref a :: st) S cs sl = (sK S a = some (x, 0) ∧ kk L st (stI S a y v) cs sl) := by
  show (sK S a = some (x, 0) ∧ isRefTy (fty x y) = false ∧ fitI (fty x y) v ∧ _) = _
  rw [h]
  simp [isRefTy, fitI_int]
theorem x_putC {k a : Nat} {v : Int32} (h : fty x y = .char) : wp1 G Γ R K E kk (pc, .putfield k, x, y, z, w) L (.int v :: .ref a :: st) S cs sl = (sK S a = some (x, 0) ∧ fitI .char v ∧ kk L st (stI S a y v) cs sl) := by
  show (sK S a = some (x, 0) ∧ isRefTy (fty x y) = false ∧ fitI (fty x y) v ∧ _) = _
  rw [h]
  simp [isRefTy]
theorem x_putR {k a r : Nat} (h : isRefTy (fty x y) = true) : wp1 G Γ R K E kk (pc, .putfield k, x, y, z, w) L (.ref r :: .ref a :: st) S cs sl = (sK S a = some (x, 0) ∧ kk L st (stR S a y (some r)) cs sl) := by
  show (sK S a = some (x, 0) ∧ isRefTy (fty x y) = true ∧ _) = _
  rw [h]
  simp
theorem x_iaload {a : Nat} {j : Int32} : wp1 G Γ R K E kk (pc, .iaload, x, y, z, w) L (.int j :: .ref a :: st) S cs sl = (∃ n, sK S a = some (x, n) ∧ vp_in j n ∧ kk L (.int (sI S a j.toNatClampNeg) :: st) S cs sl) := rfl
theorem x_faload {a : Nat} {j : Int32} : wp1 G Γ R K E kk (pc, .faload, x, y, z, w) L (.int j :: .ref a :: st) S cs sl = (∃ n, sK S a = some (9, n) ∧ vp_in j n ∧ kk L (.float (sF S a j.toNatClampNeg) :: st) S cs sl) := rfl
theorem x_baload {a : Nat} {j : Int32} : wp1 G Γ R K E kk (pc, .baload, x, y, z, w) L (.int j :: .ref a :: st) S cs sl = (∃ n, sK S a = some (10, n) ∧ vp_in j n ∧ kk L (.int (sI S a j.toNatClampNeg) :: st) S cs sl) := rfl
theorem x_caload {a : Nat} {j : Int32} : wp1 G Γ R K E kk (pc, .caload, x, y, z, w) L (.int j :: .ref a :: st) S cs sl = (∃ n, sK S a = some (11, n) ∧ vp_in j n ∧ kk L (.int (sI S a j.toNatClampNeg) :: st) S cs sl) := rfl
theorem x_aaload {a : Nat} {j : Int32} : wp1 G Γ R K E kk (pc, .aaload, x, y, z, w) L (.int j :: .ref a :: st) S cs sl = (∃ n r, sK S a = some (x, n) ∧ vp_in j n ∧ sR S a j.toNatClampNeg = some r ∧ kk L (.ref r :: st) S cs sl) := rfl
theorem x_iastore {a : Nat} {j v : Int32} : wp1 G Γ R K E kk (pc, .iastore, x, y, z, w) L (.int v :: .int j :: .ref a :: st) S cs sl = (∃ n, sK S a = some (8, n) ∧ vp_in j n ∧ kk L st (stI S a j.toNatClampNeg v) cs sl) := rfl
theorem x_fastore {a : Nat} {j : Int32} {v : UInt32} : wp1 G Γ R K E kk (pc, .fastore, x, y, z, w) L (.float v :: .int j :: .ref a :: st) S cs sl = (∃ n, sK S a = some (9, n) ∧ vp_in j n ∧ kk L st (stF S a j.toNatClampNeg v) cs sl) := rfl
theorem x_bastore {a : Nat} {j v : Int32} : wp1 G Γ R K E kk (pc, .bastore, x, y, z, w) L (.int v :: .int j :: .ref a :: st) S cs sl = (∃ n, sK S a = some (10, n) ∧ vp_in j n ∧ fitI .boolean v ∧ kk L st (stI S a j.toNatClampNeg v) cs sl) := rfl
theorem x_castore {a : Nat} {j v : Int32} : wp1 G Γ R K E kk (pc, .castore, x, y, z, w) L (.int v :: .int j :: .ref a :: st) S cs sl = (∃ n, sK S a = some (11, n) ∧ vp_in j n ∧ fitI .char v ∧ kk L st (stI S a j.toNatClampNeg v) cs sl) := rfl
theorem x_aastore {a r : Nat} {j : Int32} : wp1 G Γ R K E kk (pc, .aastore, x, y, z, w) L (.ref r :: .int j :: .ref a :: st) S cs sl = (∃ n, sK S a = some (x, n) ∧ sK S r = some (x - 12, 0) ∧ vp_in j n ∧ kk L st (stR S a j.toNatClampNeg (some r)) cs sl) := rfl
theorem x_alen {a : Nat} : wp1 G Γ R K E kk (pc, .arraylength, x, y, z, w) L (.ref a :: st) S cs sl = (∃ n, sK S a = some (x, n) ∧ kk L (.int (nI n) :: st) S cs sl) := rfl
theorem x_gets {k : Nat} : wp1 G Γ R K E kk (pc, .getstatic k, x, y, z, w) L st S cs sl = kk L (.ref (G.2.2.1 x).1 :: st) S cs sl := rfl
theorem x_new {k : Nat} : wp1 G Γ R K E kk (pc, .new k, x, y, z, w) L st S cs sl = (cs + 1 ≤ R.cells ∧ sl + nf x ≤ R.slots ∧ kk L (.ref (sZ S) :: st) (stN S x 0) (cs + 1) (sl + nf x)) := rfl
theorem x_newa {t : ArrayType} {v : Int32} : wp1 G Γ R K E kk (pc, .newarray t, x, y, z, w) L (.int v :: st) S cs sl = (¬ v < 0 ∧ v.toNatClampNeg ≤ 65536 ∧ cs + 1 ≤ R.cells ∧ sl + v.toNatClampNeg ≤ R.slots ∧ kk L (.ref (sZ S) :: st) (stN S x v.toNatClampNeg) (cs + 1) (sl + v.toNatClampNeg)) := rfl
theorem x_anew {k : Nat} {v : Int32} : wp1 G Γ R K E kk (pc, .anewarray k, x, y, z, w) L (.int v :: st) S cs sl = (¬ v < 0 ∧ v.toNatClampNeg ≤ 65536 ∧ cs + 1 ≤ R.cells ∧ sl + v.toNatClampNeg ≤ R.slots ∧ kk L (.ref (sZ S) :: st) (stN S x v.toNatClampNeg) (cs + 1) (sl + v.toNatClampNeg)) := rfl
theorem x_invs {k : Nat} : wp1 G Γ R K E kk (pc, .invokestatic k, x, y, z, w) L st S cs sl = wpC Γ R (kk L) y z w st S cs sl := rfl
theorem x_invi {k : Nat} : wp1 G Γ R K E kk (pc, .invokespecial k, x, y, z, w) L st S cs sl = wpC Γ R (kk L) y z w st S cs sl := rfl
theorem x_invv {k : Nat} : wp1 G Γ R K E kk (pc, .invokevirtual k, x, y, z, w) L st S cs sl = wpC Γ R (kk L) y z w st S cs sl := rfl
theorem x_ret : wp1 G Γ R K E kk (pc, .return_, x, y, z, w) L [] S cs sl = E .return_ none S cs sl := rfl
theorem x_iret {v : Value} : wp1 G Γ R K E kk (pc, .ireturn, x, y, z, w) L [v] S cs sl = E .ireturn (some v) S cs sl := rfl
theorem x_lret {v : Value} : wp1 G Γ R K E kk (pc, .lreturn, x, y, z, w) L [v] S cs sl = E .lreturn (some v) S cs sl := rfl
theorem x_fret {v : Value} : wp1 G Γ R K E kk (pc, .freturn, x, y, z, w) L [v] S cs sl = E .freturn (some v) S cs sl := rfl
theorem x_aret {v : Value} : wp1 G Γ R K E kk (pc, .areturn, x, y, z, w) L [v] S cs sl = E .areturn (some v) S cs sl := rfl
/-- the stack's own -/
theorem tand {P : Prop} : (True ∧ P) = P := by simp
theorem x_iconst {n : Int} (h : Int32.ofInt n = kI y x) : wp1 G Γ R K E kk (pc, .iconst n, x, y, z, w) L st S cs sl = kk L (.int (kI y x) :: st) S cs sl := by
  show wpO K (fun L st => kk L st S cs sl) (.iconst n) x y z L st S cs sl = _
  simp only [wpO, pst]
  rw [if_pos h]
  exact tand
theorem x_bipush {n : Int} (h : (Int8.ofInt n).toInt32 = kI y x) : wp1 G Γ R K E kk (pc, .bipush n, x, y, z, w) L st S cs sl = kk L (.int (kI y x) :: st) S cs sl := by
  show wpO K (fun L st => kk L st S cs sl) (.bipush n) x y z L st S cs sl = _
  simp only [wpO, pst]
  rw [if_pos h]
  exact tand
theorem x_sipush {n : Int} (h : (Int16.ofInt n).toInt32 = kI y x) : wp1 G Γ R K E kk (pc, .sipush n, x, y, z, w) L st S cs sl = kk L (.int (kI y x) :: st) S cs sl := by
  show wpO K (fun L st => kk L st S cs sl) (.sipush n) x y z L st S cs sl = _
  simp only [wpO, pst]
  rw [if_pos h]
  exact tand
theorem x_lconst {n : Fin 2} : wp1 G Γ R K E kk (pc, .lconst n, x, y, z, w) L st S cs sl = kk L (.long (lN n) :: st) S cs sl := tand
theorem x_fconst0 : wp1 G Γ R K E kk (pc, .fconst 0, x, y, z, w) L st S cs sl = kk L (.float FP.fconst0 :: st) S cs sl := tand
theorem x_fconst1 : wp1 G Γ R K E kk (pc, .fconst 1, x, y, z, w) L st S cs sl = kk L (.float FP.fconst1 :: st) S cs sl := tand
theorem x_fconst2 : wp1 G Γ R K E kk (pc, .fconst 2, x, y, z, w) L st S cs sl = kk L (.float FP.fconst2 :: st) S cs sl := tand
theorem x_dconst0 : wp1 G Γ R K E kk (pc, .dconst 0, x, y, z, w) L st S cs sl = kk L (.double FP.dconst0 :: st) S cs sl := tand
theorem x_dconst1 : wp1 G Γ R K E kk (pc, .dconst 1, x, y, z, w) L st S cs sl = kk L (.double FP.dconst1 :: st) S cs sl := tand
theorem x_null : wp1 G Γ R K E kk (pc, .aconst_null, x, y, z, w) L st S cs sl = kk L (.null :: st) S cs sl := tand
theorem x_iadd {a b : Int32} : wp1 G Γ R K E kk (pc, .iadd, x, y, z, w) L (.int b :: .int a :: st) S cs sl = kk L (.int (a + b) :: st) S cs sl := tand
theorem x_isub {a b : Int32} : wp1 G Γ R K E kk (pc, .isub, x, y, z, w) L (.int b :: .int a :: st) S cs sl = kk L (.int (a - b) :: st) S cs sl := tand
theorem x_imul {a b : Int32} : wp1 G Γ R K E kk (pc, .imul, x, y, z, w) L (.int b :: .int a :: st) S cs sl = kk L (.int (a * b) :: st) S cs sl := tand
theorem x_iand {a b : Int32} : wp1 G Γ R K E kk (pc, .iand, x, y, z, w) L (.int b :: .int a :: st) S cs sl = kk L (.int (a &&& b) :: st) S cs sl := tand
theorem x_ior {a b : Int32} : wp1 G Γ R K E kk (pc, .ior, x, y, z, w) L (.int b :: .int a :: st) S cs sl = kk L (.int (a ||| b) :: st) S cs sl := tand
theorem x_idiv {a b : Int32} : wp1 G Γ R K E kk (pc, .idiv, x, y, z, w) L (.int b :: .int a :: st) S cs sl = (¬ b = 0 ∧ kk L (.int (a / b) :: st) S cs sl) := rfl
theorem x_irem {a b : Int32} : wp1 G Γ R K E kk (pc, .irem, x, y, z, w) L (.int b :: .int a :: st) S cs sl = (¬ b = 0 ∧ kk L (.int (a - a / b * b) :: st) S cs sl) := rfl
theorem x_ineg {a : Int32} : wp1 G Γ R K E kk (pc, .ineg, x, y, z, w) L (.int a :: st) S cs sl = kk L (.int (-a) :: st) S cs sl := tand
theorem x_ishl {a b : Int32} : wp1 G Γ R K E kk (pc, .ishl, x, y, z, w) L (.int b :: .int a :: st) S cs sl = kk L (.int (a <<< (b &&& 31)) :: st) S cs sl := tand
theorem x_ishr {a b : Int32} : wp1 G Γ R K E kk (pc, .ishr, x, y, z, w) L (.int b :: .int a :: st) S cs sl = kk L (.int (a >>> (b &&& 31)) :: st) S cs sl := tand
theorem x_land {a b : Int64} : wp1 G Γ R K E kk (pc, .land, x, y, z, w) L (.long b :: .long a :: st) S cs sl = kk L (.long (a &&& b) :: st) S cs sl := tand
theorem x_lor {a b : Int64} : wp1 G Γ R K E kk (pc, .lor, x, y, z, w) L (.long b :: .long a :: st) S cs sl = kk L (.long (a ||| b) :: st) S cs sl := tand
theorem x_lushr {a : Int64} {b : Int32} : wp1 G Γ R K E kk (pc, .lushr, x, y, z, w) L (.int b :: .long a :: st) S cs sl = kk L (.long (a.toUInt64 >>> (b.toInt64.toUInt64 &&& Int64.toUInt64 63)).toInt64 :: st) S cs sl := tand
theorem x_lshl {a : Int64} {b : Int32} : wp1 G Γ R K E kk (pc, .lshl, x, y, z, w) L (.int b :: .long a :: st) S cs sl = kk L (.long (a <<< (b.toInt64 &&& 63)) :: st) S cs sl := tand
theorem x_lcmp {a b : Int64} : wp1 G Γ R K E kk (pc, .lcmp, x, y, z, w) L (.long b :: .long a :: st) S cs sl = kk L (.int (lg_cmp a b) :: st) S cs sl := tand
theorem x_i2l {a : Int32} : wp1 G Γ R K E kk (pc, .i2l, x, y, z, w) L (.int a :: st) S cs sl = kk L (.long a.toInt64 :: st) S cs sl := tand
theorem x_l2i {a : Int64} : wp1 G Γ R K E kk (pc, .l2i, x, y, z, w) L (.long a :: st) S cs sl = kk L (.int a.toInt32 :: st) S cs sl := tand
theorem x_i2c {a : Int32} : wp1 G Γ R K E kk (pc, .i2c, x, y, z, w) L (.int a :: st) S cs sl = kk L (.int (a.toUInt32 % 65536).toInt32 :: st) S cs sl := tand
theorem x_i2f {a : Int32} : wp1 G Γ R K E kk (pc, .i2f, x, y, z, w) L (.int a :: st) S cs sl = kk L (.float (FP.i2f a) :: st) S cs sl := tand
theorem x_f2d {a : UInt32} : wp1 G Γ R K E kk (pc, .f2d, x, y, z, w) L (.float a :: st) S cs sl = (vf_n64 (FP.f2d a) ∧ kk L (.double (FP.f2d a) :: st) S cs sl) := rfl
theorem x_d2i {a : UInt64} : wp1 G Γ R K E kk (pc, .d2i, x, y, z, w) L (.double a :: st) S cs sl = kk L (.int (FP.d2i a) :: st) S cs sl := tand
theorem x_d2l {a : UInt64} : wp1 G Γ R K E kk (pc, .d2l, x, y, z, w) L (.double a :: st) S cs sl = kk L (.long (FP.d2l a) :: st) S cs sl := tand
theorem x_fadd {a b : UInt32} : wp1 G Γ R K E kk (pc, .fadd, x, y, z, w) L (.float b :: .float a :: st) S cs sl = (vf_n32 (FP.fadd a b) ∧ kk L (.float (FP.fadd a b) :: st) S cs sl) := rfl
theorem x_fsub {a b : UInt32} : wp1 G Γ R K E kk (pc, .fsub, x, y, z, w) L (.float b :: .float a :: st) S cs sl = (vf_n32 (FP.fsub a b) ∧ kk L (.float (FP.fsub a b) :: st) S cs sl) := rfl
theorem x_fmul {a b : UInt32} : wp1 G Γ R K E kk (pc, .fmul, x, y, z, w) L (.float b :: .float a :: st) S cs sl = (vf_n32 (FP.fmul a b) ∧ kk L (.float (FP.fmul a b) :: st) S cs sl) := rfl
theorem x_fdiv {a b : UInt32} : wp1 G Γ R K E kk (pc, .fdiv, x, y, z, w) L (.float b :: .float a :: st) S cs sl = (vf_n32 (FP.fdiv a b) ∧ kk L (.float (FP.fdiv a b) :: st) S cs sl) := rfl
theorem x_dadd {a b : UInt64} : wp1 G Γ R K E kk (pc, .dadd, x, y, z, w) L (.double b :: .double a :: st) S cs sl = (vf_n64 (FP.dadd a b) ∧ kk L (.double (FP.dadd a b) :: st) S cs sl) := rfl
theorem x_dsub {a b : UInt64} : wp1 G Γ R K E kk (pc, .dsub, x, y, z, w) L (.double b :: .double a :: st) S cs sl = (vf_n64 (FP.dsub a b) ∧ kk L (.double (FP.dsub a b) :: st) S cs sl) := rfl
theorem x_dmul {a b : UInt64} : wp1 G Γ R K E kk (pc, .dmul, x, y, z, w) L (.double b :: .double a :: st) S cs sl = (vf_n64 (FP.dmul a b) ∧ kk L (.double (FP.dmul a b) :: st) S cs sl) := rfl
theorem x_ddiv {a b : UInt64} : wp1 G Γ R K E kk (pc, .ddiv, x, y, z, w) L (.double b :: .double a :: st) S cs sl = (vf_n64 (FP.ddiv a b) ∧ kk L (.double (FP.ddiv a b) :: st) S cs sl) := rfl
theorem x_fcmp {a b : UInt32} {op : CmpOp} : wp1 G Γ R K E kk (pc, .fcmp op, x, y, z, w) L (.float b :: .float a :: st) S cs sl = kk L (.int (Op.cmpValue (FP.fcmp a b) op) :: st) S cs sl := tand
theorem x_dcmp {a b : UInt64} {op : CmpOp} : wp1 G Γ R K E kk (pc, .dcmp op, x, y, z, w) L (.double b :: .double a :: st) S cs sl = kk L (.int (Op.cmpValue (FP.dcmp a b) op) :: st) S cs sl := tand
theorem x_dupI {a : Int32} : wp1 G Γ R K E kk (pc, .dup, x, y, z, w) L (.int a :: st) S cs sl = kk L (.int a :: .int a :: st) S cs sl := tand
theorem x_dupR {a : Nat} : wp1 G Γ R K E kk (pc, .dup, x, y, z, w) L (.ref a :: st) S cs sl = kk L (.ref a :: .ref a :: st) S cs sl := tand
theorem x_dup2 {a : Nat} {b : Int32} : wp1 G Γ R K E kk (pc, .dup2, x, y, z, w) L (.int b :: .ref a :: st) S cs sl = kk L (.int b :: .ref a :: .int b :: .ref a :: st) S cs sl := tand
theorem x_popI {a : Int32} : wp1 G Γ R K E kk (pc, .pop, x, y, z, w) L (.int a :: st) S cs sl = kk L st S cs sl := tand
theorem x_popR {a : Nat} : wp1 G Γ R K E kk (pc, .pop, x, y, z, w) L (.ref a :: st) S cs sl = kk L st S cs sl := tand
/-- the locals -/
def ldP (kk : List (Option Value) → List Value → SS → Nat → Nat → Prop) (tg : Nat) (L : List (Option Value)) (st : List Value) (S : SS) (cs sl : Nat) : Option (Option Value) → Prop
  | some (some v) => vtag v = tg ∧ kk L (v :: st) S cs sl
  | _ => False
theorem ldP_I {a : Int32} : ldP kk 0 L st S cs sl (some (some (.int a))) = kk L (.int a :: st) S cs sl := by simp [ldP, vtag]
theorem ldP_L {a : Int64} : ldP kk 1 L st S cs sl (some (some (.long a))) = kk L (.long a :: st) S cs sl := by simp [ldP, vtag]
theorem ldP_F {a : UInt32} : ldP kk 2 L st S cs sl (some (some (.float a))) = kk L (.float a :: st) S cs sl := by simp [ldP, vtag]
theorem ldP_D {a : UInt64} : ldP kk 3 L st S cs sl (some (some (.double a))) = kk L (.double a :: st) S cs sl := by simp [ldP, vtag]
theorem ldP_R {a : Nat} : ldP kk 4 L st S cs sl (some (some (.ref a))) = kk L (.ref a :: st) S cs sl := by simp [ldP, vtag]
theorem ldP_N : ldP kk 4 L st S cs sl (some (some .null)) = kk L (.null :: st) S cs sl := by simp [ldP, vtag]
theorem x_iload {k : Nat} : wp1 G Γ R K E kk (pc, .iload k, x, y, z, w) L st S cs sl = ldP kk 0 L st S cs sl L[k]? := rfl
theorem x_iload_n {k : Fin 4} : wp1 G Γ R K E kk (pc, .iload_n k, x, y, z, w) L st S cs sl = ldP kk 0 L st S cs sl L[k.val]? := rfl
theorem x_lload {k : Nat} : wp1 G Γ R K E kk (pc, .lload k, x, y, z, w) L st S cs sl = ldP kk 1 L st S cs sl L[k]? := rfl
theorem x_lload_n {k : Fin 4} : wp1 G Γ R K E kk (pc, .lload_n k, x, y, z, w) L st S cs sl = ldP kk 1 L st S cs sl L[k.val]? := rfl
theorem x_fload {k : Nat} : wp1 G Γ R K E kk (pc, .fload k, x, y, z, w) L st S cs sl = ldP kk 2 L st S cs sl L[k]? := rfl
theorem x_fload_n {k : Fin 4} : wp1 G Γ R K E kk (pc, .fload_n k, x, y, z, w) L st S cs sl = ldP kk 2 L st S cs sl L[k.val]? := rfl
theorem x_dload {k : Nat} : wp1 G Γ R K E kk (pc, .dload k, x, y, z, w) L st S cs sl = ldP kk 3 L st S cs sl L[k]? := rfl
theorem x_dload_n {k : Fin 4} : wp1 G Γ R K E kk (pc, .dload_n k, x, y, z, w) L st S cs sl = ldP kk 3 L st S cs sl L[k.val]? := rfl
theorem x_aload {k : Nat} : wp1 G Γ R K E kk (pc, .aload k, x, y, z, w) L st S cs sl = ldP kk 4 L st S cs sl L[k]? := rfl
theorem x_aload_n {k : Fin 4} : wp1 G Γ R K E kk (pc, .aload_n k, x, y, z, w) L st S cs sl = ldP kk 4 L st S cs sl L[k.val]? := rfl
theorem tst {a b : Nat} (h : a = b) {P : Prop} : (a = b ∧ P) = P := by simp [h]
theorem x_istore {k : Nat} {v : Int32} : wp1 G Γ R K E kk (pc, .istore k, x, y, z, w) L (.int v :: st) S cs sl = (k + 1 ≤ L.length ∧ kk (stL L k (.int v)) st S cs sl) := tst rfl
theorem x_istore_n {k : Fin 4} {v : Int32} : wp1 G Γ R K E kk (pc, .istore_n k, x, y, z, w) L (.int v :: st) S cs sl = (k.val + 1 ≤ L.length ∧ kk (stL L k.val (.int v)) st S cs sl) := tst rfl
theorem x_lstore {k : Nat} {v : Int64} : wp1 G Γ R K E kk (pc, .lstore k, x, y, z, w) L (.long v :: st) S cs sl = (k + 2 ≤ L.length ∧ kk (stL L k (.long v)) st S cs sl) := tst rfl
theorem x_lstore_n {k : Fin 4} {v : Int64} : wp1 G Γ R K E kk (pc, .lstore_n k, x, y, z, w) L (.long v :: st) S cs sl = (k.val + 2 ≤ L.length ∧ kk (stL L k.val (.long v)) st S cs sl) := tst rfl
theorem x_fstore {k : Nat} {v : UInt32} : wp1 G Γ R K E kk (pc, .fstore k, x, y, z, w) L (.float v :: st) S cs sl = (k + 1 ≤ L.length ∧ kk (stL L k (.float v)) st S cs sl) := tst rfl
theorem x_fstore_n {k : Fin 4} {v : UInt32} : wp1 G Γ R K E kk (pc, .fstore_n k, x, y, z, w) L (.float v :: st) S cs sl = (k.val + 1 ≤ L.length ∧ kk (stL L k.val (.float v)) st S cs sl) := tst rfl
theorem x_dstore {k : Nat} {v : UInt64} : wp1 G Γ R K E kk (pc, .dstore k, x, y, z, w) L (.double v :: st) S cs sl = (k + 2 ≤ L.length ∧ kk (stL L k (.double v)) st S cs sl) := tst rfl
theorem x_dstore_n {k : Fin 4} {v : UInt64} : wp1 G Γ R K E kk (pc, .dstore_n k, x, y, z, w) L (.double v :: st) S cs sl = (k.val + 2 ≤ L.length ∧ kk (stL L k.val (.double v)) st S cs sl) := tst rfl
theorem x_astore {k : Nat} {v : Nat} : wp1 G Γ R K E kk (pc, .astore k, x, y, z, w) L (.ref v :: st) S cs sl = (k + 1 ≤ L.length ∧ kk (stL L k (.ref v)) st S cs sl) := tst rfl
theorem x_astore_n {k : Fin 4} {v : Nat} : wp1 G Γ R K E kk (pc, .astore_n k, x, y, z, w) L (.ref v :: st) S cs sl = (k.val + 1 ≤ L.length ∧ kk (stL L k.val (.ref v)) st S cs sl) := tst rfl
theorem x_astoreN {k : Nat} : wp1 G Γ R K E kk (pc, .astore k, x, y, z, w) L (.null :: st) S cs sl = (k + 1 ≤ L.length ∧ kk (stL L k .null) st S cs sl) := tst rfl
theorem x_astore_nN {k : Fin 4} : wp1 G Γ R K E kk (pc, .astore_n k, x, y, z, w) L (.null :: st) S cs sl = (k.val + 1 ≤ L.length ∧ kk (stL L k.val .null) st S cs sl) := tst rfl
/-- the branches -/
theorem x_icmp_eq {o : Int} {a b : Int32} : wp1 G Γ R K E kk (pc, .if_icmp .eq o, x, y, z, w) L (.int b :: .int a :: st) S cs sl = ((a = b → K z L st S cs sl) ∧ (¬ a = b → kk L st S cs sl)) := rfl
theorem x_icmp_ne {o : Int} {a b : Int32} : wp1 G Γ R K E kk (pc, .if_icmp .ne o, x, y, z, w) L (.int b :: .int a :: st) S cs sl = ((¬ a = b → K z L st S cs sl) ∧ (¬ ¬ a = b → kk L st S cs sl)) := rfl
theorem x_icmp_lt {o : Int} {a b : Int32} : wp1 G Γ R K E kk (pc, .if_icmp .lt o, x, y, z, w) L (.int b :: .int a :: st) S cs sl = ((a < b → K z L st S cs sl) ∧ (¬ a < b → kk L st S cs sl)) := rfl
theorem x_icmp_ge {o : Int} {a b : Int32} : wp1 G Γ R K E kk (pc, .if_icmp .ge o, x, y, z, w) L (.int b :: .int a :: st) S cs sl = ((b ≤ a → K z L st S cs sl) ∧ (¬ b ≤ a → kk L st S cs sl)) := rfl
theorem x_icmp_gt {o : Int} {a b : Int32} : wp1 G Γ R K E kk (pc, .if_icmp .gt o, x, y, z, w) L (.int b :: .int a :: st) S cs sl = ((b < a → K z L st S cs sl) ∧ (¬ b < a → kk L st S cs sl)) := rfl
theorem x_icmp_le {o : Int} {a b : Int32} : wp1 G Γ R K E kk (pc, .if_icmp .le o, x, y, z, w) L (.int b :: .int a :: st) S cs sl = ((a ≤ b → K z L st S cs sl) ∧ (¬ a ≤ b → kk L st S cs sl)) := rfl
theorem x_if_eq {o : Int} {a : Int32} : wp1 G Γ R K E kk (pc, .ifCond .eq o, x, y, z, w) L (.int a :: st) S cs sl = ((a = 0 → K z L st S cs sl) ∧ (¬ a = 0 → kk L st S cs sl)) := rfl
theorem x_if_ne {o : Int} {a : Int32} : wp1 G Γ R K E kk (pc, .ifCond .ne o, x, y, z, w) L (.int a :: st) S cs sl = ((¬ a = 0 → K z L st S cs sl) ∧ (¬ ¬ a = 0 → kk L st S cs sl)) := rfl
theorem x_if_lt {o : Int} {a : Int32} : wp1 G Γ R K E kk (pc, .ifCond .lt o, x, y, z, w) L (.int a :: st) S cs sl = ((a < 0 → K z L st S cs sl) ∧ (¬ a < 0 → kk L st S cs sl)) := rfl
theorem x_if_ge {o : Int} {a : Int32} : wp1 G Γ R K E kk (pc, .ifCond .ge o, x, y, z, w) L (.int a :: st) S cs sl = ((0 ≤ a → K z L st S cs sl) ∧ (¬ 0 ≤ a → kk L st S cs sl)) := rfl
theorem x_if_gt {o : Int} {a : Int32} : wp1 G Γ R K E kk (pc, .ifCond .gt o, x, y, z, w) L (.int a :: st) S cs sl = ((0 < a → K z L st S cs sl) ∧ (¬ 0 < a → kk L st S cs sl)) := rfl
theorem x_if_le {o : Int} {a : Int32} : wp1 G Γ R K E kk (pc, .ifCond .le o, x, y, z, w) L (.int a :: st) S cs sl = ((a ≤ 0 → K z L st S cs sl) ∧ (¬ a ≤ 0 → kk L st S cs sl)) := rfl
theorem x_ifnull {o : Int} : wp1 G Γ R K E kk (pc, .ifnull o, x, y, z, w) L (.null :: st) S cs sl = K z L st S cs sl := by show ((True → _) ∧ (¬ True → _)) = _; simp
theorem x_ifnullR {o : Int} {a : Nat} : wp1 G Γ R K E kk (pc, .ifnull o, x, y, z, w) L (.ref a :: st) S cs sl = kk L st S cs sl := by show ((False → _) ∧ (¬ False → _)) = _; simp
theorem x_ifnn {o : Int} : wp1 G Γ R K E kk (pc, .ifnonnull o, x, y, z, w) L (.null :: st) S cs sl = kk L st S cs sl := by show ((False → _) ∧ (¬ False → _)) = _; simp
theorem x_ifnnR {o : Int} {a : Nat} : wp1 G Γ R K E kk (pc, .ifnonnull o, x, y, z, w) L (.ref a :: st) S cs sl = K z L st S cs sl := by show ((True → _) ∧ (¬ True → _)) = _; simp
/-- calls -/
theorem x_call {kc : List Value → SS → Nat → Nat → Prop} (hz : ¬ (z = 4 ∨ z = 5 ∨ z = 6 ∨ z = 7 ∨ z = 8)) : wpC Γ R kc y z w st S cs sl = (match Γ[y]? with
    | some (M, P) => w ≤ st.length ∧ ((st.drop w).map fun v => v.category).sum ≤ 8 ∧ cs + (mR M).cells ≤ R.cells ∧ sl + (mR M).slots ≤ R.slots ∧
        (2 ≤ z → ∃ a, (st.take w).getLast? = some (.ref a) ∧ (10 ≤ z → sK S a = some (z - 10, 0))) ∧
        P (st.take w).reverse S (fun v S' => kc (v.toList ++ st.drop w) S' (cs + (mR M).cells) (sl + (mR M).slots))
    | none => False) := by
  unfold wpC
  split <;> first | (exfalso; omega) | rfl
end XR
end
section
/-! the methods (printed by wip/whole/gen/meth.py) -/
def mi_X1_init : MI := (yX1_init, cX1_init, 1, none, ({ frames := 1, cells := 4, slots := 480, locals := 40 } : Room), 0, 2, 100, 69, 99, 0)
theorem mo_X1_init : okM mi_X1_init = true := by decide +kernel
def mi_X0_init : MI := (yX0_init, cX0_init, 2, none, ({ frames := 2, cells := 25, slots := 1959, locals := 60 } : Room), 0, 2, 93, 68, 92, 0)
theorem mo_X0_init : okM mi_X0_init = true := by decide +kernel
def mi_X1_copyFrom : MI := (yX1_copyFrom, cX1_copyFrom, 2, none, ({ frames := 1, cells := 0, slots := 0, locals := 40 } : Room), 1, 1, 304, 69, 302, 303)
theorem mo_X1_copyFrom : okM mi_X1_copyFrom = true := by decide +kernel
def mi_X0_copyFrom : MI := (yX0_copyFrom, cX0_copyFrom, 3, none, ({ frames := 2, cells := 0, slots := 0, locals := 61 } : Room), 1, 1, 297, 68, 295, 296)
theorem mo_X0_copyFrom : okM mi_X0_copyFrom = true := by decide +kernel
def mi_X0_isPlate : MI := (yX0_isPlate, cX0_isPlate, 2, (some .boolean), ({ frames := 0, cells := 0, slots := 0, locals := 0 } : Room), 1, 1, 350, 68, 348, 349)
theorem mo_X0_isPlate : okM mi_X0_isPlate = true := by decide +kernel
def mi_X0_isWriter : MI := (yX0_isWriter, cX0_isWriter, 2, (some .boolean), ({ frames := 0, cells := 0, slots := 0, locals := 0 } : Room), 1, 1, 374, 68, 372, 373)
theorem mo_X0_isWriter : okM mi_X0_isWriter = true := by decide +kernel
def mi_X0_glassOnDesk : MI := (yX0_glassOnDesk, cX0_glassOnDesk, 1, (some (.object "PlateWriters$Glass")), ({ frames := 1, cells := 0, slots := 0, locals := 21 } : Room), 0, 1, 370, 68, 368, 369)
theorem mo_X0_glassOnDesk : okM mi_X0_glassOnDesk = true := by decide +kernel
def mi_X0_change : MI := (yX0_change, cX0_change, 4, (some .int), ({ frames := 0, cells := 0, slots := 0, locals := 0 } : Room), 2, 1, 309, 68, 307, 308)
theorem mo_X0_change : okM mi_X0_change = true := by decide +kernel
def mi_J7_fill_e525d : MI := (yJ7_fill_e525d, cJ7_fill_e525d, 4, none, ({ frames := 0, cells := 0, slots := 0, locals := 0 } : Room), 2, 0, 335, 77, 334, 0)
theorem mo_J7_fill_e525d : okM mi_J7_fill_e525d = true := by decide +kernel
def mi_J7_fill_53178 : MI := (yJ7_fill_53178, cJ7_fill_53178, 4, none, ({ frames := 0, cells := 0, slots := 0, locals := 0 } : Room), 2, 0, 338, 77, 337, 0)
theorem mo_J7_fill_53178 : okM mi_J7_fill_53178 = true := by decide +kernel
def mi_X1_makeNew : MI := (yX1_makeNew, cX1_makeNew, 1, none, ({ frames := 1, cells := 0, slots := 0, locals := 23 } : Room), 0, 1, 332, 69, 330, 331)
theorem mo_X1_makeNew : okM mi_X1_makeNew = true := by decide +kernel
def mi_X0_addPlate : MI := (yX0_addPlate, cX0_addPlate, 1, (some .int), ({ frames := 2, cells := 0, slots := 0, locals := 43 } : Room), 0, 1, 328, 68, 326, 327)
theorem mo_X0_addPlate : okM mi_X0_addPlate = true := by decide +kernel
def mi_X0_layPlate : MI := (yX0_layPlate, cX0_layPlate, 3, (some .int), ({ frames := 1, cells := 0, slots := 0, locals := 21 } : Room), 1, 1, 346, 68, 344, 345)
theorem mo_X0_layPlate : okM mi_X0_layPlate = true := by decide +kernel
def mi_X0_addWriter : MI := (yX0_addWriter, cX0_addWriter, 2, (some .int), ({ frames := 0, cells := 0, slots := 0, locals := 0 } : Room), 1, 1, 358, 68, 356, 357)
theorem mo_X0_addWriter : okM mi_X0_addWriter = true := by decide +kernel
def mi_X6_isPlace : MI := (yX6_isPlace, cX6_isPlace, 2, (some .boolean), ({ frames := 0, cells := 0, slots := 0, locals := 0 } : Room), 2, 0, 377, 67, 376, 0)
theorem mo_X6_isPlace : okM mi_X6_isPlace = true := by decide +kernel
def mi_X0_isEnough : MI := (yX0_isEnough, cX0_isEnough, 2, (some .boolean), ({ frames := 0, cells := 0, slots := 0, locals := 0 } : Room), 1, 1, 381, 68, 379, 380)
theorem mo_X0_isEnough : okM mi_X0_isEnough = true := by decide +kernel
def mi_J9_max_7cf53 : MI := (yJ9_max_7cf53, cJ9_max_7cf53, 2, (some .int), ({ frames := 0, cells := 0, slots := 0, locals := 0 } : Room), 2, 0, 392, 76, 391, 0)
theorem mo_J9_max_7cf53 : okM mi_J9_max_7cf53 = true := by decide +kernel
def mi_X6_firstNear : MI := (yX6_firstNear, cX6_firstNear, 1, (some .int), ({ frames := 1, cells := 0, slots := 0, locals := 21 } : Room), 1, 0, 389, 67, 388, 0)
theorem mo_X6_firstNear : okM mi_X6_firstNear = true := by decide +kernel
def mi_J9_min_7cf53 : MI := (yJ9_min_7cf53, cJ9_min_7cf53, 2, (some .int), ({ frames := 0, cells := 0, slots := 0, locals := 0 } : Room), 2, 0, 320, 76, 319, 0)
theorem mo_J9_min_7cf53 : okM mi_J9_min_7cf53 = true := by decide +kernel
def mi_X6_lastNear : MI := (yX6_lastNear, cX6_lastNear, 2, (some .int), ({ frames := 1, cells := 0, slots := 0, locals := 21 } : Room), 2, 0, 395, 67, 394, 0)
theorem mo_X6_lastNear : okM mi_X6_lastNear = true := by decide +kernel
def mi_X0_canBeRead : MI := (yX0_canBeRead, cX0_canBeRead, 3, (some .boolean), ({ frames := 1, cells := 0, slots := 0, locals := 21 } : Room), 2, 1, 400, 68, 398, 399)
theorem mo_X0_canBeRead : okM mi_X0_canBeRead = true := by decide +kernel
def mi_J9_abs_0f7a4 : MI := (yJ9_abs_0f7a4, cJ9_abs_0f7a4, 1, (some .int), ({ frames := 0, cells := 0, slots := 0, locals := 0 } : Room), 1, 0, 406, 76, 405, 0)
theorem mo_J9_abs_0f7a4 : okM mi_J9_abs_0f7a4 = true := by decide +kernel
def mi_X0_distance : MI := (yX0_distance, cX0_distance, 4, (some .int), ({ frames := 1, cells := 0, slots := 0, locals := 21 } : Room), 2, 0, 403, 68, 402, 0)
theorem mo_X0_distance : okM mi_X0_distance = true := by decide +kernel
def mi_X0_dimmed : MI := (yX0_dimmed, cX0_dimmed, 5, (some .float), ({ frames := 0, cells := 0, slots := 0, locals := 0 } : Room), 3, 1, 411, 68, 409, 410)
theorem mo_X0_dimmed : okM mi_X0_dimmed = true := by decide +kernel
def mi_X0_mark : MI := (yX0_mark, cX0_mark, 12, (some .int), ({ frames := 2, cells := 0, slots := 0, locals := 44 } : Room), 4, 1, 386, 68, 384, 385)
theorem mo_X0_mark : okM mi_X0_mark = true := by decide +kernel
def mi_X0_writeLetter : MI := (yX0_writeLetter, cX0_writeLetter, 9, (some .int), ({ frames := 3, cells := 0, slots := 0, locals := 75 } : Room), 4, 1, 366, 68, 364, 365)
theorem mo_X0_writeLetter : okM mi_X0_writeLetter = true := by decide +kernel
def mi_X1_isFree : MI := (yX1_isFree, cX1_isFree, 2, (some .boolean), ({ frames := 0, cells := 0, slots := 0, locals := 0 } : Room), 1, 1, 427, 69, 425, 426)
theorem mo_X1_isFree : okM mi_X1_isFree = true := by decide +kernel
def mi_X0_lightAhead : MI := (yX0_lightAhead, cX0_lightAhead, 9, (some .float), ({ frames := 2, cells := 0, slots := 0, locals := 44 } : Room), 2, 1, 431, 68, 429, 430)
theorem mo_X0_lightAhead : okM mi_X0_lightAhead = true := by decide +kernel
def mi_X0_hasRoom : MI := (yX0_hasRoom, cX0_hasRoom, 3, (some .boolean), ({ frames := 3, cells := 0, slots := 0, locals := 72 } : Room), 2, 1, 423, 68, 421, 422)
theorem mo_X0_hasRoom : okM mi_X0_hasRoom = true := by decide +kernel
def mi_X1_promisedPlaces : MI := (yX1_promisedPlaces, cX1_promisedPlaces, 3, (some .int), ({ frames := 0, cells := 0, slots := 0, locals := 0 } : Room), 0, 1, 435, 69, 433, 434)
theorem mo_X1_promisedPlaces : okM mi_X1_promisedPlaces = true := by decide +kernel
def mi_X0_promisePlace : MI := (yX0_promisePlace, cX0_promisePlace, 6, (some .int), ({ frames := 4, cells := 0, slots := 0, locals := 94 } : Room), 3, 1, 419, 68, 417, 418)
theorem mo_X0_promisePlace : okM mi_X0_promisePlace = true := by decide +kernel
def mi_X0_takePromiseBack : MI := (yX0_takePromiseBack, cX0_takePromiseBack, 6, (some .int), ({ frames := 2, cells := 0, slots := 0, locals := 41 } : Room), 2, 1, 443, 68, 441, 442)
theorem mo_X0_takePromiseBack : okM mi_X0_takePromiseBack = true := by decide +kernel
def mi_X0_rubLetter : MI := (yX0_rubLetter, cX0_rubLetter, 6, (some .int), ({ frames := 2, cells := 0, slots := 0, locals := 41 } : Room), 2, 1, 451, 68, 449, 450)
theorem mo_X0_rubLetter : okM mi_X0_rubLetter = true := by decide +kernel
def mi_X0_cleared : MI := (yX0_cleared, cX0_cleared, 2, (some .float), ({ frames := 0, cells := 0, slots := 0, locals := 0 } : Room), 1, 1, 471, 68, 469, 470)
theorem mo_X0_cleared : okM mi_X0_cleared = true := by decide +kernel
def mi_X0_clearedFor : MI := (yX0_clearedFor, cX0_clearedFor, 6, (some .float), ({ frames := 1, cells := 0, slots := 0, locals := 21 } : Room), 2, 1, 467, 68, 466, 1)
theorem mo_X0_clearedFor : okM mi_X0_clearedFor = true := by decide +kernel
def mi_X0_clearFor : MI := (yX0_clearFor, cX0_clearFor, 4, none, ({ frames := 2, cells := 0, slots := 0, locals := 46 } : Room), 2, 1, 463, 68, 462, 0)
theorem mo_X0_clearFor : okM mi_X0_clearFor = true := by decide +kernel
def mi_X0_passHours : MI := (yX0_passHours, cX0_passHours, 3, (some .int), ({ frames := 3, cells := 0, slots := 0, locals := 69 } : Room), 1, 1, 459, 68, 457, 458)
theorem mo_X0_passHours : okM mi_X0_passHours = true := by decide +kernel
def mi_X0_lightLeftBy : MI := (yX0_lightLeftBy, cX0_lightLeftBy, 6, (some .float), ({ frames := 2, cells := 0, slots := 0, locals := 44 } : Room), 3, 1, 600, 68, 598, 599)
theorem mo_X0_lightLeftBy : okM mi_X0_lightLeftBy = true := by decide +kernel
def mi_X0_hoursUntilEnough : MI := (yX0_hoursUntilEnough, cX0_hoursUntilEnough, 4, (some .int), ({ frames := 1, cells := 0, slots := 0, locals := 21 } : Room), 1, 1, 612, 68, 611, 6)
theorem mo_X0_hoursUntilEnough : okM mi_X0_hoursUntilEnough = true := by decide +kernel
def mi_X0_hoursUntilReadable : MI := (yX0_hoursUntilReadable, cX0_hoursUntilReadable, 4, (some .int), ({ frames := 2, cells := 0, slots := 0, locals := 44 } : Room), 1, 1, 608, 68, 606, 607)
theorem mo_X0_hoursUntilReadable : okM mi_X0_hoursUntilReadable = true := by decide +kernel
def mi_X0_placeIs : MI := (yX0_placeIs, cX0_placeIs, 4, (some .boolean), ({ frames := 4, cells := 0, slots := 0, locals := 94 } : Room), 3, 1, 497, 68, 495, 496)
theorem mo_X0_placeIs : okM mi_X0_placeIs = true := by decide +kernel
def mi_X0_placesThat : MI := (yX0_placesThat, cX0_placesThat, 5, (some .int), ({ frames := 5, cells := 0, slots := 0, locals := 117 } : Room), 2, 1, 519, 68, 517, 518)
theorem mo_X0_placesThat : okM mi_X0_placesThat = true := by decide +kernel
def mi_X0_placesOfWriter : MI := (yX0_placesOfWriter, cX0_placesOfWriter, 8, (some .int), ({ frames := 5, cells := 0, slots := 0, locals := 117 } : Room), 2, 1, 509, 68, 507, 508)
theorem mo_X0_placesOfWriter : okM mi_X0_placesOfWriter = true := by decide +kernel
def mi_X1_leastLight : MI := (yX1_leastLight, cX1_leastLight, 3, (some .float), ({ frames := 0, cells := 0, slots := 0, locals := 0 } : Room), 0, 1, 523, 69, 521, 522)
theorem mo_X1_leastLight : okM mi_X1_leastLight = true := by decide +kernel
def mi_X1_sumOfLight : MI := (yX1_sumOfLight, cX1_sumOfLight, 3, (some .float), ({ frames := 0, cells := 0, slots := 0, locals := 0 } : Room), 0, 1, 527, 69, 525, 526)
theorem mo_X1_sumOfLight : okM mi_X1_sumOfLight = true := by decide +kernel
def mi_X2_init : MI := (yX2_init, cX2_init, 2, none, ({ frames := 3, cells := 183, slots := 13783, locals := 81 } : Room), 0, 2, 168, 70, 167, 0)
theorem mo_X2_init : okM mi_X2_init = true := by decide +kernel
def mi_X2_prepare : MI := (yX2_prepare, cX2_prepare, 2, none, ({ frames := 3, cells := 0, slots := 0, locals := 83 } : Room), 1, 1, 293, 70, 291, 292)
theorem mo_X2_prepare : okM mi_X2_prepare = true := by decide +kernel
def mi_X2_keepUnlessError : MI := (yX2_keepUnlessError, cX2_keepUnlessError, 2, (some .int), ({ frames := 1, cells := 0, slots := 0, locals := 21 } : Room), 1, 1, 317, 70, 315, 316)
theorem mo_X2_keepUnlessError : okM mi_X2_keepUnlessError = true := by decide +kernel
def mi_X2_takeBackInto : MI := (yX2_takeBackInto, cX2_takeBackInto, 2, (some .int), ({ frames := 3, cells := 0, slots := 0, locals := 83 } : Room), 1, 1, 701, 70, 699, 700)
theorem mo_X2_takeBackInto : okM mi_X2_takeBackInto = true := by decide +kernel
def mi_X4_init : MI := (yX4_init, cX4_init, 1, none, ({ frames := 1, cells := 1, slots := 80, locals := 40 } : Room), 0, 2, 194, 72, 193, 0)
theorem mo_X4_init : okM mi_X4_init = true := by decide +kernel
def mi_X3_init : MI := (yX3_init, cX3_init, 1, none, ({ frames := 2, cells := 7, slots := 482, locals := 60 } : Room), 0, 2, 188, 71, 187, 0)
theorem mo_X3_init : okM mi_X3_init = true := by decide +kernel
def mi_X3_look : MI := (yX3_look, cX3_look, 1, (some .char), ({ frames := 0, cells := 0, slots := 0, locals := 0 } : Room), 0, 1, 651, 71, 650, 8)
theorem mo_X3_look : okM mi_X3_look = true := by decide +kernel
def mi_X3_reads : MI := (yX3_reads, cX3_reads, 2, (some .boolean), ({ frames := 1, cells := 0, slots := 0, locals := 20 } : Room), 1, 1, 655, 71, 654, 9)
theorem mo_X3_reads : okM mi_X3_reads = true := by decide +kernel
def mi_X3_add : MI := (yX3_add, cX3_add, 3, (some .boolean), ({ frames := 0, cells := 0, slots := 0, locals := 0 } : Room), 2, 1, 659, 71, 658, 10)
theorem mo_X3_add : okM mi_X3_add = true := by decide +kernel
def mi_X3_isDigit : MI := (yX3_isDigit, cX3_isDigit, 1, (some .boolean), ({ frames := 0, cells := 0, slots := 0, locals := 0 } : Room), 1, 0, 666, 71, 665, 0)
theorem mo_X3_isDigit : okM mi_X3_isDigit = true := by decide +kernel
def mi_X3_readFirstDigit : MI := (yX3_readFirstDigit, cX3_readFirstDigit, 1, (some .boolean), ({ frames := 1, cells := 0, slots := 0, locals := 20 } : Room), 0, 1, 663, 71, 662, 11)
theorem mo_X3_readFirstDigit : okM mi_X3_readFirstDigit = true := by decide +kernel
def mi_X3_readNumber : MI := (yX3_readNumber, cX3_readNumber, 1, (some .boolean), ({ frames := 1, cells := 0, slots := 0, locals := 20 } : Room), 0, 1, 674, 71, 673, 13)
theorem mo_X3_readNumber : okM mi_X3_readNumber = true := by decide +kernel
def mi_X3_readPlace : MI := (yX3_readPlace, cX3_readPlace, 1, (some .boolean), ({ frames := 2, cells := 0, slots := 0, locals := 41 } : Room), 0, 1, 670, 71, 669, 12)
theorem mo_X3_readPlace : okM mi_X3_readPlace = true := by decide +kernel
def mi_X3_isLetter : MI := (yX3_isLetter, cX3_isLetter, 1, (some .boolean), ({ frames := 0, cells := 0, slots := 0, locals := 0 } : Room), 1, 0, 681, 71, 680, 0)
theorem mo_X3_isLetter : okM mi_X3_isLetter = true := by decide +kernel
def mi_X3_readLetters : MI := (yX3_readLetters, cX3_readLetters, 1, (some .boolean), ({ frames := 1, cells := 0, slots := 0, locals := 22 } : Room), 0, 1, 678, 71, 677, 14)
theorem mo_X3_readLetters : okM mi_X3_readLetters = true := by decide +kernel
def mi_X3_readFirstNumber : MI := (yX3_readFirstNumber, cX3_readFirstNumber, 2, (some .boolean), ({ frames := 2, cells := 0, slots := 0, locals := 40 } : Room), 0, 1, 685, 71, 684, 15)
theorem mo_X3_readFirstNumber : okM mi_X3_readFirstNumber = true := by decide +kernel
def mi_X3_readOrder : MI := (yX3_readOrder, cX3_readOrder, 2, (some .boolean), ({ frames := 3, cells := 0, slots := 0, locals := 61 } : Room), 0, 1, 647, 71, 646, 7)
theorem mo_X3_readOrder : okM mi_X3_readOrder = true := by decide +kernel
def mi_X3_readPad : MI := (yX3_readPad, cX3_readPad, 1, (some .int), ({ frames := 4, cells := 0, slots := 0, locals := 82 } : Room), 0, 1, 643, 71, 641, 642)
theorem mo_X3_readPad : okM mi_X3_readPad = true := by decide +kernel
def mi_X4_codeIn : MI := (yX4_codeIn, cX4_codeIn, 3, (some .int), ({ frames := 0, cells := 0, slots := 0, locals := 0 } : Room), 2, 0, 626, 72, 625, 0)
theorem mo_X4_codeIn : okM mi_X4_codeIn = true := by decide +kernel
def mi_X4_charactersIn : MI := (yX4_charactersIn, cX4_charactersIn, 4, (some .int), ({ frames := 1, cells := 0, slots := 0, locals := 22 } : Room), 1, 0, 623, 72, 622, 0)
theorem mo_X4_charactersIn : okM mi_X4_charactersIn = true := by decide +kernel
def mi_X4_append : MI := (yX4_append, cX4_append, 5, (some .int), ({ frames := 2, cells := 0, slots := 0, locals := 45 } : Room), 1, 1, 620, 72, 618, 619)
theorem mo_X4_append : okM mi_X4_append = true := by decide +kernel
def mi_X4_empty : MI := (yX4_empty, cX4_empty, 2, (some .int), ({ frames := 0, cells := 0, slots := 0, locals := 0 } : Room), 0, 1, 635, 72, 633, 634)
theorem mo_X4_empty : okM mi_X4_empty = true := by decide +kernel
def mi_X5_init : MI := (yX5_init, cX5_init, 1, none, ({ frames := 2, cells := 6, slots := 604, locals := 60 } : Room), 0, 2, 256, 73, 255, 0)
theorem mo_X5_init : okM mi_X5_init = true := by decide +kernel
def mi_X5_lettersSpoiled : MI := (yX5_lettersSpoiled, cX5_lettersSpoiled, 5, (some .int), ({ frames := 3, cells := 0, slots := 0, locals := 75 } : Room), 4, 1, 548, 73, 546, 547)
theorem mo_X5_lettersSpoiled : okM mi_X5_lettersSpoiled = true := by decide +kernel
def mi_X5_promisesSpoiled : MI := (yX5_promisesSpoiled, cX5_promisesSpoiled, 8, (some .int), ({ frames := 3, cells := 0, slots := 0, locals := 75 } : Room), 4, 1, 554, 73, 552, 553)
theorem mo_X5_promisesSpoiled : okM mi_X5_promisesSpoiled = true := by decide +kernel
def mi_X5_roomLeft : MI := (yX5_roomLeft, cX5_roomLeft, 5, (some .int), ({ frames := 6, cells := 0, slots := 0, locals := 141 } : Room), 4, 1, 559, 73, 557, 558)
theorem mo_X5_roomLeft : okM mi_X5_roomLeft = true := by decide +kernel
def mi_X5_lookAhead : MI := (yX5_lookAhead, cX5_lookAhead, 5, none, ({ frames := 3, cells := 0, slots := 0, locals := 72 } : Room), 3, 1, 572, 73, 571, 3)
theorem mo_X5_lookAhead : okM mi_X5_lookAhead = true := by decide +kernel
def mi_X5_brightest : MI := (yX5_brightest, cX5_brightest, 5, (some .int), ({ frames := 1, cells := 0, slots := 0, locals := 21 } : Room), 1, 1, 578, 73, 577, 4)
theorem mo_X5_brightest : okM mi_X5_brightest = true := by decide +kernel
def mi_X5_brightestOf : MI := (yX5_brightestOf, cX5_brightestOf, 3, (some .int), ({ frames := 4, cells := 0, slots := 0, locals := 96 } : Room), 2, 1, 568, 73, 566, 567)
theorem mo_X5_brightestOf : okM mi_X5_brightestOf = true := by decide +kernel
def mi_X5_lookAround : MI := (yX5_lookAround, cX5_lookAround, 6, none, ({ frames := 4, cells := 0, slots := 0, locals := 96 } : Room), 2, 1, 590, 73, 589, 5)
theorem mo_X5_lookAround : okM mi_X5_lookAround = true := by decide +kernel
def mi_X5_lettersUntilFull : MI := (yX5_lettersUntilFull, cX5_lettersUntilFull, 6, (some .int), ({ frames := 5, cells := 0, slots := 0, locals := 121 } : Room), 3, 1, 586, 73, 584, 585)
theorem mo_X5_lettersUntilFull : okM mi_X5_lettersUntilFull = true := by decide +kernel
def mi_X6_init : MI := (yX6_init, cX6_init, 2, none, ({ frames := 4, cells := 279, slots := 20794, locals := 102 } : Room), 0, 2, 85, 67, 84, 0)
theorem mo_X6_init : okM mi_X6_init = true := by decide +kernel
def mi_X6_set : MI := (yX6_set, cX6_set, 3, (some .int), ({ frames := 4, cells := 0, slots := 0, locals := 104 } : Room), 2, 1, 289, 67, 287, 288)
theorem mo_X6_set : okM mi_X6_set = true := by decide +kernel
def mi_X6_plate : MI := (yX6_plate, cX6_plate, 1, (some .int), ({ frames := 4, cells := 0, slots := 0, locals := 104 } : Room), 0, 1, 324, 67, 322, 323)
theorem mo_X6_plate : okM mi_X6_plate = true := by decide +kernel
def mi_X6_lay : MI := (yX6_lay, cX6_lay, 2, (some .int), ({ frames := 4, cells := 0, slots := 0, locals := 104 } : Room), 1, 1, 342, 67, 340, 341)
theorem mo_X6_lay : okM mi_X6_lay = true := by decide +kernel
def mi_X6_writer : MI := (yX6_writer, cX6_writer, 2, (some .int), ({ frames := 4, cells := 0, slots := 0, locals := 104 } : Room), 1, 1, 354, 67, 352, 353)
theorem mo_X6_writer : okM mi_X6_writer = true := by decide +kernel
def mi_X6_write : MI := (yX6_write, cX6_write, 5, (some .int), ({ frames := 4, cells := 0, slots := 0, locals := 104 } : Room), 4, 1, 362, 67, 360, 361)
theorem mo_X6_write : okM mi_X6_write = true := by decide +kernel
def mi_X6_promise : MI := (yX6_promise, cX6_promise, 4, (some .int), ({ frames := 5, cells := 0, slots := 0, locals := 119 } : Room), 3, 1, 415, 67, 413, 414)
theorem mo_X6_promise : okM mi_X6_promise = true := by decide +kernel
def mi_X6_takeBack : MI := (yX6_takeBack, cX6_takeBack, 3, (some .int), ({ frames := 4, cells := 0, slots := 0, locals := 104 } : Room), 2, 1, 439, 67, 437, 438)
theorem mo_X6_takeBack : okM mi_X6_takeBack = true := by decide +kernel
def mi_X6_rub : MI := (yX6_rub, cX6_rub, 3, (some .int), ({ frames := 4, cells := 0, slots := 0, locals := 104 } : Room), 2, 1, 447, 67, 445, 446)
theorem mo_X6_rub : okM mi_X6_rub = true := by decide +kernel
def mi_X6_pass : MI := (yX6_pass, cX6_pass, 2, (some .int), ({ frames := 4, cells := 0, slots := 0, locals := 104 } : Room), 1, 1, 455, 67, 453, 454)
theorem mo_X6_pass : okM mi_X6_pass = true := by decide +kernel
def mi_X6_bitsOfFloat : MI := (yX6_bitsOfFloat, cX6_bitsOfFloat, 4, (some .int), ({ frames := 0, cells := 0, slots := 0, locals := 0 } : Room), 1, 0, 480, 67, 479, 0)
theorem mo_X6_bitsOfFloat : okM mi_X6_bitsOfFloat = true := by decide +kernel
def mi_X6_at : MI := (yX6_at, cX6_at, 6, (some .int), ({ frames := 4, cells := 0, slots := 0, locals := 94 } : Room), 3, 1, 475, 67, 473, 474)
theorem mo_X6_at : okM mi_X6_at = true := by decide +kernel
def mi_X6_columnsThat : MI := (yX6_columnsThat, cX6_columnsThat, 6, (some .int), ({ frames := 5, cells := 0, slots := 0, locals := 117 } : Room), 3, 1, 493, 67, 492, 2)
theorem mo_X6_columnsThat : okM mi_X6_columnsThat = true := by decide +kernel
def mi_X6_longestRun : MI := (yX6_longestRun, cX6_longestRun, 4, (some .int), ({ frames := 1, cells := 0, slots := 0, locals := 21 } : Room), 1, 0, 500, 67, 499, 0)
theorem mo_X6_longestRun : okM mi_X6_longestRun = true := by decide +kernel
def mi_X6_row : MI := (yX6_row, cX6_row, 4, (some .int), ({ frames := 6, cells := 0, slots := 0, locals := 142 } : Room), 2, 1, 489, 67, 487, 488)
theorem mo_X6_row : okM mi_X6_row = true := by decide +kernel
def mi_X6_of : MI := (yX6_of, cX6_of, 3, (some .int), ({ frames := 6, cells := 0, slots := 0, locals := 144 } : Room), 2, 1, 504, 67, 502, 503)
theorem mo_X6_of : okM mi_X6_of = true := by decide +kernel
def mi_X6_ofPlate : MI := (yX6_ofPlate, cX6_ofPlate, 4, (some .int), ({ frames := 6, cells := 0, slots := 0, locals := 141 } : Room), 2, 1, 514, 67, 512, 513)
theorem mo_X6_ofPlate : okM mi_X6_ofPlate = true := by decide +kernel
def mi_X6_count : MI := (yX6_count, cX6_count, 2, (some .int), ({ frames := 0, cells := 0, slots := 0, locals := 0 } : Room), 1, 1, 531, 67, 529, 530)
theorem mo_X6_count : okM mi_X6_count = true := by decide +kernel
def mi_X6_bitsOfMean : MI := (yX6_bitsOfMean, cX6_bitsOfMean, 5, (some .long), ({ frames := 0, cells := 0, slots := 0, locals := 0 } : Room), 1, 0, 539, 67, 538, 0)
theorem mo_X6_bitsOfMean : okM mi_X6_bitsOfMean = true := by decide +kernel
def mi_X6_mean : MI := (yX6_mean, cX6_mean, 5, (some .long), ({ frames := 2, cells := 0, slots := 0, locals := 41 } : Room), 0, 1, 535, 67, 533, 534)
theorem mo_X6_mean : okM mi_X6_mean = true := by decide +kernel
def mi_X6_ifWritten : MI := (yX6_ifWritten, cX6_ifWritten, 7, (some .int), ({ frames := 7, cells := 0, slots := 0, locals := 165 } : Room), 4, 1, 544, 67, 542, 543)
theorem mo_X6_ifWritten : okM mi_X6_ifWritten = true := by decide +kernel
def mi_X6_bestPlace : MI := (yX6_bestPlace, cX6_bestPlace, 2, (some .int), ({ frames := 5, cells := 0, slots := 0, locals := 118 } : Room), 0, 1, 564, 67, 562, 563)
theorem mo_X6_bestPlace : okM mi_X6_bestPlace = true := by decide +kernel
def mi_X6_fills : MI := (yX6_fills, cX6_fills, 3, (some .int), ({ frames := 6, cells := 0, slots := 0, locals := 146 } : Room), 1, 1, 582, 67, 580, 581)
theorem mo_X6_fills : okM mi_X6_fills = true := by decide +kernel
def mi_X6_whoDims : MI := (yX6_whoDims, cX6_whoDims, 8, (some .int), ({ frames := 3, cells := 0, slots := 0, locals := 69 } : Room), 2, 1, 596, 67, 594, 595)
theorem mo_X6_whoDims : okM mi_X6_whoDims = true := by decide +kernel
def mi_X6_readableIn : MI := (yX6_readableIn, cX6_readableIn, 2, (some .int), ({ frames := 3, cells := 0, slots := 0, locals := 67 } : Room), 1, 1, 604, 67, 602, 603)
theorem mo_X6_readableIn : okM mi_X6_readableIn = true := by decide +kernel
def mi_X6_put : MI := (yX6_put, cX6_put, 3, (some .int), ({ frames := 3, cells := 0, slots := 0, locals := 69 } : Room), 1, 1, 616, 67, 614, 615)
theorem mo_X6_put : okM mi_X6_put = true := by decide +kernel
def mi_X6_wipe : MI := (yX6_wipe, cX6_wipe, 1, (some .int), ({ frames := 1, cells := 0, slots := 0, locals := 21 } : Room), 0, 1, 631, 67, 629, 630)
theorem mo_X6_wipe : okM mi_X6_wipe = true := by decide +kernel
def mi_X6_fault : MI := (yX6_fault, cX6_fault, 1, (some .int), ({ frames := 5, cells := 0, slots := 0, locals := 102 } : Room), 0, 1, 639, 67, 637, 638)
theorem mo_X6_fault : okM mi_X6_fault = true := by decide +kernel
def mi_X6_obey : MI := (yX6_obey, cX6_obey, 5, (some .int), ({ frames := 5, cells := 0, slots := 0, locals := 119 } : Room), 1, 1, 693, 67, 692, 16)
theorem mo_X6_obey : okM mi_X6_obey = true := by decide +kernel
def mi_X6_carryOut : MI := (yX6_carryOut, cX6_carryOut, 2, (some .int), ({ frames := 6, cells := 0, slots := 0, locals := 143 } : Room), 0, 1, 689, 67, 687, 688)
theorem mo_X6_carryOut : okM mi_X6_carryOut = true := by decide +kernel
def mi_X6_undo : MI := (yX6_undo, cX6_undo, 1, (some .int), ({ frames := 4, cells := 0, slots := 0, locals := 104 } : Room), 0, 1, 697, 67, 695, 696)
theorem mo_X6_undo : okM mi_X6_undo = true := by decide +kernel
def mi_X6_save : MI := (yX6_save, cX6_save, 2, (some .int), ({ frames := 3, cells := 0, slots := 0, locals := 83 } : Room), 1, 1, 705, 67, 703, 704)
theorem mo_X6_save : okM mi_X6_save = true := by decide +kernel
def mi_X6_restore : MI := (yX6_restore, cX6_restore, 2, (some .int), ({ frames := 4, cells := 0, slots := 0, locals := 104 } : Room), 1, 1, 710, 67, 708, 709)
theorem mo_X6_restore : okM mi_X6_restore = true := by decide +kernel
def mi_X7_init : MI := (yX7_init, cX7_init, 1, none, ({ frames := 1, cells := 5, slots := 14832, locals := 40 } : Room), 0, 2, 715, 74, 714, 0)
theorem mo_X7_init : okM mi_X7_init = true := by decide +kernel
def mi_X7_in : MI := (yX7_in, cX7_in, 6, (some .boolean), ({ frames := 0, cells := 0, slots := 0, locals := 0 } : Room), 3, 0, 770, 74, 769, 0)
theorem mo_X7_in : okM mi_X7_in = true := by decide +kernel
def mi_X7_copies : MI := (yX7_copies, cX7_copies, 4, none, ({ frames := 0, cells := 0, slots := 0, locals := 0 } : Room), 2, 1, 781, 74, 780, 18)
theorem mo_X7_copies : okM mi_X7_copies = true := by decide +kernel
def mi_X7_changes : MI := (yX7_changes, cX7_changes, 2, none, ({ frames := 1, cells := 0, slots := 0, locals := 23 } : Room), 0, 1, 777, 74, 776, 17)
theorem mo_X7_changes : okM mi_X7_changes = true := by decide +kernel
def mi_X7_inkAt : MI := (yX7_inkAt, cX7_inkAt, 3, (some .int), ({ frames := 0, cells := 0, slots := 0, locals := 0 } : Room), 3, 0, 792, 74, 791, 0)
theorem mo_X7_inkAt : okM mi_X7_inkAt = true := by decide +kernel
def mi_X7_lightAt : MI := (yX7_lightAt, cX7_lightAt, 3, (some .int), ({ frames := 0, cells := 0, slots := 0, locals := 0 } : Room), 3, 0, 795, 74, 794, 0)
theorem mo_X7_lightAt : okM mi_X7_lightAt = true := by decide +kernel
def mi_X7_hasLetter : MI := (yX7_hasLetter, cX7_hasLetter, 4, (some .boolean), ({ frames := 1, cells := 0, slots := 0, locals := 22 } : Room), 3, 1, 856, 74, 855, 29)
theorem mo_X7_hasLetter : okM mi_X7_hasLetter = true := by decide +kernel
def mi_X7_promisedTo : MI := (yX7_promisedTo, cX7_promisedTo, 4, (some .int), ({ frames := 1, cells := 0, slots := 0, locals := 22 } : Room), 3, 1, 852, 74, 851, 28)
theorem mo_X7_promisedTo : okM mi_X7_promisedTo = true := by decide +kernel
def mi_X7_clouded : MI := (yX7_clouded, cX7_clouded, 10, (some .float), ({ frames := 0, cells := 0, slots := 0, locals := 0 } : Room), 5, 1, 881, 74, 880, 35)
theorem mo_X7_clouded : okM mi_X7_clouded = true := by decide +kernel
def mi_X7_isBright : MI := (yX7_isBright, cX7_isBright, 3, (some .boolean), ({ frames := 0, cells := 0, slots := 0, locals := 0 } : Room), 2, 1, 860, 74, 859, 30)
theorem mo_X7_isBright : okM mi_X7_isBright = true := by decide +kernel
def mi_X7_ahead : MI := (yX7_ahead, cX7_ahead, 7, (some .float), ({ frames := 2, cells := 0, slots := 0, locals := 45 } : Room), 3, 1, 901, 74, 900, 39)
theorem mo_X7_ahead : okM mi_X7_ahead = true := by decide +kernel
def mi_X7_hasRoom : MI := (yX7_hasRoom, cX7_hasRoom, 4, (some .boolean), ({ frames := 3, cells := 0, slots := 0, locals := 71 } : Room), 3, 1, 897, 74, 896, 38)
theorem mo_X7_hasRoom : okM mi_X7_hasRoom = true := by decide +kernel
def mi_X7_canRead : MI := (yX7_canRead, cX7_canRead, 4, (some .boolean), ({ frames := 2, cells := 0, slots := 0, locals := 45 } : Room), 3, 1, 873, 74, 872, 33)
theorem mo_X7_canRead : okM mi_X7_canRead = true := by decide +kernel
def mi_X7_rooms : MI := (yX7_rooms, cX7_rooms, 5, (some .int), ({ frames := 4, cells := 0, slots := 0, locals := 94 } : Room), 2, 1, 1024, 74, 1023, 53)
theorem mo_X7_rooms : okM mi_X7_rooms = true := by decide +kernel
def mi_X7_looks : MI := (yX7_looks, cX7_looks, 3, none, ({ frames := 3, cells := 0, slots := 0, locals := 68 } : Room), 1, 1, 869, 74, 868, 32)
theorem mo_X7_looks : okM mi_X7_looks = true := by decide +kernel
def mi_X7_spoilt : MI := (yX7_spoilt, cX7_spoilt, 6, (some .int), ({ frames := 3, cells := 0, slots := 0, locals := 68 } : Room), 3, 1, 885, 74, 884, 36)
theorem mo_X7_spoilt : okM mi_X7_spoilt = true := by decide +kernel
def mi_X7_writes : MI := (yX7_writes, cX7_writes, 8, none, ({ frames := 1, cells := 0, slots := 0, locals := 29 } : Room), 5, 1, 877, 74, 876, 34)
theorem mo_X7_writes : okM mi_X7_writes = true := by decide +kernel
def mi_X7_best : MI := (yX7_best, cX7_best, 9, (some .int), ({ frames := 4, cells := 0, slots := 0, locals := 94 } : Room), 2, 1, 1032, 74, 1031, 54)
theorem mo_X7_best : okM mi_X7_best = true := by decide +kernel
def mi_X7_clears : MI := (yX7_clears, cX7_clears, 5, none, ({ frames := 1, cells := 0, slots := 0, locals := 22 } : Room), 2, 1, 942, 74, 941, 46)
theorem mo_X7_clears : okM mi_X7_clears = true := by decide +kernel
def mi_X7_isWriter : MI := (yX7_isWriter, cX7_isWriter, 2, (some .boolean), ({ frames := 1, cells := 0, slots := 0, locals := 25 } : Room), 1, 1, 836, 74, 835, 26)
theorem mo_X7_isWriter : okM mi_X7_isWriter = true := by decide +kernel
def mi_X7_isPlate : MI := (yX7_isPlate, cX7_isPlate, 2, (some .boolean), ({ frames := 1, cells := 0, slots := 0, locals := 25 } : Room), 1, 1, 807, 74, 806, 21)
theorem mo_X7_isPlate : okM mi_X7_isPlate = true := by decide +kernel
def mi_X7_isRow : MI := (yX7_isRow, cX7_isRow, 1, (some .boolean), ({ frames := 1, cells := 0, slots := 0, locals := 25 } : Room), 1, 0, 843, 74, 842, 0)
theorem mo_X7_isRow : okM mi_X7_isRow = true := by decide +kernel
def mi_X7_isThere : MI := (yX7_isThere, cX7_isThere, 3, (some .boolean), ({ frames := 2, cells := 0, slots := 0, locals := 45 } : Room), 2, 1, 840, 74, 839, 27)
theorem mo_X7_isThere : okM mi_X7_isThere = true := by decide +kernel
def mi_X7_spotOf : MI := (yX7_spotOf, cX7_spotOf, 2, (some .int), ({ frames := 0, cells := 0, slots := 0, locals := 0 } : Room), 2, 0, 848, 74, 847, 0)
theorem mo_X7_spotOf : okM mi_X7_spotOf = true := by decide +kernel
def mi_X7_layError : MI := (yX7_layError, cX7_layError, 2, (some .int), ({ frames := 2, cells := 0, slots := 0, locals := 46 } : Room), 1, 1, 803, 74, 802, 20)
theorem mo_X7_layError : okM mi_X7_layError = true := by decide +kernel
def mi_X7_writerError : MI := (yX7_writerError, cX7_writerError, 2, (some .int), ({ frames := 1, cells := 0, slots := 0, locals := 25 } : Room), 1, 1, 819, 74, 818, 23)
theorem mo_X7_writerError : okM mi_X7_writerError = true := by decide +kernel
def mi_X7_writeError : MI := (yX7_writeError, cX7_writeError, 8, (some .int), ({ frames := 3, cells := 0, slots := 0, locals := 67 } : Room), 4, 1, 832, 74, 831, 25)
theorem mo_X7_writeError : okM mi_X7_writeError = true := by decide +kernel
def mi_X7_promiseError : MI := (yX7_promiseError, cX7_promiseError, 4, (some .int), ({ frames := 4, cells := 0, slots := 0, locals := 94 } : Room), 3, 1, 893, 74, 892, 37)
theorem mo_X7_promiseError : okM mi_X7_promiseError = true := by decide +kernel
def mi_X7_rubError : MI := (yX7_rubError, cX7_rubError, 3, (some .int), ({ frames := 3, cells := 0, slots := 0, locals := 67 } : Room), 2, 1, 921, 74, 920, 42)
theorem mo_X7_rubError : okM mi_X7_rubError = true := by decide +kernel
def mi_X7_passError : MI := (yX7_passError, cX7_passError, 2, (some .int), ({ frames := 1, cells := 0, slots := 0, locals := 25 } : Room), 1, 1, 933, 74, 932, 44)
theorem mo_X7_passError : okM mi_X7_passError = true := by decide +kernel
def mi_X7_comes : MI := (yX7_comes, cX7_comes, 3, (some .int), ({ frames := 1, cells := 0, slots := 0, locals := 22 } : Room), 0, 1, 789, 74, 788, 19)
theorem mo_X7_comes : okM mi_X7_comes = true := by decide +kernel
def mi_X7_lays : MI := (yX7_lays, cX7_lays, 3, (some .int), ({ frames := 0, cells := 0, slots := 0, locals := 0 } : Room), 1, 1, 811, 74, 810, 22)
theorem mo_X7_lays : okM mi_X7_lays = true := by decide +kernel
def mi_X7_joins : MI := (yX7_joins, cX7_joins, 3, (some .int), ({ frames := 0, cells := 0, slots := 0, locals := 0 } : Room), 1, 1, 824, 74, 823, 24)
theorem mo_X7_joins : okM mi_X7_joins = true := by decide +kernel
def mi_X7_pens : MI := (yX7_pens, cX7_pens, 5, (some .int), ({ frames := 4, cells := 0, slots := 0, locals := 93 } : Room), 3, 1, 865, 74, 864, 31)
theorem mo_X7_pens : okM mi_X7_pens = true := by decide +kernel
def mi_X7_promisedOn : MI := (yX7_promisedOn, cX7_promisedOn, 4, (some .int), ({ frames := 2, cells := 0, slots := 0, locals := 45 } : Room), 1, 1, 909, 74, 908, 41)
theorem mo_X7_promisedOn : okM mi_X7_promisedOn = true := by decide +kernel
def mi_X7_promises : MI := (yX7_promises, cX7_promises, 3, (some .int), ({ frames := 3, cells := 0, slots := 0, locals := 68 } : Room), 2, 1, 905, 74, 904, 40)
theorem mo_X7_promises : okM mi_X7_promises = true := by decide +kernel
def mi_X7_rubs : MI := (yX7_rubs, cX7_rubs, 4, (some .int), ({ frames := 1, cells := 0, slots := 0, locals := 22 } : Room), 1, 1, 925, 74, 924, 43)
theorem mo_X7_rubs : okM mi_X7_rubs = true := by decide +kernel
def mi_X7_goesOn : MI := (yX7_goesOn, cX7_goesOn, 4, (some .int), ({ frames := 2, cells := 0, slots := 0, locals := 46 } : Room), 1, 1, 938, 74, 937, 45)
theorem mo_X7_goesOn : okM mi_X7_goesOn = true := by decide +kernel
def mi_X7_isValue : MI := (yX7_isValue, cX7_isValue, 2, (some .boolean), ({ frames := 1, cells := 0, slots := 0, locals := 25 } : Room), 2, 0, 766, 74, 765, 0)
theorem mo_X7_isValue : okM mi_X7_isValue = true := by decide +kernel
def mi_X7_set : MI := (yX7_set, cX7_set, 4, (some .int), ({ frames := 2, cells := 0, slots := 0, locals := 46 } : Room), 2, 1, 763, 74, 761, 762)
theorem mo_X7_set : okM mi_X7_set = true := by decide +kernel
def mi_X7_plate : MI := (yX7_plate, cX7_plate, 1, (some .int), ({ frames := 2, cells := 0, slots := 0, locals := 44 } : Room), 0, 1, 785, 74, 783, 784)
theorem mo_X7_plate : okM mi_X7_plate = true := by decide +kernel
def mi_X7_lay : MI := (yX7_lay, cX7_lay, 3, (some .int), ({ frames := 3, cells := 0, slots := 0, locals := 67 } : Room), 1, 1, 799, 74, 797, 798)
theorem mo_X7_lay : okM mi_X7_lay = true := by decide +kernel
def mi_X7_writer : MI := (yX7_writer, cX7_writer, 3, (some .int), ({ frames := 2, cells := 0, slots := 0, locals := 46 } : Room), 1, 1, 815, 74, 813, 814)
theorem mo_X7_writer : okM mi_X7_writer = true := by decide +kernel
def mi_X7_write : MI := (yX7_write, cX7_write, 6, (some .int), ({ frames := 5, cells := 0, slots := 0, locals := 117 } : Room), 4, 1, 828, 74, 826, 827)
theorem mo_X7_write : okM mi_X7_write = true := by decide +kernel
def mi_X7_promise : MI := (yX7_promise, cX7_promise, 5, (some .int), ({ frames := 5, cells := 0, slots := 0, locals := 117 } : Room), 3, 1, 889, 74, 887, 888)
theorem mo_X7_promise : okM mi_X7_promise = true := by decide +kernel
def mi_X7_takeBack : MI := (yX7_takeBack, cX7_takeBack, 4, (some .int), ({ frames := 3, cells := 0, slots := 0, locals := 67 } : Room), 2, 1, 913, 74, 911, 912)
theorem mo_X7_takeBack : okM mi_X7_takeBack = true := by decide +kernel
def mi_X7_rub : MI := (yX7_rub, cX7_rub, 4, (some .int), ({ frames := 4, cells := 0, slots := 0, locals := 89 } : Room), 2, 1, 917, 74, 915, 916)
theorem mo_X7_rub : okM mi_X7_rub = true := by decide +kernel
def mi_X7_pass : MI := (yX7_pass, cX7_pass, 3, (some .int), ({ frames := 3, cells := 0, slots := 0, locals := 69 } : Room), 1, 1, 929, 74, 927, 928)
theorem mo_X7_pass : okM mi_X7_pass = true := by decide +kernel
def mi_X7_flag : MI := (yX7_flag, cX7_flag, 1, (some .int), ({ frames := 0, cells := 0, slots := 0, locals := 0 } : Room), 1, 0, 959, 74, 958, 0)
theorem mo_X7_flag : okM mi_X7_flag = true := by decide +kernel
def mi_Jxf58ca_isNaN_12338 : MI := (yJxf58ca_isNaN_12338, cJxf58ca_isNaN_12338, 1, (some .boolean), ({ frames := 0, cells := 0, slots := 0, locals := 0 } : Room), 1, 0, 952, 79, 951, 0)
theorem mo_Jxf58ca_isNaN_12338 : okM mi_Jxf58ca_isNaN_12338 = true := by decide +kernel
def mi_Jxf58ca_floatToIntBits_5c35a : MI := (yJxf58ca_floatToIntBits_5c35a, cJxf58ca_floatToIntBits_5c35a, 1, (some .int), ({ frames := 1, cells := 0, slots := 0, locals := 40 } : Room), 1, 0, 949, 79, 948, 0)
theorem mo_Jxf58ca_floatToIntBits_5c35a : okM mi_Jxf58ca_floatToIntBits_5c35a = true := by decide +kernel
def mi_X7_at : MI := (yX7_at, cX7_at, 7, (some .int), ({ frames := 4, cells := 0, slots := 0, locals := 94 } : Room), 3, 1, 946, 74, 944, 945)
theorem mo_X7_at : okM mi_X7_at = true := by decide +kernel
def mi_X7_isSo : MI := (yX7_isSo, cX7_isSo, 4, (some .boolean), ({ frames := 4, cells := 0, slots := 0, locals := 94 } : Room), 3, 1, 972, 74, 971, 48)
theorem mo_X7_isSo : okM mi_X7_isSo = true := by decide +kernel
def mi_X7_longestWord : MI := (yX7_longestWord, cX7_longestWord, 6, (some .int), ({ frames := 3, cells := 0, slots := 0, locals := 68 } : Room), 2, 1, 968, 74, 967, 47)
theorem mo_X7_longestWord : okM mi_X7_longestWord = true := by decide +kernel
def mi_X7_row : MI := (yX7_row, cX7_row, 5, (some .int), ({ frames := 5, cells := 0, slots := 0, locals := 117 } : Room), 2, 1, 963, 74, 961, 962)
theorem mo_X7_row : okM mi_X7_row = true := by decide +kernel
def mi_X7_counted : MI := (yX7_counted, cX7_counted, 7, (some .int), ({ frames := 3, cells := 0, slots := 0, locals := 68 } : Room), 2, 1, 980, 74, 979, 49)
theorem mo_X7_counted : okM mi_X7_counted = true := by decide +kernel
def mi_X7_of : MI := (yX7_of, cX7_of, 3, (some .int), ({ frames := 4, cells := 0, slots := 0, locals := 94 } : Room), 2, 1, 976, 74, 974, 975)
theorem mo_X7_of : okM mi_X7_of = true := by decide +kernel
def mi_X7_leastLight : MI := (yX7_leastLight, cX7_leastLight, 5, (some .float), ({ frames := 1, cells := 0, slots := 0, locals := 22 } : Room), 1, 1, 988, 74, 987, 50)
theorem mo_X7_leastLight : okM mi_X7_leastLight = true := by decide +kernel
def mi_X7_allLight : MI := (yX7_allLight, cX7_allLight, 4, (some .float), ({ frames := 1, cells := 0, slots := 0, locals := 22 } : Room), 1, 1, 992, 74, 991, 51)
theorem mo_X7_allLight : okM mi_X7_allLight = true := by decide +kernel
def mi_X7_ofPlate : MI := (yX7_ofPlate, cX7_ofPlate, 5, (some .int), ({ frames := 5, cells := 0, slots := 0, locals := 117 } : Room), 2, 1, 984, 74, 982, 983)
theorem mo_X7_ofPlate : okM mi_X7_ofPlate = true := by decide +kernel
def mi_X7_count : MI := (yX7_count, cX7_count, 2, (some .int), ({ frames := 0, cells := 0, slots := 0, locals := 0 } : Room), 1, 1, 996, 74, 994, 995)
theorem mo_X7_count : okM mi_X7_count = true := by decide +kernel
def mi_Jxe99ae_isNaN_b9ae7 : MI := (yJxe99ae_isNaN_b9ae7, cJxe99ae_isNaN_b9ae7, 2, (some .boolean), ({ frames := 0, cells := 0, slots := 0, locals := 0 } : Room), 1, 0, 1007, 80, 1006, 0)
theorem mo_Jxe99ae_isNaN_b9ae7 : okM mi_Jxe99ae_isNaN_b9ae7 = true := by decide +kernel
def mi_Jxe99ae_doubleToLongBits_ccdee : MI := (yJxe99ae_doubleToLongBits_ccdee, cJxe99ae_doubleToLongBits_ccdee, 2, (some .long), ({ frames := 1, cells := 0, slots := 0, locals := 40 } : Room), 1, 0, 1004, 80, 1003, 0)
theorem mo_Jxe99ae_doubleToLongBits_ccdee : okM mi_Jxe99ae_doubleToLongBits_ccdee = true := by decide +kernel
def mi_X7_mean : MI := (yX7_mean, cX7_mean, 4, (some .long), ({ frames := 2, cells := 0, slots := 0, locals := 61 } : Room), 0, 1, 1000, 74, 998, 999)
theorem mo_X7_mean : okM mi_X7_mean = true := by decide +kernel
def mi_X7_tooDark : MI := (yX7_tooDark, cX7_tooDark, 6, (some .int), ({ frames := 2, cells := 0, slots := 0, locals := 45 } : Room), 2, 1, 1020, 74, 1019, 52)
theorem mo_X7_tooDark : okM mi_X7_tooDark = true := by decide +kernel
def mi_X7_ifWritten : MI := (yX7_ifWritten, cX7_ifWritten, 7, (some .int), ({ frames := 5, cells := 0, slots := 0, locals := 118 } : Room), 4, 1, 1015, 74, 1013, 1014)
theorem mo_X7_ifWritten : okM mi_X7_ifWritten = true := by decide +kernel
def mi_X7_bestPlace : MI := (yX7_bestPlace, cX7_bestPlace, 1, (some .int), ({ frames := 5, cells := 0, slots := 0, locals := 122 } : Room), 0, 1, 1028, 74, 1026, 1027)
theorem mo_X7_bestPlace : okM mi_X7_bestPlace = true := by decide +kernel
def mi_X7_fills : MI := (yX7_fills, cX7_fills, 4, (some .int), ({ frames := 5, cells := 0, slots := 0, locals := 122 } : Room), 1, 1, 1036, 74, 1034, 1035)
theorem mo_X7_fills : okM mi_X7_fills = true := by decide +kernel
def mi_X7_leaves : MI := (yX7_leaves, cX7_leaves, 5, (some .float), ({ frames := 2, cells := 0, slots := 0, locals := 45 } : Room), 2, 1, 1044, 74, 1043, 55)
theorem mo_X7_leaves : okM mi_X7_leaves = true := by decide +kernel
def mi_X7_whoDims : MI := (yX7_whoDims, cX7_whoDims, 7, (some .int), ({ frames := 3, cells := 0, slots := 0, locals := 69 } : Room), 2, 1, 1040, 74, 1038, 1039)
theorem mo_X7_whoDims : okM mi_X7_whoDims = true := by decide +kernel
def mi_X7_areRead : MI := (yX7_areRead, cX7_areRead, 5, (some .boolean), ({ frames := 3, cells := 0, slots := 0, locals := 68 } : Room), 2, 1, 1052, 74, 1051, 56)
theorem mo_X7_areRead : okM mi_X7_areRead = true := by decide +kernel
def mi_X7_readableIn : MI := (yX7_readableIn, cX7_readableIn, 3, (some .int), ({ frames := 4, cells := 0, slots := 0, locals := 92 } : Room), 1, 1, 1048, 74, 1046, 1047)
theorem mo_X7_readableIn : okM mi_X7_readableIn = true := by decide +kernel
def mi_X7_charactersOf : MI := (yX7_charactersOf, cX7_charactersOf, 5, (some .int), ({ frames := 1, cells := 0, slots := 0, locals := 25 } : Room), 1, 0, 1059, 74, 1058, 0)
theorem mo_X7_charactersOf : okM mi_X7_charactersOf = true := by decide +kernel
def mi_X7_put : MI := (yX7_put, cX7_put, 5, (some .int), ({ frames := 2, cells := 0, slots := 0, locals := 49 } : Room), 1, 1, 1056, 74, 1054, 1055)
theorem mo_X7_put : okM mi_X7_put = true := by decide +kernel
def mi_X7_wipe : MI := (yX7_wipe, cX7_wipe, 2, (some .int), ({ frames := 0, cells := 0, slots := 0, locals := 0 } : Room), 0, 1, 1066, 74, 1064, 1065)
theorem mo_X7_wipe : okM mi_X7_wipe = true := by decide +kernel
def mi_X7_isHere : MI := (yX7_isHere, cX7_isHere, 3, (some .boolean), ({ frames := 1, cells := 0, slots := 0, locals := 25 } : Room), 2, 1, 1082, 74, 1081, 59)
theorem mo_X7_isHere : okM mi_X7_isHere = true := by decide +kernel
def mi_X7_takes : MI := (yX7_takes, cX7_takes, 3, (some .boolean), ({ frames := 2, cells := 0, slots := 0, locals := 47 } : Room), 1, 1, 1090, 74, 1089, 61)
theorem mo_X7_takes : okM mi_X7_takes = true := by decide +kernel
def mi_X7_digit : MI := (yX7_digit, cX7_digit, 2, (some .int), ({ frames := 2, cells := 0, slots := 0, locals := 47 } : Room), 0, 1, 1078, 74, 1077, 58)
theorem mo_X7_digit : okM mi_X7_digit = true := by decide +kernel
def mi_X7_number : MI := (yX7_number, cX7_number, 2, (some .int), ({ frames := 3, cells := 0, slots := 0, locals := 68 } : Room), 0, 1, 1094, 74, 1093, 62)
theorem mo_X7_number : okM mi_X7_number = true := by decide +kernel
def mi_X7_readsPlace : MI := (yX7_readsPlace, cX7_readsPlace, 1, (some .boolean), ({ frames := 4, cells := 0, slots := 0, locals := 89 } : Room), 0, 1, 1086, 74, 1085, 60)
theorem mo_X7_readsPlace : okM mi_X7_readsPlace = true := by decide +kernel
def mi_X7_readsLetters : MI := (yX7_readsLetters, cX7_readsLetters, 1, (some .boolean), ({ frames := 2, cells := 0, slots := 0, locals := 47 } : Room), 0, 1, 1098, 74, 1097, 63)
theorem mo_X7_readsLetters : okM mi_X7_readsLetters = true := by decide +kernel
def mi_X7_readsOrder : MI := (yX7_readsOrder, cX7_readsOrder, 1, (some .boolean), ({ frames := 5, cells := 0, slots := 0, locals := 109 } : Room), 0, 1, 1074, 74, 1073, 57)
theorem mo_X7_readsOrder : okM mi_X7_readsOrder = true := by decide +kernel
def mi_X7_fault : MI := (yX7_fault, cX7_fault, 2, (some .int), ({ frames := 6, cells := 0, slots := 0, locals := 129 } : Room), 0, 1, 1070, 74, 1068, 1069)
theorem mo_X7_fault : okM mi_X7_fault = true := by decide +kernel
def mi_X7_orderError : MI := (yX7_orderError, cX7_orderError, 2, (some .int), ({ frames := 5, cells := 0, slots := 0, locals := 117 } : Room), 1, 1, 1107, 74, 1106, 64)
theorem mo_X7_orderError : okM mi_X7_orderError = true := by decide +kernel
def mi_X7_does : MI := (yX7_does, cX7_does, 2, (some .int), ({ frames := 5, cells := 0, slots := 0, locals := 117 } : Room), 1, 1, 1111, 74, 1110, 65)
theorem mo_X7_does : okM mi_X7_does = true := by decide +kernel
def mi_X7_carryOut : MI := (yX7_carryOut, cX7_carryOut, 7, (some .int), ({ frames := 7, cells := 0, slots := 0, locals := 150 } : Room), 0, 1, 1102, 74, 1100, 1101)
theorem mo_X7_carryOut : okM mi_X7_carryOut = true := by decide +kernel
def mi_X7_undo : MI := (yX7_undo, cX7_undo, 1, (some .int), ({ frames := 1, cells := 0, slots := 0, locals := 23 } : Room), 0, 1, 1115, 74, 1113, 1114)
theorem mo_X7_undo : okM mi_X7_undo = true := by decide +kernel
def mi_X7_isSlot : MI := (yX7_isSlot, cX7_isSlot, 1, (some .boolean), ({ frames := 0, cells := 0, slots := 0, locals := 0 } : Room), 1, 0, 1122, 74, 1121, 0)
theorem mo_X7_isSlot : okM mi_X7_isSlot = true := by decide +kernel
def mi_X7_save : MI := (yX7_save, cX7_save, 2, (some .int), ({ frames := 1, cells := 0, slots := 0, locals := 23 } : Room), 1, 1, 1119, 74, 1117, 1118)
theorem mo_X7_save : okM mi_X7_save = true := by decide +kernel
def mi_X7_restore : MI := (yX7_restore, cX7_restore, 2, (some .int), ({ frames := 2, cells := 0, slots := 0, locals := 44 } : Room), 1, 1, 1126, 74, 1124, 1125)
theorem mo_X7_restore : okM mi_X7_restore = true := by decide +kernel
end
section
/-! stretches of code (printed by wip/whole/gen/meth.py) -/
def gm_X1_init : List MI := []
def sg_X1_init_0 : List Ins := [(0, .aload_n 0, 0, 0, 0, 0), (1, .invokespecial 3, 101, 0, 8, 0), (4, .aload_n 0, 0, 0, 0, 0), (5, .bipush 120, 120, 0, 0, 0), (7, .newarray .float, 9, 0, 126, 0), (9, .putfield 9, 1, 0, 102, 0), (12, .aload_n 0, 0, 0, 0, 0), (13, .bipush 120, 120, 0, 0, 0), (15, .newarray .int, 8, 0, 125, 0), (17, .putfield 15, 1, 1, 106, 0), (20, .aload_n 0, 0, 0, 0, 0), (21, .bipush 120, 120, 0, 0, 0), (23, .newarray .int, 8, 0, 125, 0), (25, .putfield 19, 1, 2, 109, 0), (28, .aload_n 0, 0, 0, 0, 0), (29, .bipush 120, 120, 0, 0, 0), (31, .newarray .int, 8, 0, 125, 0), (33, .putfield 22, 1, 3, 112, 0), (36, .return_, 0, 0, 0, 0)]
theorem so_X1_init_0 : sgOK mi_X1_init gm_X1_init sg_X1_init_0 = true := by decide +kernel
def sgs_X1_init : Nat → Option (List Ins) := fun t => match t with
  | 0 => some sg_X1_init_0
  | _ => none
theorem so_X1_init : ∀ t sg, sgs_X1_init t = some sg → sgOK mi_X1_init gm_X1_init sg = true ∧ segPc sg = t := by
  intro t sg h
  unfold sgs_X1_init at h
  split at h
  · cases h; exact ⟨so_X1_init_0, rfl⟩
  · cases h
def gm_X1_copyFrom : List MI := []
def sg_X1_copyFrom_0 : List Ins := [(0, .aload_n 1, 0, 0, 0, 0), (1, .getfield 9, 1, 0, 102, 0), (4, .iconst 0, 0, 0, 0, 0), (5, .aload_n 0, 0, 0, 0, 0), (6, .getfield 9, 1, 0, 102, 0), (9, .iconst 0, 0, 0, 0, 0), (10, .bipush 120, 120, 0, 0, 0), (12, .invokestatic 34, 305, 0, 5, 0), (15, .aload_n 1, 0, 0, 0, 0), (16, .getfield 15, 1, 1, 106, 0), (19, .iconst 0, 0, 0, 0, 0), (20, .aload_n 0, 0, 0, 0, 0), (21, .getfield 15, 1, 1, 106, 0), (24, .iconst 0, 0, 0, 0, 0), (25, .bipush 120, 120, 0, 0, 0), (27, .invokestatic 34, 305, 0, 4, 0), (30, .aload_n 1, 0, 0, 0, 0), (31, .getfield 19, 1, 2, 109, 0), (34, .iconst 0, 0, 0, 0, 0), (35, .aload_n 0, 0, 0, 0, 0), (36, .getfield 19, 1, 2, 109, 0), (39, .iconst 0, 0, 0, 0, 0), (40, .bipush 120, 120, 0, 0, 0), (42, .invokestatic 34, 305, 0, 4, 0), (45, .aload_n 1, 0, 0, 0, 0), (46, .getfield 22, 1, 3, 112, 0), (49, .iconst 0, 0, 0, 0, 0), (50, .aload_n 0, 0, 0, 0, 0), (51, .getfield 22, 1, 3, 112, 0), (54, .iconst 0, 0, 0, 0, 0), (55, .bipush 120, 120, 0, 0, 0), (57, .invokestatic 34, 305, 0, 4, 0), (60, .return_, 0, 0, 0, 0)]
theorem so_X1_copyFrom_0 : sgOK mi_X1_copyFrom gm_X1_copyFrom sg_X1_copyFrom_0 = true := by decide +kernel
def sgs_X1_copyFrom : Nat → Option (List Ins) := fun t => match t with
  | 0 => some sg_X1_copyFrom_0
  | _ => none
theorem so_X1_copyFrom : ∀ t sg, sgs_X1_copyFrom t = some sg → sgOK mi_X1_copyFrom gm_X1_copyFrom sg = true ∧ segPc sg = t := by
  intro t sg h
  unfold sgs_X1_copyFrom at h
  split at h
  · cases h; exact ⟨so_X1_copyFrom_0, rfl⟩
  · cases h
def gm_J7_fill_e525d : List MI := []
def sg_J7_fill_e525d_0 : List Ins := [(0, .iconst 0, 0, 0, 0, 0), (1, .istore_n 2, 0, 0, 0, 0), (2, .aload_n 0, 0, 0, 0, 0), (3, .arraylength, 9, 0, 0, 0), (4, .istore_n 3, 0, 0, 0, 0), (5, .nop, 0, 0, 0, 0)]
theorem so_J7_fill_e525d_0 : sgOK mi_J7_fill_e525d gm_J7_fill_e525d sg_J7_fill_e525d_0 = true := by decide +kernel
def sg_J7_fill_e525d_5 : List Ins := [(5, .iload_n 2, 0, 0, 0, 0), (6, .iload_n 3, 0, 0, 0, 0), (7, .if_icmp .ge 13, 0, 0, 20, 0), (10, .aload_n 0, 0, 0, 0, 0), (11, .iload_n 2, 0, 0, 0, 0), (12, .fload_n 1, 0, 0, 0, 0), (13, .fastore, 0, 0, 0, 0), (14, .iinc 2 1, 1, 0, 0, 0), (17, .goto (-12), 0, 0, 5, 0)]
theorem so_J7_fill_e525d_5 : sgOK mi_J7_fill_e525d gm_J7_fill_e525d sg_J7_fill_e525d_5 = true := by decide +kernel
def sg_J7_fill_e525d_20 : List Ins := [(20, .return_, 0, 0, 0, 0)]
theorem so_J7_fill_e525d_20 : sgOK mi_J7_fill_e525d gm_J7_fill_e525d sg_J7_fill_e525d_20 = true := by decide +kernel
def sgs_J7_fill_e525d : Nat → Option (List Ins) := fun t => match t with
  | 0 => some sg_J7_fill_e525d_0
  | 20 => some sg_J7_fill_e525d_20
  | _ => none
theorem so_J7_fill_e525d : ∀ t sg, sgs_J7_fill_e525d t = some sg → sgOK mi_J7_fill_e525d gm_J7_fill_e525d sg = true ∧ segPc sg = t := by
  intro t sg h
  unfold sgs_J7_fill_e525d at h
  split at h
  · cases h; exact ⟨so_J7_fill_e525d_0, rfl⟩
  · cases h; exact ⟨so_J7_fill_e525d_20, rfl⟩
  · cases h
def gm_J7_fill_53178 : List MI := []
def sg_J7_fill_53178_0 : List Ins := [(0, .iconst 0, 0, 0, 0, 0), (1, .istore_n 2, 0, 0, 0, 0), (2, .aload_n 0, 0, 0, 0, 0), (3, .arraylength, 8, 0, 0, 0), (4, .istore_n 3, 0, 0, 0, 0), (5, .nop, 0, 0, 0, 0)]
theorem so_J7_fill_53178_0 : sgOK mi_J7_fill_53178 gm_J7_fill_53178 sg_J7_fill_53178_0 = true := by decide +kernel
def sg_J7_fill_53178_5 : List Ins := [(5, .iload_n 2, 0, 0, 0, 0), (6, .iload_n 3, 0, 0, 0, 0), (7, .if_icmp .ge 13, 0, 0, 20, 0), (10, .aload_n 0, 0, 0, 0, 0), (11, .iload_n 2, 0, 0, 0, 0), (12, .iload_n 1, 0, 0, 0, 0), (13, .iastore, 0, 0, 0, 0), (14, .iinc 2 1, 1, 0, 0, 0), (17, .goto (-12), 0, 0, 5, 0)]
theorem so_J7_fill_53178_5 : sgOK mi_J7_fill_53178 gm_J7_fill_53178 sg_J7_fill_53178_5 = true := by decide +kernel
def sg_J7_fill_53178_20 : List Ins := [(20, .return_, 0, 0, 0, 0)]
theorem so_J7_fill_53178_20 : sgOK mi_J7_fill_53178 gm_J7_fill_53178 sg_J7_fill_53178_20 = true := by decide +kernel
def sgs_J7_fill_53178 : Nat → Option (List Ins) := fun t => match t with
  | 0 => some sg_J7_fill_53178_0
  | 20 => some sg_J7_fill_53178_20
  | _ => none
theorem so_J7_fill_53178 : ∀ t sg, sgs_J7_fill_53178 t = some sg → sgOK mi_J7_fill_53178 gm_J7_fill_53178 sg = true ∧ segPc sg = t := by
  intro t sg h
  unfold sgs_J7_fill_53178 at h
  split at h
  · cases h; exact ⟨so_J7_fill_53178_0, rfl⟩
  · cases h; exact ⟨so_J7_fill_53178_20, rfl⟩
  · cases h
def gm_X1_makeNew : List MI := [mi_J7_fill_e525d, mi_J7_fill_53178]
def sg_X1_makeNew_0 : List Ins := [(0, .aload_n 0, 0, 0, 0, 0), (1, .getfield 9, 1, 0, 102, 0), (4, .fconst 1, 0, 0, 0, 0), (5, .invokestatic 25, 333, 0, 0, 2), (8, .aload_n 0, 0, 0, 0, 0), (9, .getfield 15, 1, 1, 106, 0), (12, .bipush (-6), 6, 1, 0, 0), (14, .invokestatic 31, 336, 1, 0, 2), (17, .aload_n 0, 0, 0, 0, 0), (18, .getfield 19, 1, 2, 109, 0), (21, .bipush (-6), 6, 1, 0, 0), (23, .invokestatic 31, 336, 1, 0, 2), (26, .aload_n 0, 0, 0, 0, 0), (27, .getfield 22, 1, 3, 112, 0), (30, .bipush (-6), 6, 1, 0, 0), (32, .invokestatic 31, 336, 1, 0, 2), (35, .return_, 0, 0, 0, 0)]
theorem so_X1_makeNew_0 : sgOK mi_X1_makeNew gm_X1_makeNew sg_X1_makeNew_0 = true := by decide +kernel
def sgs_X1_makeNew : Nat → Option (List Ins) := fun t => match t with
  | 0 => some sg_X1_makeNew_0
  | _ => none
theorem so_X1_makeNew : ∀ t sg, sgs_X1_makeNew t = some sg → sgOK mi_X1_makeNew gm_X1_makeNew sg = true ∧ segPc sg = t := by
  intro t sg h
  unfold sgs_X1_makeNew at h
  split at h
  · cases h; exact ⟨so_X1_makeNew_0, rfl⟩
  · cases h
def gm_J9_max_7cf53 : List MI := []
def sg_J9_max_7cf53_0 : List Ins := [(0, .iload_n 0, 0, 0, 0, 0), (1, .iload_n 1, 0, 0, 0, 0), (2, .if_icmp .lt 7, 0, 0, 9, 0), (5, .iload_n 0, 0, 0, 0, 0), (6, .goto 4, 0, 0, 10, 0)]
theorem so_J9_max_7cf53_0 : sgOK mi_J9_max_7cf53 gm_J9_max_7cf53 sg_J9_max_7cf53_0 = true := by decide +kernel
def sg_J9_max_7cf53_9 : List Ins := [(9, .iload_n 1, 0, 0, 0, 0), (10, .ireturn, 0, 0, 0, 0)]
theorem so_J9_max_7cf53_9 : sgOK mi_J9_max_7cf53 gm_J9_max_7cf53 sg_J9_max_7cf53_9 = true := by decide +kernel
def sg_J9_max_7cf53_10 : List Ins := [(10, .ireturn, 0, 0, 0, 0)]
theorem so_J9_max_7cf53_10 : sgOK mi_J9_max_7cf53 gm_J9_max_7cf53 sg_J9_max_7cf53_10 = true := by decide +kernel
def sgs_J9_max_7cf53 : Nat → Option (List Ins) := fun t => match t with
  | 0 => some sg_J9_max_7cf53_0
  | 9 => some sg_J9_max_7cf53_9
  | 10 => some sg_J9_max_7cf53_10
  | _ => none
theorem so_J9_max_7cf53 : ∀ t sg, sgs_J9_max_7cf53 t = some sg → sgOK mi_J9_max_7cf53 gm_J9_max_7cf53 sg = true ∧ segPc sg = t := by
  intro t sg h
  unfold sgs_J9_max_7cf53 at h
  split at h
  · cases h; exact ⟨so_J9_max_7cf53_0, rfl⟩
  · cases h; exact ⟨so_J9_max_7cf53_9, rfl⟩
  · cases h; exact ⟨so_J9_max_7cf53_10, rfl⟩
  · cases h
def gm_J9_min_7cf53 : List MI := []
def sg_J9_min_7cf53_0 : List Ins := [(0, .iload_n 0, 0, 0, 0, 0), (1, .iload_n 1, 0, 0, 0, 0), (2, .if_icmp .gt 7, 0, 0, 9, 0), (5, .iload_n 0, 0, 0, 0, 0), (6, .goto 4, 0, 0, 10, 0)]
theorem so_J9_min_7cf53_0 : sgOK mi_J9_min_7cf53 gm_J9_min_7cf53 sg_J9_min_7cf53_0 = true := by decide +kernel
def sg_J9_min_7cf53_9 : List Ins := [(9, .iload_n 1, 0, 0, 0, 0), (10, .ireturn, 0, 0, 0, 0)]
theorem so_J9_min_7cf53_9 : sgOK mi_J9_min_7cf53 gm_J9_min_7cf53 sg_J9_min_7cf53_9 = true := by decide +kernel
def sg_J9_min_7cf53_10 : List Ins := [(10, .ireturn, 0, 0, 0, 0)]
theorem so_J9_min_7cf53_10 : sgOK mi_J9_min_7cf53 gm_J9_min_7cf53 sg_J9_min_7cf53_10 = true := by decide +kernel
def sgs_J9_min_7cf53 : Nat → Option (List Ins) := fun t => match t with
  | 0 => some sg_J9_min_7cf53_0
  | 9 => some sg_J9_min_7cf53_9
  | 10 => some sg_J9_min_7cf53_10
  | _ => none
theorem so_J9_min_7cf53 : ∀ t sg, sgs_J9_min_7cf53 t = some sg → sgOK mi_J9_min_7cf53 gm_J9_min_7cf53 sg = true ∧ segPc sg = t := by
  intro t sg h
  unfold sgs_J9_min_7cf53 at h
  split at h
  · cases h; exact ⟨so_J9_min_7cf53_0, rfl⟩
  · cases h; exact ⟨so_J9_min_7cf53_9, rfl⟩
  · cases h; exact ⟨so_J9_min_7cf53_10, rfl⟩
  · cases h
def gm_J9_abs_0f7a4 : List MI := []
def sg_J9_abs_0f7a4_0 : List Ins := [(0, .iload_n 0, 0, 0, 0, 0), (1, .ifCond .ge 8, 0, 0, 9, 0), (4, .iload_n 0, 0, 0, 0, 0), (5, .ineg, 0, 0, 0, 0), (6, .goto 4, 0, 0, 10, 0)]
theorem so_J9_abs_0f7a4_0 : sgOK mi_J9_abs_0f7a4 gm_J9_abs_0f7a4 sg_J9_abs_0f7a4_0 = true := by decide +kernel
def sg_J9_abs_0f7a4_9 : List Ins := [(9, .iload_n 0, 0, 0, 0, 0), (10, .ireturn, 0, 0, 0, 0)]
theorem so_J9_abs_0f7a4_9 : sgOK mi_J9_abs_0f7a4 gm_J9_abs_0f7a4 sg_J9_abs_0f7a4_9 = true := by decide +kernel
def sg_J9_abs_0f7a4_10 : List Ins := [(10, .ireturn, 0, 0, 0, 0)]
theorem so_J9_abs_0f7a4_10 : sgOK mi_J9_abs_0f7a4 gm_J9_abs_0f7a4 sg_J9_abs_0f7a4_10 = true := by decide +kernel
def sgs_J9_abs_0f7a4 : Nat → Option (List Ins) := fun t => match t with
  | 0 => some sg_J9_abs_0f7a4_0
  | 9 => some sg_J9_abs_0f7a4_9
  | 10 => some sg_J9_abs_0f7a4_10
  | _ => none
theorem so_J9_abs_0f7a4 : ∀ t sg, sgs_J9_abs_0f7a4 t = some sg → sgOK mi_J9_abs_0f7a4 gm_J9_abs_0f7a4 sg = true ∧ segPc sg = t := by
  intro t sg h
  unfold sgs_J9_abs_0f7a4 at h
  split at h
  · cases h; exact ⟨so_J9_abs_0f7a4_0, rfl⟩
  · cases h; exact ⟨so_J9_abs_0f7a4_9, rfl⟩
  · cases h; exact ⟨so_J9_abs_0f7a4_10, rfl⟩
  · cases h
def gm_X1_isFree : List MI := []
def sg_X1_isFree_0 : List Ins := [(0, .aload_n 0, 0, 0, 0, 0), (1, .getfield 15, 1, 1, 106, 0), (4, .iload_n 1, 0, 0, 0, 0), (5, .iaload, 8, 0, 0, 0), (6, .bipush (-6), 6, 1, 0, 0), (8, .if_icmp .ne 18, 0, 0, 26, 0), (11, .aload_n 0, 0, 0, 0, 0), (12, .getfield 22, 1, 3, 112, 0), (15, .iload_n 1, 0, 0, 0, 0), (16, .iaload, 8, 0, 0, 0), (17, .bipush (-6), 6, 1, 0, 0), (19, .if_icmp .ne 7, 0, 0, 26, 0), (22, .iconst 1, 1, 0, 0, 0), (23, .goto 4, 0, 0, 27, 0)]
theorem so_X1_isFree_0 : sgOK mi_X1_isFree gm_X1_isFree sg_X1_isFree_0 = true := by decide +kernel
def sg_X1_isFree_26 : List Ins := [(26, .iconst 0, 0, 0, 0, 0), (27, .ireturn, 0, 0, 0, 0)]
theorem so_X1_isFree_26 : sgOK mi_X1_isFree gm_X1_isFree sg_X1_isFree_26 = true := by decide +kernel
def sg_X1_isFree_27 : List Ins := [(27, .ireturn, 0, 0, 0, 0)]
theorem so_X1_isFree_27 : sgOK mi_X1_isFree gm_X1_isFree sg_X1_isFree_27 = true := by decide +kernel
def sgs_X1_isFree : Nat → Option (List Ins) := fun t => match t with
  | 0 => some sg_X1_isFree_0
  | 26 => some sg_X1_isFree_26
  | 27 => some sg_X1_isFree_27
  | _ => none
theorem so_X1_isFree : ∀ t sg, sgs_X1_isFree t = some sg → sgOK mi_X1_isFree gm_X1_isFree sg = true ∧ segPc sg = t := by
  intro t sg h
  unfold sgs_X1_isFree at h
  split at h
  · cases h; exact ⟨so_X1_isFree_0, rfl⟩
  · cases h; exact ⟨so_X1_isFree_26, rfl⟩
  · cases h; exact ⟨so_X1_isFree_27, rfl⟩
  · cases h
def gm_X1_promisedPlaces : List MI := []
def sg_X1_promisedPlaces_0 : List Ins := [(0, .iconst 0, 0, 0, 0, 0), (1, .istore_n 1, 0, 0, 0, 0), (2, .iconst 0, 0, 0, 0, 0), (3, .istore_n 2, 0, 0, 0, 0), (4, .nop, 0, 0, 0, 0)]
theorem so_X1_promisedPlaces_0 : sgOK mi_X1_promisedPlaces gm_X1_promisedPlaces sg_X1_promisedPlaces_0 = true := by decide +kernel
def sg_X1_promisedPlaces_4 : List Ins := [(4, .iload_n 2, 0, 0, 0, 0), (5, .bipush 120, 120, 0, 0, 0), (7, .if_icmp .ge 28, 0, 0, 35, 0), (10, .iload_n 1, 0, 0, 0, 0), (11, .aload_n 0, 0, 0, 0, 0), (12, .getfield 22, 1, 3, 112, 0), (15, .iload_n 2, 0, 0, 0, 0), (16, .iaload, 8, 0, 0, 0), (17, .bipush (-6), 6, 1, 0, 0), (19, .if_icmp .eq 7, 0, 0, 26, 0), (22, .iconst 1, 1, 0, 0, 0), (23, .goto 4, 0, 0, 27, 0)]
theorem so_X1_promisedPlaces_4 : sgOK mi_X1_promisedPlaces gm_X1_promisedPlaces sg_X1_promisedPlaces_4 = true := by decide +kernel
def sg_X1_promisedPlaces_26 : List Ins := [(26, .iconst 0, 0, 0, 0, 0), (27, .iadd, 0, 0, 0, 0), (28, .istore_n 1, 0, 0, 0, 0), (29, .iinc 2 1, 1, 0, 0, 0), (32, .goto (-28), 0, 0, 4, 0)]
theorem so_X1_promisedPlaces_26 : sgOK mi_X1_promisedPlaces gm_X1_promisedPlaces sg_X1_promisedPlaces_26 = true := by decide +kernel
def sg_X1_promisedPlaces_27 : List Ins := [(27, .iadd, 0, 0, 0, 0), (28, .istore_n 1, 0, 0, 0, 0), (29, .iinc 2 1, 1, 0, 0, 0), (32, .goto (-28), 0, 0, 4, 0)]
theorem so_X1_promisedPlaces_27 : sgOK mi_X1_promisedPlaces gm_X1_promisedPlaces sg_X1_promisedPlaces_27 = true := by decide +kernel
def sg_X1_promisedPlaces_35 : List Ins := [(35, .iload_n 1, 0, 0, 0, 0), (36, .ireturn, 0, 0, 0, 0)]
theorem so_X1_promisedPlaces_35 : sgOK mi_X1_promisedPlaces gm_X1_promisedPlaces sg_X1_promisedPlaces_35 = true := by decide +kernel
def sgs_X1_promisedPlaces : Nat → Option (List Ins) := fun t => match t with
  | 0 => some sg_X1_promisedPlaces_0
  | 26 => some sg_X1_promisedPlaces_26
  | 27 => some sg_X1_promisedPlaces_27
  | 35 => some sg_X1_promisedPlaces_35
  | _ => none
theorem so_X1_promisedPlaces : ∀ t sg, sgs_X1_promisedPlaces t = some sg → sgOK mi_X1_promisedPlaces gm_X1_promisedPlaces sg = true ∧ segPc sg = t := by
  intro t sg h
  unfold sgs_X1_promisedPlaces at h
  split at h
  · cases h; exact ⟨so_X1_promisedPlaces_0, rfl⟩
  · cases h; exact ⟨so_X1_promisedPlaces_26, rfl⟩
  · cases h; exact ⟨so_X1_promisedPlaces_27, rfl⟩
  · cases h; exact ⟨so_X1_promisedPlaces_35, rfl⟩
  · cases h
def gm_X1_leastLight : List MI := []
def sg_X1_leastLight_0 : List Ins := [(0, .aload_n 0, 0, 0, 0, 0), (1, .getfield 9, 1, 0, 102, 0), (4, .iconst 0, 0, 0, 0, 0), (5, .faload, 0, 0, 0, 0), (6, .fstore_n 1, 0, 0, 0, 0), (7, .iconst 1, 1, 0, 0, 0), (8, .istore_n 2, 0, 0, 0, 0), (9, .nop, 0, 0, 0, 0)]
theorem so_X1_leastLight_0 : sgOK mi_X1_leastLight gm_X1_leastLight sg_X1_leastLight_0 = true := by decide +kernel
def sg_X1_leastLight_9 : List Ins := [(9, .iload_n 2, 0, 0, 0, 0), (10, .bipush 120, 120, 0, 0, 0), (12, .if_icmp .ge 31, 0, 0, 43, 0), (15, .aload_n 0, 0, 0, 0, 0), (16, .getfield 9, 1, 0, 102, 0), (19, .iload_n 2, 0, 0, 0, 0), (20, .faload, 0, 0, 0, 0), (21, .fload_n 1, 0, 0, 0, 0), (22, .fcmp .g, 0, 0, 0, 0), (23, .ifCond .ge 12, 0, 0, 35, 0), (26, .aload_n 0, 0, 0, 0, 0), (27, .getfield 9, 1, 0, 102, 0), (30, .iload_n 2, 0, 0, 0, 0), (31, .faload, 0, 0, 0, 0), (32, .goto 4, 0, 0, 36, 0)]
theorem so_X1_leastLight_9 : sgOK mi_X1_leastLight gm_X1_leastLight sg_X1_leastLight_9 = true := by decide +kernel
def sg_X1_leastLight_35 : List Ins := [(35, .fload_n 1, 0, 0, 0, 0), (36, .fstore_n 1, 0, 0, 0, 0), (37, .iinc 2 1, 1, 0, 0, 0), (40, .goto (-31), 0, 0, 9, 0)]
theorem so_X1_leastLight_35 : sgOK mi_X1_leastLight gm_X1_leastLight sg_X1_leastLight_35 = true := by decide +kernel
def sg_X1_leastLight_36 : List Ins := [(36, .fstore_n 1, 0, 0, 0, 0), (37, .iinc 2 1, 1, 0, 0, 0), (40, .goto (-31), 0, 0, 9, 0)]
theorem so_X1_leastLight_36 : sgOK mi_X1_leastLight gm_X1_leastLight sg_X1_leastLight_36 = true := by decide +kernel
def sg_X1_leastLight_43 : List Ins := [(43, .fload_n 1, 0, 0, 0, 0), (44, .freturn, 0, 0, 0, 0)]
theorem so_X1_leastLight_43 : sgOK mi_X1_leastLight gm_X1_leastLight sg_X1_leastLight_43 = true := by decide +kernel
def sgs_X1_leastLight : Nat → Option (List Ins) := fun t => match t with
  | 0 => some sg_X1_leastLight_0
  | 35 => some sg_X1_leastLight_35
  | 36 => some sg_X1_leastLight_36
  | 43 => some sg_X1_leastLight_43
  | _ => none
theorem so_X1_leastLight : ∀ t sg, sgs_X1_leastLight t = some sg → sgOK mi_X1_leastLight gm_X1_leastLight sg = true ∧ segPc sg = t := by
  intro t sg h
  unfold sgs_X1_leastLight at h
  split at h
  · cases h; exact ⟨so_X1_leastLight_0, rfl⟩
  · cases h; exact ⟨so_X1_leastLight_35, rfl⟩
  · cases h; exact ⟨so_X1_leastLight_36, rfl⟩
  · cases h; exact ⟨so_X1_leastLight_43, rfl⟩
  · cases h
def gm_X1_sumOfLight : List MI := []
def sg_X1_sumOfLight_0 : List Ins := [(0, .fconst 0, 0, 0, 0, 0), (1, .fstore_n 1, 0, 0, 0, 0), (2, .iconst 0, 0, 0, 0, 0), (3, .istore_n 2, 0, 0, 0, 0), (4, .nop, 0, 0, 0, 0)]
theorem so_X1_sumOfLight_0 : sgOK mi_X1_sumOfLight gm_X1_sumOfLight sg_X1_sumOfLight_0 = true := by decide +kernel
def sg_X1_sumOfLight_4 : List Ins := [(4, .iload_n 2, 0, 0, 0, 0), (5, .bipush 120, 120, 0, 0, 0), (7, .if_icmp .ge 18, 0, 0, 25, 0), (10, .fload_n 1, 0, 0, 0, 0), (11, .aload_n 0, 0, 0, 0, 0), (12, .getfield 9, 1, 0, 102, 0), (15, .iload_n 2, 0, 0, 0, 0), (16, .faload, 0, 0, 0, 0), (17, .fadd, 0, 0, 0, 0), (18, .fstore_n 1, 0, 0, 0, 0), (19, .iinc 2 1, 1, 0, 0, 0), (22, .goto (-18), 0, 0, 4, 0)]
theorem so_X1_sumOfLight_4 : sgOK mi_X1_sumOfLight gm_X1_sumOfLight sg_X1_sumOfLight_4 = true := by decide +kernel
def sg_X1_sumOfLight_25 : List Ins := [(25, .fload_n 1, 0, 0, 0, 0), (26, .freturn, 0, 0, 0, 0)]
theorem so_X1_sumOfLight_25 : sgOK mi_X1_sumOfLight gm_X1_sumOfLight sg_X1_sumOfLight_25 = true := by decide +kernel
def sgs_X1_sumOfLight : Nat → Option (List Ins) := fun t => match t with
  | 0 => some sg_X1_sumOfLight_0
  | 25 => some sg_X1_sumOfLight_25
  | _ => none
theorem so_X1_sumOfLight : ∀ t sg, sgs_X1_sumOfLight t = some sg → sgOK mi_X1_sumOfLight gm_X1_sumOfLight sg = true ∧ segPc sg = t := by
  intro t sg h
  unfold sgs_X1_sumOfLight at h
  split at h
  · cases h; exact ⟨so_X1_sumOfLight_0, rfl⟩
  · cases h; exact ⟨so_X1_sumOfLight_25, rfl⟩
  · cases h
def gm_X4_init : List MI := []
def sg_X4_init_0 : List Ins := [(0, .aload_n 0, 0, 0, 0, 0), (1, .invokespecial 3, 195, 0, 8, 0), (4, .aload_n 0, 0, 0, 0, 0), (5, .bipush 80, 80, 0, 0, 0), (7, .newarray .char, 11, 0, 207, 0), (9, .putfield 11, 4, 0, 196, 0), (12, .aload_n 0, 0, 0, 0, 0), (13, .iconst 0, 0, 0, 0, 0), (14, .putfield 15, 4, 1, 198, 0), (17, .return_, 0, 0, 0, 0)]
theorem so_X4_init_0 : sgOK mi_X4_init gm_X4_init sg_X4_init_0 = true := by decide +kernel
def sgs_X4_init : Nat → Option (List Ins) := fun t => match t with
  | 0 => some sg_X4_init_0
  | _ => none
theorem so_X4_init : ∀ t sg, sgs_X4_init t = some sg → sgOK mi_X4_init gm_X4_init sg = true ∧ segPc sg = t := by
  intro t sg h
  unfold sgs_X4_init at h
  split at h
  · cases h; exact ⟨so_X4_init_0, rfl⟩
  · cases h
def gm_X3_init : List MI := [mi_X4_init]
def sg_X3_init_0 : List Ins := [(0, .aload_n 0, 0, 0, 0, 0), (1, .invokespecial 3, 189, 0, 8, 0), (4, .aload_n 0, 0, 0, 0, 0), (5, .new 9, 4, 191, 190, 72), (8, .dup, 0, 0, 0, 0), (9, .invokespecial 11, 192, 0, 3, 1), (12, .putfield 12, 3, 0, 208, 0), (15, .aload_n 0, 0, 0, 0, 0), (16, .bipush 80, 80, 0, 0, 0), (18, .newarray .char, 11, 0, 207, 0), (20, .putfield 18, 3, 1, 210, 0), (23, .aload_n 0, 0, 0, 0, 0), (24, .bipush 80, 80, 0, 0, 0), (26, .newarray .int, 8, 0, 125, 0), (28, .putfield 22, 3, 2, 212, 0), (31, .aload_n 0, 0, 0, 0, 0), (32, .bipush 80, 80, 0, 0, 0), (34, .newarray .int, 8, 0, 125, 0), (36, .putfield 26, 3, 3, 214, 0), (39, .aload_n 0, 0, 0, 0, 0), (40, .bipush 80, 80, 0, 0, 0), (42, .newarray .int, 8, 0, 125, 0), (44, .putfield 29, 3, 4, 216, 0), (47, .aload_n 0, 0, 0, 0, 0), (48, .bipush 80, 80, 0, 0, 0), (50, .newarray .int, 8, 0, 125, 0), (52, .putfield 32, 3, 5, 218, 0), (55, .aload_n 0, 0, 0, 0, 0), (56, .iconst 0, 0, 0, 0, 0), (57, .putfield 35, 3, 6, 220, 0), (60, .aload_n 0, 0, 0, 0, 0), (61, .iconst 0, 0, 0, 0, 0), (62, .putfield 39, 3, 7, 222, 0), (65, .aload_n 0, 0, 0, 0, 0), (66, .iconst 0, 0, 0, 0, 0), (67, .putfield 42, 3, 8, 223, 0), (70, .aload_n 0, 0, 0, 0, 0), (71, .iconst 0, 0, 0, 0, 0), (72, .putfield 45, 3, 9, 224, 0), (75, .aload_n 0, 0, 0, 0, 0), (76, .iconst 0, 0, 0, 0, 0), (77, .putfield 48, 3, 10, 225, 0), (80, .aload_n 0, 0, 0, 0, 0), (81, .iconst 0, 0, 0, 0, 0), (82, .putfield 51, 3, 11, 226, 0), (85, .return_, 0, 0, 0, 0)]
theorem so_X3_init_0 : sgOK mi_X3_init gm_X3_init sg_X3_init_0 = true := by decide +kernel
def sgs_X3_init : Nat → Option (List Ins) := fun t => match t with
  | 0 => some sg_X3_init_0
  | _ => none
theorem so_X3_init : ∀ t sg, sgs_X3_init t = some sg → sgOK mi_X3_init gm_X3_init sg = true ∧ segPc sg = t := by
  intro t sg h
  unfold sgs_X3_init at h
  split at h
  · cases h; exact ⟨so_X3_init_0, rfl⟩
  · cases h
def gm_X3_look : List MI := []
def sg_X3_look_0 : List Ins := [(0, .aload_n 0, 0, 0, 0, 0), (1, .getfield 39, 3, 7, 222, 0), (4, .aload_n 0, 0, 0, 0, 0), (5, .getfield 12, 3, 0, 208, 0), (8, .getfield 58, 4, 1, 199, 0), (11, .if_icmp .ge 18, 0, 0, 29, 0), (14, .aload_n 0, 0, 0, 0, 0), (15, .getfield 12, 3, 0, 208, 0), (18, .getfield 94, 4, 0, 197, 0), (21, .aload_n 0, 0, 0, 0, 0), (22, .getfield 39, 3, 7, 222, 0), (25, .caload, 0, 0, 0, 0), (26, .goto 4, 0, 0, 30, 0)]
theorem so_X3_look_0 : sgOK mi_X3_look gm_X3_look sg_X3_look_0 = true := by decide +kernel
def sg_X3_look_29 : List Ins := [(29, .iconst 0, 0, 0, 0, 0), (30, .ireturn, 0, 0, 0, 0)]
theorem so_X3_look_29 : sgOK mi_X3_look gm_X3_look sg_X3_look_29 = true := by decide +kernel
def sg_X3_look_30 : List Ins := [(30, .ireturn, 0, 0, 0, 0)]
theorem so_X3_look_30 : sgOK mi_X3_look gm_X3_look sg_X3_look_30 = true := by decide +kernel
def sgs_X3_look : Nat → Option (List Ins) := fun t => match t with
  | 0 => some sg_X3_look_0
  | 29 => some sg_X3_look_29
  | 30 => some sg_X3_look_30
  | _ => none
theorem so_X3_look : ∀ t sg, sgs_X3_look t = some sg → sgOK mi_X3_look gm_X3_look sg = true ∧ segPc sg = t := by
  intro t sg h
  unfold sgs_X3_look at h
  split at h
  · cases h; exact ⟨so_X3_look_0, rfl⟩
  · cases h; exact ⟨so_X3_look_29, rfl⟩
  · cases h; exact ⟨so_X3_look_30, rfl⟩
  · cases h
def gm_X3_reads : List MI := [mi_X3_look]
def sg_X3_reads_0 : List Ins := [(0, .aload_n 0, 0, 0, 0, 0), (1, .invokevirtual 65, 648, 0, 13, 1), (4, .iload_n 1, 0, 0, 0, 0), (5, .if_icmp .eq 5, 0, 0, 10, 0), (8, .iconst 0, 0, 0, 0, 0), (9, .ireturn, 0, 0, 0, 0)]
theorem so_X3_reads_0 : sgOK mi_X3_reads gm_X3_reads sg_X3_reads_0 = true := by decide +kernel
def sg_X3_reads_10 : List Ins := [(10, .aload_n 0, 0, 0, 0, 0), (11, .dup, 0, 0, 0, 0), (12, .getfield 39, 3, 7, 222, 0), (15, .iconst 1, 1, 0, 0, 0), (16, .iadd, 0, 0, 0, 0), (17, .putfield 39, 3, 7, 222, 0), (20, .iconst 1, 1, 0, 0, 0), (21, .ireturn, 0, 0, 0, 0)]
theorem so_X3_reads_10 : sgOK mi_X3_reads gm_X3_reads sg_X3_reads_10 = true := by decide +kernel
def sgs_X3_reads : Nat → Option (List Ins) := fun t => match t with
  | 0 => some sg_X3_reads_0
  | 10 => some sg_X3_reads_10
  | _ => none
theorem so_X3_reads : ∀ t sg, sgs_X3_reads t = some sg → sgOK mi_X3_reads gm_X3_reads sg = true ∧ segPc sg = t := by
  intro t sg h
  unfold sgs_X3_reads at h
  split at h
  · cases h; exact ⟨so_X3_reads_0, rfl⟩
  · cases h; exact ⟨so_X3_reads_10, rfl⟩
  · cases h
def gm_X3_add : List MI := []
def sg_X3_add_0 : List Ins := [(0, .aload_n 0, 0, 0, 0, 0), (1, .getfield 35, 3, 6, 220, 0), (4, .bipush 80, 80, 0, 0, 0), (6, .if_icmp .ge 72, 0, 0, 78, 0), (9, .aload_n 0, 0, 0, 0, 0), (10, .getfield 18, 3, 1, 210, 0), (13, .aload_n 0, 0, 0, 0, 0), (14, .getfield 35, 3, 6, 220, 0), (17, .iload_n 1, 0, 0, 0, 0), (18, .castore, 0, 0, 0, 0), (19, .aload_n 0, 0, 0, 0, 0), (20, .getfield 22, 3, 2, 212, 0), (23, .aload_n 0, 0, 0, 0, 0), (24, .getfield 35, 3, 6, 220, 0), (27, .aload_n 0, 0, 0, 0, 0), (28, .getfield 45, 3, 9, 224, 0), (31, .iastore, 0, 0, 0, 0), (32, .aload_n 0, 0, 0, 0, 0), (33, .getfield 26, 3, 3, 214, 0), (36, .aload_n 0, 0, 0, 0, 0), (37, .getfield 35, 3, 6, 220, 0), (40, .aload_n 0, 0, 0, 0, 0), (41, .getfield 48, 3, 10, 225, 0), (44, .iastore, 0, 0, 0, 0), (45, .aload_n 0, 0, 0, 0, 0), (46, .getfield 29, 3, 4, 216, 0), (49, .aload_n 0, 0, 0, 0, 0), (50, .getfield 35, 3, 6, 220, 0), (53, .aload_n 0, 0, 0, 0, 0), (54, .getfield 51, 3, 11, 226, 0), (57, .iastore, 0, 0, 0, 0), (58, .aload_n 0, 0, 0, 0, 0), (59, .getfield 32, 3, 5, 218, 0), (62, .aload_n 0, 0, 0, 0, 0), (63, .getfield 35, 3, 6, 220, 0), (66, .iload_n 2, 0, 0, 0, 0), (67, .iastore, 0, 0, 0, 0), (68, .aload_n 0, 0, 0, 0, 0), (69, .dup, 0, 0, 0, 0), (70, .getfield 35, 3, 6, 220, 0), (73, .iconst 1, 1, 0, 0, 0), (74, .iadd, 0, 0, 0, 0), (75, .putfield 35, 3, 6, 220, 0), (78, .iconst 1, 1, 0, 0, 0), (79, .ireturn, 0, 0, 0, 0)]
theorem so_X3_add_0 : sgOK mi_X3_add gm_X3_add sg_X3_add_0 = true := by decide +kernel
def sg_X3_add_78 : List Ins := [(78, .iconst 1, 1, 0, 0, 0), (79, .ireturn, 0, 0, 0, 0)]
theorem so_X3_add_78 : sgOK mi_X3_add gm_X3_add sg_X3_add_78 = true := by decide +kernel
def sgs_X3_add : Nat → Option (List Ins) := fun t => match t with
  | 0 => some sg_X3_add_0
  | 78 => some sg_X3_add_78
  | _ => none
theorem so_X3_add : ∀ t sg, sgs_X3_add t = some sg → sgOK mi_X3_add gm_X3_add sg = true ∧ segPc sg = t := by
  intro t sg h
  unfold sgs_X3_add at h
  split at h
  · cases h; exact ⟨so_X3_add_0, rfl⟩
  · cases h; exact ⟨so_X3_add_78, rfl⟩
  · cases h
def gm_X3_isDigit : List MI := []
def sg_X3_isDigit_0 : List Ins := [(0, .iload_n 0, 0, 0, 0, 0), (1, .bipush 48, 48, 0, 0, 0), (3, .if_icmp .lt 13, 0, 0, 16, 0), (6, .iload_n 0, 0, 0, 0, 0), (7, .bipush 57, 57, 0, 0, 0), (9, .if_icmp .gt 7, 0, 0, 16, 0), (12, .iconst 1, 1, 0, 0, 0), (13, .goto 4, 0, 0, 17, 0)]
theorem so_X3_isDigit_0 : sgOK mi_X3_isDigit gm_X3_isDigit sg_X3_isDigit_0 = true := by decide +kernel
def sg_X3_isDigit_16 : List Ins := [(16, .iconst 0, 0, 0, 0, 0), (17, .ireturn, 0, 0, 0, 0)]
theorem so_X3_isDigit_16 : sgOK mi_X3_isDigit gm_X3_isDigit sg_X3_isDigit_16 = true := by decide +kernel
def sg_X3_isDigit_17 : List Ins := [(17, .ireturn, 0, 0, 0, 0)]
theorem so_X3_isDigit_17 : sgOK mi_X3_isDigit gm_X3_isDigit sg_X3_isDigit_17 = true := by decide +kernel
def sgs_X3_isDigit : Nat → Option (List Ins) := fun t => match t with
  | 0 => some sg_X3_isDigit_0
  | 16 => some sg_X3_isDigit_16
  | 17 => some sg_X3_isDigit_17
  | _ => none
theorem so_X3_isDigit : ∀ t sg, sgs_X3_isDigit t = some sg → sgOK mi_X3_isDigit gm_X3_isDigit sg = true ∧ segPc sg = t := by
  intro t sg h
  unfold sgs_X3_isDigit at h
  split at h
  · cases h; exact ⟨so_X3_isDigit_0, rfl⟩
  · cases h; exact ⟨so_X3_isDigit_16, rfl⟩
  · cases h; exact ⟨so_X3_isDigit_17, rfl⟩
  · cases h
def gm_X3_readFirstDigit : List MI := [mi_X3_look, mi_X3_isDigit]
def sg_X3_readFirstDigit_0 : List Ins := [(0, .aload_n 0, 0, 0, 0, 0), (1, .invokevirtual 65, 648, 0, 13, 1), (4, .invokestatic 85, 664, 1, 0, 1), (7, .ifCond .ne 5, 0, 0, 12, 0), (10, .iconst 0, 0, 0, 0, 0), (11, .ireturn, 0, 0, 0, 0)]
theorem so_X3_readFirstDigit_0 : sgOK mi_X3_readFirstDigit gm_X3_readFirstDigit sg_X3_readFirstDigit_0 = true := by decide +kernel
def sg_X3_readFirstDigit_12 : List Ins := [(12, .aload_n 0, 0, 0, 0, 0), (13, .aload_n 0, 0, 0, 0, 0), (14, .invokevirtual 65, 648, 0, 13, 1), (17, .bipush 48, 48, 0, 0, 0), (19, .isub, 0, 0, 0, 0), (20, .putfield 45, 3, 9, 224, 0), (23, .aload_n 0, 0, 0, 0, 0), (24, .dup, 0, 0, 0, 0), (25, .getfield 39, 3, 7, 222, 0), (28, .iconst 1, 1, 0, 0, 0), (29, .iadd, 0, 0, 0, 0), (30, .putfield 39, 3, 7, 222, 0), (33, .iconst 1, 1, 0, 0, 0), (34, .ireturn, 0, 0, 0, 0)]
theorem so_X3_readFirstDigit_12 : sgOK mi_X3_readFirstDigit gm_X3_readFirstDigit sg_X3_readFirstDigit_12 = true := by decide +kernel
def sgs_X3_readFirstDigit : Nat → Option (List Ins) := fun t => match t with
  | 0 => some sg_X3_readFirstDigit_0
  | 12 => some sg_X3_readFirstDigit_12
  | _ => none
theorem so_X3_readFirstDigit : ∀ t sg, sgs_X3_readFirstDigit t = some sg → sgOK mi_X3_readFirstDigit gm_X3_readFirstDigit sg = true ∧ segPc sg = t := by
  intro t sg h
  unfold sgs_X3_readFirstDigit at h
  split at h
  · cases h; exact ⟨so_X3_readFirstDigit_0, rfl⟩
  · cases h; exact ⟨so_X3_readFirstDigit_12, rfl⟩
  · cases h
def gm_X3_readNumber : List MI := [mi_X3_look, mi_X3_isDigit]
def sg_X3_readNumber_0 : List Ins := [(0, .aload_n 0, 0, 0, 0, 0), (1, .invokevirtual 65, 648, 0, 13, 1), (4, .invokestatic 85, 664, 1, 0, 1), (7, .ifCond .ne 5, 0, 0, 12, 0), (10, .iconst 0, 0, 0, 0, 0), (11, .ireturn, 0, 0, 0, 0)]
theorem so_X3_readNumber_0 : sgOK mi_X3_readNumber gm_X3_readNumber sg_X3_readNumber_0 = true := by decide +kernel
def sg_X3_readNumber_12 : List Ins := [(12, .aload_n 0, 0, 0, 0, 0), (13, .aload_n 0, 0, 0, 0, 0), (14, .invokevirtual 65, 648, 0, 13, 1), (17, .bipush 48, 48, 0, 0, 0), (19, .isub, 0, 0, 0, 0), (20, .putfield 42, 3, 8, 223, 0), (23, .aload_n 0, 0, 0, 0, 0), (24, .dup, 0, 0, 0, 0), (25, .getfield 39, 3, 7, 222, 0), (28, .iconst 1, 1, 0, 0, 0), (29, .iadd, 0, 0, 0, 0), (30, .putfield 39, 3, 7, 222, 0), (33, .aload_n 0, 0, 0, 0, 0), (34, .getfield 42, 3, 8, 223, 0), (37, .ifCond .le 42, 0, 0, 79, 0), (40, .aload_n 0, 0, 0, 0, 0), (41, .invokevirtual 65, 648, 0, 13, 1), (44, .invokestatic 85, 664, 1, 0, 1), (47, .ifCond .eq 32, 0, 0, 79, 0), (50, .aload_n 0, 0, 0, 0, 0), (51, .bipush 10, 10, 0, 0, 0), (53, .aload_n 0, 0, 0, 0, 0), (54, .getfield 42, 3, 8, 223, 0), (57, .imul, 0, 0, 0, 0), (58, .aload_n 0, 0, 0, 0, 0), (59, .invokevirtual 65, 648, 0, 13, 1), (62, .iadd, 0, 0, 0, 0), (63, .bipush 48, 48, 0, 0, 0), (65, .isub, 0, 0, 0, 0), (66, .putfield 42, 3, 8, 223, 0), (69, .aload_n 0, 0, 0, 0, 0), (70, .dup, 0, 0, 0, 0), (71, .getfield 39, 3, 7, 222, 0), (74, .iconst 1, 1, 0, 0, 0), (75, .iadd, 0, 0, 0, 0), (76, .putfield 39, 3, 7, 222, 0), (79, .iconst 1, 1, 0, 0, 0), (80, .ireturn, 0, 0, 0, 0)]
theorem so_X3_readNumber_12 : sgOK mi_X3_readNumber gm_X3_readNumber sg_X3_readNumber_12 = true := by decide +kernel
def sg_X3_readNumber_79 : List Ins := [(79, .iconst 1, 1, 0, 0, 0), (80, .ireturn, 0, 0, 0, 0)]
theorem so_X3_readNumber_79 : sgOK mi_X3_readNumber gm_X3_readNumber sg_X3_readNumber_79 = true := by decide +kernel
def sgs_X3_readNumber : Nat → Option (List Ins) := fun t => match t with
  | 0 => some sg_X3_readNumber_0
  | 12 => some sg_X3_readNumber_12
  | 79 => some sg_X3_readNumber_79
  | _ => none
theorem so_X3_readNumber : ∀ t sg, sgs_X3_readNumber t = some sg → sgOK mi_X3_readNumber gm_X3_readNumber sg = true ∧ segPc sg = t := by
  intro t sg h
  unfold sgs_X3_readNumber at h
  split at h
  · cases h; exact ⟨so_X3_readNumber_0, rfl⟩
  · cases h; exact ⟨so_X3_readNumber_12, rfl⟩
  · cases h; exact ⟨so_X3_readNumber_79, rfl⟩
  · cases h
def gm_X3_readPlace : List MI := [mi_X3_reads, mi_X3_readNumber]
def sg_X3_readPlace_0 : List Ins := [(0, .aload_n 0, 0, 0, 0, 0), (1, .bipush 64, 64, 0, 0, 0), (3, .invokevirtual 61, 652, 0, 13, 2), (6, .ifCond .eq 10, 0, 0, 16, 0), (9, .aload_n 0, 0, 0, 0, 0), (10, .invokevirtual 88, 671, 1, 13, 1), (13, .ifCond .ne 5, 0, 0, 18, 0), (16, .iconst 0, 0, 0, 0, 0), (17, .ireturn, 0, 0, 0, 0)]
theorem so_X3_readPlace_0 : sgOK mi_X3_readPlace gm_X3_readPlace sg_X3_readPlace_0 = true := by decide +kernel
def sg_X3_readPlace_16 : List Ins := [(16, .iconst 0, 0, 0, 0, 0), (17, .ireturn, 0, 0, 0, 0)]
theorem so_X3_readPlace_16 : sgOK mi_X3_readPlace gm_X3_readPlace sg_X3_readPlace_16 = true := by decide +kernel
def sg_X3_readPlace_18 : List Ins := [(18, .aload_n 0, 0, 0, 0, 0), (19, .aload_n 0, 0, 0, 0, 0), (20, .getfield 42, 3, 8, 223, 0), (23, .putfield 48, 3, 10, 225, 0), (26, .aload_n 0, 0, 0, 0, 0), (27, .bipush 46, 46, 0, 0, 0), (29, .invokevirtual 61, 652, 0, 13, 2), (32, .ifCond .eq 10, 0, 0, 42, 0), (35, .aload_n 0, 0, 0, 0, 0), (36, .invokevirtual 88, 671, 1, 13, 1), (39, .ifCond .ne 5, 0, 0, 44, 0), (42, .iconst 0, 0, 0, 0, 0), (43, .ireturn, 0, 0, 0, 0)]
theorem so_X3_readPlace_18 : sgOK mi_X3_readPlace gm_X3_readPlace sg_X3_readPlace_18 = true := by decide +kernel
def sg_X3_readPlace_42 : List Ins := [(42, .iconst 0, 0, 0, 0, 0), (43, .ireturn, 0, 0, 0, 0)]
theorem so_X3_readPlace_42 : sgOK mi_X3_readPlace gm_X3_readPlace sg_X3_readPlace_42 = true := by decide +kernel
def sg_X3_readPlace_44 : List Ins := [(44, .aload_n 0, 0, 0, 0, 0), (45, .aload_n 0, 0, 0, 0, 0), (46, .getfield 42, 3, 8, 223, 0), (49, .putfield 51, 3, 11, 226, 0), (52, .iconst 1, 1, 0, 0, 0), (53, .ireturn, 0, 0, 0, 0)]
theorem so_X3_readPlace_44 : sgOK mi_X3_readPlace gm_X3_readPlace sg_X3_readPlace_44 = true := by decide +kernel
def sgs_X3_readPlace : Nat → Option (List Ins) := fun t => match t with
  | 0 => some sg_X3_readPlace_0
  | 16 => some sg_X3_readPlace_16
  | 18 => some sg_X3_readPlace_18
  | 42 => some sg_X3_readPlace_42
  | 44 => some sg_X3_readPlace_44
  | _ => none
theorem so_X3_readPlace : ∀ t sg, sgs_X3_readPlace t = some sg → sgOK mi_X3_readPlace gm_X3_readPlace sg = true ∧ segPc sg = t := by
  intro t sg h
  unfold sgs_X3_readPlace at h
  split at h
  · cases h; exact ⟨so_X3_readPlace_0, rfl⟩
  · cases h; exact ⟨so_X3_readPlace_16, rfl⟩
  · cases h; exact ⟨so_X3_readPlace_18, rfl⟩
  · cases h; exact ⟨so_X3_readPlace_42, rfl⟩
  · cases h; exact ⟨so_X3_readPlace_44, rfl⟩
  · cases h
def gm_X3_isLetter : List MI := []
def sg_X3_isLetter_0 : List Ins := [(0, .iload_n 0, 0, 0, 0, 0), (1, .bipush 97, 97, 0, 0, 0), (3, .if_icmp .lt 13, 0, 0, 16, 0), (6, .iload_n 0, 0, 0, 0, 0), (7, .bipush 122, 122, 0, 0, 0), (9, .if_icmp .gt 7, 0, 0, 16, 0), (12, .iconst 1, 1, 0, 0, 0), (13, .goto 4, 0, 0, 17, 0)]
theorem so_X3_isLetter_0 : sgOK mi_X3_isLetter gm_X3_isLetter sg_X3_isLetter_0 = true := by decide +kernel
def sg_X3_isLetter_16 : List Ins := [(16, .iconst 0, 0, 0, 0, 0), (17, .ireturn, 0, 0, 0, 0)]
theorem so_X3_isLetter_16 : sgOK mi_X3_isLetter gm_X3_isLetter sg_X3_isLetter_16 = true := by decide +kernel
def sg_X3_isLetter_17 : List Ins := [(17, .ireturn, 0, 0, 0, 0)]
theorem so_X3_isLetter_17 : sgOK mi_X3_isLetter gm_X3_isLetter sg_X3_isLetter_17 = true := by decide +kernel
def sgs_X3_isLetter : Nat → Option (List Ins) := fun t => match t with
  | 0 => some sg_X3_isLetter_0
  | 16 => some sg_X3_isLetter_16
  | 17 => some sg_X3_isLetter_17
  | _ => none
theorem so_X3_isLetter : ∀ t sg, sgs_X3_isLetter t = some sg → sgOK mi_X3_isLetter gm_X3_isLetter sg = true ∧ segPc sg = t := by
  intro t sg h
  unfold sgs_X3_isLetter at h
  split at h
  · cases h; exact ⟨so_X3_isLetter_0, rfl⟩
  · cases h; exact ⟨so_X3_isLetter_16, rfl⟩
  · cases h; exact ⟨so_X3_isLetter_17, rfl⟩
  · cases h
def gm_X3_readLetters : List MI := [mi_X3_look, mi_X3_isLetter, mi_X3_add]
def sg_X3_readLetters_0 : List Ins := [(0, .aload_n 0, 0, 0, 0, 0), (1, .invokevirtual 65, 648, 0, 13, 1), (4, .invokestatic 91, 679, 1, 0, 1), (7, .ifCond .ne 5, 0, 0, 12, 0), (10, .iconst 0, 0, 0, 0, 0), (11, .ireturn, 0, 0, 0, 0)]
theorem so_X3_readLetters_0 : sgOK mi_X3_readLetters gm_X3_readLetters sg_X3_readLetters_0 = true := by decide +kernel
def sg_X3_readLetters_12 : List Ins := [(12, .aload_n 0, 0, 0, 0, 0), (13, .getfield 39, 3, 7, 222, 0), (16, .aload_n 0, 0, 0, 0, 0), (17, .getfield 12, 3, 0, 208, 0), (20, .getfield 58, 4, 1, 199, 0), (23, .if_icmp .ge 50, 0, 0, 73, 0), (26, .aload_n 0, 0, 0, 0, 0), (27, .invokevirtual 65, 648, 0, 13, 1), (30, .invokestatic 91, 679, 1, 0, 1), (33, .ifCond .eq 40, 0, 0, 73, 0), (36, .aload_n 0, 0, 0, 0, 0), (37, .bipush 119, 119, 0, 0, 0), (39, .aload_n 0, 0, 0, 0, 0), (40, .invokevirtual 65, 648, 0, 13, 1), (43, .bipush 97, 97, 0, 0, 0), (45, .isub, 0, 0, 0, 0), (46, .invokevirtual 69, 656, 2, 13, 3), (49, .pop, 0, 0, 0, 0), (50, .aload_n 0, 0, 0, 0, 0), (51, .dup, 0, 0, 0, 0), (52, .getfield 51, 3, 11, 226, 0), (55, .iconst 1, 1, 0, 0, 0), (56, .iadd, 0, 0, 0, 0), (57, .putfield 51, 3, 11, 226, 0), (60, .aload_n 0, 0, 0, 0, 0), (61, .dup, 0, 0, 0, 0), (62, .getfield 39, 3, 7, 222, 0), (65, .iconst 1, 1, 0, 0, 0), (66, .iadd, 0, 0, 0, 0), (67, .putfield 39, 3, 7, 222, 0), (70, .goto (-58), 0, 0, 12, 0)]
theorem so_X3_readLetters_12 : sgOK mi_X3_readLetters gm_X3_readLetters sg_X3_readLetters_12 = true := by decide +kernel
def sg_X3_readLetters_73 : List Ins := [(73, .iconst 1, 1, 0, 0, 0), (74, .ireturn, 0, 0, 0, 0)]
theorem so_X3_readLetters_73 : sgOK mi_X3_readLetters gm_X3_readLetters sg_X3_readLetters_73 = true := by decide +kernel
def sgs_X3_readLetters : Nat → Option (List Ins) := fun t => match t with
  | 0 => some sg_X3_readLetters_0
  | 73 => some sg_X3_readLetters_73
  | _ => none
theorem so_X3_readLetters : ∀ t sg, sgs_X3_readLetters t = some sg → sgOK mi_X3_readLetters gm_X3_readLetters sg = true ∧ segPc sg = t := by
  intro t sg h
  unfold sgs_X3_readLetters at h
  split at h
  · cases h; exact ⟨so_X3_readLetters_0, rfl⟩
  · cases h; exact ⟨so_X3_readLetters_73, rfl⟩
  · cases h
def gm_X3_readFirstNumber : List MI := [mi_X3_readNumber]
def sg_X3_readFirstNumber_0 : List Ins := [(0, .aload_n 0, 0, 0, 0, 0), (1, .invokevirtual 88, 671, 0, 13, 1), (4, .istore_n 1, 0, 0, 0, 0), (5, .aload_n 0, 0, 0, 0, 0), (6, .aload_n 0, 0, 0, 0, 0), (7, .getfield 42, 3, 8, 223, 0), (10, .putfield 45, 3, 9, 224, 0), (13, .iload_n 1, 0, 0, 0, 0), (14, .ireturn, 0, 0, 0, 0)]
theorem so_X3_readFirstNumber_0 : sgOK mi_X3_readFirstNumber gm_X3_readFirstNumber sg_X3_readFirstNumber_0 = true := by decide +kernel
def sgs_X3_readFirstNumber : Nat → Option (List Ins) := fun t => match t with
  | 0 => some sg_X3_readFirstNumber_0
  | _ => none
theorem so_X3_readFirstNumber : ∀ t sg, sgs_X3_readFirstNumber t = some sg → sgOK mi_X3_readFirstNumber gm_X3_readFirstNumber sg = true ∧ segPc sg = t := by
  intro t sg h
  unfold sgs_X3_readFirstNumber at h
  split at h
  · cases h; exact ⟨so_X3_readFirstNumber_0, rfl⟩
  · cases h
def gm_X3_readOrder : List MI := [mi_X3_look, mi_X3_reads, mi_X3_add, mi_X3_readFirstDigit, mi_X3_readPlace, mi_X3_readLetters, mi_X3_readFirstNumber]
def sg_X3_readOrder_0 : List Ins := [(0, .aload_n 0, 0, 0, 0, 0), (1, .invokevirtual 65, 648, 0, 13, 1), (4, .istore_n 1, 0, 0, 0, 0), (5, .iload_n 1, 0, 0, 0, 0), (6, .tableswitch 276 104 120 #[246, 276, 276, 105, 276, 276, 82, 105, 179, 276, 276, 276, 276, 276, 276, 135, 216], 82, 0, 0, 0)]
theorem so_X3_readOrder_0 : sgOK mi_X3_readOrder gm_X3_readOrder sg_X3_readOrder_0 = true := by decide +kernel
def sg_X3_readOrder_88 : List Ins := [(88, .aload_n 0, 0, 0, 0, 0), (89, .iload_n 1, 0, 0, 0, 0), (90, .invokevirtual 61, 652, 1, 13, 2), (93, .ifCond .eq 16, 0, 0, 109, 0), (96, .aload_n 0, 0, 0, 0, 0), (97, .iload_n 1, 0, 0, 0, 0), (98, .iconst 0, 0, 0, 0, 0), (99, .invokevirtual 69, 656, 2, 13, 3), (102, .ifCond .eq 7, 0, 0, 109, 0), (105, .iconst 1, 1, 0, 0, 0), (106, .goto 4, 0, 0, 110, 0)]
theorem so_X3_readOrder_88 : sgOK mi_X3_readOrder gm_X3_readOrder sg_X3_readOrder_88 = true := by decide +kernel
def sg_X3_readOrder_109 : List Ins := [(109, .iconst 0, 0, 0, 0, 0), (110, .ireturn, 0, 0, 0, 0)]
theorem so_X3_readOrder_109 : sgOK mi_X3_readOrder gm_X3_readOrder sg_X3_readOrder_109 = true := by decide +kernel
def sg_X3_readOrder_110 : List Ins := [(110, .ireturn, 0, 0, 0, 0)]
theorem so_X3_readOrder_110 : sgOK mi_X3_readOrder gm_X3_readOrder sg_X3_readOrder_110 = true := by decide +kernel
def sg_X3_readOrder_111 : List Ins := [(111, .aload_n 0, 0, 0, 0, 0), (112, .iload_n 1, 0, 0, 0, 0), (113, .invokevirtual 61, 652, 1, 13, 2), (116, .ifCond .eq 23, 0, 0, 139, 0), (119, .aload_n 0, 0, 0, 0, 0), (120, .invokevirtual 73, 660, 3, 13, 1), (123, .ifCond .eq 16, 0, 0, 139, 0), (126, .aload_n 0, 0, 0, 0, 0), (127, .iload_n 1, 0, 0, 0, 0), (128, .iconst 0, 0, 0, 0, 0), (129, .invokevirtual 69, 656, 2, 13, 3), (132, .ifCond .eq 7, 0, 0, 139, 0), (135, .iconst 1, 1, 0, 0, 0), (136, .goto 4, 0, 0, 140, 0)]
theorem so_X3_readOrder_111 : sgOK mi_X3_readOrder gm_X3_readOrder sg_X3_readOrder_111 = true := by decide +kernel
def sg_X3_readOrder_139 : List Ins := [(139, .iconst 0, 0, 0, 0, 0), (140, .ireturn, 0, 0, 0, 0)]
theorem so_X3_readOrder_139 : sgOK mi_X3_readOrder gm_X3_readOrder sg_X3_readOrder_139 = true := by decide +kernel
def sg_X3_readOrder_140 : List Ins := [(140, .ireturn, 0, 0, 0, 0)]
theorem so_X3_readOrder_140 : sgOK mi_X3_readOrder gm_X3_readOrder sg_X3_readOrder_140 = true := by decide +kernel
def sg_X3_readOrder_141 : List Ins := [(141, .aload_n 0, 0, 0, 0, 0), (142, .iload_n 1, 0, 0, 0, 0), (143, .invokevirtual 61, 652, 1, 13, 2), (146, .ifCond .eq 37, 0, 0, 183, 0), (149, .aload_n 0, 0, 0, 0, 0), (150, .invokevirtual 73, 660, 3, 13, 1), (153, .ifCond .eq 30, 0, 0, 183, 0), (156, .aload_n 0, 0, 0, 0, 0), (157, .invokevirtual 76, 667, 4, 13, 1), (160, .ifCond .eq 23, 0, 0, 183, 0), (163, .aload_n 0, 0, 0, 0, 0), (164, .bipush 61, 61, 0, 0, 0), (166, .invokevirtual 61, 652, 1, 13, 2), (169, .ifCond .eq 14, 0, 0, 183, 0), (172, .aload_n 0, 0, 0, 0, 0), (173, .invokevirtual 79, 675, 5, 13, 1), (176, .ifCond .eq 7, 0, 0, 183, 0), (179, .iconst 1, 1, 0, 0, 0), (180, .goto 4, 0, 0, 184, 0)]
theorem so_X3_readOrder_141 : sgOK mi_X3_readOrder gm_X3_readOrder sg_X3_readOrder_141 = true := by decide +kernel
def sg_X3_readOrder_183 : List Ins := [(183, .iconst 0, 0, 0, 0, 0), (184, .ireturn, 0, 0, 0, 0)]
theorem so_X3_readOrder_183 : sgOK mi_X3_readOrder gm_X3_readOrder sg_X3_readOrder_183 = true := by decide +kernel
def sg_X3_readOrder_184 : List Ins := [(184, .ireturn, 0, 0, 0, 0)]
theorem so_X3_readOrder_184 : sgOK mi_X3_readOrder gm_X3_readOrder sg_X3_readOrder_184 = true := by decide +kernel
def sg_X3_readOrder_185 : List Ins := [(185, .aload_n 0, 0, 0, 0, 0), (186, .iload_n 1, 0, 0, 0, 0), (187, .invokevirtual 61, 652, 1, 13, 2), (190, .ifCond .eq 30, 0, 0, 220, 0), (193, .aload_n 0, 0, 0, 0, 0), (194, .invokevirtual 73, 660, 3, 13, 1), (197, .ifCond .eq 23, 0, 0, 220, 0), (200, .aload_n 0, 0, 0, 0, 0), (201, .invokevirtual 76, 667, 4, 13, 1), (204, .ifCond .eq 16, 0, 0, 220, 0), (207, .aload_n 0, 0, 0, 0, 0), (208, .iload_n 1, 0, 0, 0, 0), (209, .iconst 0, 0, 0, 0, 0), (210, .invokevirtual 69, 656, 2, 13, 3), (213, .ifCond .eq 7, 0, 0, 220, 0), (216, .iconst 1, 1, 0, 0, 0), (217, .goto 4, 0, 0, 221, 0)]
theorem so_X3_readOrder_185 : sgOK mi_X3_readOrder gm_X3_readOrder sg_X3_readOrder_185 = true := by decide +kernel
def sg_X3_readOrder_220 : List Ins := [(220, .iconst 0, 0, 0, 0, 0), (221, .ireturn, 0, 0, 0, 0)]
theorem so_X3_readOrder_220 : sgOK mi_X3_readOrder gm_X3_readOrder sg_X3_readOrder_220 = true := by decide +kernel
def sg_X3_readOrder_221 : List Ins := [(221, .ireturn, 0, 0, 0, 0)]
theorem so_X3_readOrder_221 : sgOK mi_X3_readOrder gm_X3_readOrder sg_X3_readOrder_221 = true := by decide +kernel
def sg_X3_readOrder_222 : List Ins := [(222, .aload_n 0, 0, 0, 0, 0), (223, .iload_n 1, 0, 0, 0, 0), (224, .invokevirtual 61, 652, 1, 13, 2), (227, .ifCond .eq 23, 0, 0, 250, 0), (230, .aload_n 0, 0, 0, 0, 0), (231, .invokevirtual 76, 667, 4, 13, 1), (234, .ifCond .eq 16, 0, 0, 250, 0), (237, .aload_n 0, 0, 0, 0, 0), (238, .iload_n 1, 0, 0, 0, 0), (239, .iconst 0, 0, 0, 0, 0), (240, .invokevirtual 69, 656, 2, 13, 3), (243, .ifCond .eq 7, 0, 0, 250, 0), (246, .iconst 1, 1, 0, 0, 0), (247, .goto 4, 0, 0, 251, 0)]
theorem so_X3_readOrder_222 : sgOK mi_X3_readOrder gm_X3_readOrder sg_X3_readOrder_222 = true := by decide +kernel
def sg_X3_readOrder_250 : List Ins := [(250, .iconst 0, 0, 0, 0, 0), (251, .ireturn, 0, 0, 0, 0)]
theorem so_X3_readOrder_250 : sgOK mi_X3_readOrder gm_X3_readOrder sg_X3_readOrder_250 = true := by decide +kernel
def sg_X3_readOrder_251 : List Ins := [(251, .ireturn, 0, 0, 0, 0)]
theorem so_X3_readOrder_251 : sgOK mi_X3_readOrder gm_X3_readOrder sg_X3_readOrder_251 = true := by decide +kernel
def sg_X3_readOrder_252 : List Ins := [(252, .aload_n 0, 0, 0, 0, 0), (253, .iload_n 1, 0, 0, 0, 0), (254, .invokevirtual 61, 652, 1, 13, 2), (257, .ifCond .eq 23, 0, 0, 280, 0), (260, .aload_n 0, 0, 0, 0, 0), (261, .invokevirtual 82, 682, 6, 13, 1), (264, .ifCond .eq 16, 0, 0, 280, 0), (267, .aload_n 0, 0, 0, 0, 0), (268, .iload_n 1, 0, 0, 0, 0), (269, .iconst 0, 0, 0, 0, 0), (270, .invokevirtual 69, 656, 2, 13, 3), (273, .ifCond .eq 7, 0, 0, 280, 0), (276, .iconst 1, 1, 0, 0, 0), (277, .goto 4, 0, 0, 281, 0)]
theorem so_X3_readOrder_252 : sgOK mi_X3_readOrder gm_X3_readOrder sg_X3_readOrder_252 = true := by decide +kernel
def sg_X3_readOrder_280 : List Ins := [(280, .iconst 0, 0, 0, 0, 0), (281, .ireturn, 0, 0, 0, 0)]
theorem so_X3_readOrder_280 : sgOK mi_X3_readOrder gm_X3_readOrder sg_X3_readOrder_280 = true := by decide +kernel
def sg_X3_readOrder_281 : List Ins := [(281, .ireturn, 0, 0, 0, 0)]
theorem so_X3_readOrder_281 : sgOK mi_X3_readOrder gm_X3_readOrder sg_X3_readOrder_281 = true := by decide +kernel
def sg_X3_readOrder_282 : List Ins := [(282, .iconst 0, 0, 0, 0, 0), (283, .ireturn, 0, 0, 0, 0)]
theorem so_X3_readOrder_282 : sgOK mi_X3_readOrder gm_X3_readOrder sg_X3_readOrder_282 = true := by decide +kernel
def sgs_X3_readOrder : Nat → Option (List Ins) := fun t => match t with
  | 0 => some sg_X3_readOrder_0
  | 88 => some sg_X3_readOrder_88
  | 109 => some sg_X3_readOrder_109
  | 110 => some sg_X3_readOrder_110
  | 111 => some sg_X3_readOrder_111
  | 139 => some sg_X3_readOrder_139
  | 140 => some sg_X3_readOrder_140
  | 141 => some sg_X3_readOrder_141
  | 183 => some sg_X3_readOrder_183
  | 184 => some sg_X3_readOrder_184
  | 185 => some sg_X3_readOrder_185
  | 220 => some sg_X3_readOrder_220
  | 221 => some sg_X3_readOrder_221
  | 222 => some sg_X3_readOrder_222
  | 250 => some sg_X3_readOrder_250
  | 251 => some sg_X3_readOrder_251
  | 252 => some sg_X3_readOrder_252
  | 280 => some sg_X3_readOrder_280
  | 281 => some sg_X3_readOrder_281
  | 282 => some sg_X3_readOrder_282
  | _ => none
theorem so_X3_readOrder : ∀ t sg, sgs_X3_readOrder t = some sg → sgOK mi_X3_readOrder gm_X3_readOrder sg = true ∧ segPc sg = t := by
  intro t sg h
  unfold sgs_X3_readOrder at h
  split at h
  · cases h; exact ⟨so_X3_readOrder_0, rfl⟩
  · cases h; exact ⟨so_X3_readOrder_88, rfl⟩
  · cases h; exact ⟨so_X3_readOrder_109, rfl⟩
  · cases h; exact ⟨so_X3_readOrder_110, rfl⟩
  · cases h; exact ⟨so_X3_readOrder_111, rfl⟩
  · cases h; exact ⟨so_X3_readOrder_139, rfl⟩
  · cases h; exact ⟨so_X3_readOrder_140, rfl⟩
  · cases h; exact ⟨so_X3_readOrder_141, rfl⟩
  · cases h; exact ⟨so_X3_readOrder_183, rfl⟩
  · cases h; exact ⟨so_X3_readOrder_184, rfl⟩
  · cases h; exact ⟨so_X3_readOrder_185, rfl⟩
  · cases h; exact ⟨so_X3_readOrder_220, rfl⟩
  · cases h; exact ⟨so_X3_readOrder_221, rfl⟩
  · cases h; exact ⟨so_X3_readOrder_222, rfl⟩
  · cases h; exact ⟨so_X3_readOrder_250, rfl⟩
  · cases h; exact ⟨so_X3_readOrder_251, rfl⟩
  · cases h; exact ⟨so_X3_readOrder_252, rfl⟩
  · cases h; exact ⟨so_X3_readOrder_280, rfl⟩
  · cases h; exact ⟨so_X3_readOrder_281, rfl⟩
  · cases h; exact ⟨so_X3_readOrder_282, rfl⟩
  · cases h
def gm_X3_readPad : List MI := [mi_X3_readOrder, mi_X3_reads]
def sg_X3_readPad_0 : List Ins := [(0, .aload_n 0, 0, 0, 0, 0), (1, .iconst 0, 0, 0, 0, 0), (2, .putfield 35, 3, 6, 220, 0), (5, .aload_n 0, 0, 0, 0, 0), (6, .iconst 0, 0, 0, 0, 0), (7, .putfield 39, 3, 7, 222, 0), (10, .nop, 0, 0, 0, 0)]
theorem so_X3_readPad_0 : sgOK mi_X3_readPad gm_X3_readPad sg_X3_readPad_0 = true := by decide +kernel
def sg_X3_readPad_10 : List Ins := [(10, .aload_n 0, 0, 0, 0, 0), (11, .invokevirtual 54, 644, 0, 13, 1), (14, .ifCond .ne 8, 0, 0, 22, 0), (17, .aload_n 0, 0, 0, 0, 0), (18, .getfield 39, 3, 7, 222, 0), (21, .ireturn, 0, 0, 0, 0)]
theorem so_X3_readPad_10 : sgOK mi_X3_readPad gm_X3_readPad sg_X3_readPad_10 = true := by decide +kernel
def sg_X3_readPad_22 : List Ins := [(22, .aload_n 0, 0, 0, 0, 0), (23, .getfield 39, 3, 7, 222, 0), (26, .aload_n 0, 0, 0, 0, 0), (27, .getfield 12, 3, 0, 208, 0), (30, .getfield 58, 4, 1, 199, 0), (33, .if_icmp .ge 12, 0, 0, 45, 0), (36, .aload_n 0, 0, 0, 0, 0), (37, .bipush 59, 59, 0, 0, 0), (39, .invokevirtual 61, 652, 1, 13, 2), (42, .ifCond .ne (-32), 0, 0, 10, 0), (45, .aload_n 0, 0, 0, 0, 0), (46, .getfield 39, 3, 7, 222, 0), (49, .aload_n 0, 0, 0, 0, 0), (50, .getfield 12, 3, 0, 208, 0), (53, .getfield 58, 4, 1, 199, 0), (56, .if_icmp .ge 10, 0, 0, 66, 0), (59, .aload_n 0, 0, 0, 0, 0), (60, .getfield 39, 3, 7, 222, 0), (63, .goto 5, 0, 0, 68, 0)]
theorem so_X3_readPad_22 : sgOK mi_X3_readPad gm_X3_readPad sg_X3_readPad_22 = true := by decide +kernel
def sg_X3_readPad_45 : List Ins := [(45, .aload_n 0, 0, 0, 0, 0), (46, .getfield 39, 3, 7, 222, 0), (49, .aload_n 0, 0, 0, 0, 0), (50, .getfield 12, 3, 0, 208, 0), (53, .getfield 58, 4, 1, 199, 0), (56, .if_icmp .ge 10, 0, 0, 66, 0), (59, .aload_n 0, 0, 0, 0, 0), (60, .getfield 39, 3, 7, 222, 0), (63, .goto 5, 0, 0, 68, 0)]
theorem so_X3_readPad_45 : sgOK mi_X3_readPad gm_X3_readPad sg_X3_readPad_45 = true := by decide +kernel
def sg_X3_readPad_66 : List Ins := [(66, .bipush (-6), 6, 1, 0, 0), (68, .ireturn, 0, 0, 0, 0)]
theorem so_X3_readPad_66 : sgOK mi_X3_readPad gm_X3_readPad sg_X3_readPad_66 = true := by decide +kernel
def sg_X3_readPad_68 : List Ins := [(68, .ireturn, 0, 0, 0, 0)]
theorem so_X3_readPad_68 : sgOK mi_X3_readPad gm_X3_readPad sg_X3_readPad_68 = true := by decide +kernel
def sgs_X3_readPad : Nat → Option (List Ins) := fun t => match t with
  | 0 => some sg_X3_readPad_0
  | 22 => some sg_X3_readPad_22
  | 45 => some sg_X3_readPad_45
  | 66 => some sg_X3_readPad_66
  | 68 => some sg_X3_readPad_68
  | _ => none
theorem so_X3_readPad : ∀ t sg, sgs_X3_readPad t = some sg → sgOK mi_X3_readPad gm_X3_readPad sg = true ∧ segPc sg = t := by
  intro t sg h
  unfold sgs_X3_readPad at h
  split at h
  · cases h; exact ⟨so_X3_readPad_0, rfl⟩
  · cases h; exact ⟨so_X3_readPad_22, rfl⟩
  · cases h; exact ⟨so_X3_readPad_45, rfl⟩
  · cases h; exact ⟨so_X3_readPad_66, rfl⟩
  · cases h; exact ⟨so_X3_readPad_68, rfl⟩
  · cases h
def gm_X4_codeIn : List MI := []
def sg_X4_codeIn_0 : List Ins := [(0, .lload_n 0, 0, 0, 0, 0), (1, .bipush 8, 8, 0, 0, 0), (3, .iload_n 2, 0, 0, 0, 0), (4, .imul, 0, 0, 0, 0), (5, .lushr, 0, 0, 0, 0), (6, .ldc2_w 27, 255, 2, 627, 0), (9, .land, 0, 0, 0, 0), (10, .l2i, 0, 0, 0, 0), (11, .ireturn, 0, 0, 0, 0)]
theorem so_X4_codeIn_0 : sgOK mi_X4_codeIn gm_X4_codeIn sg_X4_codeIn_0 = true := by decide +kernel
def sgs_X4_codeIn : Nat → Option (List Ins) := fun t => match t with
  | 0 => some sg_X4_codeIn_0
  | _ => none
theorem so_X4_codeIn : ∀ t sg, sgs_X4_codeIn t = some sg → sgOK mi_X4_codeIn gm_X4_codeIn sg = true ∧ segPc sg = t := by
  intro t sg h
  unfold sgs_X4_codeIn at h
  split at h
  · cases h; exact ⟨so_X4_codeIn_0, rfl⟩
  · cases h
def gm_X4_charactersIn : List MI := [mi_X4_codeIn]
def sg_X4_charactersIn_0 : List Ins := [(0, .iconst 0, 0, 0, 0, 0), (1, .istore_n 2, 0, 0, 0, 0), (2, .nop, 0, 0, 0, 0)]
theorem so_X4_charactersIn_0 : sgOK mi_X4_charactersIn gm_X4_charactersIn sg_X4_charactersIn_0 = true := by decide +kernel
def sg_X4_charactersIn_2 : List Ins := [(2, .iload_n 2, 0, 0, 0, 0), (3, .bipush 8, 8, 0, 0, 0), (5, .if_icmp .ge 37, 0, 0, 42, 0), (8, .lload_n 0, 0, 0, 0, 0), (9, .iload_n 2, 0, 0, 0, 0), (10, .invokestatic 23, 624, 0, 0, 2), (13, .ifCond .eq 29, 0, 0, 42, 0), (16, .lload_n 0, 0, 0, 0, 0), (17, .iload_n 2, 0, 0, 0, 0), (18, .invokestatic 23, 624, 0, 0, 2), (21, .istore_n 3, 0, 0, 0, 0), (22, .iload_n 3, 0, 0, 0, 0), (23, .bipush 33, 33, 0, 0, 0), (25, .if_icmp .lt 9, 0, 0, 34, 0), (28, .iload_n 3, 0, 0, 0, 0), (29, .bipush 126, 126, 0, 0, 0), (31, .if_icmp .le 5, 0, 0, 36, 0), (34, .iconst 0, 0, 0, 0, 0), (35, .ireturn, 0, 0, 0, 0)]
theorem so_X4_charactersIn_2 : sgOK mi_X4_charactersIn gm_X4_charactersIn sg_X4_charactersIn_2 = true := by decide +kernel
def sg_X4_charactersIn_34 : List Ins := [(34, .iconst 0, 0, 0, 0, 0), (35, .ireturn, 0, 0, 0, 0)]
theorem so_X4_charactersIn_34 : sgOK mi_X4_charactersIn gm_X4_charactersIn sg_X4_charactersIn_34 = true := by decide +kernel
def sg_X4_charactersIn_36 : List Ins := [(36, .iinc 2 1, 1, 0, 0, 0), (39, .goto (-37), 0, 0, 2, 0)]
theorem so_X4_charactersIn_36 : sgOK mi_X4_charactersIn gm_X4_charactersIn sg_X4_charactersIn_36 = true := by decide +kernel
def sg_X4_charactersIn_42 : List Ins := [(42, .iload_n 2, 0, 0, 0, 0), (43, .bipush 8, 8, 0, 0, 0), (45, .if_icmp .ge 18, 0, 0, 63, 0), (48, .lload_n 0, 0, 0, 0, 0), (49, .bipush 8, 8, 0, 0, 0), (51, .iload_n 2, 0, 0, 0, 0), (52, .imul, 0, 0, 0, 0), (53, .lushr, 0, 0, 0, 0), (54, .lconst 0, 0, 0, 0, 0), (55, .lcmp, 0, 0, 0, 0), (56, .ifCond .eq 7, 0, 0, 63, 0), (59, .iconst 1, 1, 0, 0, 0), (60, .goto 4, 0, 0, 64, 0)]
theorem so_X4_charactersIn_42 : sgOK mi_X4_charactersIn gm_X4_charactersIn sg_X4_charactersIn_42 = true := by decide +kernel
def sg_X4_charactersIn_63 : List Ins := [(63, .iconst 0, 0, 0, 0, 0), (64, .istore_n 3, 0, 0, 0, 0), (65, .iload_n 3, 0, 0, 0, 0), (66, .ifCond .eq 7, 0, 0, 73, 0), (69, .iconst 0, 0, 0, 0, 0), (70, .goto 4, 0, 0, 74, 0)]
theorem so_X4_charactersIn_63 : sgOK mi_X4_charactersIn gm_X4_charactersIn sg_X4_charactersIn_63 = true := by decide +kernel
def sg_X4_charactersIn_64 : List Ins := [(64, .istore_n 3, 0, 0, 0, 0), (65, .iload_n 3, 0, 0, 0, 0), (66, .ifCond .eq 7, 0, 0, 73, 0), (69, .iconst 0, 0, 0, 0, 0), (70, .goto 4, 0, 0, 74, 0)]
theorem so_X4_charactersIn_64 : sgOK mi_X4_charactersIn gm_X4_charactersIn sg_X4_charactersIn_64 = true := by decide +kernel
def sg_X4_charactersIn_73 : List Ins := [(73, .iload_n 2, 0, 0, 0, 0), (74, .ireturn, 0, 0, 0, 0)]
theorem so_X4_charactersIn_73 : sgOK mi_X4_charactersIn gm_X4_charactersIn sg_X4_charactersIn_73 = true := by decide +kernel
def sg_X4_charactersIn_74 : List Ins := [(74, .ireturn, 0, 0, 0, 0)]
theorem so_X4_charactersIn_74 : sgOK mi_X4_charactersIn gm_X4_charactersIn sg_X4_charactersIn_74 = true := by decide +kernel
def sgs_X4_charactersIn : Nat → Option (List Ins) := fun t => match t with
  | 0 => some sg_X4_charactersIn_0
  | 34 => some sg_X4_charactersIn_34
  | 36 => some sg_X4_charactersIn_36
  | 42 => some sg_X4_charactersIn_42
  | 63 => some sg_X4_charactersIn_63
  | 64 => some sg_X4_charactersIn_64
  | 73 => some sg_X4_charactersIn_73
  | 74 => some sg_X4_charactersIn_74
  | _ => none
theorem so_X4_charactersIn : ∀ t sg, sgs_X4_charactersIn t = some sg → sgOK mi_X4_charactersIn gm_X4_charactersIn sg = true ∧ segPc sg = t := by
  intro t sg h
  unfold sgs_X4_charactersIn at h
  split at h
  · cases h; exact ⟨so_X4_charactersIn_0, rfl⟩
  · cases h; exact ⟨so_X4_charactersIn_34, rfl⟩
  · cases h; exact ⟨so_X4_charactersIn_36, rfl⟩
  · cases h; exact ⟨so_X4_charactersIn_42, rfl⟩
  · cases h; exact ⟨so_X4_charactersIn_63, rfl⟩
  · cases h; exact ⟨so_X4_charactersIn_64, rfl⟩
  · cases h; exact ⟨so_X4_charactersIn_73, rfl⟩
  · cases h; exact ⟨so_X4_charactersIn_74, rfl⟩
  · cases h
def gm_X4_append : List MI := [mi_X4_charactersIn, mi_X4_codeIn]
def sg_X4_append_0 : List Ins := [(0, .lload_n 1, 0, 0, 0, 0), (1, .invokestatic 19, 621, 0, 0, 1), (4, .istore_n 3, 0, 0, 0, 0), (5, .iload_n 3, 0, 0, 0, 0), (6, .iconst 1, 1, 0, 0, 0), (7, .if_icmp .ge 6, 0, 0, 13, 0), (10, .bipush (-2), 2, 1, 0, 0), (12, .ireturn, 0, 0, 0, 0)]
theorem so_X4_append_0 : sgOK mi_X4_append gm_X4_append sg_X4_append_0 = true := by decide +kernel
def sg_X4_append_13 : List Ins := [(13, .aload_n 0, 0, 0, 0, 0), (14, .getfield 15, 4, 1, 198, 0), (17, .iload_n 3, 0, 0, 0, 0), (18, .iadd, 0, 0, 0, 0), (19, .bipush 80, 80, 0, 0, 0), (21, .if_icmp .le 6, 0, 0, 27, 0), (24, .bipush (-4), 4, 1, 0, 0), (26, .ireturn, 0, 0, 0, 0)]
theorem so_X4_append_13 : sgOK mi_X4_append gm_X4_append sg_X4_append_13 = true := by decide +kernel
def sg_X4_append_27 : List Ins := [(27, .iload_n 3, 0, 0, 0, 0), (28, .iconst 1, 1, 0, 0, 0), (29, .isub, 0, 0, 0, 0), (30, .istore 4, 0, 0, 0, 0), (32, .nop, 0, 0, 0, 0)]
theorem so_X4_append_27 : sgOK mi_X4_append gm_X4_append sg_X4_append_27 = true := by decide +kernel
def sg_X4_append_32 : List Ins := [(32, .iload 4, 0, 0, 0, 0), (34, .ifCond .lt 35, 0, 0, 69, 0), (37, .aload_n 0, 0, 0, 0, 0), (38, .getfield 11, 4, 0, 196, 0), (41, .aload_n 0, 0, 0, 0, 0), (42, .getfield 15, 4, 1, 198, 0), (45, .lload_n 1, 0, 0, 0, 0), (46, .iload 4, 0, 0, 0, 0), (48, .invokestatic 23, 624, 1, 0, 2), (51, .i2c, 0, 0, 0, 0), (52, .castore, 0, 0, 0, 0), (53, .aload_n 0, 0, 0, 0, 0), (54, .dup, 0, 0, 0, 0), (55, .getfield 15, 4, 1, 198, 0), (58, .iconst 1, 1, 0, 0, 0), (59, .iadd, 0, 0, 0, 0), (60, .putfield 15, 4, 1, 198, 0), (63, .iinc 4 (-1), 1, 1, 0, 0), (66, .goto (-34), 0, 0, 32, 0)]
theorem so_X4_append_32 : sgOK mi_X4_append gm_X4_append sg_X4_append_32 = true := by decide +kernel
def sg_X4_append_69 : List Ins := [(69, .aload_n 0, 0, 0, 0, 0), (70, .getfield 15, 4, 1, 198, 0), (73, .ireturn, 0, 0, 0, 0)]
theorem so_X4_append_69 : sgOK mi_X4_append gm_X4_append sg_X4_append_69 = true := by decide +kernel
def sgs_X4_append : Nat → Option (List Ins) := fun t => match t with
  | 0 => some sg_X4_append_0
  | 13 => some sg_X4_append_13
  | 27 => some sg_X4_append_27
  | 69 => some sg_X4_append_69
  | _ => none
theorem so_X4_append : ∀ t sg, sgs_X4_append t = some sg → sgOK mi_X4_append gm_X4_append sg = true ∧ segPc sg = t := by
  intro t sg h
  unfold sgs_X4_append at h
  split at h
  · cases h; exact ⟨so_X4_append_0, rfl⟩
  · cases h; exact ⟨so_X4_append_13, rfl⟩
  · cases h; exact ⟨so_X4_append_27, rfl⟩
  · cases h; exact ⟨so_X4_append_69, rfl⟩
  · cases h
def gm_X4_empty : List MI := []
def sg_X4_empty_0 : List Ins := [(0, .aload_n 0, 0, 0, 0, 0), (1, .getfield 15, 4, 1, 198, 0), (4, .istore_n 1, 0, 0, 0, 0), (5, .aload_n 0, 0, 0, 0, 0), (6, .iconst 0, 0, 0, 0, 0), (7, .putfield 15, 4, 1, 198, 0), (10, .iload_n 1, 0, 0, 0, 0), (11, .ireturn, 0, 0, 0, 0)]
theorem so_X4_empty_0 : sgOK mi_X4_empty gm_X4_empty sg_X4_empty_0 = true := by decide +kernel
def sgs_X4_empty : Nat → Option (List Ins) := fun t => match t with
  | 0 => some sg_X4_empty_0
  | _ => none
theorem so_X4_empty : ∀ t sg, sgs_X4_empty t = some sg → sgOK mi_X4_empty gm_X4_empty sg = true ∧ segPc sg = t := by
  intro t sg h
  unfold sgs_X4_empty at h
  split at h
  · cases h; exact ⟨so_X4_empty_0, rfl⟩
  · cases h
def gm_Jxf58ca_isNaN_12338 : List MI := []
def sg_Jxf58ca_isNaN_12338_0 : List Ins := [(0, .fload_n 0, 0, 0, 0, 0), (1, .fload_n 0, 0, 0, 0, 0), (2, .fcmp .l, 0, 0, 0, 0), (3, .ifCond .eq 7, 0, 0, 10, 0), (6, .iconst 1, 1, 0, 0, 0), (7, .goto 4, 0, 0, 11, 0)]
theorem so_Jxf58ca_isNaN_12338_0 : sgOK mi_Jxf58ca_isNaN_12338 gm_Jxf58ca_isNaN_12338 sg_Jxf58ca_isNaN_12338_0 = true := by decide +kernel
def sg_Jxf58ca_isNaN_12338_10 : List Ins := [(10, .iconst 0, 0, 0, 0, 0), (11, .ireturn, 0, 0, 0, 0)]
theorem so_Jxf58ca_isNaN_12338_10 : sgOK mi_Jxf58ca_isNaN_12338 gm_Jxf58ca_isNaN_12338 sg_Jxf58ca_isNaN_12338_10 = true := by decide +kernel
def sg_Jxf58ca_isNaN_12338_11 : List Ins := [(11, .ireturn, 0, 0, 0, 0)]
theorem so_Jxf58ca_isNaN_12338_11 : sgOK mi_Jxf58ca_isNaN_12338 gm_Jxf58ca_isNaN_12338 sg_Jxf58ca_isNaN_12338_11 = true := by decide +kernel
def sgs_Jxf58ca_isNaN_12338 : Nat → Option (List Ins) := fun t => match t with
  | 0 => some sg_Jxf58ca_isNaN_12338_0
  | 10 => some sg_Jxf58ca_isNaN_12338_10
  | 11 => some sg_Jxf58ca_isNaN_12338_11
  | _ => none
theorem so_Jxf58ca_isNaN_12338 : ∀ t sg, sgs_Jxf58ca_isNaN_12338 t = some sg → sgOK mi_Jxf58ca_isNaN_12338 gm_Jxf58ca_isNaN_12338 sg = true ∧ segPc sg = t := by
  intro t sg h
  unfold sgs_Jxf58ca_isNaN_12338 at h
  split at h
  · cases h; exact ⟨so_Jxf58ca_isNaN_12338_0, rfl⟩
  · cases h; exact ⟨so_Jxf58ca_isNaN_12338_10, rfl⟩
  · cases h; exact ⟨so_Jxf58ca_isNaN_12338_11, rfl⟩
  · cases h
def gm_Jxf58ca_floatToIntBits_5c35a : List MI := [mi_Jxf58ca_isNaN_12338]
def sg_Jxf58ca_floatToIntBits_5c35a_0 : List Ins := [(0, .fload_n 0, 0, 0, 0, 0), (1, .invokestatic 59, 950, 0, 0, 1), (4, .ifCond .ne 8, 0, 0, 12, 0), (7, .fload_n 0, 0, 0, 0, 0), (8, .invokestatic 74, 953, 0, 6, 0), (11, .ireturn, 0, 0, 0, 0)]
theorem so_Jxf58ca_floatToIntBits_5c35a_0 : sgOK mi_Jxf58ca_floatToIntBits_5c35a gm_Jxf58ca_floatToIntBits_5c35a sg_Jxf58ca_floatToIntBits_5c35a_0 = true := by decide +kernel
def sg_Jxf58ca_floatToIntBits_5c35a_12 : List Ins := [(12, .ldc 77, 2143289344, 0, 956, 0), (14, .ireturn, 0, 0, 0, 0)]
theorem so_Jxf58ca_floatToIntBits_5c35a_12 : sgOK mi_Jxf58ca_floatToIntBits_5c35a gm_Jxf58ca_floatToIntBits_5c35a sg_Jxf58ca_floatToIntBits_5c35a_12 = true := by decide +kernel
def sgs_Jxf58ca_floatToIntBits_5c35a : Nat → Option (List Ins) := fun t => match t with
  | 0 => some sg_Jxf58ca_floatToIntBits_5c35a_0
  | 12 => some sg_Jxf58ca_floatToIntBits_5c35a_12
  | _ => none
theorem so_Jxf58ca_floatToIntBits_5c35a : ∀ t sg, sgs_Jxf58ca_floatToIntBits_5c35a t = some sg → sgOK mi_Jxf58ca_floatToIntBits_5c35a gm_Jxf58ca_floatToIntBits_5c35a sg = true ∧ segPc sg = t := by
  intro t sg h
  unfold sgs_Jxf58ca_floatToIntBits_5c35a at h
  split at h
  · cases h; exact ⟨so_Jxf58ca_floatToIntBits_5c35a_0, rfl⟩
  · cases h; exact ⟨so_Jxf58ca_floatToIntBits_5c35a_12, rfl⟩
  · cases h
def gm_Jxe99ae_isNaN_b9ae7 : List MI := []
def sg_Jxe99ae_isNaN_b9ae7_0 : List Ins := [(0, .dload_n 0, 0, 0, 0, 0), (1, .dload_n 0, 0, 0, 0, 0), (2, .dcmp .l, 0, 0, 0, 0), (3, .ifCond .eq 7, 0, 0, 10, 0), (6, .iconst 1, 1, 0, 0, 0), (7, .goto 4, 0, 0, 11, 0)]
theorem so_Jxe99ae_isNaN_b9ae7_0 : sgOK mi_Jxe99ae_isNaN_b9ae7 gm_Jxe99ae_isNaN_b9ae7 sg_Jxe99ae_isNaN_b9ae7_0 = true := by decide +kernel
def sg_Jxe99ae_isNaN_b9ae7_10 : List Ins := [(10, .iconst 0, 0, 0, 0, 0), (11, .ireturn, 0, 0, 0, 0)]
theorem so_Jxe99ae_isNaN_b9ae7_10 : sgOK mi_Jxe99ae_isNaN_b9ae7 gm_Jxe99ae_isNaN_b9ae7 sg_Jxe99ae_isNaN_b9ae7_10 = true := by decide +kernel
def sg_Jxe99ae_isNaN_b9ae7_11 : List Ins := [(11, .ireturn, 0, 0, 0, 0)]
theorem so_Jxe99ae_isNaN_b9ae7_11 : sgOK mi_Jxe99ae_isNaN_b9ae7 gm_Jxe99ae_isNaN_b9ae7 sg_Jxe99ae_isNaN_b9ae7_11 = true := by decide +kernel
def sgs_Jxe99ae_isNaN_b9ae7 : Nat → Option (List Ins) := fun t => match t with
  | 0 => some sg_Jxe99ae_isNaN_b9ae7_0
  | 10 => some sg_Jxe99ae_isNaN_b9ae7_10
  | 11 => some sg_Jxe99ae_isNaN_b9ae7_11
  | _ => none
theorem so_Jxe99ae_isNaN_b9ae7 : ∀ t sg, sgs_Jxe99ae_isNaN_b9ae7 t = some sg → sgOK mi_Jxe99ae_isNaN_b9ae7 gm_Jxe99ae_isNaN_b9ae7 sg = true ∧ segPc sg = t := by
  intro t sg h
  unfold sgs_Jxe99ae_isNaN_b9ae7 at h
  split at h
  · cases h; exact ⟨so_Jxe99ae_isNaN_b9ae7_0, rfl⟩
  · cases h; exact ⟨so_Jxe99ae_isNaN_b9ae7_10, rfl⟩
  · cases h; exact ⟨so_Jxe99ae_isNaN_b9ae7_11, rfl⟩
  · cases h
def gm_Jxe99ae_doubleToLongBits_ccdee : List MI := [mi_Jxe99ae_isNaN_b9ae7]
def sg_Jxe99ae_doubleToLongBits_ccdee_0 : List Ins := [(0, .dload_n 0, 0, 0, 0, 0), (1, .invokestatic 122, 1005, 0, 0, 1), (4, .ifCond .ne 8, 0, 0, 12, 0), (7, .dload_n 0, 0, 0, 0, 0), (8, .invokestatic 134, 1008, 0, 7, 0), (11, .lreturn, 0, 0, 0, 0)]
theorem so_Jxe99ae_doubleToLongBits_ccdee_0 : sgOK mi_Jxe99ae_doubleToLongBits_ccdee gm_Jxe99ae_doubleToLongBits_ccdee sg_Jxe99ae_doubleToLongBits_ccdee_0 = true := by decide +kernel
def sg_Jxe99ae_doubleToLongBits_ccdee_12 : List Ins := [(12, .ldc2_w 137, 9221120237041090560, 2, 1011, 0), (15, .lreturn, 0, 0, 0, 0)]
theorem so_Jxe99ae_doubleToLongBits_ccdee_12 : sgOK mi_Jxe99ae_doubleToLongBits_ccdee gm_Jxe99ae_doubleToLongBits_ccdee sg_Jxe99ae_doubleToLongBits_ccdee_12 = true := by decide +kernel
def sgs_Jxe99ae_doubleToLongBits_ccdee : Nat → Option (List Ins) := fun t => match t with
  | 0 => some sg_Jxe99ae_doubleToLongBits_ccdee_0
  | 12 => some sg_Jxe99ae_doubleToLongBits_ccdee_12
  | _ => none
theorem so_Jxe99ae_doubleToLongBits_ccdee : ∀ t sg, sgs_Jxe99ae_doubleToLongBits_ccdee t = some sg → sgOK mi_Jxe99ae_doubleToLongBits_ccdee gm_Jxe99ae_doubleToLongBits_ccdee sg = true ∧ segPc sg = t := by
  intro t sg h
  unfold sgs_Jxe99ae_doubleToLongBits_ccdee at h
  split at h
  · cases h; exact ⟨so_Jxe99ae_doubleToLongBits_ccdee_0, rfl⟩
  · cases h; exact ⟨so_Jxe99ae_doubleToLongBits_ccdee_12, rfl⟩
  · cases h
end
section
/-! stretches of code (printed by wip/whole/gen/meth.py) -/
def gm_X0_init : List MI := [mi_X1_init]
def sg_X0_init_0 : List Ins := [(0, .aload_n 0, 0, 0, 0, 0), (1, .invokespecial 3, 94, 0, 8, 0), (4, .aload_n 0, 0, 0, 0, 0), (5, .iconst 4, 4, 0, 0, 0), (6, .newarray .int, 8, 0, 125, 0), (8, .dup, 0, 0, 0, 0), (9, .iconst 0, 0, 0, 0, 0), (10, .bipush 6, 6, 0, 0, 0), (12, .iastore, 0, 0, 0, 0), (13, .dup, 0, 0, 0, 0), (14, .iconst 1, 1, 0, 0, 0), (15, .iconst 2, 2, 0, 0, 0), (16, .iastore, 0, 0, 0, 0), (17, .dup, 0, 0, 0, 0), (18, .iconst 2, 2, 0, 0, 0), (19, .bipush 40, 40, 0, 0, 0), (21, .iastore, 0, 0, 0, 0), (22, .dup, 0, 0, 0, 0), (23, .iconst 3, 3, 0, 0, 0), (24, .bipush 10, 10, 0, 0, 0), (26, .iastore, 0, 0, 0, 0), (27, .putfield 9, 0, 0, 127, 0), (30, .aload_n 0, 0, 0, 0, 0), (31, .iconst 5, 5, 0, 0, 0), (32, .newarray .int, 8, 0, 125, 0), (34, .putfield 15, 0, 1, 129, 0), (37, .aload_n 0, 0, 0, 0, 0), (38, .iconst 5, 5, 0, 0, 0), (39, .newarray .int, 8, 0, 125, 0), (41, .putfield 18, 0, 2, 131, 0), (44, .aload_n 0, 0, 0, 0, 0), (45, .iconst 5, 5, 0, 0, 0), (46, .newarray .int, 8, 0, 125, 0), (48, .putfield 21, 0, 3, 133, 0), (51, .aload_n 0, 0, 0, 0, 0), (52, .iconst 4, 4, 0, 0, 0), (53, .anewarray 24, 13, 0, 95, 0), (56, .putfield 26, 0, 4, 135, 0), (59, .aload_n 0, 0, 0, 0, 0), (60, .iconst 0, 0, 0, 0, 0), (61, .putfield 30, 0, 5, 137, 0), (64, .aload_n 0, 0, 0, 0, 0), (65, .iconst 0, 0, 0, 0, 0), (66, .putfield 34, 0, 6, 139, 0), (69, .aload_n 0, 0, 0, 0, 0), (70, .bipush (-6), 6, 1, 0, 0), (72, .putfield 37, 0, 7, 141, 0), (75, .aload_n 0, 0, 0, 0, 0), (76, .iconst 0, 0, 0, 0, 0), (77, .putfield 40, 0, 8, 143, 0), (80, .iconst 0, 0, 0, 0, 0), (81, .istore_n 1, 0, 0, 0, 0), (82, .nop, 0, 0, 0, 0)]
theorem so_X0_init_0 : sgOK mi_X0_init gm_X0_init sg_X0_init_0 = true := by decide +kernel
def sg_X0_init_82 : List Ins := [(82, .iload_n 1, 0, 0, 0, 0), (83, .iconst 4, 4, 0, 0, 0), (84, .if_icmp .ge 22, 0, 0, 106, 0), (87, .aload_n 0, 0, 0, 0, 0), (88, .getfield 26, 0, 4, 135, 0), (91, .iload_n 1, 0, 0, 0, 0), (92, .new 24, 1, 97, 95, 69), (95, .dup, 0, 0, 0, 0), (96, .invokespecial 43, 98, 0, 3, 1), (99, .aastore, 13, 0, 0, 0), (100, .iinc 1 1, 1, 0, 0, 0), (103, .goto (-21), 0, 0, 82, 0)]
theorem so_X0_init_82 : sgOK mi_X0_init gm_X0_init sg_X0_init_82 = true := by decide +kernel
def sg_X0_init_106 : List Ins := [(106, .return_, 0, 0, 0, 0)]
theorem so_X0_init_106 : sgOK mi_X0_init gm_X0_init sg_X0_init_106 = true := by decide +kernel
def sgs_X0_init : Nat → Option (List Ins) := fun t => match t with
  | 0 => some sg_X0_init_0
  | 106 => some sg_X0_init_106
  | _ => none
theorem so_X0_init : ∀ t sg, sgs_X0_init t = some sg → sgOK mi_X0_init gm_X0_init sg = true ∧ segPc sg = t := by
  intro t sg h
  unfold sgs_X0_init at h
  split at h
  · cases h; exact ⟨so_X0_init_0, rfl⟩
  · cases h; exact ⟨so_X0_init_106, rfl⟩
  · cases h
def gm_X0_copyFrom : List MI := [mi_X1_copyFrom]
def sg_X0_copyFrom_0 : List Ins := [(0, .aload_n 1, 0, 0, 0, 0), (1, .getfield 9, 0, 0, 127, 0), (4, .iconst 0, 0, 0, 0, 0), (5, .aload_n 0, 0, 0, 0, 0), (6, .getfield 9, 0, 0, 127, 0), (9, .iconst 0, 0, 0, 0, 0), (10, .aload_n 0, 0, 0, 0, 0), (11, .getfield 9, 0, 0, 127, 0), (14, .arraylength, 8, 0, 0, 0), (15, .invokestatic 44, 298, 0, 4, 0), (18, .aload_n 1, 0, 0, 0, 0), (19, .getfield 15, 0, 1, 129, 0), (22, .iconst 0, 0, 0, 0, 0), (23, .aload_n 0, 0, 0, 0, 0), (24, .getfield 15, 0, 1, 129, 0), (27, .iconst 0, 0, 0, 0, 0), (28, .iconst 5, 5, 0, 0, 0), (29, .invokestatic 44, 298, 0, 4, 0), (32, .aload_n 1, 0, 0, 0, 0), (33, .getfield 18, 0, 2, 131, 0), (36, .iconst 0, 0, 0, 0, 0), (37, .aload_n 0, 0, 0, 0, 0), (38, .getfield 18, 0, 2, 131, 0), (41, .iconst 0, 0, 0, 0, 0), (42, .iconst 5, 5, 0, 0, 0), (43, .invokestatic 44, 298, 0, 4, 0), (46, .aload_n 1, 0, 0, 0, 0), (47, .getfield 21, 0, 3, 133, 0), (50, .iconst 0, 0, 0, 0, 0), (51, .aload_n 0, 0, 0, 0, 0), (52, .getfield 21, 0, 3, 133, 0), (55, .iconst 0, 0, 0, 0, 0), (56, .iconst 5, 5, 0, 0, 0), (57, .invokestatic 44, 298, 0, 4, 0), (60, .aload_n 0, 0, 0, 0, 0), (61, .aload_n 1, 0, 0, 0, 0), (62, .getfield 30, 0, 5, 137, 0), (65, .putfield 30, 0, 5, 137, 0), (68, .aload_n 0, 0, 0, 0, 0), (69, .aload_n 1, 0, 0, 0, 0), (70, .getfield 34, 0, 6, 139, 0), (73, .putfield 34, 0, 6, 139, 0), (76, .aload_n 0, 0, 0, 0, 0), (77, .aload_n 1, 0, 0, 0, 0), (78, .getfield 37, 0, 7, 141, 0), (81, .putfield 37, 0, 7, 141, 0), (84, .aload_n 0, 0, 0, 0, 0), (85, .aload_n 1, 0, 0, 0, 0), (86, .getfield 40, 0, 8, 143, 0), (89, .putfield 40, 0, 8, 143, 0), (92, .iconst 0, 0, 0, 0, 0), (93, .istore_n 2, 0, 0, 0, 0), (94, .nop, 0, 0, 0, 0)]
theorem so_X0_copyFrom_0 : sgOK mi_X0_copyFrom gm_X0_copyFrom sg_X0_copyFrom_0 = true := by decide +kernel
def sg_X0_copyFrom_94 : List Ins := [(94, .iload_n 2, 0, 0, 0, 0), (95, .aload_n 0, 0, 0, 0, 0), (96, .getfield 34, 0, 6, 139, 0), (99, .if_icmp .ge 24, 0, 0, 123, 0), (102, .aload_n 0, 0, 0, 0, 0), (103, .getfield 26, 0, 4, 135, 0), (106, .iload_n 2, 0, 0, 0, 0), (107, .aaload, 13, 0, 0, 0), (108, .aload_n 1, 0, 0, 0, 0), (109, .getfield 26, 0, 4, 135, 0), (112, .iload_n 2, 0, 0, 0, 0), (113, .aaload, 13, 0, 0, 0), (114, .invokevirtual 50, 301, 0, 11, 2), (117, .iinc 2 1, 1, 0, 0, 0), (120, .goto (-26), 0, 0, 94, 0)]
theorem so_X0_copyFrom_94 : sgOK mi_X0_copyFrom gm_X0_copyFrom sg_X0_copyFrom_94 = true := by decide +kernel
def sg_X0_copyFrom_123 : List Ins := [(123, .return_, 0, 0, 0, 0)]
theorem so_X0_copyFrom_123 : sgOK mi_X0_copyFrom gm_X0_copyFrom sg_X0_copyFrom_123 = true := by decide +kernel
def sgs_X0_copyFrom : Nat → Option (List Ins) := fun t => match t with
  | 0 => some sg_X0_copyFrom_0
  | 123 => some sg_X0_copyFrom_123
  | _ => none
theorem so_X0_copyFrom : ∀ t sg, sgs_X0_copyFrom t = some sg → sgOK mi_X0_copyFrom gm_X0_copyFrom sg = true ∧ segPc sg = t := by
  intro t sg h
  unfold sgs_X0_copyFrom at h
  split at h
  · cases h; exact ⟨so_X0_copyFrom_0, rfl⟩
  · cases h; exact ⟨so_X0_copyFrom_123, rfl⟩
  · cases h
def gm_X0_isPlate : List MI := []
def sg_X0_isPlate_0 : List Ins := [(0, .iload_n 1, 0, 0, 0, 0), (1, .ifCond .lt 15, 0, 0, 16, 0), (4, .iload_n 1, 0, 0, 0, 0), (5, .aload_n 0, 0, 0, 0, 0), (6, .getfield 34, 0, 6, 139, 0), (9, .if_icmp .ge 7, 0, 0, 16, 0), (12, .iconst 1, 1, 0, 0, 0), (13, .goto 4, 0, 0, 17, 0)]
theorem so_X0_isPlate_0 : sgOK mi_X0_isPlate gm_X0_isPlate sg_X0_isPlate_0 = true := by decide +kernel
def sg_X0_isPlate_16 : List Ins := [(16, .iconst 0, 0, 0, 0, 0), (17, .ireturn, 0, 0, 0, 0)]
theorem so_X0_isPlate_16 : sgOK mi_X0_isPlate gm_X0_isPlate sg_X0_isPlate_16 = true := by decide +kernel
def sg_X0_isPlate_17 : List Ins := [(17, .ireturn, 0, 0, 0, 0)]
theorem so_X0_isPlate_17 : sgOK mi_X0_isPlate gm_X0_isPlate sg_X0_isPlate_17 = true := by decide +kernel
def sgs_X0_isPlate : Nat → Option (List Ins) := fun t => match t with
  | 0 => some sg_X0_isPlate_0
  | 16 => some sg_X0_isPlate_16
  | 17 => some sg_X0_isPlate_17
  | _ => none
theorem so_X0_isPlate : ∀ t sg, sgs_X0_isPlate t = some sg → sgOK mi_X0_isPlate gm_X0_isPlate sg = true ∧ segPc sg = t := by
  intro t sg h
  unfold sgs_X0_isPlate at h
  split at h
  · cases h; exact ⟨so_X0_isPlate_0, rfl⟩
  · cases h; exact ⟨so_X0_isPlate_16, rfl⟩
  · cases h; exact ⟨so_X0_isPlate_17, rfl⟩
  · cases h
def gm_X0_isWriter : List MI := []
def sg_X0_isWriter_0 : List Ins := [(0, .iload_n 1, 0, 0, 0, 0), (1, .ifCond .lt 15, 0, 0, 16, 0), (4, .iload_n 1, 0, 0, 0, 0), (5, .aload_n 0, 0, 0, 0, 0), (6, .getfield 40, 0, 8, 143, 0), (9, .if_icmp .ge 7, 0, 0, 16, 0), (12, .iconst 1, 1, 0, 0, 0), (13, .goto 4, 0, 0, 17, 0)]
theorem so_X0_isWriter_0 : sgOK mi_X0_isWriter gm_X0_isWriter sg_X0_isWriter_0 = true := by decide +kernel
def sg_X0_isWriter_16 : List Ins := [(16, .iconst 0, 0, 0, 0, 0), (17, .ireturn, 0, 0, 0, 0)]
theorem so_X0_isWriter_16 : sgOK mi_X0_isWriter gm_X0_isWriter sg_X0_isWriter_16 = true := by decide +kernel
def sg_X0_isWriter_17 : List Ins := [(17, .ireturn, 0, 0, 0, 0)]
theorem so_X0_isWriter_17 : sgOK mi_X0_isWriter gm_X0_isWriter sg_X0_isWriter_17 = true := by decide +kernel
def sgs_X0_isWriter : Nat → Option (List Ins) := fun t => match t with
  | 0 => some sg_X0_isWriter_0
  | 16 => some sg_X0_isWriter_16
  | 17 => some sg_X0_isWriter_17
  | _ => none
theorem so_X0_isWriter : ∀ t sg, sgs_X0_isWriter t = some sg → sgOK mi_X0_isWriter gm_X0_isWriter sg = true ∧ segPc sg = t := by
  intro t sg h
  unfold sgs_X0_isWriter at h
  split at h
  · cases h; exact ⟨so_X0_isWriter_0, rfl⟩
  · cases h; exact ⟨so_X0_isWriter_16, rfl⟩
  · cases h; exact ⟨so_X0_isWriter_17, rfl⟩
  · cases h
def gm_X0_glassOnDesk : List MI := [mi_X0_isPlate]
def sg_X0_glassOnDesk_0 : List Ins := [(0, .aload_n 0, 0, 0, 0, 0), (1, .aload_n 0, 0, 0, 0, 0), (2, .getfield 37, 0, 7, 141, 0), (5, .invokevirtual 54, 347, 0, 10, 2), (8, .ifCond .eq 15, 0, 0, 23, 0), (11, .aload_n 0, 0, 0, 0, 0), (12, .getfield 26, 0, 4, 135, 0), (15, .aload_n 0, 0, 0, 0, 0), (16, .getfield 37, 0, 7, 141, 0), (19, .aaload, 13, 0, 0, 0), (20, .goto 4, 0, 0, 24, 0)]
theorem so_X0_glassOnDesk_0 : sgOK mi_X0_glassOnDesk gm_X0_glassOnDesk sg_X0_glassOnDesk_0 = true := by decide +kernel
def sg_X0_glassOnDesk_23 : List Ins := [(23, .aconst_null, 0, 0, 0, 0), (24, .areturn, 0, 0, 0, 0)]
theorem so_X0_glassOnDesk_23 : sgOK mi_X0_glassOnDesk gm_X0_glassOnDesk sg_X0_glassOnDesk_23 = true := by decide +kernel
def sg_X0_glassOnDesk_24 : List Ins := [(24, .areturn, 0, 0, 0, 0)]
theorem so_X0_glassOnDesk_24 : sgOK mi_X0_glassOnDesk gm_X0_glassOnDesk sg_X0_glassOnDesk_24 = true := by decide +kernel
def sgs_X0_glassOnDesk : Nat → Option (List Ins) := fun t => match t with
  | 0 => some sg_X0_glassOnDesk_0
  | 23 => some sg_X0_glassOnDesk_23
  | 24 => some sg_X0_glassOnDesk_24
  | _ => none
theorem so_X0_glassOnDesk : ∀ t sg, sgs_X0_glassOnDesk t = some sg → sgOK mi_X0_glassOnDesk gm_X0_glassOnDesk sg = true ∧ segPc sg = t := by
  intro t sg h
  unfold sgs_X0_glassOnDesk at h
  split at h
  · cases h; exact ⟨so_X0_glassOnDesk_0, rfl⟩
  · cases h; exact ⟨so_X0_glassOnDesk_23, rfl⟩
  · cases h; exact ⟨so_X0_glassOnDesk_24, rfl⟩
  · cases h
def gm_X0_change : List MI := []
def sg_X0_change_0 : List Ins := [(0, .iload_n 1, 0, 0, 0, 0), (1, .ifCond .lt 8, 0, 0, 9, 0), (4, .iload_n 1, 0, 0, 0, 0), (5, .iconst 3, 3, 0, 0, 0), (6, .if_icmp .le 6, 0, 0, 12, 0), (9, .bipush (-2), 2, 1, 0, 0), (11, .ireturn, 0, 0, 0, 0)]
theorem so_X0_change_0 : sgOK mi_X0_change gm_X0_change sg_X0_change_0 = true := by decide +kernel
def sg_X0_change_9 : List Ins := [(9, .bipush (-2), 2, 1, 0, 0), (11, .ireturn, 0, 0, 0, 0)]
theorem so_X0_change_9 : sgOK mi_X0_change gm_X0_change sg_X0_change_9 = true := by decide +kernel
def sg_X0_change_12 : List Ins := [(12, .iload_n 2, 0, 0, 0, 0), (13, .getstatic 58, 0, 0, 310, 0), (16, .iload_n 1, 0, 0, 0, 0), (17, .iaload, 14, 0, 0, 0), (18, .if_icmp .lt 12, 0, 0, 30, 0), (21, .iload_n 2, 0, 0, 0, 0), (22, .getstatic 61, 1, 0, 312, 0), (25, .iload_n 1, 0, 0, 0, 0), (26, .iaload, 15, 0, 0, 0), (27, .if_icmp .le 6, 0, 0, 33, 0), (30, .bipush (-2), 2, 1, 0, 0), (32, .ireturn, 0, 0, 0, 0)]
theorem so_X0_change_12 : sgOK mi_X0_change gm_X0_change sg_X0_change_12 = true := by decide +kernel
def sg_X0_change_30 : List Ins := [(30, .bipush (-2), 2, 1, 0, 0), (32, .ireturn, 0, 0, 0, 0)]
theorem so_X0_change_30 : sgOK mi_X0_change gm_X0_change sg_X0_change_30 = true := by decide +kernel
def sg_X0_change_33 : List Ins := [(33, .aload_n 0, 0, 0, 0, 0), (34, .getfield 9, 0, 0, 127, 0), (37, .iload_n 1, 0, 0, 0, 0), (38, .iaload, 8, 0, 0, 0), (39, .istore_n 3, 0, 0, 0, 0), (40, .aload_n 0, 0, 0, 0, 0), (41, .getfield 9, 0, 0, 127, 0), (44, .iload_n 1, 0, 0, 0, 0), (45, .iload_n 2, 0, 0, 0, 0), (46, .iastore, 0, 0, 0, 0), (47, .iload_n 3, 0, 0, 0, 0), (48, .ireturn, 0, 0, 0, 0)]
theorem so_X0_change_33 : sgOK mi_X0_change gm_X0_change sg_X0_change_33 = true := by decide +kernel
def sgs_X0_change : Nat → Option (List Ins) := fun t => match t with
  | 0 => some sg_X0_change_0
  | 9 => some sg_X0_change_9
  | 12 => some sg_X0_change_12
  | 30 => some sg_X0_change_30
  | 33 => some sg_X0_change_33
  | _ => none
theorem so_X0_change : ∀ t sg, sgs_X0_change t = some sg → sgOK mi_X0_change gm_X0_change sg = true ∧ segPc sg = t := by
  intro t sg h
  unfold sgs_X0_change at h
  split at h
  · cases h; exact ⟨so_X0_change_0, rfl⟩
  · cases h; exact ⟨so_X0_change_9, rfl⟩
  · cases h; exact ⟨so_X0_change_12, rfl⟩
  · cases h; exact ⟨so_X0_change_30, rfl⟩
  · cases h; exact ⟨so_X0_change_33, rfl⟩
  · cases h
def gm_X0_addPlate : List MI := [mi_X1_makeNew]
def sg_X0_addPlate_0 : List Ins := [(0, .aload_n 0, 0, 0, 0, 0), (1, .getfield 34, 0, 6, 139, 0), (4, .iconst 4, 4, 0, 0, 0), (5, .if_icmp .lt 6, 0, 0, 11, 0), (8, .bipush (-4), 4, 1, 0, 0), (10, .ireturn, 0, 0, 0, 0)]
theorem so_X0_addPlate_0 : sgOK mi_X0_addPlate gm_X0_addPlate sg_X0_addPlate_0 = true := by decide +kernel
def sg_X0_addPlate_11 : List Ins := [(11, .aload_n 0, 0, 0, 0, 0), (12, .getfield 26, 0, 4, 135, 0), (15, .aload_n 0, 0, 0, 0, 0), (16, .getfield 34, 0, 6, 139, 0), (19, .aaload, 13, 0, 0, 0), (20, .invokevirtual 64, 329, 0, 11, 1), (23, .aload_n 0, 0, 0, 0, 0), (24, .aload_n 0, 0, 0, 0, 0), (25, .getfield 34, 0, 6, 139, 0), (28, .putfield 37, 0, 7, 141, 0), (31, .aload_n 0, 0, 0, 0, 0), (32, .dup, 0, 0, 0, 0), (33, .getfield 34, 0, 6, 139, 0), (36, .iconst 1, 1, 0, 0, 0), (37, .iadd, 0, 0, 0, 0), (38, .putfield 34, 0, 6, 139, 0), (41, .aload_n 0, 0, 0, 0, 0), (42, .getfield 37, 0, 7, 141, 0), (45, .ireturn, 0, 0, 0, 0)]
theorem so_X0_addPlate_11 : sgOK mi_X0_addPlate gm_X0_addPlate sg_X0_addPlate_11 = true := by decide +kernel
def sgs_X0_addPlate : Nat → Option (List Ins) := fun t => match t with
  | 0 => some sg_X0_addPlate_0
  | 11 => some sg_X0_addPlate_11
  | _ => none
theorem so_X0_addPlate : ∀ t sg, sgs_X0_addPlate t = some sg → sgOK mi_X0_addPlate gm_X0_addPlate sg = true ∧ segPc sg = t := by
  intro t sg h
  unfold sgs_X0_addPlate at h
  split at h
  · cases h; exact ⟨so_X0_addPlate_0, rfl⟩
  · cases h; exact ⟨so_X0_addPlate_11, rfl⟩
  · cases h
def gm_X0_layPlate : List MI := [mi_X0_isPlate]
def sg_X0_layPlate_0 : List Ins := [(0, .aload_n 0, 0, 0, 0, 0), (1, .iload_n 1, 0, 0, 0, 0), (2, .invokevirtual 54, 347, 0, 10, 2), (5, .ifCond .ne 5, 0, 0, 10, 0), (8, .iconst (-1), 1, 1, 0, 0), (9, .ireturn, 0, 0, 0, 0)]
theorem so_X0_layPlate_0 : sgOK mi_X0_layPlate gm_X0_layPlate sg_X0_layPlate_0 = true := by decide +kernel
def sg_X0_layPlate_10 : List Ins := [(10, .iload_n 1, 0, 0, 0, 0), (11, .aload_n 0, 0, 0, 0, 0), (12, .getfield 37, 0, 7, 141, 0), (15, .if_icmp .ne 6, 0, 0, 21, 0), (18, .bipush (-5), 5, 1, 0, 0), (20, .ireturn, 0, 0, 0, 0)]
theorem so_X0_layPlate_10 : sgOK mi_X0_layPlate gm_X0_layPlate sg_X0_layPlate_10 = true := by decide +kernel
def sg_X0_layPlate_21 : List Ins := [(21, .aload_n 0, 0, 0, 0, 0), (22, .getfield 37, 0, 7, 141, 0), (25, .istore_n 2, 0, 0, 0, 0), (26, .aload_n 0, 0, 0, 0, 0), (27, .iload_n 1, 0, 0, 0, 0), (28, .putfield 37, 0, 7, 141, 0), (31, .iload_n 2, 0, 0, 0, 0), (32, .ireturn, 0, 0, 0, 0)]
theorem so_X0_layPlate_21 : sgOK mi_X0_layPlate gm_X0_layPlate sg_X0_layPlate_21 = true := by decide +kernel
def sgs_X0_layPlate : Nat → Option (List Ins) := fun t => match t with
  | 0 => some sg_X0_layPlate_0
  | 10 => some sg_X0_layPlate_10
  | 21 => some sg_X0_layPlate_21
  | _ => none
theorem so_X0_layPlate : ∀ t sg, sgs_X0_layPlate t = some sg → sgOK mi_X0_layPlate gm_X0_layPlate sg = true ∧ segPc sg = t := by
  intro t sg h
  unfold sgs_X0_layPlate at h
  split at h
  · cases h; exact ⟨so_X0_layPlate_0, rfl⟩
  · cases h; exact ⟨so_X0_layPlate_10, rfl⟩
  · cases h; exact ⟨so_X0_layPlate_21, rfl⟩
  · cases h
def gm_X0_addWriter : List MI := []
def sg_X0_addWriter_0 : List Ins := [(0, .iload_n 1, 0, 0, 0, 0), (1, .iconst 1, 1, 0, 0, 0), (2, .if_icmp .lt 8, 0, 0, 10, 0), (5, .iload_n 1, 0, 0, 0, 0), (6, .iconst 5, 5, 0, 0, 0), (7, .if_icmp .le 6, 0, 0, 13, 0), (10, .bipush (-2), 2, 1, 0, 0), (12, .ireturn, 0, 0, 0, 0)]
theorem so_X0_addWriter_0 : sgOK mi_X0_addWriter gm_X0_addWriter sg_X0_addWriter_0 = true := by decide +kernel
def sg_X0_addWriter_10 : List Ins := [(10, .bipush (-2), 2, 1, 0, 0), (12, .ireturn, 0, 0, 0, 0)]
theorem so_X0_addWriter_10 : sgOK mi_X0_addWriter gm_X0_addWriter sg_X0_addWriter_10 = true := by decide +kernel
def sg_X0_addWriter_13 : List Ins := [(13, .aload_n 0, 0, 0, 0, 0), (14, .getfield 40, 0, 8, 143, 0), (17, .iconst 5, 5, 0, 0, 0), (18, .if_icmp .lt 6, 0, 0, 24, 0), (21, .bipush (-4), 4, 1, 0, 0), (23, .ireturn, 0, 0, 0, 0)]
theorem so_X0_addWriter_13 : sgOK mi_X0_addWriter gm_X0_addWriter sg_X0_addWriter_13 = true := by decide +kernel
def sg_X0_addWriter_24 : List Ins := [(24, .aload_n 0, 0, 0, 0, 0), (25, .getfield 15, 0, 1, 129, 0), (28, .aload_n 0, 0, 0, 0, 0), (29, .getfield 40, 0, 8, 143, 0), (32, .iload_n 1, 0, 0, 0, 0), (33, .iastore, 0, 0, 0, 0), (34, .aload_n 0, 0, 0, 0, 0), (35, .getfield 18, 0, 2, 131, 0), (38, .aload_n 0, 0, 0, 0, 0), (39, .getfield 40, 0, 8, 143, 0), (42, .iconst 0, 0, 0, 0, 0), (43, .iastore, 0, 0, 0, 0), (44, .aload_n 0, 0, 0, 0, 0), (45, .getfield 21, 0, 3, 133, 0), (48, .aload_n 0, 0, 0, 0, 0), (49, .getfield 40, 0, 8, 143, 0), (52, .iconst 0, 0, 0, 0, 0), (53, .iastore, 0, 0, 0, 0), (54, .aload_n 0, 0, 0, 0, 0), (55, .dup, 0, 0, 0, 0), (56, .getfield 40, 0, 8, 143, 0), (59, .iconst 1, 1, 0, 0, 0), (60, .iadd, 0, 0, 0, 0), (61, .putfield 40, 0, 8, 143, 0), (64, .aload_n 0, 0, 0, 0, 0), (65, .getfield 40, 0, 8, 143, 0), (68, .iconst 1, 1, 0, 0, 0), (69, .isub, 0, 0, 0, 0), (70, .ireturn, 0, 0, 0, 0)]
theorem so_X0_addWriter_24 : sgOK mi_X0_addWriter gm_X0_addWriter sg_X0_addWriter_24 = true := by decide +kernel
def sgs_X0_addWriter : Nat → Option (List Ins) := fun t => match t with
  | 0 => some sg_X0_addWriter_0
  | 10 => some sg_X0_addWriter_10
  | 13 => some sg_X0_addWriter_13
  | 24 => some sg_X0_addWriter_24
  | _ => none
theorem so_X0_addWriter : ∀ t sg, sgs_X0_addWriter t = some sg → sgOK mi_X0_addWriter gm_X0_addWriter sg = true ∧ segPc sg = t := by
  intro t sg h
  unfold sgs_X0_addWriter at h
  split at h
  · cases h; exact ⟨so_X0_addWriter_0, rfl⟩
  · cases h; exact ⟨so_X0_addWriter_10, rfl⟩
  · cases h; exact ⟨so_X0_addWriter_13, rfl⟩
  · cases h; exact ⟨so_X0_addWriter_24, rfl⟩
  · cases h
def gm_X0_isEnough : List MI := []
def sg_X0_isEnough_0 : List Ins := [(0, .fload_n 1, 0, 0, 0, 0), (1, .aload_n 0, 0, 0, 0, 0), (2, .getfield 9, 0, 0, 127, 0), (5, .iconst 2, 2, 0, 0, 0), (6, .iaload, 8, 0, 0, 0), (7, .i2f, 0, 0, 0, 0), (8, .ldc 111, 1120403456, 1, 382, 0), (10, .fdiv, 0, 0, 0, 0), (11, .fcmp .l, 0, 0, 0, 0), (12, .ifCond .lt 7, 0, 0, 19, 0), (15, .iconst 1, 1, 0, 0, 0), (16, .goto 4, 0, 0, 20, 0)]
theorem so_X0_isEnough_0 : sgOK mi_X0_isEnough gm_X0_isEnough sg_X0_isEnough_0 = true := by decide +kernel
def sg_X0_isEnough_19 : List Ins := [(19, .iconst 0, 0, 0, 0, 0), (20, .ireturn, 0, 0, 0, 0)]
theorem so_X0_isEnough_19 : sgOK mi_X0_isEnough gm_X0_isEnough sg_X0_isEnough_19 = true := by decide +kernel
def sg_X0_isEnough_20 : List Ins := [(20, .ireturn, 0, 0, 0, 0)]
theorem so_X0_isEnough_20 : sgOK mi_X0_isEnough gm_X0_isEnough sg_X0_isEnough_20 = true := by decide +kernel
def sgs_X0_isEnough : Nat → Option (List Ins) := fun t => match t with
  | 0 => some sg_X0_isEnough_0
  | 19 => some sg_X0_isEnough_19
  | 20 => some sg_X0_isEnough_20
  | _ => none
theorem so_X0_isEnough : ∀ t sg, sgs_X0_isEnough t = some sg → sgOK mi_X0_isEnough gm_X0_isEnough sg = true ∧ segPc sg = t := by
  intro t sg h
  unfold sgs_X0_isEnough at h
  split at h
  · cases h; exact ⟨so_X0_isEnough_0, rfl⟩
  · cases h; exact ⟨so_X0_isEnough_19, rfl⟩
  · cases h; exact ⟨so_X0_isEnough_20, rfl⟩
  · cases h
def gm_X0_canBeRead : List MI := [mi_X0_isEnough]
def sg_X0_canBeRead_0 : List Ins := [(0, .aload_n 1, 0, 0, 0, 0), (1, .getfield 78, 1, 1, 107, 0), (4, .iload_n 2, 0, 0, 0, 0), (5, .iaload, 8, 0, 0, 0), (6, .bipush (-6), 6, 1, 0, 0), (8, .if_icmp .eq 20, 0, 0, 28, 0), (11, .aload_n 0, 0, 0, 0, 0), (12, .aload_n 1, 0, 0, 0, 0), (13, .getfield 84, 1, 0, 104, 0), (16, .iload_n 2, 0, 0, 0, 0), (17, .faload, 0, 0, 0, 0), (18, .invokevirtual 88, 378, 0, 10, 2), (21, .ifCond .eq 7, 0, 0, 28, 0), (24, .iconst 1, 1, 0, 0, 0), (25, .goto 4, 0, 0, 29, 0)]
theorem so_X0_canBeRead_0 : sgOK mi_X0_canBeRead gm_X0_canBeRead sg_X0_canBeRead_0 = true := by decide +kernel
def sg_X0_canBeRead_28 : List Ins := [(28, .iconst 0, 0, 0, 0, 0), (29, .ireturn, 0, 0, 0, 0)]
theorem so_X0_canBeRead_28 : sgOK mi_X0_canBeRead gm_X0_canBeRead sg_X0_canBeRead_28 = true := by decide +kernel
def sg_X0_canBeRead_29 : List Ins := [(29, .ireturn, 0, 0, 0, 0)]
theorem so_X0_canBeRead_29 : sgOK mi_X0_canBeRead gm_X0_canBeRead sg_X0_canBeRead_29 = true := by decide +kernel
def sgs_X0_canBeRead : Nat → Option (List Ins) := fun t => match t with
  | 0 => some sg_X0_canBeRead_0
  | 28 => some sg_X0_canBeRead_28
  | 29 => some sg_X0_canBeRead_29
  | _ => none
theorem so_X0_canBeRead : ∀ t sg, sgs_X0_canBeRead t = some sg → sgOK mi_X0_canBeRead gm_X0_canBeRead sg = true ∧ segPc sg = t := by
  intro t sg h
  unfold sgs_X0_canBeRead at h
  split at h
  · cases h; exact ⟨so_X0_canBeRead_0, rfl⟩
  · cases h; exact ⟨so_X0_canBeRead_28, rfl⟩
  · cases h; exact ⟨so_X0_canBeRead_29, rfl⟩
  · cases h
def gm_X0_distance : List MI := [mi_J9_abs_0f7a4, mi_J9_max_7cf53]
def sg_X0_distance_0 : List Ins := [(0, .iload_n 0, 0, 0, 0, 0), (1, .bipush 12, 12, 0, 0, 0), (3, .idiv, 0, 0, 0, 0), (4, .iload_n 1, 0, 0, 0, 0), (5, .bipush 12, 12, 0, 0, 0), (7, .idiv, 0, 0, 0, 0), (8, .isub, 0, 0, 0, 0), (9, .invokestatic 158, 404, 0, 0, 1), (12, .istore_n 2, 0, 0, 0, 0), (13, .iload_n 0, 0, 0, 0, 0), (14, .bipush 12, 12, 0, 0, 0), (16, .irem, 0, 0, 0, 0), (17, .iload_n 1, 0, 0, 0, 0), (18, .bipush 12, 12, 0, 0, 0), (20, .irem, 0, 0, 0, 0), (21, .isub, 0, 0, 0, 0), (22, .invokestatic 158, 404, 0, 0, 1), (25, .istore_n 3, 0, 0, 0, 0), (26, .iload_n 2, 0, 0, 0, 0), (27, .iload_n 3, 0, 0, 0, 0), (28, .invokestatic 142, 407, 1, 0, 2), (31, .ireturn, 0, 0, 0, 0)]
theorem so_X0_distance_0 : sgOK mi_X0_distance gm_X0_distance sg_X0_distance_0 = true := by decide +kernel
def sgs_X0_distance : Nat → Option (List Ins) := fun t => match t with
  | 0 => some sg_X0_distance_0
  | _ => none
theorem so_X0_distance : ∀ t sg, sgs_X0_distance t = some sg → sgOK mi_X0_distance gm_X0_distance sg = true ∧ segPc sg = t := by
  intro t sg h
  unfold sgs_X0_distance at h
  split at h
  · cases h; exact ⟨so_X0_distance_0, rfl⟩
  · cases h
def gm_X0_dimmed : List MI := []
def sg_X0_dimmed_0 : List Ins := [(0, .iload_n 2, 0, 0, 0, 0), (1, .ifCond .lt 18, 0, 0, 19, 0), (4, .iload_n 2, 0, 0, 0, 0), (5, .iconst 5, 5, 0, 0, 0), (6, .if_icmp .ge 13, 0, 0, 19, 0), (9, .iload_n 3, 0, 0, 0, 0), (10, .iconst 1, 1, 0, 0, 0), (11, .if_icmp .lt 8, 0, 0, 19, 0), (14, .iload_n 3, 0, 0, 0, 0), (15, .iconst 2, 2, 0, 0, 0), (16, .if_icmp .le 5, 0, 0, 21, 0), (19, .fload_n 1, 0, 0, 0, 0), (20, .freturn, 0, 0, 0, 0)]
theorem so_X0_dimmed_0 : sgOK mi_X0_dimmed gm_X0_dimmed sg_X0_dimmed_0 = true := by decide +kernel
def sg_X0_dimmed_19 : List Ins := [(19, .fload_n 1, 0, 0, 0, 0), (20, .freturn, 0, 0, 0, 0)]
theorem so_X0_dimmed_19 : sgOK mi_X0_dimmed gm_X0_dimmed sg_X0_dimmed_19 = true := by decide +kernel
def sg_X0_dimmed_21 : List Ins := [(21, .aload_n 0, 0, 0, 0, 0), (22, .getfield 9, 0, 0, 127, 0), (25, .iload_n 3, 0, 0, 0, 0), (26, .iconst 1, 1, 0, 0, 0), (27, .if_icmp .ne 7, 0, 0, 34, 0), (30, .iconst 0, 0, 0, 0, 0), (31, .goto 4, 0, 0, 35, 0)]
theorem so_X0_dimmed_21 : sgOK mi_X0_dimmed gm_X0_dimmed sg_X0_dimmed_21 = true := by decide +kernel
def sg_X0_dimmed_34 : List Ins := [(34, .iconst 1, 1, 0, 0, 0), (35, .iaload, 8, 0, 0, 0), (36, .aload_n 0, 0, 0, 0, 0), (37, .getfield 15, 0, 1, 129, 0), (40, .iload_n 2, 0, 0, 0, 0), (41, .iaload, 8, 0, 0, 0), (42, .imul, 0, 0, 0, 0), (43, .istore 4, 0, 0, 0, 0), (45, .fload_n 1, 0, 0, 0, 0), (46, .bipush 100, 100, 0, 0, 0), (48, .iload 4, 0, 0, 0, 0), (50, .isub, 0, 0, 0, 0), (51, .i2f, 0, 0, 0, 0), (52, .fmul, 0, 0, 0, 0), (53, .ldc 111, 1120403456, 1, 382, 0), (55, .fdiv, 0, 0, 0, 0), (56, .freturn, 0, 0, 0, 0)]
theorem so_X0_dimmed_34 : sgOK mi_X0_dimmed gm_X0_dimmed sg_X0_dimmed_34 = true := by decide +kernel
def sg_X0_dimmed_35 : List Ins := [(35, .iaload, 8, 0, 0, 0), (36, .aload_n 0, 0, 0, 0, 0), (37, .getfield 15, 0, 1, 129, 0), (40, .iload_n 2, 0, 0, 0, 0), (41, .iaload, 8, 0, 0, 0), (42, .imul, 0, 0, 0, 0), (43, .istore 4, 0, 0, 0, 0), (45, .fload_n 1, 0, 0, 0, 0), (46, .bipush 100, 100, 0, 0, 0), (48, .iload 4, 0, 0, 0, 0), (50, .isub, 0, 0, 0, 0), (51, .i2f, 0, 0, 0, 0), (52, .fmul, 0, 0, 0, 0), (53, .ldc 111, 1120403456, 1, 382, 0), (55, .fdiv, 0, 0, 0, 0), (56, .freturn, 0, 0, 0, 0)]
theorem so_X0_dimmed_35 : sgOK mi_X0_dimmed gm_X0_dimmed sg_X0_dimmed_35 = true := by decide +kernel
def sgs_X0_dimmed : Nat → Option (List Ins) := fun t => match t with
  | 0 => some sg_X0_dimmed_0
  | 19 => some sg_X0_dimmed_19
  | 21 => some sg_X0_dimmed_21
  | 34 => some sg_X0_dimmed_34
  | 35 => some sg_X0_dimmed_35
  | _ => none
theorem so_X0_dimmed : ∀ t sg, sgs_X0_dimmed t = some sg → sgOK mi_X0_dimmed gm_X0_dimmed sg = true ∧ segPc sg = t := by
  intro t sg h
  unfold sgs_X0_dimmed at h
  split at h
  · cases h; exact ⟨so_X0_dimmed_0, rfl⟩
  · cases h; exact ⟨so_X0_dimmed_19, rfl⟩
  · cases h; exact ⟨so_X0_dimmed_21, rfl⟩
  · cases h; exact ⟨so_X0_dimmed_34, rfl⟩
  · cases h; exact ⟨so_X0_dimmed_35, rfl⟩
  · cases h
def gm_X0_mark : List MI := [mi_X6_firstNear, mi_X6_lastNear, mi_X0_canBeRead, mi_X0_distance, mi_X0_dimmed]
def sg_X0_mark_0 : List Ins := [(0, .iload_n 3, 0, 0, 0, 0), (1, .bipush 12, 12, 0, 0, 0), (3, .idiv, 0, 0, 0, 0), (4, .istore 5, 0, 0, 0, 0), (6, .iload_n 3, 0, 0, 0, 0), (7, .bipush 12, 12, 0, 0, 0), (9, .irem, 0, 0, 0, 0), (10, .istore 6, 0, 0, 0, 0), (12, .iconst 0, 0, 0, 0, 0), (13, .istore 7, 0, 0, 0, 0), (15, .iload 5, 0, 0, 0, 0), (17, .invokestatic 120, 387, 0, 1, 1), (20, .istore 8, 0, 0, 0, 0), (22, .nop, 0, 0, 0, 0)]
theorem so_X0_mark_0 : sgOK mi_X0_mark gm_X0_mark sg_X0_mark_0 = true := by decide +kernel
def sg_X0_mark_22 : List Ins := [(22, .iload 8, 0, 0, 0, 0), (24, .iload 5, 0, 0, 0, 0), (26, .bipush 10, 10, 0, 0, 0), (28, .invokestatic 124, 393, 1, 1, 2), (31, .if_icmp .gt 96, 0, 0, 127, 0), (34, .iload 6, 0, 0, 0, 0), (36, .invokestatic 120, 387, 0, 1, 1), (39, .istore 9, 0, 0, 0, 0), (41, .nop, 0, 0, 0, 0)]
theorem so_X0_mark_22 : sgOK mi_X0_mark gm_X0_mark sg_X0_mark_22 = true := by decide +kernel
def sg_X0_mark_41 : List Ins := [(41, .iload 9, 0, 0, 0, 0), (43, .iload 6, 0, 0, 0, 0), (45, .bipush 12, 12, 0, 0, 0), (47, .invokestatic 124, 393, 1, 1, 2), (50, .if_icmp .gt 71, 0, 0, 121, 0), (53, .iload 8, 0, 0, 0, 0), (55, .bipush 12, 12, 0, 0, 0), (57, .imul, 0, 0, 0, 0), (58, .iload 9, 0, 0, 0, 0), (60, .iadd, 0, 0, 0, 0), (61, .istore 10, 0, 0, 0, 0), (63, .aload_n 0, 0, 0, 0, 0), (64, .aload_n 1, 0, 0, 0, 0), (65, .iload 10, 0, 0, 0, 0), (67, .invokevirtual 128, 397, 2, 10, 3), (70, .istore 11, 0, 0, 0, 0), (72, .aload_n 1, 0, 0, 0, 0), (73, .getfield 84, 1, 0, 104, 0), (76, .iload 10, 0, 0, 0, 0), (78, .aload_n 0, 0, 0, 0, 0), (79, .aload_n 1, 0, 0, 0, 0), (80, .getfield 84, 1, 0, 104, 0), (83, .iload 10, 0, 0, 0, 0), (85, .faload, 0, 0, 0, 0), (86, .iload_n 2, 0, 0, 0, 0), (87, .iload_n 3, 0, 0, 0, 0), (88, .iload 10, 0, 0, 0, 0), (90, .invokestatic 131, 401, 3, 0, 2), (93, .invokevirtual 134, 408, 4, 10, 4), (96, .fastore, 0, 0, 0, 0), (97, .iload 11, 0, 0, 0, 0), (99, .ifCond .eq 16, 0, 0, 115, 0), (102, .aload_n 0, 0, 0, 0, 0), (103, .aload_n 1, 0, 0, 0, 0), (104, .iload 10, 0, 0, 0, 0), (106, .invokevirtual 128, 397, 2, 10, 3), (109, .ifCond .ne 6, 0, 0, 115, 0), (112, .iinc 7 1, 1, 0, 0, 0), (115, .iinc 9 1, 1, 0, 0, 0), (118, .goto (-77), 0, 0, 41, 0)]
theorem so_X0_mark_41 : sgOK mi_X0_mark gm_X0_mark sg_X0_mark_41 = true := by decide +kernel
def sg_X0_mark_115 : List Ins := [(115, .iinc 9 1, 1, 0, 0, 0), (118, .goto (-77), 0, 0, 41, 0)]
theorem so_X0_mark_115 : sgOK mi_X0_mark gm_X0_mark sg_X0_mark_115 = true := by decide +kernel
def sg_X0_mark_121 : List Ins := [(121, .iinc 8 1, 1, 0, 0, 0), (124, .goto (-102), 0, 0, 22, 0)]
theorem so_X0_mark_121 : sgOK mi_X0_mark gm_X0_mark sg_X0_mark_121 = true := by decide +kernel
def sg_X0_mark_127 : List Ins := [(127, .aload_n 1, 0, 0, 0, 0), (128, .getfield 78, 1, 1, 107, 0), (131, .iload_n 3, 0, 0, 0, 0), (132, .iload 4, 0, 0, 0, 0), (134, .iastore, 0, 0, 0, 0), (135, .aload_n 1, 0, 0, 0, 0), (136, .getfield 104, 1, 2, 111, 0), (139, .iload_n 3, 0, 0, 0, 0), (140, .iload_n 2, 0, 0, 0, 0), (141, .iastore, 0, 0, 0, 0), (142, .aload_n 1, 0, 0, 0, 0), (143, .getfield 81, 1, 3, 114, 0), (146, .iload_n 3, 0, 0, 0, 0), (147, .bipush (-6), 6, 1, 0, 0), (149, .iastore, 0, 0, 0, 0), (150, .iload 7, 0, 0, 0, 0), (152, .ireturn, 0, 0, 0, 0)]
theorem so_X0_mark_127 : sgOK mi_X0_mark gm_X0_mark sg_X0_mark_127 = true := by decide +kernel
def sgs_X0_mark : Nat → Option (List Ins) := fun t => match t with
  | 0 => some sg_X0_mark_0
  | 115 => some sg_X0_mark_115
  | 121 => some sg_X0_mark_121
  | 127 => some sg_X0_mark_127
  | _ => none
theorem so_X0_mark : ∀ t sg, sgs_X0_mark t = some sg → sgOK mi_X0_mark gm_X0_mark sg = true ∧ segPc sg = t := by
  intro t sg h
  unfold sgs_X0_mark at h
  split at h
  · cases h; exact ⟨so_X0_mark_0, rfl⟩
  · cases h; exact ⟨so_X0_mark_115, rfl⟩
  · cases h; exact ⟨so_X0_mark_121, rfl⟩
  · cases h; exact ⟨so_X0_mark_127, rfl⟩
  · cases h
def gm_X0_writeLetter : List MI := [mi_X0_glassOnDesk, mi_X0_isWriter, mi_X6_isPlace, mi_X0_isEnough, mi_X0_mark]
def sg_X0_writeLetter_0 : List Ins := [(0, .aload_n 0, 0, 0, 0, 0), (1, .invokevirtual 67, 367, 0, 10, 1), (4, .astore 5, 0, 0, 0, 0), (6, .aload_n 0, 0, 0, 0, 0), (7, .iload_n 1, 0, 0, 0, 0), (8, .invokevirtual 71, 371, 1, 10, 2), (11, .ifCond .eq 16, 0, 0, 27, 0), (14, .aload 5, 0, 0, 0, 0), (16, .ifnull 11, 0, 0, 27, 0), (19, .iload_n 2, 0, 0, 0, 0), (20, .iload_n 3, 0, 0, 0, 0), (21, .invokestatic 74, 375, 2, 1, 2), (24, .ifCond .ne 5, 0, 0, 29, 0), (27, .iconst (-1), 1, 1, 0, 0), (28, .ireturn, 0, 0, 0, 0)]
theorem so_X0_writeLetter_0 : sgOK mi_X0_writeLetter gm_X0_writeLetter sg_X0_writeLetter_0 = true := by decide +kernel
def sg_X0_writeLetter_27 : List Ins := [(27, .iconst (-1), 1, 1, 0, 0), (28, .ireturn, 0, 0, 0, 0)]
theorem so_X0_writeLetter_27 : sgOK mi_X0_writeLetter gm_X0_writeLetter sg_X0_writeLetter_27 = true := by decide +kernel
def sg_X0_writeLetter_29 : List Ins := [(29, .iload 4, 0, 0, 0, 0), (31, .ifCond .lt 10, 0, 0, 41, 0), (34, .iload 4, 0, 0, 0, 0), (36, .bipush 26, 26, 0, 0, 0), (38, .if_icmp .lt 6, 0, 0, 44, 0), (41, .bipush (-2), 2, 1, 0, 0), (43, .ireturn, 0, 0, 0, 0)]
theorem so_X0_writeLetter_29 : sgOK mi_X0_writeLetter gm_X0_writeLetter sg_X0_writeLetter_29 = true := by decide +kernel
def sg_X0_writeLetter_41 : List Ins := [(41, .bipush (-2), 2, 1, 0, 0), (43, .ireturn, 0, 0, 0, 0)]
theorem so_X0_writeLetter_41 : sgOK mi_X0_writeLetter gm_X0_writeLetter sg_X0_writeLetter_41 = true := by decide +kernel
def sg_X0_writeLetter_44 : List Ins := [(44, .iload_n 2, 0, 0, 0, 0), (45, .bipush 12, 12, 0, 0, 0), (47, .imul, 0, 0, 0, 0), (48, .iload_n 3, 0, 0, 0, 0), (49, .iadd, 0, 0, 0, 0), (50, .istore 6, 0, 0, 0, 0), (52, .aload 5, 0, 0, 0, 0), (54, .getfield 78, 1, 1, 107, 0), (57, .iload 6, 0, 0, 0, 0), (59, .iaload, 8, 0, 0, 0), (60, .bipush (-6), 6, 1, 0, 0), (62, .if_icmp .ne 28, 0, 0, 90, 0), (65, .aload 5, 0, 0, 0, 0), (67, .getfield 81, 1, 3, 114, 0), (70, .iload 6, 0, 0, 0, 0), (72, .iaload, 8, 0, 0, 0), (73, .bipush (-6), 6, 1, 0, 0), (75, .if_icmp .eq 19, 0, 0, 94, 0), (78, .aload 5, 0, 0, 0, 0), (80, .getfield 81, 1, 3, 114, 0), (83, .iload 6, 0, 0, 0, 0), (85, .iaload, 8, 0, 0, 0), (86, .iload_n 1, 0, 0, 0, 0), (87, .if_icmp .eq 7, 0, 0, 94, 0), (90, .iconst 1, 1, 0, 0, 0), (91, .goto 4, 0, 0, 95, 0)]
theorem so_X0_writeLetter_44 : sgOK mi_X0_writeLetter gm_X0_writeLetter sg_X0_writeLetter_44 = true := by decide +kernel
def sg_X0_writeLetter_90 : List Ins := [(90, .iconst 1, 1, 0, 0, 0), (91, .goto 4, 0, 0, 95, 0)]
theorem so_X0_writeLetter_90 : sgOK mi_X0_writeLetter gm_X0_writeLetter sg_X0_writeLetter_90 = true := by decide +kernel
def sg_X0_writeLetter_94 : List Ins := [(94, .iconst 0, 0, 0, 0, 0), (95, .istore 7, 0, 0, 0, 0), (97, .iload 7, 0, 0, 0, 0), (99, .ifCond .ne 18, 0, 0, 117, 0), (102, .aload_n 0, 0, 0, 0, 0), (103, .aload 5, 0, 0, 0, 0), (105, .getfield 84, 1, 0, 104, 0), (108, .iload 6, 0, 0, 0, 0), (110, .faload, 0, 0, 0, 0), (111, .invokevirtual 88, 378, 3, 10, 2), (114, .ifCond .ne 6, 0, 0, 120, 0), (117, .bipush (-5), 5, 1, 0, 0), (119, .ireturn, 0, 0, 0, 0)]
theorem so_X0_writeLetter_94 : sgOK mi_X0_writeLetter gm_X0_writeLetter sg_X0_writeLetter_94 = true := by decide +kernel
def sg_X0_writeLetter_95 : List Ins := [(95, .istore 7, 0, 0, 0, 0), (97, .iload 7, 0, 0, 0, 0), (99, .ifCond .ne 18, 0, 0, 117, 0), (102, .aload_n 0, 0, 0, 0, 0), (103, .aload 5, 0, 0, 0, 0), (105, .getfield 84, 1, 0, 104, 0), (108, .iload 6, 0, 0, 0, 0), (110, .faload, 0, 0, 0, 0), (111, .invokevirtual 88, 378, 3, 10, 2), (114, .ifCond .ne 6, 0, 0, 120, 0), (117, .bipush (-5), 5, 1, 0, 0), (119, .ireturn, 0, 0, 0, 0)]
theorem so_X0_writeLetter_95 : sgOK mi_X0_writeLetter gm_X0_writeLetter sg_X0_writeLetter_95 = true := by decide +kernel
def sg_X0_writeLetter_117 : List Ins := [(117, .bipush (-5), 5, 1, 0, 0), (119, .ireturn, 0, 0, 0, 0)]
theorem so_X0_writeLetter_117 : sgOK mi_X0_writeLetter gm_X0_writeLetter sg_X0_writeLetter_117 = true := by decide +kernel
def sg_X0_writeLetter_120 : List Ins := [(120, .aload_n 0, 0, 0, 0, 0), (121, .aload 5, 0, 0, 0, 0), (123, .iload_n 1, 0, 0, 0, 0), (124, .iload 6, 0, 0, 0, 0), (126, .iload 4, 0, 0, 0, 0), (128, .invokevirtual 92, 383, 4, 10, 5), (131, .istore 8, 0, 0, 0, 0), (133, .aload_n 0, 0, 0, 0, 0), (134, .getfield 18, 0, 2, 131, 0), (137, .iload_n 1, 0, 0, 0, 0), (138, .dup2, 0, 0, 0, 0), (139, .iaload, 8, 0, 0, 0), (140, .iconst 1, 1, 0, 0, 0), (141, .iadd, 0, 0, 0, 0), (142, .iastore, 0, 0, 0, 0), (143, .aload_n 0, 0, 0, 0, 0), (144, .getfield 21, 0, 3, 133, 0), (147, .iload_n 1, 0, 0, 0, 0), (148, .dup2, 0, 0, 0, 0), (149, .iaload, 8, 0, 0, 0), (150, .iload 8, 0, 0, 0, 0), (152, .iadd, 0, 0, 0, 0), (153, .iastore, 0, 0, 0, 0), (154, .iload 8, 0, 0, 0, 0), (156, .ireturn, 0, 0, 0, 0)]
theorem so_X0_writeLetter_120 : sgOK mi_X0_writeLetter gm_X0_writeLetter sg_X0_writeLetter_120 = true := by decide +kernel
def sgs_X0_writeLetter : Nat → Option (List Ins) := fun t => match t with
  | 0 => some sg_X0_writeLetter_0
  | 27 => some sg_X0_writeLetter_27
  | 29 => some sg_X0_writeLetter_29
  | 41 => some sg_X0_writeLetter_41
  | 44 => some sg_X0_writeLetter_44
  | 90 => some sg_X0_writeLetter_90
  | 94 => some sg_X0_writeLetter_94
  | 95 => some sg_X0_writeLetter_95
  | 117 => some sg_X0_writeLetter_117
  | 120 => some sg_X0_writeLetter_120
  | _ => none
theorem so_X0_writeLetter : ∀ t sg, sgs_X0_writeLetter t = some sg → sgOK mi_X0_writeLetter gm_X0_writeLetter sg = true ∧ segPc sg = t := by
  intro t sg h
  unfold sgs_X0_writeLetter at h
  split at h
  · cases h; exact ⟨so_X0_writeLetter_0, rfl⟩
  · cases h; exact ⟨so_X0_writeLetter_27, rfl⟩
  · cases h; exact ⟨so_X0_writeLetter_29, rfl⟩
  · cases h; exact ⟨so_X0_writeLetter_41, rfl⟩
  · cases h; exact ⟨so_X0_writeLetter_44, rfl⟩
  · cases h; exact ⟨so_X0_writeLetter_90, rfl⟩
  · cases h; exact ⟨so_X0_writeLetter_94, rfl⟩
  · cases h; exact ⟨so_X0_writeLetter_95, rfl⟩
  · cases h; exact ⟨so_X0_writeLetter_117, rfl⟩
  · cases h; exact ⟨so_X0_writeLetter_120, rfl⟩
  · cases h
def gm_X0_lightAhead : List MI := [mi_X6_firstNear, mi_X6_lastNear, mi_X0_distance, mi_X0_dimmed]
def sg_X0_lightAhead_0 : List Ins := [(0, .iload_n 2, 0, 0, 0, 0), (1, .bipush 12, 12, 0, 0, 0), (3, .idiv, 0, 0, 0, 0), (4, .istore_n 3, 0, 0, 0, 0), (5, .iload_n 2, 0, 0, 0, 0), (6, .bipush 12, 12, 0, 0, 0), (8, .irem, 0, 0, 0, 0), (9, .istore 4, 0, 0, 0, 0), (11, .aload_n 1, 0, 0, 0, 0), (12, .getfield 84, 1, 0, 104, 0), (15, .iload_n 2, 0, 0, 0, 0), (16, .faload, 0, 0, 0, 0), (17, .fstore 5, 0, 0, 0, 0), (19, .iload_n 3, 0, 0, 0, 0), (20, .invokestatic 120, 387, 0, 1, 1), (23, .istore 6, 0, 0, 0, 0), (25, .nop, 0, 0, 0, 0)]
theorem so_X0_lightAhead_0 : sgOK mi_X0_lightAhead gm_X0_lightAhead sg_X0_lightAhead_0 = true := by decide +kernel
def sg_X0_lightAhead_25 : List Ins := [(25, .iload 6, 0, 0, 0, 0), (27, .iload_n 3, 0, 0, 0, 0), (28, .bipush 10, 10, 0, 0, 0), (30, .invokestatic 124, 393, 1, 1, 2), (33, .if_icmp .gt 77, 0, 0, 110, 0), (36, .iload 4, 0, 0, 0, 0), (38, .invokestatic 120, 387, 0, 1, 1), (41, .istore 7, 0, 0, 0, 0), (43, .nop, 0, 0, 0, 0)]
theorem so_X0_lightAhead_25 : sgOK mi_X0_lightAhead gm_X0_lightAhead sg_X0_lightAhead_25 = true := by decide +kernel
def sg_X0_lightAhead_43 : List Ins := [(43, .iload 7, 0, 0, 0, 0), (45, .iload 4, 0, 0, 0, 0), (47, .bipush 12, 12, 0, 0, 0), (49, .invokestatic 124, 393, 1, 1, 2), (52, .if_icmp .gt 52, 0, 0, 104, 0), (55, .iload 6, 0, 0, 0, 0), (57, .bipush 12, 12, 0, 0, 0), (59, .imul, 0, 0, 0, 0), (60, .iload 7, 0, 0, 0, 0), (62, .iadd, 0, 0, 0, 0), (63, .istore 8, 0, 0, 0, 0), (65, .aload_n 1, 0, 0, 0, 0), (66, .getfield 81, 1, 3, 114, 0), (69, .iload 8, 0, 0, 0, 0), (71, .iaload, 8, 0, 0, 0), (72, .bipush (-6), 6, 1, 0, 0), (74, .if_icmp .eq 24, 0, 0, 98, 0), (77, .aload_n 0, 0, 0, 0, 0), (78, .fload 5, 0, 0, 0, 0), (80, .aload_n 1, 0, 0, 0, 0), (81, .getfield 81, 1, 3, 114, 0), (84, .iload 8, 0, 0, 0, 0), (86, .iaload, 8, 0, 0, 0), (87, .iload_n 2, 0, 0, 0, 0), (88, .iload 8, 0, 0, 0, 0), (90, .invokestatic 131, 401, 2, 0, 2), (93, .invokevirtual 134, 408, 3, 10, 4), (96, .fstore 5, 0, 0, 0, 0), (98, .iinc 7 1, 1, 0, 0, 0), (101, .goto (-58), 0, 0, 43, 0)]
theorem so_X0_lightAhead_43 : sgOK mi_X0_lightAhead gm_X0_lightAhead sg_X0_lightAhead_43 = true := by decide +kernel
def sg_X0_lightAhead_98 : List Ins := [(98, .iinc 7 1, 1, 0, 0, 0), (101, .goto (-58), 0, 0, 43, 0)]
theorem so_X0_lightAhead_98 : sgOK mi_X0_lightAhead gm_X0_lightAhead sg_X0_lightAhead_98 = true := by decide +kernel
def sg_X0_lightAhead_104 : List Ins := [(104, .iinc 6 1, 1, 0, 0, 0), (107, .goto (-82), 0, 0, 25, 0)]
theorem so_X0_lightAhead_104 : sgOK mi_X0_lightAhead gm_X0_lightAhead sg_X0_lightAhead_104 = true := by decide +kernel
def sg_X0_lightAhead_110 : List Ins := [(110, .fload 5, 0, 0, 0, 0), (112, .freturn, 0, 0, 0, 0)]
theorem so_X0_lightAhead_110 : sgOK mi_X0_lightAhead gm_X0_lightAhead sg_X0_lightAhead_110 = true := by decide +kernel
def sgs_X0_lightAhead : Nat → Option (List Ins) := fun t => match t with
  | 0 => some sg_X0_lightAhead_0
  | 98 => some sg_X0_lightAhead_98
  | 104 => some sg_X0_lightAhead_104
  | 110 => some sg_X0_lightAhead_110
  | _ => none
theorem so_X0_lightAhead : ∀ t sg, sgs_X0_lightAhead t = some sg → sgOK mi_X0_lightAhead gm_X0_lightAhead sg = true ∧ segPc sg = t := by
  intro t sg h
  unfold sgs_X0_lightAhead at h
  split at h
  · cases h; exact ⟨so_X0_lightAhead_0, rfl⟩
  · cases h; exact ⟨so_X0_lightAhead_98, rfl⟩
  · cases h; exact ⟨so_X0_lightAhead_104, rfl⟩
  · cases h; exact ⟨so_X0_lightAhead_110, rfl⟩
  · cases h
def gm_X0_hasRoom : List MI := [mi_X1_isFree, mi_X0_lightAhead, mi_X0_isEnough]
def sg_X0_hasRoom_0 : List Ins := [(0, .aload_n 1, 0, 0, 0, 0), (1, .iload_n 2, 0, 0, 0, 0), (2, .invokevirtual 147, 424, 0, 11, 2), (5, .ifCond .eq 20, 0, 0, 25, 0), (8, .aload_n 0, 0, 0, 0, 0), (9, .aload_n 0, 0, 0, 0, 0), (10, .aload_n 1, 0, 0, 0, 0), (11, .iload_n 2, 0, 0, 0, 0), (12, .invokevirtual 150, 428, 1, 10, 3), (15, .invokevirtual 88, 378, 2, 10, 2), (18, .ifCond .eq 7, 0, 0, 25, 0), (21, .iconst 1, 1, 0, 0, 0), (22, .goto 4, 0, 0, 26, 0)]
theorem so_X0_hasRoom_0 : sgOK mi_X0_hasRoom gm_X0_hasRoom sg_X0_hasRoom_0 = true := by decide +kernel
def sg_X0_hasRoom_25 : List Ins := [(25, .iconst 0, 0, 0, 0, 0), (26, .ireturn, 0, 0, 0, 0)]
theorem so_X0_hasRoom_25 : sgOK mi_X0_hasRoom gm_X0_hasRoom sg_X0_hasRoom_25 = true := by decide +kernel
def sg_X0_hasRoom_26 : List Ins := [(26, .ireturn, 0, 0, 0, 0)]
theorem so_X0_hasRoom_26 : sgOK mi_X0_hasRoom gm_X0_hasRoom sg_X0_hasRoom_26 = true := by decide +kernel
def sgs_X0_hasRoom : Nat → Option (List Ins) := fun t => match t with
  | 0 => some sg_X0_hasRoom_0
  | 25 => some sg_X0_hasRoom_25
  | 26 => some sg_X0_hasRoom_26
  | _ => none
theorem so_X0_hasRoom : ∀ t sg, sgs_X0_hasRoom t = some sg → sgOK mi_X0_hasRoom gm_X0_hasRoom sg = true ∧ segPc sg = t := by
  intro t sg h
  unfold sgs_X0_hasRoom at h
  split at h
  · cases h; exact ⟨so_X0_hasRoom_0, rfl⟩
  · cases h; exact ⟨so_X0_hasRoom_25, rfl⟩
  · cases h; exact ⟨so_X0_hasRoom_26, rfl⟩
  · cases h
def gm_X0_promisePlace : List MI := [mi_X0_glassOnDesk, mi_X0_isWriter, mi_X6_isPlace, mi_X0_hasRoom, mi_X1_promisedPlaces]
def sg_X0_promisePlace_0 : List Ins := [(0, .aload_n 0, 0, 0, 0, 0), (1, .invokevirtual 67, 367, 0, 10, 1), (4, .astore 4, 0, 0, 0, 0), (6, .aload_n 0, 0, 0, 0, 0), (7, .iload_n 1, 0, 0, 0, 0), (8, .invokevirtual 71, 371, 1, 10, 2), (11, .ifCond .eq 16, 0, 0, 27, 0), (14, .aload 4, 0, 0, 0, 0), (16, .ifnull 11, 0, 0, 27, 0), (19, .iload_n 2, 0, 0, 0, 0), (20, .iload_n 3, 0, 0, 0, 0), (21, .invokestatic 74, 375, 2, 1, 2), (24, .ifCond .ne 5, 0, 0, 29, 0), (27, .iconst (-1), 1, 1, 0, 0), (28, .ireturn, 0, 0, 0, 0)]
theorem so_X0_promisePlace_0 : sgOK mi_X0_promisePlace gm_X0_promisePlace sg_X0_promisePlace_0 = true := by decide +kernel
def sg_X0_promisePlace_27 : List Ins := [(27, .iconst (-1), 1, 1, 0, 0), (28, .ireturn, 0, 0, 0, 0)]
theorem so_X0_promisePlace_27 : sgOK mi_X0_promisePlace gm_X0_promisePlace sg_X0_promisePlace_27 = true := by decide +kernel
def sg_X0_promisePlace_29 : List Ins := [(29, .iload_n 2, 0, 0, 0, 0), (30, .bipush 12, 12, 0, 0, 0), (32, .imul, 0, 0, 0, 0), (33, .iload_n 3, 0, 0, 0, 0), (34, .iadd, 0, 0, 0, 0), (35, .istore 5, 0, 0, 0, 0), (37, .aload_n 0, 0, 0, 0, 0), (38, .aload 4, 0, 0, 0, 0), (40, .iload 5, 0, 0, 0, 0), (42, .invokevirtual 96, 420, 3, 10, 3), (45, .ifCond .ne 6, 0, 0, 51, 0), (48, .bipush (-5), 5, 1, 0, 0), (50, .ireturn, 0, 0, 0, 0)]
theorem so_X0_promisePlace_29 : sgOK mi_X0_promisePlace gm_X0_promisePlace sg_X0_promisePlace_29 = true := by decide +kernel
def sg_X0_promisePlace_51 : List Ins := [(51, .aload 4, 0, 0, 0, 0), (53, .getfield 81, 1, 3, 114, 0), (56, .iload 5, 0, 0, 0, 0), (58, .iload_n 1, 0, 0, 0, 0), (59, .iastore, 0, 0, 0, 0), (60, .aload 4, 0, 0, 0, 0), (62, .invokevirtual 100, 432, 4, 11, 1), (65, .ireturn, 0, 0, 0, 0)]
theorem so_X0_promisePlace_51 : sgOK mi_X0_promisePlace gm_X0_promisePlace sg_X0_promisePlace_51 = true := by decide +kernel
def sgs_X0_promisePlace : Nat → Option (List Ins) := fun t => match t with
  | 0 => some sg_X0_promisePlace_0
  | 27 => some sg_X0_promisePlace_27
  | 29 => some sg_X0_promisePlace_29
  | 51 => some sg_X0_promisePlace_51
  | _ => none
theorem so_X0_promisePlace : ∀ t sg, sgs_X0_promisePlace t = some sg → sgOK mi_X0_promisePlace gm_X0_promisePlace sg = true ∧ segPc sg = t := by
  intro t sg h
  unfold sgs_X0_promisePlace at h
  split at h
  · cases h; exact ⟨so_X0_promisePlace_0, rfl⟩
  · cases h; exact ⟨so_X0_promisePlace_27, rfl⟩
  · cases h; exact ⟨so_X0_promisePlace_29, rfl⟩
  · cases h; exact ⟨so_X0_promisePlace_51, rfl⟩
  · cases h
def gm_X0_takePromiseBack : List MI := [mi_X0_glassOnDesk, mi_X6_isPlace]
def sg_X0_takePromiseBack_0 : List Ins := [(0, .aload_n 0, 0, 0, 0, 0), (1, .invokevirtual 67, 367, 0, 10, 1), (4, .astore_n 3, 0, 0, 0, 0), (5, .aload_n 3, 0, 0, 0, 0), (6, .ifnull 11, 0, 0, 17, 0), (9, .iload_n 1, 0, 0, 0, 0), (10, .iload_n 2, 0, 0, 0, 0), (11, .invokestatic 74, 375, 1, 1, 2), (14, .ifCond .ne 5, 0, 0, 19, 0), (17, .iconst (-1), 1, 1, 0, 0), (18, .ireturn, 0, 0, 0, 0)]
theorem so_X0_takePromiseBack_0 : sgOK mi_X0_takePromiseBack gm_X0_takePromiseBack sg_X0_takePromiseBack_0 = true := by decide +kernel
def sg_X0_takePromiseBack_17 : List Ins := [(17, .iconst (-1), 1, 1, 0, 0), (18, .ireturn, 0, 0, 0, 0)]
theorem so_X0_takePromiseBack_17 : sgOK mi_X0_takePromiseBack gm_X0_takePromiseBack sg_X0_takePromiseBack_17 = true := by decide +kernel
def sg_X0_takePromiseBack_19 : List Ins := [(19, .iload_n 1, 0, 0, 0, 0), (20, .bipush 12, 12, 0, 0, 0), (22, .imul, 0, 0, 0, 0), (23, .iload_n 2, 0, 0, 0, 0), (24, .iadd, 0, 0, 0, 0), (25, .istore 4, 0, 0, 0, 0), (27, .aload_n 3, 0, 0, 0, 0), (28, .getfield 81, 1, 3, 114, 0), (31, .iload 4, 0, 0, 0, 0), (33, .iaload, 8, 0, 0, 0), (34, .istore 5, 0, 0, 0, 0), (36, .iload 5, 0, 0, 0, 0), (38, .bipush (-6), 6, 1, 0, 0), (40, .if_icmp .ne 6, 0, 0, 46, 0), (43, .bipush (-5), 5, 1, 0, 0), (45, .ireturn, 0, 0, 0, 0)]
theorem so_X0_takePromiseBack_19 : sgOK mi_X0_takePromiseBack gm_X0_takePromiseBack sg_X0_takePromiseBack_19 = true := by decide +kernel
def sg_X0_takePromiseBack_46 : List Ins := [(46, .aload_n 3, 0, 0, 0, 0), (47, .getfield 81, 1, 3, 114, 0), (50, .iload 4, 0, 0, 0, 0), (52, .bipush (-6), 6, 1, 0, 0), (54, .iastore, 0, 0, 0, 0), (55, .iload 5, 0, 0, 0, 0), (57, .ireturn, 0, 0, 0, 0)]
theorem so_X0_takePromiseBack_46 : sgOK mi_X0_takePromiseBack gm_X0_takePromiseBack sg_X0_takePromiseBack_46 = true := by decide +kernel
def sgs_X0_takePromiseBack : Nat → Option (List Ins) := fun t => match t with
  | 0 => some sg_X0_takePromiseBack_0
  | 17 => some sg_X0_takePromiseBack_17
  | 19 => some sg_X0_takePromiseBack_19
  | 46 => some sg_X0_takePromiseBack_46
  | _ => none
theorem so_X0_takePromiseBack : ∀ t sg, sgs_X0_takePromiseBack t = some sg → sgOK mi_X0_takePromiseBack gm_X0_takePromiseBack sg = true ∧ segPc sg = t := by
  intro t sg h
  unfold sgs_X0_takePromiseBack at h
  split at h
  · cases h; exact ⟨so_X0_takePromiseBack_0, rfl⟩
  · cases h; exact ⟨so_X0_takePromiseBack_17, rfl⟩
  · cases h; exact ⟨so_X0_takePromiseBack_19, rfl⟩
  · cases h; exact ⟨so_X0_takePromiseBack_46, rfl⟩
  · cases h
def gm_X0_rubLetter : List MI := [mi_X0_glassOnDesk, mi_X6_isPlace]
def sg_X0_rubLetter_0 : List Ins := [(0, .aload_n 0, 0, 0, 0, 0), (1, .invokevirtual 67, 367, 0, 10, 1), (4, .astore_n 3, 0, 0, 0, 0), (5, .aload_n 3, 0, 0, 0, 0), (6, .ifnull 11, 0, 0, 17, 0), (9, .iload_n 1, 0, 0, 0, 0), (10, .iload_n 2, 0, 0, 0, 0), (11, .invokestatic 74, 375, 1, 1, 2), (14, .ifCond .ne 5, 0, 0, 19, 0), (17, .iconst (-1), 1, 1, 0, 0), (18, .ireturn, 0, 0, 0, 0)]
theorem so_X0_rubLetter_0 : sgOK mi_X0_rubLetter gm_X0_rubLetter sg_X0_rubLetter_0 = true := by decide +kernel
def sg_X0_rubLetter_17 : List Ins := [(17, .iconst (-1), 1, 1, 0, 0), (18, .ireturn, 0, 0, 0, 0)]
theorem so_X0_rubLetter_17 : sgOK mi_X0_rubLetter gm_X0_rubLetter sg_X0_rubLetter_17 = true := by decide +kernel
def sg_X0_rubLetter_19 : List Ins := [(19, .iload_n 1, 0, 0, 0, 0), (20, .bipush 12, 12, 0, 0, 0), (22, .imul, 0, 0, 0, 0), (23, .iload_n 2, 0, 0, 0, 0), (24, .iadd, 0, 0, 0, 0), (25, .istore 4, 0, 0, 0, 0), (27, .aload_n 3, 0, 0, 0, 0), (28, .getfield 78, 1, 1, 107, 0), (31, .iload 4, 0, 0, 0, 0), (33, .iaload, 8, 0, 0, 0), (34, .istore 5, 0, 0, 0, 0), (36, .iload 5, 0, 0, 0, 0), (38, .bipush (-6), 6, 1, 0, 0), (40, .if_icmp .ne 6, 0, 0, 46, 0), (43, .bipush (-5), 5, 1, 0, 0), (45, .ireturn, 0, 0, 0, 0)]
theorem so_X0_rubLetter_19 : sgOK mi_X0_rubLetter gm_X0_rubLetter sg_X0_rubLetter_19 = true := by decide +kernel
def sg_X0_rubLetter_46 : List Ins := [(46, .aload_n 3, 0, 0, 0, 0), (47, .getfield 78, 1, 1, 107, 0), (50, .iload 4, 0, 0, 0, 0), (52, .bipush (-6), 6, 1, 0, 0), (54, .iastore, 0, 0, 0, 0), (55, .aload_n 3, 0, 0, 0, 0), (56, .getfield 104, 1, 2, 111, 0), (59, .iload 4, 0, 0, 0, 0), (61, .bipush (-6), 6, 1, 0, 0), (63, .iastore, 0, 0, 0, 0), (64, .aload_n 3, 0, 0, 0, 0), (65, .getfield 84, 1, 0, 104, 0), (68, .iload 4, 0, 0, 0, 0), (70, .aload_n 3, 0, 0, 0, 0), (71, .getfield 84, 1, 0, 104, 0), (74, .iload 4, 0, 0, 0, 0), (76, .faload, 0, 0, 0, 0), (77, .fconst 1, 0, 0, 0, 0), (78, .fadd, 0, 0, 0, 0), (79, .fconst 2, 0, 0, 0, 0), (80, .fdiv, 0, 0, 0, 0), (81, .fastore, 0, 0, 0, 0), (82, .iload 5, 0, 0, 0, 0), (84, .ireturn, 0, 0, 0, 0)]
theorem so_X0_rubLetter_46 : sgOK mi_X0_rubLetter gm_X0_rubLetter sg_X0_rubLetter_46 = true := by decide +kernel
def sgs_X0_rubLetter : Nat → Option (List Ins) := fun t => match t with
  | 0 => some sg_X0_rubLetter_0
  | 17 => some sg_X0_rubLetter_17
  | 19 => some sg_X0_rubLetter_19
  | 46 => some sg_X0_rubLetter_46
  | _ => none
theorem so_X0_rubLetter : ∀ t sg, sgs_X0_rubLetter t = some sg → sgOK mi_X0_rubLetter gm_X0_rubLetter sg = true ∧ segPc sg = t := by
  intro t sg h
  unfold sgs_X0_rubLetter at h
  split at h
  · cases h; exact ⟨so_X0_rubLetter_0, rfl⟩
  · cases h; exact ⟨so_X0_rubLetter_17, rfl⟩
  · cases h; exact ⟨so_X0_rubLetter_19, rfl⟩
  · cases h; exact ⟨so_X0_rubLetter_46, rfl⟩
  · cases h
def gm_X0_cleared : List MI := []
def sg_X0_cleared_0 : List Ins := [(0, .fload_n 1, 0, 0, 0, 0), (1, .fconst 1, 0, 0, 0, 0), (2, .fload_n 1, 0, 0, 0, 0), (3, .fsub, 0, 0, 0, 0), (4, .aload_n 0, 0, 0, 0, 0), (5, .getfield 9, 0, 0, 127, 0), (8, .iconst 3, 3, 0, 0, 0), (9, .iaload, 8, 0, 0, 0), (10, .i2f, 0, 0, 0, 0), (11, .fmul, 0, 0, 0, 0), (12, .ldc 111, 1120403456, 1, 382, 0), (14, .fdiv, 0, 0, 0, 0), (15, .fadd, 0, 0, 0, 0), (16, .freturn, 0, 0, 0, 0)]
theorem so_X0_cleared_0 : sgOK mi_X0_cleared gm_X0_cleared sg_X0_cleared_0 = true := by decide +kernel
def sgs_X0_cleared : Nat → Option (List Ins) := fun t => match t with
  | 0 => some sg_X0_cleared_0
  | _ => none
theorem so_X0_cleared : ∀ t sg, sgs_X0_cleared t = some sg → sgOK mi_X0_cleared gm_X0_cleared sg = true ∧ segPc sg = t := by
  intro t sg h
  unfold sgs_X0_cleared at h
  split at h
  · cases h; exact ⟨so_X0_cleared_0, rfl⟩
  · cases h
def gm_X0_clearedFor : List MI := [mi_X0_cleared]
def sg_X0_clearedFor_0 : List Ins := [(0, .fload_n 1, 0, 0, 0, 0), (1, .fstore_n 3, 0, 0, 0, 0), (2, .iconst 0, 0, 0, 0, 0), (3, .istore 4, 0, 0, 0, 0), (5, .nop, 0, 0, 0, 0)]
theorem so_X0_clearedFor_0 : sgOK mi_X0_clearedFor gm_X0_clearedFor sg_X0_clearedFor_0 = true := by decide +kernel
def sg_X0_clearedFor_5 : List Ins := [(5, .iload 4, 0, 0, 0, 0), (7, .iload_n 2, 0, 0, 0, 0), (8, .if_icmp .ge 28, 0, 0, 36, 0), (11, .aload_n 0, 0, 0, 0, 0), (12, .fload_n 3, 0, 0, 0, 0), (13, .invokevirtual 112, 468, 0, 10, 2), (16, .fstore 5, 0, 0, 0, 0), (18, .fload 5, 0, 0, 0, 0), (20, .fload_n 3, 0, 0, 0, 0), (21, .fcmp .l, 0, 0, 0, 0), (22, .ifCond .ne 5, 0, 0, 27, 0), (25, .fload_n 3, 0, 0, 0, 0), (26, .freturn, 0, 0, 0, 0)]
theorem so_X0_clearedFor_5 : sgOK mi_X0_clearedFor gm_X0_clearedFor sg_X0_clearedFor_5 = true := by decide +kernel
def sg_X0_clearedFor_27 : List Ins := [(27, .fload 5, 0, 0, 0, 0), (29, .fstore_n 3, 0, 0, 0, 0), (30, .iinc 4 1, 1, 0, 0, 0), (33, .goto (-28), 0, 0, 5, 0)]
theorem so_X0_clearedFor_27 : sgOK mi_X0_clearedFor gm_X0_clearedFor sg_X0_clearedFor_27 = true := by decide +kernel
def sg_X0_clearedFor_36 : List Ins := [(36, .fload_n 3, 0, 0, 0, 0), (37, .freturn, 0, 0, 0, 0)]
theorem so_X0_clearedFor_36 : sgOK mi_X0_clearedFor gm_X0_clearedFor sg_X0_clearedFor_36 = true := by decide +kernel
def sgs_X0_clearedFor : Nat → Option (List Ins) := fun t => match t with
  | 0 => some sg_X0_clearedFor_0
  | 27 => some sg_X0_clearedFor_27
  | 36 => some sg_X0_clearedFor_36
  | _ => none
theorem so_X0_clearedFor : ∀ t sg, sgs_X0_clearedFor t = some sg → sgOK mi_X0_clearedFor gm_X0_clearedFor sg = true ∧ segPc sg = t := by
  intro t sg h
  unfold sgs_X0_clearedFor at h
  split at h
  · cases h; exact ⟨so_X0_clearedFor_0, rfl⟩
  · cases h; exact ⟨so_X0_clearedFor_27, rfl⟩
  · cases h; exact ⟨so_X0_clearedFor_36, rfl⟩
  · cases h
def gm_X0_clearFor : List MI := [mi_X0_clearedFor]
def sg_X0_clearFor_0 : List Ins := [(0, .iconst 0, 0, 0, 0, 0), (1, .istore_n 3, 0, 0, 0, 0), (2, .nop, 0, 0, 0, 0)]
theorem so_X0_clearFor_0 : sgOK mi_X0_clearFor gm_X0_clearFor sg_X0_clearFor_0 = true := by decide +kernel
def sg_X0_clearFor_2 : List Ins := [(2, .iload_n 3, 0, 0, 0, 0), (3, .bipush 120, 120, 0, 0, 0), (5, .if_icmp .ge 26, 0, 0, 31, 0), (8, .aload_n 1, 0, 0, 0, 0), (9, .getfield 84, 1, 0, 104, 0), (12, .iload_n 3, 0, 0, 0, 0), (13, .aload_n 0, 0, 0, 0, 0), (14, .aload_n 1, 0, 0, 0, 0), (15, .getfield 84, 1, 0, 104, 0), (18, .iload_n 3, 0, 0, 0, 0), (19, .faload, 0, 0, 0, 0), (20, .iload_n 2, 0, 0, 0, 0), (21, .invokevirtual 116, 464, 0, 10, 3), (24, .fastore, 0, 0, 0, 0), (25, .iinc 3 1, 1, 0, 0, 0), (28, .goto (-26), 0, 0, 2, 0)]
theorem so_X0_clearFor_2 : sgOK mi_X0_clearFor gm_X0_clearFor sg_X0_clearFor_2 = true := by decide +kernel
def sg_X0_clearFor_31 : List Ins := [(31, .return_, 0, 0, 0, 0)]
theorem so_X0_clearFor_31 : sgOK mi_X0_clearFor gm_X0_clearFor sg_X0_clearFor_31 = true := by decide +kernel
def sgs_X0_clearFor : Nat → Option (List Ins) := fun t => match t with
  | 0 => some sg_X0_clearFor_0
  | 31 => some sg_X0_clearFor_31
  | _ => none
theorem so_X0_clearFor : ∀ t sg, sgs_X0_clearFor t = some sg → sgOK mi_X0_clearFor gm_X0_clearFor sg = true ∧ segPc sg = t := by
  intro t sg h
  unfold sgs_X0_clearFor at h
  split at h
  · cases h; exact ⟨so_X0_clearFor_0, rfl⟩
  · cases h; exact ⟨so_X0_clearFor_31, rfl⟩
  · cases h
def gm_X0_passHours : List MI := [mi_X0_clearFor]
def sg_X0_passHours_0 : List Ins := [(0, .iload_n 1, 0, 0, 0, 0), (1, .iconst 1, 1, 0, 0, 0), (2, .if_icmp .lt 9, 0, 0, 11, 0), (5, .iload_n 1, 0, 0, 0, 0), (6, .bipush 48, 48, 0, 0, 0), (8, .if_icmp .le 6, 0, 0, 14, 0), (11, .bipush (-2), 2, 1, 0, 0), (13, .ireturn, 0, 0, 0, 0)]
theorem so_X0_passHours_0 : sgOK mi_X0_passHours gm_X0_passHours sg_X0_passHours_0 = true := by decide +kernel
def sg_X0_passHours_11 : List Ins := [(11, .bipush (-2), 2, 1, 0, 0), (13, .ireturn, 0, 0, 0, 0)]
theorem so_X0_passHours_11 : sgOK mi_X0_passHours gm_X0_passHours sg_X0_passHours_11 = true := by decide +kernel
def sg_X0_passHours_14 : List Ins := [(14, .aload_n 0, 0, 0, 0, 0), (15, .getfield 30, 0, 5, 137, 0), (18, .iload_n 1, 0, 0, 0, 0), (19, .iadd, 0, 0, 0, 0), (20, .sipush 9999, 9999, 0, 0, 0), (23, .if_icmp .le 6, 0, 0, 29, 0), (26, .bipush (-5), 5, 1, 0, 0), (28, .ireturn, 0, 0, 0, 0)]
theorem so_X0_passHours_14 : sgOK mi_X0_passHours gm_X0_passHours sg_X0_passHours_14 = true := by decide +kernel
def sg_X0_passHours_29 : List Ins := [(29, .iconst 0, 0, 0, 0, 0), (30, .istore_n 2, 0, 0, 0, 0), (31, .nop, 0, 0, 0, 0)]
theorem so_X0_passHours_29 : sgOK mi_X0_passHours gm_X0_passHours sg_X0_passHours_29 = true := by decide +kernel
def sg_X0_passHours_31 : List Ins := [(31, .iload_n 2, 0, 0, 0, 0), (32, .aload_n 0, 0, 0, 0, 0), (33, .getfield 34, 0, 6, 139, 0), (36, .if_icmp .ge 28, 0, 0, 64, 0), (39, .iload_n 2, 0, 0, 0, 0), (40, .aload_n 0, 0, 0, 0, 0), (41, .getfield 37, 0, 7, 141, 0), (44, .if_icmp .eq 14, 0, 0, 58, 0), (47, .aload_n 0, 0, 0, 0, 0), (48, .aload_n 0, 0, 0, 0, 0), (49, .getfield 26, 0, 4, 135, 0), (52, .iload_n 2, 0, 0, 0, 0), (53, .aaload, 13, 0, 0, 0), (54, .iload_n 1, 0, 0, 0, 0), (55, .invokevirtual 107, 460, 0, 10, 3), (58, .iinc 2 1, 1, 0, 0, 0), (61, .goto (-30), 0, 0, 31, 0)]
theorem so_X0_passHours_31 : sgOK mi_X0_passHours gm_X0_passHours sg_X0_passHours_31 = true := by decide +kernel
def sg_X0_passHours_58 : List Ins := [(58, .iinc 2 1, 1, 0, 0, 0), (61, .goto (-30), 0, 0, 31, 0)]
theorem so_X0_passHours_58 : sgOK mi_X0_passHours gm_X0_passHours sg_X0_passHours_58 = true := by decide +kernel
def sg_X0_passHours_64 : List Ins := [(64, .aload_n 0, 0, 0, 0, 0), (65, .dup, 0, 0, 0, 0), (66, .getfield 30, 0, 5, 137, 0), (69, .iload_n 1, 0, 0, 0, 0), (70, .iadd, 0, 0, 0, 0), (71, .putfield 30, 0, 5, 137, 0), (74, .aload_n 0, 0, 0, 0, 0), (75, .getfield 30, 0, 5, 137, 0), (78, .ireturn, 0, 0, 0, 0)]
theorem so_X0_passHours_64 : sgOK mi_X0_passHours gm_X0_passHours sg_X0_passHours_64 = true := by decide +kernel
def sgs_X0_passHours : Nat → Option (List Ins) := fun t => match t with
  | 0 => some sg_X0_passHours_0
  | 11 => some sg_X0_passHours_11
  | 14 => some sg_X0_passHours_14
  | 29 => some sg_X0_passHours_29
  | 58 => some sg_X0_passHours_58
  | 64 => some sg_X0_passHours_64
  | _ => none
theorem so_X0_passHours : ∀ t sg, sgs_X0_passHours t = some sg → sgOK mi_X0_passHours gm_X0_passHours sg = true ∧ segPc sg = t := by
  intro t sg h
  unfold sgs_X0_passHours at h
  split at h
  · cases h; exact ⟨so_X0_passHours_0, rfl⟩
  · cases h; exact ⟨so_X0_passHours_11, rfl⟩
  · cases h; exact ⟨so_X0_passHours_14, rfl⟩
  · cases h; exact ⟨so_X0_passHours_29, rfl⟩
  · cases h; exact ⟨so_X0_passHours_58, rfl⟩
  · cases h; exact ⟨so_X0_passHours_64, rfl⟩
  · cases h
def gm_X0_lightLeftBy : List MI := [mi_X0_distance, mi_X0_dimmed]
def sg_X0_lightLeftBy_0 : List Ins := [(0, .fconst 1, 0, 0, 0, 0), (1, .fstore 4, 0, 0, 0, 0), (3, .iconst 0, 0, 0, 0, 0), (4, .istore 5, 0, 0, 0, 0), (6, .nop, 0, 0, 0, 0)]
theorem so_X0_lightLeftBy_0 : sgOK mi_X0_lightLeftBy gm_X0_lightLeftBy sg_X0_lightLeftBy_0 = true := by decide +kernel
def sg_X0_lightLeftBy_6 : List Ins := [(6, .iload 5, 0, 0, 0, 0), (8, .bipush 120, 120, 0, 0, 0), (10, .if_icmp .ge 47, 0, 0, 57, 0), (13, .aload_n 1, 0, 0, 0, 0), (14, .getfield 78, 1, 1, 107, 0), (17, .iload 5, 0, 0, 0, 0), (19, .iaload, 8, 0, 0, 0), (20, .bipush (-6), 6, 1, 0, 0), (22, .if_icmp .eq 29, 0, 0, 51, 0), (25, .aload_n 1, 0, 0, 0, 0), (26, .getfield 104, 1, 2, 111, 0), (29, .iload 5, 0, 0, 0, 0), (31, .iaload, 8, 0, 0, 0), (32, .iload_n 2, 0, 0, 0, 0), (33, .if_icmp .ne 18, 0, 0, 51, 0), (36, .aload_n 0, 0, 0, 0, 0), (37, .fload 4, 0, 0, 0, 0), (39, .iload_n 2, 0, 0, 0, 0), (40, .iload_n 3, 0, 0, 0, 0), (41, .iload 5, 0, 0, 0, 0), (43, .invokestatic 131, 401, 0, 0, 2), (46, .invokevirtual 134, 408, 1, 10, 4), (49, .fstore 4, 0, 0, 0, 0), (51, .iinc 5 1, 1, 0, 0, 0), (54, .goto (-48), 0, 0, 6, 0)]
theorem so_X0_lightLeftBy_6 : sgOK mi_X0_lightLeftBy gm_X0_lightLeftBy sg_X0_lightLeftBy_6 = true := by decide +kernel
def sg_X0_lightLeftBy_51 : List Ins := [(51, .iinc 5 1, 1, 0, 0, 0), (54, .goto (-48), 0, 0, 6, 0)]
theorem so_X0_lightLeftBy_51 : sgOK mi_X0_lightLeftBy gm_X0_lightLeftBy sg_X0_lightLeftBy_51 = true := by decide +kernel
def sg_X0_lightLeftBy_57 : List Ins := [(57, .fload 4, 0, 0, 0, 0), (59, .freturn, 0, 0, 0, 0)]
theorem so_X0_lightLeftBy_57 : sgOK mi_X0_lightLeftBy gm_X0_lightLeftBy sg_X0_lightLeftBy_57 = true := by decide +kernel
def sgs_X0_lightLeftBy : Nat → Option (List Ins) := fun t => match t with
  | 0 => some sg_X0_lightLeftBy_0
  | 51 => some sg_X0_lightLeftBy_51
  | 57 => some sg_X0_lightLeftBy_57
  | _ => none
theorem so_X0_lightLeftBy : ∀ t sg, sgs_X0_lightLeftBy t = some sg → sgOK mi_X0_lightLeftBy gm_X0_lightLeftBy sg = true ∧ segPc sg = t := by
  intro t sg h
  unfold sgs_X0_lightLeftBy at h
  split at h
  · cases h; exact ⟨so_X0_lightLeftBy_0, rfl⟩
  · cases h; exact ⟨so_X0_lightLeftBy_51, rfl⟩
  · cases h; exact ⟨so_X0_lightLeftBy_57, rfl⟩
  · cases h
def gm_X0_hoursUntilEnough : List MI := [mi_X0_isEnough, mi_X0_cleared]
def sg_X0_hoursUntilEnough_0 : List Ins := [(0, .fload_n 1, 0, 0, 0, 0), (1, .fstore_n 2, 0, 0, 0, 0), (2, .iconst 0, 0, 0, 0, 0), (3, .istore_n 3, 0, 0, 0, 0), (4, .nop, 0, 0, 0, 0)]
theorem so_X0_hoursUntilEnough_0 : sgOK mi_X0_hoursUntilEnough gm_X0_hoursUntilEnough sg_X0_hoursUntilEnough_0 = true := by decide +kernel
def sg_X0_hoursUntilEnough_4 : List Ins := [(4, .iload_n 3, 0, 0, 0, 0), (5, .sipush 500, 500, 0, 0, 0), (8, .if_icmp .gt 23, 0, 0, 31, 0), (11, .aload_n 0, 0, 0, 0, 0), (12, .fload_n 2, 0, 0, 0, 0), (13, .invokevirtual 88, 378, 0, 10, 2), (16, .ifCond .ne 15, 0, 0, 31, 0), (19, .aload_n 0, 0, 0, 0, 0), (20, .fload_n 2, 0, 0, 0, 0), (21, .invokevirtual 112, 468, 1, 10, 2), (24, .fstore_n 2, 0, 0, 0, 0), (25, .iinc 3 1, 1, 0, 0, 0), (28, .goto (-24), 0, 0, 4, 0)]
theorem so_X0_hoursUntilEnough_4 : sgOK mi_X0_hoursUntilEnough gm_X0_hoursUntilEnough sg_X0_hoursUntilEnough_4 = true := by decide +kernel
def sg_X0_hoursUntilEnough_31 : List Ins := [(31, .iload_n 3, 0, 0, 0, 0), (32, .ireturn, 0, 0, 0, 0)]
theorem so_X0_hoursUntilEnough_31 : sgOK mi_X0_hoursUntilEnough gm_X0_hoursUntilEnough sg_X0_hoursUntilEnough_31 = true := by decide +kernel
def sgs_X0_hoursUntilEnough : Nat → Option (List Ins) := fun t => match t with
  | 0 => some sg_X0_hoursUntilEnough_0
  | 31 => some sg_X0_hoursUntilEnough_31
  | _ => none
theorem so_X0_hoursUntilEnough : ∀ t sg, sgs_X0_hoursUntilEnough t = some sg → sgOK mi_X0_hoursUntilEnough gm_X0_hoursUntilEnough sg = true ∧ segPc sg = t := by
  intro t sg h
  unfold sgs_X0_hoursUntilEnough at h
  split at h
  · cases h; exact ⟨so_X0_hoursUntilEnough_0, rfl⟩
  · cases h; exact ⟨so_X0_hoursUntilEnough_31, rfl⟩
  · cases h
def gm_X0_hoursUntilReadable : List MI := [mi_X0_hoursUntilEnough, mi_J9_max_7cf53]
def sg_X0_hoursUntilReadable_0 : List Ins := [(0, .iconst 0, 0, 0, 0, 0), (1, .istore_n 2, 0, 0, 0, 0), (2, .iconst 0, 0, 0, 0, 0), (3, .istore_n 3, 0, 0, 0, 0), (4, .nop, 0, 0, 0, 0)]
theorem so_X0_hoursUntilReadable_0 : sgOK mi_X0_hoursUntilReadable gm_X0_hoursUntilReadable sg_X0_hoursUntilReadable_0 = true := by decide +kernel
def sg_X0_hoursUntilReadable_4 : List Ins := [(4, .iload_n 3, 0, 0, 0, 0), (5, .bipush 120, 120, 0, 0, 0), (7, .if_icmp .ge 35, 0, 0, 42, 0), (10, .aload_n 1, 0, 0, 0, 0), (11, .getfield 78, 1, 1, 107, 0), (14, .iload_n 3, 0, 0, 0, 0), (15, .iaload, 8, 0, 0, 0), (16, .bipush (-6), 6, 1, 0, 0), (18, .if_icmp .eq 18, 0, 0, 36, 0), (21, .iload_n 2, 0, 0, 0, 0), (22, .aload_n 0, 0, 0, 0, 0), (23, .aload_n 1, 0, 0, 0, 0), (24, .getfield 84, 1, 0, 104, 0), (27, .iload_n 3, 0, 0, 0, 0), (28, .faload, 0, 0, 0, 0), (29, .invokevirtual 138, 609, 0, 10, 2), (32, .invokestatic 142, 407, 1, 0, 2), (35, .istore_n 2, 0, 0, 0, 0), (36, .iinc 3 1, 1, 0, 0, 0), (39, .goto (-35), 0, 0, 4, 0)]
theorem so_X0_hoursUntilReadable_4 : sgOK mi_X0_hoursUntilReadable gm_X0_hoursUntilReadable sg_X0_hoursUntilReadable_4 = true := by decide +kernel
def sg_X0_hoursUntilReadable_36 : List Ins := [(36, .iinc 3 1, 1, 0, 0, 0), (39, .goto (-35), 0, 0, 4, 0)]
theorem so_X0_hoursUntilReadable_36 : sgOK mi_X0_hoursUntilReadable gm_X0_hoursUntilReadable sg_X0_hoursUntilReadable_36 = true := by decide +kernel
def sg_X0_hoursUntilReadable_42 : List Ins := [(42, .iload_n 2, 0, 0, 0, 0), (43, .sipush 500, 500, 0, 0, 0), (46, .if_icmp .le 8, 0, 0, 54, 0), (49, .bipush (-6), 6, 1, 0, 0), (51, .goto 4, 0, 0, 55, 0)]
theorem so_X0_hoursUntilReadable_42 : sgOK mi_X0_hoursUntilReadable gm_X0_hoursUntilReadable sg_X0_hoursUntilReadable_42 = true := by decide +kernel
def sg_X0_hoursUntilReadable_54 : List Ins := [(54, .iload_n 2, 0, 0, 0, 0), (55, .ireturn, 0, 0, 0, 0)]
theorem so_X0_hoursUntilReadable_54 : sgOK mi_X0_hoursUntilReadable gm_X0_hoursUntilReadable sg_X0_hoursUntilReadable_54 = true := by decide +kernel
def sg_X0_hoursUntilReadable_55 : List Ins := [(55, .ireturn, 0, 0, 0, 0)]
theorem so_X0_hoursUntilReadable_55 : sgOK mi_X0_hoursUntilReadable gm_X0_hoursUntilReadable sg_X0_hoursUntilReadable_55 = true := by decide +kernel
def sgs_X0_hoursUntilReadable : Nat → Option (List Ins) := fun t => match t with
  | 0 => some sg_X0_hoursUntilReadable_0
  | 36 => some sg_X0_hoursUntilReadable_36
  | 42 => some sg_X0_hoursUntilReadable_42
  | 54 => some sg_X0_hoursUntilReadable_54
  | 55 => some sg_X0_hoursUntilReadable_55
  | _ => none
theorem so_X0_hoursUntilReadable : ∀ t sg, sgs_X0_hoursUntilReadable t = some sg → sgOK mi_X0_hoursUntilReadable gm_X0_hoursUntilReadable sg = true ∧ segPc sg = t := by
  intro t sg h
  unfold sgs_X0_hoursUntilReadable at h
  split at h
  · cases h; exact ⟨so_X0_hoursUntilReadable_0, rfl⟩
  · cases h; exact ⟨so_X0_hoursUntilReadable_36, rfl⟩
  · cases h; exact ⟨so_X0_hoursUntilReadable_42, rfl⟩
  · cases h; exact ⟨so_X0_hoursUntilReadable_54, rfl⟩
  · cases h; exact ⟨so_X0_hoursUntilReadable_55, rfl⟩
  · cases h
def gm_X0_placeIs : List MI := [mi_X0_canBeRead, mi_X0_hasRoom]
def sg_X0_placeIs_0 : List Ins := [(0, .iload_n 3, 0, 0, 0, 0), (1, .tableswitch 68 0 2 #[27, 44, 51], 27, 0, 0, 0)]
theorem so_X0_placeIs_0 : sgOK mi_X0_placeIs gm_X0_placeIs sg_X0_placeIs_0 = true := by decide +kernel
def sg_X0_placeIs_28 : List Ins := [(28, .aload_n 1, 0, 0, 0, 0), (29, .getfield 78, 1, 1, 107, 0), (32, .iload_n 2, 0, 0, 0, 0), (33, .iaload, 8, 0, 0, 0), (34, .bipush (-6), 6, 1, 0, 0), (36, .if_icmp .eq 7, 0, 0, 43, 0), (39, .iconst 1, 1, 0, 0, 0), (40, .goto 4, 0, 0, 44, 0)]
theorem so_X0_placeIs_28 : sgOK mi_X0_placeIs gm_X0_placeIs sg_X0_placeIs_28 = true := by decide +kernel
def sg_X0_placeIs_43 : List Ins := [(43, .iconst 0, 0, 0, 0, 0), (44, .ireturn, 0, 0, 0, 0)]
theorem so_X0_placeIs_43 : sgOK mi_X0_placeIs gm_X0_placeIs sg_X0_placeIs_43 = true := by decide +kernel
def sg_X0_placeIs_44 : List Ins := [(44, .ireturn, 0, 0, 0, 0)]
theorem so_X0_placeIs_44 : sgOK mi_X0_placeIs gm_X0_placeIs sg_X0_placeIs_44 = true := by decide +kernel
def sg_X0_placeIs_45 : List Ins := [(45, .aload_n 0, 0, 0, 0, 0), (46, .aload_n 1, 0, 0, 0, 0), (47, .iload_n 2, 0, 0, 0, 0), (48, .invokevirtual 128, 397, 0, 10, 3), (51, .ireturn, 0, 0, 0, 0)]
theorem so_X0_placeIs_45 : sgOK mi_X0_placeIs gm_X0_placeIs sg_X0_placeIs_45 = true := by decide +kernel
def sg_X0_placeIs_52 : List Ins := [(52, .aload_n 1, 0, 0, 0, 0), (53, .getfield 81, 1, 3, 114, 0), (56, .iload_n 2, 0, 0, 0, 0), (57, .iaload, 8, 0, 0, 0), (58, .bipush (-6), 6, 1, 0, 0), (60, .if_icmp .eq 7, 0, 0, 67, 0), (63, .iconst 1, 1, 0, 0, 0), (64, .goto 4, 0, 0, 68, 0)]
theorem so_X0_placeIs_52 : sgOK mi_X0_placeIs gm_X0_placeIs sg_X0_placeIs_52 = true := by decide +kernel
def sg_X0_placeIs_67 : List Ins := [(67, .iconst 0, 0, 0, 0, 0), (68, .ireturn, 0, 0, 0, 0)]
theorem so_X0_placeIs_67 : sgOK mi_X0_placeIs gm_X0_placeIs sg_X0_placeIs_67 = true := by decide +kernel
def sg_X0_placeIs_68 : List Ins := [(68, .ireturn, 0, 0, 0, 0)]
theorem so_X0_placeIs_68 : sgOK mi_X0_placeIs gm_X0_placeIs sg_X0_placeIs_68 = true := by decide +kernel
def sg_X0_placeIs_69 : List Ins := [(69, .aload_n 0, 0, 0, 0, 0), (70, .aload_n 1, 0, 0, 0, 0), (71, .iload_n 2, 0, 0, 0, 0), (72, .invokevirtual 96, 420, 1, 10, 3), (75, .ireturn, 0, 0, 0, 0)]
theorem so_X0_placeIs_69 : sgOK mi_X0_placeIs gm_X0_placeIs sg_X0_placeIs_69 = true := by decide +kernel
def sgs_X0_placeIs : Nat → Option (List Ins) := fun t => match t with
  | 0 => some sg_X0_placeIs_0
  | 28 => some sg_X0_placeIs_28
  | 43 => some sg_X0_placeIs_43
  | 44 => some sg_X0_placeIs_44
  | 45 => some sg_X0_placeIs_45
  | 52 => some sg_X0_placeIs_52
  | 67 => some sg_X0_placeIs_67
  | 68 => some sg_X0_placeIs_68
  | 69 => some sg_X0_placeIs_69
  | _ => none
theorem so_X0_placeIs : ∀ t sg, sgs_X0_placeIs t = some sg → sgOK mi_X0_placeIs gm_X0_placeIs sg = true ∧ segPc sg = t := by
  intro t sg h
  unfold sgs_X0_placeIs at h
  split at h
  · cases h; exact ⟨so_X0_placeIs_0, rfl⟩
  · cases h; exact ⟨so_X0_placeIs_28, rfl⟩
  · cases h; exact ⟨so_X0_placeIs_43, rfl⟩
  · cases h; exact ⟨so_X0_placeIs_44, rfl⟩
  · cases h; exact ⟨so_X0_placeIs_45, rfl⟩
  · cases h; exact ⟨so_X0_placeIs_52, rfl⟩
  · cases h; exact ⟨so_X0_placeIs_67, rfl⟩
  · cases h; exact ⟨so_X0_placeIs_68, rfl⟩
  · cases h; exact ⟨so_X0_placeIs_69, rfl⟩
  · cases h
def gm_X0_placesThat : List MI := [mi_X0_placeIs]
def sg_X0_placesThat_0 : List Ins := [(0, .iconst 0, 0, 0, 0, 0), (1, .istore_n 3, 0, 0, 0, 0), (2, .iconst 0, 0, 0, 0, 0), (3, .istore 4, 0, 0, 0, 0), (5, .nop, 0, 0, 0, 0)]
theorem so_X0_placesThat_0 : sgOK mi_X0_placesThat gm_X0_placesThat sg_X0_placesThat_0 = true := by decide +kernel
def sg_X0_placesThat_5 : List Ins := [(5, .iload 4, 0, 0, 0, 0), (7, .bipush 120, 120, 0, 0, 0), (9, .if_icmp .ge 23, 0, 0, 32, 0), (12, .aload_n 0, 0, 0, 0, 0), (13, .aload_n 1, 0, 0, 0, 0), (14, .iload 4, 0, 0, 0, 0), (16, .iload_n 2, 0, 0, 0, 0), (17, .invokevirtual 154, 510, 0, 10, 4), (20, .ifCond .eq 6, 0, 0, 26, 0), (23, .iinc 3 1, 1, 0, 0, 0), (26, .iinc 4 1, 1, 0, 0, 0), (29, .goto (-24), 0, 0, 5, 0)]
theorem so_X0_placesThat_5 : sgOK mi_X0_placesThat gm_X0_placesThat sg_X0_placesThat_5 = true := by decide +kernel
def sg_X0_placesThat_26 : List Ins := [(26, .iinc 4 1, 1, 0, 0, 0), (29, .goto (-24), 0, 0, 5, 0)]
theorem so_X0_placesThat_26 : sgOK mi_X0_placesThat gm_X0_placesThat sg_X0_placesThat_26 = true := by decide +kernel
def sg_X0_placesThat_32 : List Ins := [(32, .iload_n 3, 0, 0, 0, 0), (33, .ireturn, 0, 0, 0, 0)]
theorem so_X0_placesThat_32 : sgOK mi_X0_placesThat gm_X0_placesThat sg_X0_placesThat_32 = true := by decide +kernel
def sgs_X0_placesThat : Nat → Option (List Ins) := fun t => match t with
  | 0 => some sg_X0_placesThat_0
  | 26 => some sg_X0_placesThat_26
  | 32 => some sg_X0_placesThat_32
  | _ => none
theorem so_X0_placesThat : ∀ t sg, sgs_X0_placesThat t = some sg → sgOK mi_X0_placesThat gm_X0_placesThat sg = true ∧ segPc sg = t := by
  intro t sg h
  unfold sgs_X0_placesThat at h
  split at h
  · cases h; exact ⟨so_X0_placesThat_0, rfl⟩
  · cases h; exact ⟨so_X0_placesThat_26, rfl⟩
  · cases h; exact ⟨so_X0_placesThat_32, rfl⟩
  · cases h
def gm_X0_placesOfWriter : List MI := [mi_X0_placeIs]
def sg_X0_placesOfWriter_0 : List Ins := [(0, .iconst 0, 0, 0, 0, 0), (1, .istore_n 3, 0, 0, 0, 0), (2, .iconst 0, 0, 0, 0, 0), (3, .istore 4, 0, 0, 0, 0), (5, .nop, 0, 0, 0, 0)]
theorem so_X0_placesOfWriter_0 : sgOK mi_X0_placesOfWriter gm_X0_placesOfWriter sg_X0_placesOfWriter_0 = true := by decide +kernel
def sg_X0_placesOfWriter_5 : List Ins := [(5, .iload 4, 0, 0, 0, 0), (7, .aload_n 0, 0, 0, 0, 0), (8, .getfield 34, 0, 6, 139, 0), (11, .if_icmp .ge 83, 0, 0, 94, 0), (14, .aload_n 0, 0, 0, 0, 0), (15, .getfield 26, 0, 4, 135, 0), (18, .iload 4, 0, 0, 0, 0), (20, .aaload, 13, 0, 0, 0), (21, .astore 5, 0, 0, 0, 0), (23, .iconst 0, 0, 0, 0, 0), (24, .istore 6, 0, 0, 0, 0), (26, .nop, 0, 0, 0, 0)]
theorem so_X0_placesOfWriter_5 : sgOK mi_X0_placesOfWriter gm_X0_placesOfWriter sg_X0_placesOfWriter_5 = true := by decide +kernel
def sg_X0_placesOfWriter_26 : List Ins := [(26, .iload 6, 0, 0, 0, 0), (28, .bipush 120, 120, 0, 0, 0), (30, .if_icmp .ge 58, 0, 0, 88, 0), (33, .iload_n 2, 0, 0, 0, 0), (34, .iconst 3, 3, 0, 0, 0), (35, .if_icmp .ne 14, 0, 0, 49, 0), (38, .aload 5, 0, 0, 0, 0), (40, .getfield 81, 1, 3, 114, 0), (43, .iload 6, 0, 0, 0, 0), (45, .iaload, 8, 0, 0, 0), (46, .goto 11, 0, 0, 57, 0)]
theorem so_X0_placesOfWriter_26 : sgOK mi_X0_placesOfWriter gm_X0_placesOfWriter sg_X0_placesOfWriter_26 = true := by decide +kernel
def sg_X0_placesOfWriter_49 : List Ins := [(49, .aload 5, 0, 0, 0, 0), (51, .getfield 104, 1, 2, 111, 0), (54, .iload 6, 0, 0, 0, 0), (56, .iaload, 8, 0, 0, 0), (57, .istore 7, 0, 0, 0, 0), (59, .iload 7, 0, 0, 0, 0), (61, .iload_n 1, 0, 0, 0, 0), (62, .if_icmp .ne 20, 0, 0, 82, 0), (65, .aload_n 0, 0, 0, 0, 0), (66, .aload 5, 0, 0, 0, 0), (68, .iload 6, 0, 0, 0, 0), (70, .iload_n 2, 0, 0, 0, 0), (71, .iconst 1, 1, 0, 0, 0), (72, .isub, 0, 0, 0, 0), (73, .invokevirtual 154, 510, 0, 10, 4), (76, .ifCond .eq 6, 0, 0, 82, 0), (79, .iinc 3 1, 1, 0, 0, 0), (82, .iinc 6 1, 1, 0, 0, 0), (85, .goto (-59), 0, 0, 26, 0)]
theorem so_X0_placesOfWriter_49 : sgOK mi_X0_placesOfWriter gm_X0_placesOfWriter sg_X0_placesOfWriter_49 = true := by decide +kernel
def sg_X0_placesOfWriter_57 : List Ins := [(57, .istore 7, 0, 0, 0, 0), (59, .iload 7, 0, 0, 0, 0), (61, .iload_n 1, 0, 0, 0, 0), (62, .if_icmp .ne 20, 0, 0, 82, 0), (65, .aload_n 0, 0, 0, 0, 0), (66, .aload 5, 0, 0, 0, 0), (68, .iload 6, 0, 0, 0, 0), (70, .iload_n 2, 0, 0, 0, 0), (71, .iconst 1, 1, 0, 0, 0), (72, .isub, 0, 0, 0, 0), (73, .invokevirtual 154, 510, 0, 10, 4), (76, .ifCond .eq 6, 0, 0, 82, 0), (79, .iinc 3 1, 1, 0, 0, 0), (82, .iinc 6 1, 1, 0, 0, 0), (85, .goto (-59), 0, 0, 26, 0)]
theorem so_X0_placesOfWriter_57 : sgOK mi_X0_placesOfWriter gm_X0_placesOfWriter sg_X0_placesOfWriter_57 = true := by decide +kernel
def sg_X0_placesOfWriter_82 : List Ins := [(82, .iinc 6 1, 1, 0, 0, 0), (85, .goto (-59), 0, 0, 26, 0)]
theorem so_X0_placesOfWriter_82 : sgOK mi_X0_placesOfWriter gm_X0_placesOfWriter sg_X0_placesOfWriter_82 = true := by decide +kernel
def sg_X0_placesOfWriter_88 : List Ins := [(88, .iinc 4 1, 1, 0, 0, 0), (91, .goto (-86), 0, 0, 5, 0)]
theorem so_X0_placesOfWriter_88 : sgOK mi_X0_placesOfWriter gm_X0_placesOfWriter sg_X0_placesOfWriter_88 = true := by decide +kernel
def sg_X0_placesOfWriter_94 : List Ins := [(94, .iload_n 3, 0, 0, 0, 0), (95, .ireturn, 0, 0, 0, 0)]
theorem so_X0_placesOfWriter_94 : sgOK mi_X0_placesOfWriter gm_X0_placesOfWriter sg_X0_placesOfWriter_94 = true := by decide +kernel
def sgs_X0_placesOfWriter : Nat → Option (List Ins) := fun t => match t with
  | 0 => some sg_X0_placesOfWriter_0
  | 49 => some sg_X0_placesOfWriter_49
  | 57 => some sg_X0_placesOfWriter_57
  | 82 => some sg_X0_placesOfWriter_82
  | 88 => some sg_X0_placesOfWriter_88
  | 94 => some sg_X0_placesOfWriter_94
  | _ => none
theorem so_X0_placesOfWriter : ∀ t sg, sgs_X0_placesOfWriter t = some sg → sgOK mi_X0_placesOfWriter gm_X0_placesOfWriter sg = true ∧ segPc sg = t := by
  intro t sg h
  unfold sgs_X0_placesOfWriter at h
  split at h
  · cases h; exact ⟨so_X0_placesOfWriter_0, rfl⟩
  · cases h; exact ⟨so_X0_placesOfWriter_49, rfl⟩
  · cases h; exact ⟨so_X0_placesOfWriter_57, rfl⟩
  · cases h; exact ⟨so_X0_placesOfWriter_82, rfl⟩
  · cases h; exact ⟨so_X0_placesOfWriter_88, rfl⟩
  · cases h; exact ⟨so_X0_placesOfWriter_94, rfl⟩
  · cases h
def gm_X2_init : List MI := [mi_X0_init]
def sg_X2_init_0 : List Ins := [(0, .aload_n 0, 0, 0, 0, 0), (1, .invokespecial 5, 169, 0, 8, 0), (4, .aload_n 0, 0, 0, 0, 0), (5, .bipush 7, 7, 0, 0, 0), (7, .anewarray 11, 12, 0, 170, 0), (10, .putfield 13, 2, 0, 173, 0), (13, .aload_n 0, 0, 0, 0, 0), (14, .iconst 0, 0, 0, 0, 0), (15, .putfield 17, 2, 1, 174, 0), (18, .aload_n 0, 0, 0, 0, 0), (19, .iconst 0, 0, 0, 0, 0), (20, .putfield 21, 2, 2, 175, 0), (23, .iconst 0, 0, 0, 0, 0), (24, .istore_n 1, 0, 0, 0, 0), (25, .nop, 0, 0, 0, 0)]
theorem so_X2_init_0 : sgOK mi_X2_init gm_X2_init sg_X2_init_0 = true := by decide +kernel
def sg_X2_init_25 : List Ins := [(25, .iload_n 1, 0, 0, 0, 0), (26, .bipush 7, 7, 0, 0, 0), (28, .if_icmp .ge 22, 0, 0, 50, 0), (31, .aload_n 0, 0, 0, 0, 0), (32, .getfield 13, 2, 0, 173, 0), (35, .iload_n 1, 0, 0, 0, 0), (36, .new 11, 0, 90, 170, 68), (39, .dup, 0, 0, 0, 0), (40, .invokespecial 24, 172, 0, 2, 1), (43, .aastore, 12, 0, 0, 0), (44, .iinc 1 1, 1, 0, 0, 0), (47, .goto (-22), 0, 0, 25, 0)]
theorem so_X2_init_25 : sgOK mi_X2_init gm_X2_init sg_X2_init_25 = true := by decide +kernel
def sg_X2_init_50 : List Ins := [(50, .return_, 0, 0, 0, 0)]
theorem so_X2_init_50 : sgOK mi_X2_init gm_X2_init sg_X2_init_50 = true := by decide +kernel
def sgs_X2_init : Nat → Option (List Ins) := fun t => match t with
  | 0 => some sg_X2_init_0
  | 50 => some sg_X2_init_50
  | _ => none
theorem so_X2_init : ∀ t sg, sgs_X2_init t = some sg → sgOK mi_X2_init gm_X2_init sg = true ∧ segPc sg = t := by
  intro t sg h
  unfold sgs_X2_init at h
  split at h
  · cases h; exact ⟨so_X2_init_0, rfl⟩
  · cases h; exact ⟨so_X2_init_50, rfl⟩
  · cases h
def gm_X2_prepare : List MI := [mi_X0_copyFrom]
def sg_X2_prepare_0 : List Ins := [(0, .aload_n 0, 0, 0, 0, 0), (1, .getfield 13, 2, 0, 173, 0), (4, .aload_n 0, 0, 0, 0, 0), (5, .getfield 17, 2, 1, 174, 0), (8, .aaload, 12, 0, 0, 0), (9, .aload_n 1, 0, 0, 0, 0), (10, .invokevirtual 25, 294, 0, 10, 2), (13, .return_, 0, 0, 0, 0)]
theorem so_X2_prepare_0 : sgOK mi_X2_prepare gm_X2_prepare sg_X2_prepare_0 = true := by decide +kernel
def sgs_X2_prepare : Nat → Option (List Ins) := fun t => match t with
  | 0 => some sg_X2_prepare_0
  | _ => none
theorem so_X2_prepare : ∀ t sg, sgs_X2_prepare t = some sg → sgOK mi_X2_prepare gm_X2_prepare sg = true ∧ segPc sg = t := by
  intro t sg h
  unfold sgs_X2_prepare at h
  split at h
  · cases h; exact ⟨so_X2_prepare_0, rfl⟩
  · cases h
def gm_X2_keepUnlessError : List MI := [mi_J9_min_7cf53]
def sg_X2_keepUnlessError_0 : List Ins := [(0, .iload_n 1, 0, 0, 0, 0), (1, .ifCond .lt 31, 0, 0, 32, 0), (4, .aload_n 0, 0, 0, 0, 0), (5, .aload_n 0, 0, 0, 0, 0), (6, .getfield 17, 2, 1, 174, 0), (9, .iconst 1, 1, 0, 0, 0), (10, .iadd, 0, 0, 0, 0), (11, .bipush 7, 7, 0, 0, 0), (13, .irem, 0, 0, 0, 0), (14, .putfield 17, 2, 1, 174, 0), (17, .aload_n 0, 0, 0, 0, 0), (18, .aload_n 0, 0, 0, 0, 0), (19, .getfield 21, 2, 2, 175, 0), (22, .iconst 1, 1, 0, 0, 0), (23, .iadd, 0, 0, 0, 0), (24, .bipush 6, 6, 0, 0, 0), (26, .invokestatic 29, 318, 0, 0, 2), (29, .putfield 21, 2, 2, 175, 0), (32, .iload_n 1, 0, 0, 0, 0), (33, .ireturn, 0, 0, 0, 0)]
theorem so_X2_keepUnlessError_0 : sgOK mi_X2_keepUnlessError gm_X2_keepUnlessError sg_X2_keepUnlessError_0 = true := by decide +kernel
def sg_X2_keepUnlessError_32 : List Ins := [(32, .iload_n 1, 0, 0, 0, 0), (33, .ireturn, 0, 0, 0, 0)]
theorem so_X2_keepUnlessError_32 : sgOK mi_X2_keepUnlessError gm_X2_keepUnlessError sg_X2_keepUnlessError_32 = true := by decide +kernel
def sgs_X2_keepUnlessError : Nat → Option (List Ins) := fun t => match t with
  | 0 => some sg_X2_keepUnlessError_0
  | 32 => some sg_X2_keepUnlessError_32
  | _ => none
theorem so_X2_keepUnlessError : ∀ t sg, sgs_X2_keepUnlessError t = some sg → sgOK mi_X2_keepUnlessError gm_X2_keepUnlessError sg = true ∧ segPc sg = t := by
  intro t sg h
  unfold sgs_X2_keepUnlessError at h
  split at h
  · cases h; exact ⟨so_X2_keepUnlessError_0, rfl⟩
  · cases h; exact ⟨so_X2_keepUnlessError_32, rfl⟩
  · cases h
def gm_X2_takeBackInto : List MI := [mi_X0_copyFrom]
def sg_X2_takeBackInto_0 : List Ins := [(0, .aload_n 0, 0, 0, 0, 0), (1, .getfield 21, 2, 2, 175, 0), (4, .ifCond .ne 6, 0, 0, 10, 0), (7, .bipush (-5), 5, 1, 0, 0), (9, .ireturn, 0, 0, 0, 0)]
theorem so_X2_takeBackInto_0 : sgOK mi_X2_takeBackInto gm_X2_takeBackInto sg_X2_takeBackInto_0 = true := by decide +kernel
def sg_X2_takeBackInto_10 : List Ins := [(10, .aload_n 0, 0, 0, 0, 0), (11, .aload_n 0, 0, 0, 0, 0), (12, .getfield 17, 2, 1, 174, 0), (15, .bipush 7, 7, 0, 0, 0), (17, .iadd, 0, 0, 0, 0), (18, .iconst 1, 1, 0, 0, 0), (19, .isub, 0, 0, 0, 0), (20, .bipush 7, 7, 0, 0, 0), (22, .irem, 0, 0, 0, 0), (23, .putfield 17, 2, 1, 174, 0), (26, .aload_n 0, 0, 0, 0, 0), (27, .dup, 0, 0, 0, 0), (28, .getfield 21, 2, 2, 175, 0), (31, .iconst 1, 1, 0, 0, 0), (32, .isub, 0, 0, 0, 0), (33, .putfield 21, 2, 2, 175, 0), (36, .aload_n 1, 0, 0, 0, 0), (37, .aload_n 0, 0, 0, 0, 0), (38, .getfield 13, 2, 0, 173, 0), (41, .aload_n 0, 0, 0, 0, 0), (42, .getfield 17, 2, 1, 174, 0), (45, .aaload, 12, 0, 0, 0), (46, .invokevirtual 25, 294, 0, 10, 2), (49, .aload_n 0, 0, 0, 0, 0), (50, .getfield 21, 2, 2, 175, 0), (53, .ireturn, 0, 0, 0, 0)]
theorem so_X2_takeBackInto_10 : sgOK mi_X2_takeBackInto gm_X2_takeBackInto sg_X2_takeBackInto_10 = true := by decide +kernel
def sgs_X2_takeBackInto : Nat → Option (List Ins) := fun t => match t with
  | 0 => some sg_X2_takeBackInto_0
  | 10 => some sg_X2_takeBackInto_10
  | _ => none
theorem so_X2_takeBackInto : ∀ t sg, sgs_X2_takeBackInto t = some sg → sgOK mi_X2_takeBackInto gm_X2_takeBackInto sg = true ∧ segPc sg = t := by
  intro t sg h
  unfold sgs_X2_takeBackInto at h
  split at h
  · cases h; exact ⟨so_X2_takeBackInto_0, rfl⟩
  · cases h; exact ⟨so_X2_takeBackInto_10, rfl⟩
  · cases h
def gm_X5_init : List MI := [mi_X1_init]
def sg_X5_init_0 : List Ins := [(0, .aload_n 0, 0, 0, 0, 0), (1, .invokespecial 3, 257, 0, 8, 0), (4, .aload_n 0, 0, 0, 0, 0), (5, .new 9, 1, 97, 258, 69), (8, .dup, 0, 0, 0, 0), (9, .invokespecial 11, 259, 0, 3, 1), (12, .putfield 12, 5, 0, 260, 0), (15, .aload_n 0, 0, 0, 0, 0), (16, .bipush 120, 120, 0, 0, 0), (18, .newarray .float, 9, 0, 126, 0), (20, .putfield 18, 5, 1, 261, 0), (23, .return_, 0, 0, 0, 0)]
theorem so_X5_init_0 : sgOK mi_X5_init gm_X5_init sg_X5_init_0 = true := by decide +kernel
def sgs_X5_init : Nat → Option (List Ins) := fun t => match t with
  | 0 => some sg_X5_init_0
  | _ => none
theorem so_X5_init : ∀ t sg, sgs_X5_init t = some sg → sgOK mi_X5_init gm_X5_init sg = true ∧ segPc sg = t := by
  intro t sg h
  unfold sgs_X5_init at h
  split at h
  · cases h; exact ⟨so_X5_init_0, rfl⟩
  · cases h
def gm_X5_lettersSpoiled : List MI := [mi_X1_copyFrom, mi_X0_mark]
def sg_X5_lettersSpoiled_0 : List Ins := [(0, .aload_n 0, 0, 0, 0, 0), (1, .getfield 12, 5, 0, 260, 0), (4, .aload_n 2, 0, 0, 0, 0), (5, .invokevirtual 22, 549, 0, 11, 2), (8, .aload_n 1, 0, 0, 0, 0), (9, .aload_n 0, 0, 0, 0, 0), (10, .getfield 12, 5, 0, 260, 0), (13, .iload_n 3, 0, 0, 0, 0), (14, .iload 4, 0, 0, 0, 0), (16, .iconst 0, 0, 0, 0, 0), (17, .invokevirtual 26, 550, 1, 10, 5), (20, .ireturn, 0, 0, 0, 0)]
theorem so_X5_lettersSpoiled_0 : sgOK mi_X5_lettersSpoiled gm_X5_lettersSpoiled sg_X5_lettersSpoiled_0 = true := by decide +kernel
def sgs_X5_lettersSpoiled : Nat → Option (List Ins) := fun t => match t with
  | 0 => some sg_X5_lettersSpoiled_0
  | _ => none
theorem so_X5_lettersSpoiled : ∀ t sg, sgs_X5_lettersSpoiled t = some sg → sgOK mi_X5_lettersSpoiled gm_X5_lettersSpoiled sg = true ∧ segPc sg = t := by
  intro t sg h
  unfold sgs_X5_lettersSpoiled at h
  split at h
  · cases h; exact ⟨so_X5_lettersSpoiled_0, rfl⟩
  · cases h
def gm_X5_promisesSpoiled : List MI := [mi_X1_copyFrom, mi_X0_mark, mi_X0_isEnough]
def sg_X5_promisesSpoiled_0 : List Ins := [(0, .aload_n 0, 0, 0, 0, 0), (1, .getfield 12, 5, 0, 260, 0), (4, .aload_n 2, 0, 0, 0, 0), (5, .invokevirtual 22, 549, 0, 11, 2), (8, .aload_n 1, 0, 0, 0, 0), (9, .aload_n 0, 0, 0, 0, 0), (10, .getfield 12, 5, 0, 260, 0), (13, .iload_n 3, 0, 0, 0, 0), (14, .iload 4, 0, 0, 0, 0), (16, .iconst 0, 0, 0, 0, 0), (17, .invokevirtual 26, 550, 1, 10, 5), (20, .pop, 0, 0, 0, 0), (21, .iconst 0, 0, 0, 0, 0), (22, .istore 5, 0, 0, 0, 0), (24, .iconst 0, 0, 0, 0, 0), (25, .istore 6, 0, 0, 0, 0), (27, .nop, 0, 0, 0, 0)]
theorem so_X5_promisesSpoiled_0 : sgOK mi_X5_promisesSpoiled gm_X5_promisesSpoiled sg_X5_promisesSpoiled_0 = true := by decide +kernel
def sg_X5_promisesSpoiled_27 : List Ins := [(27, .iload 6, 0, 0, 0, 0), (29, .bipush 120, 120, 0, 0, 0), (31, .if_icmp .ge 74, 0, 0, 105, 0), (34, .iload 6, 0, 0, 0, 0), (36, .iload 4, 0, 0, 0, 0), (38, .if_icmp .eq 19, 0, 0, 57, 0), (41, .aload_n 2, 0, 0, 0, 0), (42, .getfield 32, 1, 3, 113, 0), (45, .iload 6, 0, 0, 0, 0), (47, .iaload, 8, 0, 0, 0), (48, .bipush (-6), 6, 1, 0, 0), (50, .if_icmp .eq 7, 0, 0, 57, 0), (53, .iconst 1, 1, 0, 0, 0), (54, .goto 4, 0, 0, 58, 0)]
theorem so_X5_promisesSpoiled_27 : sgOK mi_X5_promisesSpoiled gm_X5_promisesSpoiled sg_X5_promisesSpoiled_27 = true := by decide +kernel
def sg_X5_promisesSpoiled_57 : List Ins := [(57, .iconst 0, 0, 0, 0, 0), (58, .istore 7, 0, 0, 0, 0), (60, .iload 7, 0, 0, 0, 0), (62, .ifCond .eq 37, 0, 0, 99, 0), (65, .aload_n 1, 0, 0, 0, 0), (66, .aload_n 2, 0, 0, 0, 0), (67, .getfield 36, 1, 0, 103, 0), (70, .iload 6, 0, 0, 0, 0), (72, .faload, 0, 0, 0, 0), (73, .invokevirtual 39, 555, 2, 10, 2), (76, .ifCond .eq 23, 0, 0, 99, 0), (79, .aload_n 1, 0, 0, 0, 0), (80, .aload_n 0, 0, 0, 0, 0), (81, .getfield 12, 5, 0, 260, 0), (84, .getfield 36, 1, 0, 103, 0), (87, .iload 6, 0, 0, 0, 0), (89, .faload, 0, 0, 0, 0), (90, .invokevirtual 39, 555, 2, 10, 2), (93, .ifCond .ne 6, 0, 0, 99, 0), (96, .iinc 5 1, 1, 0, 0, 0), (99, .iinc 6 1, 1, 0, 0, 0), (102, .goto (-75), 0, 0, 27, 0)]
theorem so_X5_promisesSpoiled_57 : sgOK mi_X5_promisesSpoiled gm_X5_promisesSpoiled sg_X5_promisesSpoiled_57 = true := by decide +kernel
def sg_X5_promisesSpoiled_58 : List Ins := [(58, .istore 7, 0, 0, 0, 0), (60, .iload 7, 0, 0, 0, 0), (62, .ifCond .eq 37, 0, 0, 99, 0), (65, .aload_n 1, 0, 0, 0, 0), (66, .aload_n 2, 0, 0, 0, 0), (67, .getfield 36, 1, 0, 103, 0), (70, .iload 6, 0, 0, 0, 0), (72, .faload, 0, 0, 0, 0), (73, .invokevirtual 39, 555, 2, 10, 2), (76, .ifCond .eq 23, 0, 0, 99, 0), (79, .aload_n 1, 0, 0, 0, 0), (80, .aload_n 0, 0, 0, 0, 0), (81, .getfield 12, 5, 0, 260, 0), (84, .getfield 36, 1, 0, 103, 0), (87, .iload 6, 0, 0, 0, 0), (89, .faload, 0, 0, 0, 0), (90, .invokevirtual 39, 555, 2, 10, 2), (93, .ifCond .ne 6, 0, 0, 99, 0), (96, .iinc 5 1, 1, 0, 0, 0), (99, .iinc 6 1, 1, 0, 0, 0), (102, .goto (-75), 0, 0, 27, 0)]
theorem so_X5_promisesSpoiled_58 : sgOK mi_X5_promisesSpoiled gm_X5_promisesSpoiled sg_X5_promisesSpoiled_58 = true := by decide +kernel
def sg_X5_promisesSpoiled_99 : List Ins := [(99, .iinc 6 1, 1, 0, 0, 0), (102, .goto (-75), 0, 0, 27, 0)]
theorem so_X5_promisesSpoiled_99 : sgOK mi_X5_promisesSpoiled gm_X5_promisesSpoiled sg_X5_promisesSpoiled_99 = true := by decide +kernel
def sg_X5_promisesSpoiled_105 : List Ins := [(105, .iload 5, 0, 0, 0, 0), (107, .ireturn, 0, 0, 0, 0)]
theorem so_X5_promisesSpoiled_105 : sgOK mi_X5_promisesSpoiled gm_X5_promisesSpoiled sg_X5_promisesSpoiled_105 = true := by decide +kernel
def sgs_X5_promisesSpoiled : Nat → Option (List Ins) := fun t => match t with
  | 0 => some sg_X5_promisesSpoiled_0
  | 57 => some sg_X5_promisesSpoiled_57
  | 58 => some sg_X5_promisesSpoiled_58
  | 99 => some sg_X5_promisesSpoiled_99
  | 105 => some sg_X5_promisesSpoiled_105
  | _ => none
theorem so_X5_promisesSpoiled : ∀ t sg, sgs_X5_promisesSpoiled t = some sg → sgOK mi_X5_promisesSpoiled gm_X5_promisesSpoiled sg = true ∧ segPc sg = t := by
  intro t sg h
  unfold sgs_X5_promisesSpoiled at h
  split at h
  · cases h; exact ⟨so_X5_promisesSpoiled_0, rfl⟩
  · cases h; exact ⟨so_X5_promisesSpoiled_57, rfl⟩
  · cases h; exact ⟨so_X5_promisesSpoiled_58, rfl⟩
  · cases h; exact ⟨so_X5_promisesSpoiled_99, rfl⟩
  · cases h; exact ⟨so_X5_promisesSpoiled_105, rfl⟩
  · cases h
def gm_X5_roomLeft : List MI := [mi_X1_copyFrom, mi_X0_mark, mi_X0_placesThat]
def sg_X5_roomLeft_0 : List Ins := [(0, .aload_n 0, 0, 0, 0, 0), (1, .getfield 12, 5, 0, 260, 0), (4, .aload_n 2, 0, 0, 0, 0), (5, .invokevirtual 22, 549, 0, 11, 2), (8, .aload_n 1, 0, 0, 0, 0), (9, .aload_n 0, 0, 0, 0, 0), (10, .getfield 12, 5, 0, 260, 0), (13, .iload_n 3, 0, 0, 0, 0), (14, .iload 4, 0, 0, 0, 0), (16, .iconst 0, 0, 0, 0, 0), (17, .invokevirtual 26, 550, 1, 10, 5), (20, .pop, 0, 0, 0, 0), (21, .aload_n 1, 0, 0, 0, 0), (22, .aload_n 0, 0, 0, 0, 0), (23, .getfield 12, 5, 0, 260, 0), (26, .iconst 3, 3, 0, 0, 0), (27, .invokevirtual 43, 560, 2, 10, 3), (30, .ireturn, 0, 0, 0, 0)]
theorem so_X5_roomLeft_0 : sgOK mi_X5_roomLeft gm_X5_roomLeft sg_X5_roomLeft_0 = true := by decide +kernel
def sgs_X5_roomLeft : Nat → Option (List Ins) := fun t => match t with
  | 0 => some sg_X5_roomLeft_0
  | _ => none
theorem so_X5_roomLeft : ∀ t sg, sgs_X5_roomLeft t = some sg → sgOK mi_X5_roomLeft gm_X5_roomLeft sg = true ∧ segPc sg = t := by
  intro t sg h
  unfold sgs_X5_roomLeft at h
  split at h
  · cases h; exact ⟨so_X5_roomLeft_0, rfl⟩
  · cases h
def gm_X5_lookAhead : List MI := [mi_X1_isFree, mi_X0_lightAhead]
def sg_X5_lookAhead_0 : List Ins := [(0, .iload_n 2, 0, 0, 0, 0), (1, .istore 4, 0, 0, 0, 0), (3, .nop, 0, 0, 0, 0)]
theorem so_X5_lookAhead_0 : sgOK mi_X5_lookAhead gm_X5_lookAhead sg_X5_lookAhead_0 = true := by decide +kernel
def sg_X5_lookAhead_3 : List Ins := [(3, .iload 4, 0, 0, 0, 0), (5, .iload_n 3, 0, 0, 0, 0), (6, .if_icmp .gt 38, 0, 0, 44, 0), (9, .aload_n 0, 0, 0, 0, 0), (10, .getfield 12, 5, 0, 260, 0), (13, .iload 4, 0, 0, 0, 0), (15, .invokevirtual 59, 573, 0, 11, 2), (18, .ifCond .eq 20, 0, 0, 38, 0), (21, .aload_n 0, 0, 0, 0, 0), (22, .getfield 18, 5, 1, 261, 0), (25, .iload 4, 0, 0, 0, 0), (27, .aload_n 1, 0, 0, 0, 0), (28, .aload_n 0, 0, 0, 0, 0), (29, .getfield 12, 5, 0, 260, 0), (32, .iload 4, 0, 0, 0, 0), (34, .invokevirtual 63, 574, 1, 10, 3), (37, .fastore, 0, 0, 0, 0), (38, .iinc 4 1, 1, 0, 0, 0), (41, .goto (-38), 0, 0, 3, 0)]
theorem so_X5_lookAhead_3 : sgOK mi_X5_lookAhead gm_X5_lookAhead sg_X5_lookAhead_3 = true := by decide +kernel
def sg_X5_lookAhead_38 : List Ins := [(38, .iinc 4 1, 1, 0, 0, 0), (41, .goto (-38), 0, 0, 3, 0)]
theorem so_X5_lookAhead_38 : sgOK mi_X5_lookAhead gm_X5_lookAhead sg_X5_lookAhead_38 = true := by decide +kernel
def sg_X5_lookAhead_44 : List Ins := [(44, .return_, 0, 0, 0, 0)]
theorem so_X5_lookAhead_44 : sgOK mi_X5_lookAhead gm_X5_lookAhead sg_X5_lookAhead_44 = true := by decide +kernel
def sgs_X5_lookAhead : Nat → Option (List Ins) := fun t => match t with
  | 0 => some sg_X5_lookAhead_0
  | 38 => some sg_X5_lookAhead_38
  | 44 => some sg_X5_lookAhead_44
  | _ => none
theorem so_X5_lookAhead : ∀ t sg, sgs_X5_lookAhead t = some sg → sgOK mi_X5_lookAhead gm_X5_lookAhead sg = true ∧ segPc sg = t := by
  intro t sg h
  unfold sgs_X5_lookAhead at h
  split at h
  · cases h; exact ⟨so_X5_lookAhead_0, rfl⟩
  · cases h; exact ⟨so_X5_lookAhead_38, rfl⟩
  · cases h; exact ⟨so_X5_lookAhead_44, rfl⟩
  · cases h
def gm_X5_brightest : List MI := [mi_X1_isFree, mi_X0_isEnough]
def sg_X5_brightest_0 : List Ins := [(0, .bipush (-6), 6, 1, 0, 0), (2, .istore_n 2, 0, 0, 0, 0), (3, .fconst 0, 0, 0, 0, 0), (4, .fstore_n 3, 0, 0, 0, 0), (5, .iconst 0, 0, 0, 0, 0), (6, .istore 4, 0, 0, 0, 0), (8, .nop, 0, 0, 0, 0)]
theorem so_X5_brightest_0 : sgOK mi_X5_brightest gm_X5_brightest sg_X5_brightest_0 = true := by decide +kernel
def sg_X5_brightest_8 : List Ins := [(8, .iload 4, 0, 0, 0, 0), (10, .bipush 120, 120, 0, 0, 0), (12, .if_icmp .ge 58, 0, 0, 70, 0), (15, .aload_n 0, 0, 0, 0, 0), (16, .getfield 12, 5, 0, 260, 0), (19, .iload 4, 0, 0, 0, 0), (21, .invokevirtual 59, 573, 0, 11, 2), (24, .ifCond .eq 40, 0, 0, 64, 0), (27, .aload_n 1, 0, 0, 0, 0), (28, .aload_n 0, 0, 0, 0, 0), (29, .getfield 18, 5, 1, 261, 0), (32, .iload 4, 0, 0, 0, 0), (34, .faload, 0, 0, 0, 0), (35, .invokevirtual 39, 555, 1, 10, 2), (38, .ifCond .eq 26, 0, 0, 64, 0), (41, .aload_n 0, 0, 0, 0, 0), (42, .getfield 18, 5, 1, 261, 0), (45, .iload 4, 0, 0, 0, 0), (47, .faload, 0, 0, 0, 0), (48, .fload_n 3, 0, 0, 0, 0), (49, .fcmp .l, 0, 0, 0, 0), (50, .ifCond .le 14, 0, 0, 64, 0), (53, .aload_n 0, 0, 0, 0, 0), (54, .getfield 18, 5, 1, 261, 0), (57, .iload 4, 0, 0, 0, 0), (59, .faload, 0, 0, 0, 0), (60, .fstore_n 3, 0, 0, 0, 0), (61, .iload 4, 0, 0, 0, 0), (63, .istore_n 2, 0, 0, 0, 0), (64, .iinc 4 1, 1, 0, 0, 0), (67, .goto (-59), 0, 0, 8, 0)]
theorem so_X5_brightest_8 : sgOK mi_X5_brightest gm_X5_brightest sg_X5_brightest_8 = true := by decide +kernel
def sg_X5_brightest_64 : List Ins := [(64, .iinc 4 1, 1, 0, 0, 0), (67, .goto (-59), 0, 0, 8, 0)]
theorem so_X5_brightest_64 : sgOK mi_X5_brightest gm_X5_brightest sg_X5_brightest_64 = true := by decide +kernel
def sg_X5_brightest_70 : List Ins := [(70, .iload_n 2, 0, 0, 0, 0), (71, .ireturn, 0, 0, 0, 0)]
theorem so_X5_brightest_70 : sgOK mi_X5_brightest gm_X5_brightest sg_X5_brightest_70 = true := by decide +kernel
def sgs_X5_brightest : Nat → Option (List Ins) := fun t => match t with
  | 0 => some sg_X5_brightest_0
  | 64 => some sg_X5_brightest_64
  | 70 => some sg_X5_brightest_70
  | _ => none
theorem so_X5_brightest : ∀ t sg, sgs_X5_brightest t = some sg → sgOK mi_X5_brightest gm_X5_brightest sg = true ∧ segPc sg = t := by
  intro t sg h
  unfold sgs_X5_brightest at h
  split at h
  · cases h; exact ⟨so_X5_brightest_0, rfl⟩
  · cases h; exact ⟨so_X5_brightest_64, rfl⟩
  · cases h; exact ⟨so_X5_brightest_70, rfl⟩
  · cases h
def gm_X5_brightestOf : List MI := [mi_X1_copyFrom, mi_X5_lookAhead, mi_X5_brightest]
def sg_X5_brightestOf_0 : List Ins := [(0, .aload_n 0, 0, 0, 0, 0), (1, .getfield 12, 5, 0, 260, 0), (4, .aload_n 2, 0, 0, 0, 0), (5, .invokevirtual 22, 549, 0, 11, 2), (8, .aload_n 0, 0, 0, 0, 0), (9, .aload_n 1, 0, 0, 0, 0), (10, .iconst 0, 0, 0, 0, 0), (11, .bipush 119, 119, 0, 0, 0), (13, .invokevirtual 47, 569, 1, 15, 4), (16, .aload_n 0, 0, 0, 0, 0), (17, .aload_n 1, 0, 0, 0, 0), (18, .invokevirtual 51, 575, 2, 15, 2), (21, .ireturn, 0, 0, 0, 0)]
theorem so_X5_brightestOf_0 : sgOK mi_X5_brightestOf gm_X5_brightestOf sg_X5_brightestOf_0 = true := by decide +kernel
def sgs_X5_brightestOf : Nat → Option (List Ins) := fun t => match t with
  | 0 => some sg_X5_brightestOf_0
  | _ => none
theorem so_X5_brightestOf : ∀ t sg, sgs_X5_brightestOf t = some sg → sgOK mi_X5_brightestOf gm_X5_brightestOf sg = true ∧ segPc sg = t := by
  intro t sg h
  unfold sgs_X5_brightestOf at h
  split at h
  · cases h; exact ⟨so_X5_brightestOf_0, rfl⟩
  · cases h
def gm_X5_lookAround : List MI := [mi_X6_firstNear, mi_X6_lastNear, mi_X5_lookAhead]
def sg_X5_lookAround_0 : List Ins := [(0, .iload_n 2, 0, 0, 0, 0), (1, .bipush 12, 12, 0, 0, 0), (3, .idiv, 0, 0, 0, 0), (4, .istore_n 3, 0, 0, 0, 0), (5, .iload_n 2, 0, 0, 0, 0), (6, .bipush 12, 12, 0, 0, 0), (8, .irem, 0, 0, 0, 0), (9, .istore 4, 0, 0, 0, 0), (11, .iload_n 3, 0, 0, 0, 0), (12, .invokestatic 67, 591, 0, 1, 1), (15, .istore 5, 0, 0, 0, 0), (17, .nop, 0, 0, 0, 0)]
theorem so_X5_lookAround_0 : sgOK mi_X5_lookAround gm_X5_lookAround sg_X5_lookAround_0 = true := by decide +kernel
def sg_X5_lookAround_17 : List Ins := [(17, .iload 5, 0, 0, 0, 0), (19, .iload_n 3, 0, 0, 0, 0), (20, .bipush 10, 10, 0, 0, 0), (22, .invokestatic 71, 592, 1, 1, 2), (25, .if_icmp .gt 38, 0, 0, 63, 0), (28, .aload_n 0, 0, 0, 0, 0), (29, .aload_n 1, 0, 0, 0, 0), (30, .iload 5, 0, 0, 0, 0), (32, .bipush 12, 12, 0, 0, 0), (34, .imul, 0, 0, 0, 0), (35, .iload 4, 0, 0, 0, 0), (37, .invokestatic 67, 591, 0, 1, 1), (40, .iadd, 0, 0, 0, 0), (41, .iload 5, 0, 0, 0, 0), (43, .bipush 12, 12, 0, 0, 0), (45, .imul, 0, 0, 0, 0), (46, .iload 4, 0, 0, 0, 0), (48, .bipush 12, 12, 0, 0, 0), (50, .invokestatic 71, 592, 1, 1, 2), (53, .iadd, 0, 0, 0, 0), (54, .invokevirtual 47, 569, 2, 15, 4), (57, .iinc 5 1, 1, 0, 0, 0), (60, .goto (-43), 0, 0, 17, 0)]
theorem so_X5_lookAround_17 : sgOK mi_X5_lookAround gm_X5_lookAround sg_X5_lookAround_17 = true := by decide +kernel
def sg_X5_lookAround_63 : List Ins := [(63, .return_, 0, 0, 0, 0)]
theorem so_X5_lookAround_63 : sgOK mi_X5_lookAround gm_X5_lookAround sg_X5_lookAround_63 = true := by decide +kernel
def sgs_X5_lookAround : Nat → Option (List Ins) := fun t => match t with
  | 0 => some sg_X5_lookAround_0
  | 63 => some sg_X5_lookAround_63
  | _ => none
theorem so_X5_lookAround : ∀ t sg, sgs_X5_lookAround t = some sg → sgOK mi_X5_lookAround gm_X5_lookAround sg = true ∧ segPc sg = t := by
  intro t sg h
  unfold sgs_X5_lookAround at h
  split at h
  · cases h; exact ⟨so_X5_lookAround_0, rfl⟩
  · cases h; exact ⟨so_X5_lookAround_63, rfl⟩
  · cases h
def gm_X5_lettersUntilFull : List MI := [mi_X1_copyFrom, mi_X5_lookAhead, mi_X5_brightest, mi_X0_mark, mi_X5_lookAround]
def sg_X5_lettersUntilFull_0 : List Ins := [(0, .aload_n 0, 0, 0, 0, 0), (1, .getfield 12, 5, 0, 260, 0), (4, .aload_n 2, 0, 0, 0, 0), (5, .invokevirtual 22, 549, 0, 11, 2), (8, .aload_n 0, 0, 0, 0, 0), (9, .aload_n 1, 0, 0, 0, 0), (10, .iconst 0, 0, 0, 0, 0), (11, .bipush 119, 119, 0, 0, 0), (13, .invokevirtual 47, 569, 1, 15, 4), (16, .aload_n 0, 0, 0, 0, 0), (17, .aload_n 1, 0, 0, 0, 0), (18, .invokevirtual 51, 575, 2, 15, 2), (21, .istore 4, 0, 0, 0, 0), (23, .iconst 0, 0, 0, 0, 0), (24, .istore 5, 0, 0, 0, 0), (26, .nop, 0, 0, 0, 0)]
theorem so_X5_lettersUntilFull_0 : sgOK mi_X5_lettersUntilFull gm_X5_lettersUntilFull sg_X5_lettersUntilFull_0 = true := by decide +kernel
def sg_X5_lettersUntilFull_26 : List Ins := [(26, .iload 5, 0, 0, 0, 0), (28, .bipush 120, 120, 0, 0, 0), (30, .if_icmp .ge 43, 0, 0, 73, 0), (33, .iload 4, 0, 0, 0, 0), (35, .bipush (-6), 6, 1, 0, 0), (37, .if_icmp .eq 36, 0, 0, 73, 0), (40, .aload_n 1, 0, 0, 0, 0), (41, .aload_n 0, 0, 0, 0, 0), (42, .getfield 12, 5, 0, 260, 0), (45, .iload_n 3, 0, 0, 0, 0), (46, .iload 4, 0, 0, 0, 0), (48, .iconst 0, 0, 0, 0, 0), (49, .invokevirtual 26, 550, 3, 10, 5), (52, .pop, 0, 0, 0, 0), (53, .iinc 5 1, 1, 0, 0, 0), (56, .aload_n 0, 0, 0, 0, 0), (57, .aload_n 1, 0, 0, 0, 0), (58, .iload 4, 0, 0, 0, 0), (60, .invokevirtual 55, 587, 4, 15, 3), (63, .aload_n 0, 0, 0, 0, 0), (64, .aload_n 1, 0, 0, 0, 0), (65, .invokevirtual 51, 575, 2, 15, 2), (68, .istore 4, 0, 0, 0, 0), (70, .goto (-44), 0, 0, 26, 0)]
theorem so_X5_lettersUntilFull_26 : sgOK mi_X5_lettersUntilFull gm_X5_lettersUntilFull sg_X5_lettersUntilFull_26 = true := by decide +kernel
def sg_X5_lettersUntilFull_73 : List Ins := [(73, .iload 5, 0, 0, 0, 0), (75, .ireturn, 0, 0, 0, 0)]
theorem so_X5_lettersUntilFull_73 : sgOK mi_X5_lettersUntilFull gm_X5_lettersUntilFull sg_X5_lettersUntilFull_73 = true := by decide +kernel
def sgs_X5_lettersUntilFull : Nat → Option (List Ins) := fun t => match t with
  | 0 => some sg_X5_lettersUntilFull_0
  | 73 => some sg_X5_lettersUntilFull_73
  | _ => none
theorem so_X5_lettersUntilFull : ∀ t sg, sgs_X5_lettersUntilFull t = some sg → sgOK mi_X5_lettersUntilFull gm_X5_lettersUntilFull sg = true ∧ segPc sg = t := by
  intro t sg h
  unfold sgs_X5_lettersUntilFull at h
  split at h
  · cases h; exact ⟨so_X5_lettersUntilFull_0, rfl⟩
  · cases h; exact ⟨so_X5_lettersUntilFull_73, rfl⟩
  · cases h
end
section
/-! stretches of code (printed by wip/whole/gen/meth.py) -/
def gm_X6_isPlace : List MI := []
def sg_X6_isPlace_0 : List Ins := [(0, .iload_n 0, 0, 0, 0, 0), (1, .ifCond .lt 23, 0, 0, 24, 0), (4, .iload_n 0, 0, 0, 0, 0), (5, .bipush 10, 10, 0, 0, 0), (7, .if_icmp .ge 17, 0, 0, 24, 0), (10, .iload_n 1, 0, 0, 0, 0), (11, .ifCond .lt 13, 0, 0, 24, 0), (14, .iload_n 1, 0, 0, 0, 0), (15, .bipush 12, 12, 0, 0, 0), (17, .if_icmp .ge 7, 0, 0, 24, 0), (20, .iconst 1, 1, 0, 0, 0), (21, .goto 4, 0, 0, 25, 0)]
theorem so_X6_isPlace_0 : sgOK mi_X6_isPlace gm_X6_isPlace sg_X6_isPlace_0 = true := by decide +kernel
def sg_X6_isPlace_24 : List Ins := [(24, .iconst 0, 0, 0, 0, 0), (25, .ireturn, 0, 0, 0, 0)]
theorem so_X6_isPlace_24 : sgOK mi_X6_isPlace gm_X6_isPlace sg_X6_isPlace_24 = true := by decide +kernel
def sg_X6_isPlace_25 : List Ins := [(25, .ireturn, 0, 0, 0, 0)]
theorem so_X6_isPlace_25 : sgOK mi_X6_isPlace gm_X6_isPlace sg_X6_isPlace_25 = true := by decide +kernel
def sgs_X6_isPlace : Nat → Option (List Ins) := fun t => match t with
  | 0 => some sg_X6_isPlace_0
  | 24 => some sg_X6_isPlace_24
  | 25 => some sg_X6_isPlace_25
  | _ => none
theorem so_X6_isPlace : ∀ t sg, sgs_X6_isPlace t = some sg → sgOK mi_X6_isPlace gm_X6_isPlace sg = true ∧ segPc sg = t := by
  intro t sg h
  unfold sgs_X6_isPlace at h
  split at h
  · cases h; exact ⟨so_X6_isPlace_0, rfl⟩
  · cases h; exact ⟨so_X6_isPlace_24, rfl⟩
  · cases h; exact ⟨so_X6_isPlace_25, rfl⟩
  · cases h
def gm_X6_firstNear : List MI := [mi_J9_max_7cf53]
def sg_X6_firstNear_0 : List Ins := [(0, .iload_n 0, 0, 0, 0, 0), (1, .iconst 2, 2, 0, 0, 0), (2, .isub, 0, 0, 0, 0), (3, .iconst 0, 0, 0, 0, 0), (4, .invokestatic 247, 390, 0, 0, 2), (7, .ireturn, 0, 0, 0, 0)]
theorem so_X6_firstNear_0 : sgOK mi_X6_firstNear gm_X6_firstNear sg_X6_firstNear_0 = true := by decide +kernel
def sgs_X6_firstNear : Nat → Option (List Ins) := fun t => match t with
  | 0 => some sg_X6_firstNear_0
  | _ => none
theorem so_X6_firstNear : ∀ t sg, sgs_X6_firstNear t = some sg → sgOK mi_X6_firstNear gm_X6_firstNear sg = true ∧ segPc sg = t := by
  intro t sg h
  unfold sgs_X6_firstNear at h
  split at h
  · cases h; exact ⟨so_X6_firstNear_0, rfl⟩
  · cases h
def gm_X6_lastNear : List MI := [mi_J9_min_7cf53]
def sg_X6_lastNear_0 : List Ins := [(0, .iload_n 0, 0, 0, 0, 0), (1, .iconst 2, 2, 0, 0, 0), (2, .iadd, 0, 0, 0, 0), (3, .iload_n 1, 0, 0, 0, 0), (4, .iconst 1, 1, 0, 0, 0), (5, .isub, 0, 0, 0, 0), (6, .invokestatic 252, 396, 0, 0, 2), (9, .ireturn, 0, 0, 0, 0)]
theorem so_X6_lastNear_0 : sgOK mi_X6_lastNear gm_X6_lastNear sg_X6_lastNear_0 = true := by decide +kernel
def sgs_X6_lastNear : Nat → Option (List Ins) := fun t => match t with
  | 0 => some sg_X6_lastNear_0
  | _ => none
theorem so_X6_lastNear : ∀ t sg, sgs_X6_lastNear t = some sg → sgOK mi_X6_lastNear gm_X6_lastNear sg = true ∧ segPc sg = t := by
  intro t sg h
  unfold sgs_X6_lastNear at h
  split at h
  · cases h; exact ⟨so_X6_lastNear_0, rfl⟩
  · cases h
def gm_X6_init : List MI := [mi_X0_init, mi_X2_init, mi_X3_init, mi_X5_init]
def sg_X6_init_0 : List Ins := [(0, .aload_n 0, 0, 0, 0, 0), (1, .invokespecial 3, 86, 0, 8, 0), (4, .aload_n 0, 0, 0, 0, 0), (5, .new 9, 0, 90, 89, 68), (8, .dup, 0, 0, 0, 0), (9, .invokespecial 11, 91, 0, 2, 1), (12, .putfield 12, 6, 0, 267, 0), (15, .aload_n 0, 0, 0, 0, 0), (16, .new 16, 2, 165, 164, 70), (19, .dup, 0, 0, 0, 0), (20, .invokespecial 18, 166, 1, 2, 1), (23, .putfield 19, 6, 1, 268, 0), (26, .aload_n 0, 0, 0, 0, 0), (27, .iconst 2, 2, 0, 0, 0), (28, .anewarray 9, 12, 0, 89, 0), (31, .putfield 23, 6, 2, 269, 0), (34, .aload_n 0, 0, 0, 0, 0), (35, .iconst 2, 2, 0, 0, 0), (36, .newarray .boolean, 10, 0, 206, 0), (38, .putfield 27, 6, 3, 270, 0), (41, .aload_n 0, 0, 0, 0, 0), (42, .new 31, 3, 185, 184, 71), (45, .dup, 0, 0, 0, 0), (46, .invokespecial 33, 186, 2, 3, 1), (49, .putfield 34, 6, 4, 271, 0), (52, .aload_n 0, 0, 0, 0, 0), (53, .new 38, 5, 253, 252, 73), (56, .dup, 0, 0, 0, 0), (57, .invokespecial 40, 254, 3, 3, 1), (60, .putfield 41, 6, 5, 272, 0), (63, .iconst 0, 0, 0, 0, 0), (64, .istore_n 1, 0, 0, 0, 0), (65, .nop, 0, 0, 0, 0)]
theorem so_X6_init_0 : sgOK mi_X6_init gm_X6_init sg_X6_init_0 = true := by decide +kernel
def sg_X6_init_65 : List Ins := [(65, .iload_n 1, 0, 0, 0, 0), (66, .iconst 2, 2, 0, 0, 0), (67, .if_icmp .ge 22, 0, 0, 89, 0), (70, .aload_n 0, 0, 0, 0, 0), (71, .getfield 23, 6, 2, 269, 0), (74, .iload_n 1, 0, 0, 0, 0), (75, .new 9, 0, 90, 89, 68), (78, .dup, 0, 0, 0, 0), (79, .invokespecial 11, 91, 0, 2, 1), (82, .aastore, 12, 0, 0, 0), (83, .iinc 1 1, 1, 0, 0, 0), (86, .goto (-21), 0, 0, 65, 0)]
theorem so_X6_init_65 : sgOK mi_X6_init gm_X6_init sg_X6_init_65 = true := by decide +kernel
def sg_X6_init_89 : List Ins := [(89, .return_, 0, 0, 0, 0)]
theorem so_X6_init_89 : sgOK mi_X6_init gm_X6_init sg_X6_init_89 = true := by decide +kernel
def sgs_X6_init : Nat → Option (List Ins) := fun t => match t with
  | 0 => some sg_X6_init_0
  | 89 => some sg_X6_init_89
  | _ => none
theorem so_X6_init : ∀ t sg, sgs_X6_init t = some sg → sgOK mi_X6_init gm_X6_init sg = true ∧ segPc sg = t := by
  intro t sg h
  unfold sgs_X6_init at h
  split at h
  · cases h; exact ⟨so_X6_init_0, rfl⟩
  · cases h; exact ⟨so_X6_init_89, rfl⟩
  · cases h
def gm_X6_set : List MI := [mi_X2_prepare, mi_X0_change, mi_X2_keepUnlessError]
def sg_X6_set_0 : List Ins := [(0, .aload_n 0, 0, 0, 0, 0), (1, .getfield 19, 6, 1, 268, 0), (4, .aload_n 0, 0, 0, 0, 0), (5, .getfield 12, 6, 0, 267, 0), (8, .invokevirtual 45, 290, 0, 12, 2), (11, .aload_n 0, 0, 0, 0, 0), (12, .getfield 19, 6, 1, 268, 0), (15, .aload_n 0, 0, 0, 0, 0), (16, .getfield 12, 6, 0, 267, 0), (19, .iload_n 1, 0, 0, 0, 0), (20, .iload_n 2, 0, 0, 0, 0), (21, .invokevirtual 49, 306, 1, 10, 3), (24, .invokevirtual 53, 314, 2, 12, 2), (27, .ireturn, 0, 0, 0, 0)]
theorem so_X6_set_0 : sgOK mi_X6_set gm_X6_set sg_X6_set_0 = true := by decide +kernel
def sgs_X6_set : Nat → Option (List Ins) := fun t => match t with
  | 0 => some sg_X6_set_0
  | _ => none
theorem so_X6_set : ∀ t sg, sgs_X6_set t = some sg → sgOK mi_X6_set gm_X6_set sg = true ∧ segPc sg = t := by
  intro t sg h
  unfold sgs_X6_set at h
  split at h
  · cases h; exact ⟨so_X6_set_0, rfl⟩
  · cases h
def gm_X6_plate : List MI := [mi_X2_prepare, mi_X0_addPlate, mi_X2_keepUnlessError]
def sg_X6_plate_0 : List Ins := [(0, .aload_n 0, 0, 0, 0, 0), (1, .getfield 19, 6, 1, 268, 0), (4, .aload_n 0, 0, 0, 0, 0), (5, .getfield 12, 6, 0, 267, 0), (8, .invokevirtual 45, 290, 0, 12, 2), (11, .aload_n 0, 0, 0, 0, 0), (12, .getfield 19, 6, 1, 268, 0), (15, .aload_n 0, 0, 0, 0, 0), (16, .getfield 12, 6, 0, 267, 0), (19, .invokevirtual 57, 325, 1, 10, 1), (22, .invokevirtual 53, 314, 2, 12, 2), (25, .ireturn, 0, 0, 0, 0)]
theorem so_X6_plate_0 : sgOK mi_X6_plate gm_X6_plate sg_X6_plate_0 = true := by decide +kernel
def sgs_X6_plate : Nat → Option (List Ins) := fun t => match t with
  | 0 => some sg_X6_plate_0
  | _ => none
theorem so_X6_plate : ∀ t sg, sgs_X6_plate t = some sg → sgOK mi_X6_plate gm_X6_plate sg = true ∧ segPc sg = t := by
  intro t sg h
  unfold sgs_X6_plate at h
  split at h
  · cases h; exact ⟨so_X6_plate_0, rfl⟩
  · cases h
def gm_X6_lay : List MI := [mi_X2_prepare, mi_X0_layPlate, mi_X2_keepUnlessError]
def sg_X6_lay_0 : List Ins := [(0, .aload_n 0, 0, 0, 0, 0), (1, .getfield 19, 6, 1, 268, 0), (4, .aload_n 0, 0, 0, 0, 0), (5, .getfield 12, 6, 0, 267, 0), (8, .invokevirtual 45, 290, 0, 12, 2), (11, .aload_n 0, 0, 0, 0, 0), (12, .getfield 19, 6, 1, 268, 0), (15, .aload_n 0, 0, 0, 0, 0), (16, .getfield 12, 6, 0, 267, 0), (19, .iload_n 1, 0, 0, 0, 0), (20, .invokevirtual 61, 343, 1, 10, 2), (23, .invokevirtual 53, 314, 2, 12, 2), (26, .ireturn, 0, 0, 0, 0)]
theorem so_X6_lay_0 : sgOK mi_X6_lay gm_X6_lay sg_X6_lay_0 = true := by decide +kernel
def sgs_X6_lay : Nat → Option (List Ins) := fun t => match t with
  | 0 => some sg_X6_lay_0
  | _ => none
theorem so_X6_lay : ∀ t sg, sgs_X6_lay t = some sg → sgOK mi_X6_lay gm_X6_lay sg = true ∧ segPc sg = t := by
  intro t sg h
  unfold sgs_X6_lay at h
  split at h
  · cases h; exact ⟨so_X6_lay_0, rfl⟩
  · cases h
def gm_X6_writer : List MI := [mi_X2_prepare, mi_X0_addWriter, mi_X2_keepUnlessError]
def sg_X6_writer_0 : List Ins := [(0, .aload_n 0, 0, 0, 0, 0), (1, .getfield 19, 6, 1, 268, 0), (4, .aload_n 0, 0, 0, 0, 0), (5, .getfield 12, 6, 0, 267, 0), (8, .invokevirtual 45, 290, 0, 12, 2), (11, .aload_n 0, 0, 0, 0, 0), (12, .getfield 19, 6, 1, 268, 0), (15, .aload_n 0, 0, 0, 0, 0), (16, .getfield 12, 6, 0, 267, 0), (19, .iload_n 1, 0, 0, 0, 0), (20, .invokevirtual 64, 355, 1, 10, 2), (23, .invokevirtual 53, 314, 2, 12, 2), (26, .ireturn, 0, 0, 0, 0)]
theorem so_X6_writer_0 : sgOK mi_X6_writer gm_X6_writer sg_X6_writer_0 = true := by decide +kernel
def sgs_X6_writer : Nat → Option (List Ins) := fun t => match t with
  | 0 => some sg_X6_writer_0
  | _ => none
theorem so_X6_writer : ∀ t sg, sgs_X6_writer t = some sg → sgOK mi_X6_writer gm_X6_writer sg = true ∧ segPc sg = t := by
  intro t sg h
  unfold sgs_X6_writer at h
  split at h
  · cases h; exact ⟨so_X6_writer_0, rfl⟩
  · cases h
def gm_X6_write : List MI := [mi_X2_prepare, mi_X0_writeLetter, mi_X2_keepUnlessError]
def sg_X6_write_0 : List Ins := [(0, .aload_n 0, 0, 0, 0, 0), (1, .getfield 19, 6, 1, 268, 0), (4, .aload_n 0, 0, 0, 0, 0), (5, .getfield 12, 6, 0, 267, 0), (8, .invokevirtual 45, 290, 0, 12, 2), (11, .aload_n 0, 0, 0, 0, 0), (12, .getfield 19, 6, 1, 268, 0), (15, .aload_n 0, 0, 0, 0, 0), (16, .getfield 12, 6, 0, 267, 0), (19, .iload_n 1, 0, 0, 0, 0), (20, .iload_n 2, 0, 0, 0, 0), (21, .iload_n 3, 0, 0, 0, 0), (22, .iload 4, 0, 0, 0, 0), (24, .invokevirtual 67, 363, 1, 10, 5), (27, .invokevirtual 53, 314, 2, 12, 2), (30, .ireturn, 0, 0, 0, 0)]
theorem so_X6_write_0 : sgOK mi_X6_write gm_X6_write sg_X6_write_0 = true := by decide +kernel
def sgs_X6_write : Nat → Option (List Ins) := fun t => match t with
  | 0 => some sg_X6_write_0
  | _ => none
theorem so_X6_write : ∀ t sg, sgs_X6_write t = some sg → sgOK mi_X6_write gm_X6_write sg = true ∧ segPc sg = t := by
  intro t sg h
  unfold sgs_X6_write at h
  split at h
  · cases h; exact ⟨so_X6_write_0, rfl⟩
  · cases h
def gm_X6_promise : List MI := [mi_X2_prepare, mi_X0_promisePlace, mi_X2_keepUnlessError]
def sg_X6_promise_0 : List Ins := [(0, .aload_n 0, 0, 0, 0, 0), (1, .getfield 19, 6, 1, 268, 0), (4, .aload_n 0, 0, 0, 0, 0), (5, .getfield 12, 6, 0, 267, 0), (8, .invokevirtual 45, 290, 0, 12, 2), (11, .aload_n 0, 0, 0, 0, 0), (12, .getfield 19, 6, 1, 268, 0), (15, .aload_n 0, 0, 0, 0, 0), (16, .getfield 12, 6, 0, 267, 0), (19, .iload_n 1, 0, 0, 0, 0), (20, .iload_n 2, 0, 0, 0, 0), (21, .iload_n 3, 0, 0, 0, 0), (22, .invokevirtual 71, 416, 1, 10, 4), (25, .invokevirtual 53, 314, 2, 12, 2), (28, .ireturn, 0, 0, 0, 0)]
theorem so_X6_promise_0 : sgOK mi_X6_promise gm_X6_promise sg_X6_promise_0 = true := by decide +kernel
def sgs_X6_promise : Nat → Option (List Ins) := fun t => match t with
  | 0 => some sg_X6_promise_0
  | _ => none
theorem so_X6_promise : ∀ t sg, sgs_X6_promise t = some sg → sgOK mi_X6_promise gm_X6_promise sg = true ∧ segPc sg = t := by
  intro t sg h
  unfold sgs_X6_promise at h
  split at h
  · cases h; exact ⟨so_X6_promise_0, rfl⟩
  · cases h
def gm_X6_takeBack : List MI := [mi_X2_prepare, mi_X0_takePromiseBack, mi_X2_keepUnlessError]
def sg_X6_takeBack_0 : List Ins := [(0, .aload_n 0, 0, 0, 0, 0), (1, .getfield 19, 6, 1, 268, 0), (4, .aload_n 0, 0, 0, 0, 0), (5, .getfield 12, 6, 0, 267, 0), (8, .invokevirtual 45, 290, 0, 12, 2), (11, .aload_n 0, 0, 0, 0, 0), (12, .getfield 19, 6, 1, 268, 0), (15, .aload_n 0, 0, 0, 0, 0), (16, .getfield 12, 6, 0, 267, 0), (19, .iload_n 1, 0, 0, 0, 0), (20, .iload_n 2, 0, 0, 0, 0), (21, .invokevirtual 75, 440, 1, 10, 3), (24, .invokevirtual 53, 314, 2, 12, 2), (27, .ireturn, 0, 0, 0, 0)]
theorem so_X6_takeBack_0 : sgOK mi_X6_takeBack gm_X6_takeBack sg_X6_takeBack_0 = true := by decide +kernel
def sgs_X6_takeBack : Nat → Option (List Ins) := fun t => match t with
  | 0 => some sg_X6_takeBack_0
  | _ => none
theorem so_X6_takeBack : ∀ t sg, sgs_X6_takeBack t = some sg → sgOK mi_X6_takeBack gm_X6_takeBack sg = true ∧ segPc sg = t := by
  intro t sg h
  unfold sgs_X6_takeBack at h
  split at h
  · cases h; exact ⟨so_X6_takeBack_0, rfl⟩
  · cases h
def gm_X6_rub : List MI := [mi_X2_prepare, mi_X0_rubLetter, mi_X2_keepUnlessError]
def sg_X6_rub_0 : List Ins := [(0, .aload_n 0, 0, 0, 0, 0), (1, .getfield 19, 6, 1, 268, 0), (4, .aload_n 0, 0, 0, 0, 0), (5, .getfield 12, 6, 0, 267, 0), (8, .invokevirtual 45, 290, 0, 12, 2), (11, .aload_n 0, 0, 0, 0, 0), (12, .getfield 19, 6, 1, 268, 0), (15, .aload_n 0, 0, 0, 0, 0), (16, .getfield 12, 6, 0, 267, 0), (19, .iload_n 1, 0, 0, 0, 0), (20, .iload_n 2, 0, 0, 0, 0), (21, .invokevirtual 78, 448, 1, 10, 3), (24, .invokevirtual 53, 314, 2, 12, 2), (27, .ireturn, 0, 0, 0, 0)]
theorem so_X6_rub_0 : sgOK mi_X6_rub gm_X6_rub sg_X6_rub_0 = true := by decide +kernel
def sgs_X6_rub : Nat → Option (List Ins) := fun t => match t with
  | 0 => some sg_X6_rub_0
  | _ => none
theorem so_X6_rub : ∀ t sg, sgs_X6_rub t = some sg → sgOK mi_X6_rub gm_X6_rub sg = true ∧ segPc sg = t := by
  intro t sg h
  unfold sgs_X6_rub at h
  split at h
  · cases h; exact ⟨so_X6_rub_0, rfl⟩
  · cases h
def gm_X6_pass : List MI := [mi_X2_prepare, mi_X0_passHours, mi_X2_keepUnlessError]
def sg_X6_pass_0 : List Ins := [(0, .aload_n 0, 0, 0, 0, 0), (1, .getfield 19, 6, 1, 268, 0), (4, .aload_n 0, 0, 0, 0, 0), (5, .getfield 12, 6, 0, 267, 0), (8, .invokevirtual 45, 290, 0, 12, 2), (11, .aload_n 0, 0, 0, 0, 0), (12, .getfield 19, 6, 1, 268, 0), (15, .aload_n 0, 0, 0, 0, 0), (16, .getfield 12, 6, 0, 267, 0), (19, .iload_n 1, 0, 0, 0, 0), (20, .invokevirtual 81, 456, 1, 10, 2), (23, .invokevirtual 53, 314, 2, 12, 2), (26, .ireturn, 0, 0, 0, 0)]
theorem so_X6_pass_0 : sgOK mi_X6_pass gm_X6_pass sg_X6_pass_0 = true := by decide +kernel
def sgs_X6_pass : Nat → Option (List Ins) := fun t => match t with
  | 0 => some sg_X6_pass_0
  | _ => none
theorem so_X6_pass : ∀ t sg, sgs_X6_pass t = some sg → sgOK mi_X6_pass gm_X6_pass sg = true ∧ segPc sg = t := by
  intro t sg h
  unfold sgs_X6_pass at h
  split at h
  · cases h; exact ⟨so_X6_pass_0, rfl⟩
  · cases h
def gm_X6_bitsOfFloat : List MI := []
def sg_X6_bitsOfFloat_0 : List Ins := [(0, .fload_n 0, 0, 0, 0, 0), (1, .f2d, 0, 0, 0, 0), (2, .dstore_n 1, 0, 0, 0, 0), (3, .iconst 0, 0, 0, 0, 0), (4, .istore_n 3, 0, 0, 0, 0), (5, .nop, 0, 0, 0, 0)]
theorem so_X6_bitsOfFloat_0 : sgOK mi_X6_bitsOfFloat gm_X6_bitsOfFloat sg_X6_bitsOfFloat_0 = true := by decide +kernel
def sg_X6_bitsOfFloat_5 : List Ins := [(5, .dload_n 1, 0, 0, 0, 0), (6, .dconst 1, 0, 0, 0, 0), (7, .dcmp .g, 0, 0, 0, 0), (8, .ifCond .ge 21, 0, 0, 29, 0), (11, .iload_n 3, 0, 0, 0, 0), (12, .bipush (-126), 126, 1, 0, 0), (14, .if_icmp .le 15, 0, 0, 29, 0), (17, .dload_n 1, 0, 0, 0, 0), (18, .ldc2_w 273, 4611686018427387904, 3, 481, 0), (21, .dmul, 0, 0, 0, 0), (22, .dstore_n 1, 0, 0, 0, 0), (23, .iinc 3 (-1), 1, 1, 0, 0), (26, .goto (-21), 0, 0, 5, 0)]
theorem so_X6_bitsOfFloat_5 : sgOK mi_X6_bitsOfFloat gm_X6_bitsOfFloat sg_X6_bitsOfFloat_5 = true := by decide +kernel
def sg_X6_bitsOfFloat_29 : List Ins := [(29, .dload_n 1, 0, 0, 0, 0), (30, .ldc2_w 273, 4611686018427387904, 3, 481, 0), (33, .dcmp .l, 0, 0, 0, 0), (34, .ifCond .lt 21, 0, 0, 55, 0), (37, .iload_n 3, 0, 0, 0, 0), (38, .bipush 127, 127, 0, 0, 0), (40, .if_icmp .ge 15, 0, 0, 55, 0), (43, .dload_n 1, 0, 0, 0, 0), (44, .ldc2_w 273, 4611686018427387904, 3, 481, 0), (47, .ddiv, 0, 0, 0, 0), (48, .dstore_n 1, 0, 0, 0, 0), (49, .iinc 3 1, 1, 0, 0, 0), (52, .goto (-23), 0, 0, 29, 0)]
theorem so_X6_bitsOfFloat_29 : sgOK mi_X6_bitsOfFloat gm_X6_bitsOfFloat sg_X6_bitsOfFloat_29 = true := by decide +kernel
def sg_X6_bitsOfFloat_55 : List Ins := [(55, .dload_n 1, 0, 0, 0, 0), (56, .dconst 1, 0, 0, 0, 0), (57, .dcmp .g, 0, 0, 0, 0), (58, .ifCond .ge 10, 0, 0, 68, 0), (61, .dload_n 1, 0, 0, 0, 0), (62, .ldc2_w 275, 4710765210229538816, 3, 482, 0), (65, .dmul, 0, 0, 0, 0), (66, .d2i, 0, 0, 0, 0), (67, .ireturn, 0, 0, 0, 0)]
theorem so_X6_bitsOfFloat_55 : sgOK mi_X6_bitsOfFloat gm_X6_bitsOfFloat sg_X6_bitsOfFloat_55 = true := by decide +kernel
def sg_X6_bitsOfFloat_68 : List Ins := [(68, .iload_n 3, 0, 0, 0, 0), (69, .bipush 127, 127, 0, 0, 0), (71, .iadd, 0, 0, 0, 0), (72, .bipush 23, 23, 0, 0, 0), (74, .ishl, 0, 0, 0, 0), (75, .dload_n 1, 0, 0, 0, 0), (76, .dconst 1, 0, 0, 0, 0), (77, .dsub, 0, 0, 0, 0), (78, .ldc2_w 275, 4710765210229538816, 3, 482, 0), (81, .dmul, 0, 0, 0, 0), (82, .d2i, 0, 0, 0, 0), (83, .ior, 0, 0, 0, 0), (84, .ireturn, 0, 0, 0, 0)]
theorem so_X6_bitsOfFloat_68 : sgOK mi_X6_bitsOfFloat gm_X6_bitsOfFloat sg_X6_bitsOfFloat_68 = true := by decide +kernel
def sgs_X6_bitsOfFloat : Nat → Option (List Ins) := fun t => match t with
  | 0 => some sg_X6_bitsOfFloat_0
  | 55 => some sg_X6_bitsOfFloat_55
  | 68 => some sg_X6_bitsOfFloat_68
  | _ => none
theorem so_X6_bitsOfFloat : ∀ t sg, sgs_X6_bitsOfFloat t = some sg → sgOK mi_X6_bitsOfFloat gm_X6_bitsOfFloat sg = true ∧ segPc sg = t := by
  intro t sg h
  unfold sgs_X6_bitsOfFloat at h
  split at h
  · cases h; exact ⟨so_X6_bitsOfFloat_0, rfl⟩
  · cases h; exact ⟨so_X6_bitsOfFloat_55, rfl⟩
  · cases h; exact ⟨so_X6_bitsOfFloat_68, rfl⟩
  · cases h
def gm_X6_at : List MI := [mi_X0_glassOnDesk, mi_X6_isPlace, mi_X6_bitsOfFloat, mi_X0_lightAhead, mi_X0_hasRoom, mi_X0_canBeRead]
def sg_X6_at_0 : List Ins := [(0, .aload_n 0, 0, 0, 0, 0), (1, .getfield 12, 6, 0, 267, 0), (4, .invokevirtual 84, 476, 0, 10, 1), (7, .astore 4, 0, 0, 0, 0), (9, .aload 4, 0, 0, 0, 0), (11, .ifnull 11, 0, 0, 22, 0), (14, .iload_n 1, 0, 0, 0, 0), (15, .iload_n 2, 0, 0, 0, 0), (16, .invokestatic 88, 477, 1, 0, 2), (19, .ifCond .ne 5, 0, 0, 24, 0), (22, .iconst (-1), 1, 1, 0, 0), (23, .ireturn, 0, 0, 0, 0)]
theorem so_X6_at_0 : sgOK mi_X6_at gm_X6_at sg_X6_at_0 = true := by decide +kernel
def sg_X6_at_22 : List Ins := [(22, .iconst (-1), 1, 1, 0, 0), (23, .ireturn, 0, 0, 0, 0)]
theorem so_X6_at_22 : sgOK mi_X6_at gm_X6_at sg_X6_at_22 = true := by decide +kernel
def sg_X6_at_24 : List Ins := [(24, .iload_n 1, 0, 0, 0, 0), (25, .bipush 12, 12, 0, 0, 0), (27, .imul, 0, 0, 0, 0), (28, .iload_n 2, 0, 0, 0, 0), (29, .iadd, 0, 0, 0, 0), (30, .istore 5, 0, 0, 0, 0), (32, .iload_n 3, 0, 0, 0, 0), (33, .tableswitch 137 0 6 #[43, 52, 61, 70, 82, 97, 117], 43, 0, 0, 0)]
theorem so_X6_at_24 : sgOK mi_X6_at gm_X6_at sg_X6_at_24 = true := by decide +kernel
def sg_X6_at_76 : List Ins := [(76, .aload 4, 0, 0, 0, 0), (78, .getfield 92, 1, 1, 108, 0), (81, .iload 5, 0, 0, 0, 0), (83, .iaload, 8, 0, 0, 0), (84, .ireturn, 0, 0, 0, 0)]
theorem so_X6_at_76 : sgOK mi_X6_at gm_X6_at sg_X6_at_76 = true := by decide +kernel
def sg_X6_at_85 : List Ins := [(85, .aload 4, 0, 0, 0, 0), (87, .getfield 98, 1, 2, 110, 0), (90, .iload 5, 0, 0, 0, 0), (92, .iaload, 8, 0, 0, 0), (93, .ireturn, 0, 0, 0, 0)]
theorem so_X6_at_85 : sgOK mi_X6_at gm_X6_at sg_X6_at_85 = true := by decide +kernel
def sg_X6_at_94 : List Ins := [(94, .aload 4, 0, 0, 0, 0), (96, .getfield 101, 1, 3, 115, 0), (99, .iload 5, 0, 0, 0, 0), (101, .iaload, 8, 0, 0, 0), (102, .ireturn, 0, 0, 0, 0)]
theorem so_X6_at_94 : sgOK mi_X6_at gm_X6_at sg_X6_at_94 = true := by decide +kernel
def sg_X6_at_103 : List Ins := [(103, .aload 4, 0, 0, 0, 0), (105, .getfield 104, 1, 0, 105, 0), (108, .iload 5, 0, 0, 0, 0), (110, .faload, 0, 0, 0, 0), (111, .invokestatic 108, 478, 2, 0, 1), (114, .ireturn, 0, 0, 0, 0)]
theorem so_X6_at_103 : sgOK mi_X6_at gm_X6_at sg_X6_at_103 = true := by decide +kernel
def sg_X6_at_115 : List Ins := [(115, .aload_n 0, 0, 0, 0, 0), (116, .getfield 12, 6, 0, 267, 0), (119, .aload 4, 0, 0, 0, 0), (121, .iload 5, 0, 0, 0, 0), (123, .invokevirtual 112, 483, 3, 10, 3), (126, .invokestatic 108, 478, 2, 0, 1), (129, .ireturn, 0, 0, 0, 0)]
theorem so_X6_at_115 : sgOK mi_X6_at gm_X6_at sg_X6_at_115 = true := by decide +kernel
def sg_X6_at_130 : List Ins := [(130, .aload_n 0, 0, 0, 0, 0), (131, .getfield 12, 6, 0, 267, 0), (134, .aload 4, 0, 0, 0, 0), (136, .iload 5, 0, 0, 0, 0), (138, .invokevirtual 116, 484, 4, 10, 3), (141, .ifCond .eq 7, 0, 0, 148, 0), (144, .iconst 1, 1, 0, 0, 0), (145, .goto 4, 0, 0, 149, 0)]
theorem so_X6_at_130 : sgOK mi_X6_at gm_X6_at sg_X6_at_130 = true := by decide +kernel
def sg_X6_at_148 : List Ins := [(148, .iconst 0, 0, 0, 0, 0), (149, .ireturn, 0, 0, 0, 0)]
theorem so_X6_at_148 : sgOK mi_X6_at gm_X6_at sg_X6_at_148 = true := by decide +kernel
def sg_X6_at_149 : List Ins := [(149, .ireturn, 0, 0, 0, 0)]
theorem so_X6_at_149 : sgOK mi_X6_at gm_X6_at sg_X6_at_149 = true := by decide +kernel
def sg_X6_at_150 : List Ins := [(150, .aload_n 0, 0, 0, 0, 0), (151, .getfield 12, 6, 0, 267, 0), (154, .aload 4, 0, 0, 0, 0), (156, .iload 5, 0, 0, 0, 0), (158, .invokevirtual 120, 485, 5, 10, 3), (161, .ifCond .eq 7, 0, 0, 168, 0), (164, .iconst 1, 1, 0, 0, 0), (165, .goto 4, 0, 0, 169, 0)]
theorem so_X6_at_150 : sgOK mi_X6_at gm_X6_at sg_X6_at_150 = true := by decide +kernel
def sg_X6_at_168 : List Ins := [(168, .iconst 0, 0, 0, 0, 0), (169, .ireturn, 0, 0, 0, 0)]
theorem so_X6_at_168 : sgOK mi_X6_at gm_X6_at sg_X6_at_168 = true := by decide +kernel
def sg_X6_at_169 : List Ins := [(169, .ireturn, 0, 0, 0, 0)]
theorem so_X6_at_169 : sgOK mi_X6_at gm_X6_at sg_X6_at_169 = true := by decide +kernel
def sg_X6_at_170 : List Ins := [(170, .bipush (-2), 2, 1, 0, 0), (172, .ireturn, 0, 0, 0, 0)]
theorem so_X6_at_170 : sgOK mi_X6_at gm_X6_at sg_X6_at_170 = true := by decide +kernel
def sgs_X6_at : Nat → Option (List Ins) := fun t => match t with
  | 0 => some sg_X6_at_0
  | 22 => some sg_X6_at_22
  | 24 => some sg_X6_at_24
  | 76 => some sg_X6_at_76
  | 85 => some sg_X6_at_85
  | 94 => some sg_X6_at_94
  | 103 => some sg_X6_at_103
  | 115 => some sg_X6_at_115
  | 130 => some sg_X6_at_130
  | 148 => some sg_X6_at_148
  | 149 => some sg_X6_at_149
  | 150 => some sg_X6_at_150
  | 168 => some sg_X6_at_168
  | 169 => some sg_X6_at_169
  | 170 => some sg_X6_at_170
  | _ => none
theorem so_X6_at : ∀ t sg, sgs_X6_at t = some sg → sgOK mi_X6_at gm_X6_at sg = true ∧ segPc sg = t := by
  intro t sg h
  unfold sgs_X6_at at h
  split at h
  · cases h; exact ⟨so_X6_at_0, rfl⟩
  · cases h; exact ⟨so_X6_at_22, rfl⟩
  · cases h; exact ⟨so_X6_at_24, rfl⟩
  · cases h; exact ⟨so_X6_at_76, rfl⟩
  · cases h; exact ⟨so_X6_at_85, rfl⟩
  · cases h; exact ⟨so_X6_at_94, rfl⟩
  · cases h; exact ⟨so_X6_at_103, rfl⟩
  · cases h; exact ⟨so_X6_at_115, rfl⟩
  · cases h; exact ⟨so_X6_at_130, rfl⟩
  · cases h; exact ⟨so_X6_at_148, rfl⟩
  · cases h; exact ⟨so_X6_at_149, rfl⟩
  · cases h; exact ⟨so_X6_at_150, rfl⟩
  · cases h; exact ⟨so_X6_at_168, rfl⟩
  · cases h; exact ⟨so_X6_at_169, rfl⟩
  · cases h; exact ⟨so_X6_at_170, rfl⟩
  · cases h
def gm_X6_columnsThat : List MI := [mi_X0_placeIs]
def sg_X6_columnsThat_0 : List Ins := [(0, .iconst 0, 0, 0, 0, 0), (1, .istore 4, 0, 0, 0, 0), (3, .iconst 0, 0, 0, 0, 0), (4, .istore 5, 0, 0, 0, 0), (6, .nop, 0, 0, 0, 0)]
theorem so_X6_columnsThat_0 : sgOK mi_X6_columnsThat gm_X6_columnsThat sg_X6_columnsThat_0 = true := by decide +kernel
def sg_X6_columnsThat_6 : List Ins := [(6, .iload 5, 0, 0, 0, 0), (8, .bipush 12, 12, 0, 0, 0), (10, .if_icmp .ge 37, 0, 0, 47, 0), (13, .aload_n 0, 0, 0, 0, 0), (14, .getfield 12, 6, 0, 267, 0), (17, .aload_n 1, 0, 0, 0, 0), (18, .iload_n 2, 0, 0, 0, 0), (19, .bipush 12, 12, 0, 0, 0), (21, .imul, 0, 0, 0, 0), (22, .iload 5, 0, 0, 0, 0), (24, .iadd, 0, 0, 0, 0), (25, .iload_n 3, 0, 0, 0, 0), (26, .invokevirtual 255, 494, 0, 10, 4), (29, .ifCond .eq 12, 0, 0, 41, 0), (32, .iload 4, 0, 0, 0, 0), (34, .iconst 1, 1, 0, 0, 0), (35, .iload 5, 0, 0, 0, 0), (37, .ishl, 0, 0, 0, 0), (38, .ior, 0, 0, 0, 0), (39, .istore 4, 0, 0, 0, 0), (41, .iinc 5 1, 1, 0, 0, 0), (44, .goto (-38), 0, 0, 6, 0)]
theorem so_X6_columnsThat_6 : sgOK mi_X6_columnsThat gm_X6_columnsThat sg_X6_columnsThat_6 = true := by decide +kernel
def sg_X6_columnsThat_41 : List Ins := [(41, .iinc 5 1, 1, 0, 0, 0), (44, .goto (-38), 0, 0, 6, 0)]
theorem so_X6_columnsThat_41 : sgOK mi_X6_columnsThat gm_X6_columnsThat sg_X6_columnsThat_41 = true := by decide +kernel
def sg_X6_columnsThat_47 : List Ins := [(47, .iload 4, 0, 0, 0, 0), (49, .ireturn, 0, 0, 0, 0)]
theorem so_X6_columnsThat_47 : sgOK mi_X6_columnsThat gm_X6_columnsThat sg_X6_columnsThat_47 = true := by decide +kernel
def sgs_X6_columnsThat : Nat → Option (List Ins) := fun t => match t with
  | 0 => some sg_X6_columnsThat_0
  | 41 => some sg_X6_columnsThat_41
  | 47 => some sg_X6_columnsThat_47
  | _ => none
theorem so_X6_columnsThat : ∀ t sg, sgs_X6_columnsThat t = some sg → sgOK mi_X6_columnsThat gm_X6_columnsThat sg = true ∧ segPc sg = t := by
  intro t sg h
  unfold sgs_X6_columnsThat at h
  split at h
  · cases h; exact ⟨so_X6_columnsThat_0, rfl⟩
  · cases h; exact ⟨so_X6_columnsThat_41, rfl⟩
  · cases h; exact ⟨so_X6_columnsThat_47, rfl⟩
  · cases h
def gm_X6_longestRun : List MI := [mi_J9_max_7cf53]
def sg_X6_longestRun_0 : List Ins := [(0, .iconst 0, 0, 0, 0, 0), (1, .istore_n 1, 0, 0, 0, 0), (2, .iconst 0, 0, 0, 0, 0), (3, .istore_n 2, 0, 0, 0, 0), (4, .iconst 0, 0, 0, 0, 0), (5, .istore_n 3, 0, 0, 0, 0), (6, .nop, 0, 0, 0, 0)]
theorem so_X6_longestRun_0 : sgOK mi_X6_longestRun gm_X6_longestRun sg_X6_longestRun_0 = true := by decide +kernel
def sg_X6_longestRun_6 : List Ins := [(6, .iload_n 3, 0, 0, 0, 0), (7, .bipush 12, 12, 0, 0, 0), (9, .if_icmp .ge 32, 0, 0, 41, 0), (12, .iload_n 0, 0, 0, 0, 0), (13, .iload_n 3, 0, 0, 0, 0), (14, .ishr, 0, 0, 0, 0), (15, .iconst 1, 1, 0, 0, 0), (16, .iand, 0, 0, 0, 0), (17, .iconst 1, 1, 0, 0, 0), (18, .if_icmp .ne 9, 0, 0, 27, 0), (21, .iload_n 2, 0, 0, 0, 0), (22, .iconst 1, 1, 0, 0, 0), (23, .iadd, 0, 0, 0, 0), (24, .goto 4, 0, 0, 28, 0)]
theorem so_X6_longestRun_6 : sgOK mi_X6_longestRun gm_X6_longestRun sg_X6_longestRun_6 = true := by decide +kernel
def sg_X6_longestRun_27 : List Ins := [(27, .iconst 0, 0, 0, 0, 0), (28, .istore_n 2, 0, 0, 0, 0), (29, .iload_n 1, 0, 0, 0, 0), (30, .iload_n 2, 0, 0, 0, 0), (31, .invokestatic 247, 390, 0, 0, 2), (34, .istore_n 1, 0, 0, 0, 0), (35, .iinc 3 1, 1, 0, 0, 0), (38, .goto (-32), 0, 0, 6, 0)]
theorem so_X6_longestRun_27 : sgOK mi_X6_longestRun gm_X6_longestRun sg_X6_longestRun_27 = true := by decide +kernel
def sg_X6_longestRun_28 : List Ins := [(28, .istore_n 2, 0, 0, 0, 0), (29, .iload_n 1, 0, 0, 0, 0), (30, .iload_n 2, 0, 0, 0, 0), (31, .invokestatic 247, 390, 0, 0, 2), (34, .istore_n 1, 0, 0, 0, 0), (35, .iinc 3 1, 1, 0, 0, 0), (38, .goto (-32), 0, 0, 6, 0)]
theorem so_X6_longestRun_28 : sgOK mi_X6_longestRun gm_X6_longestRun sg_X6_longestRun_28 = true := by decide +kernel
def sg_X6_longestRun_41 : List Ins := [(41, .iload_n 1, 0, 0, 0, 0), (42, .ireturn, 0, 0, 0, 0)]
theorem so_X6_longestRun_41 : sgOK mi_X6_longestRun gm_X6_longestRun sg_X6_longestRun_41 = true := by decide +kernel
def sgs_X6_longestRun : Nat → Option (List Ins) := fun t => match t with
  | 0 => some sg_X6_longestRun_0
  | 27 => some sg_X6_longestRun_27
  | 28 => some sg_X6_longestRun_28
  | 41 => some sg_X6_longestRun_41
  | _ => none
theorem so_X6_longestRun : ∀ t sg, sgs_X6_longestRun t = some sg → sgOK mi_X6_longestRun gm_X6_longestRun sg = true ∧ segPc sg = t := by
  intro t sg h
  unfold sgs_X6_longestRun at h
  split at h
  · cases h; exact ⟨so_X6_longestRun_0, rfl⟩
  · cases h; exact ⟨so_X6_longestRun_27, rfl⟩
  · cases h; exact ⟨so_X6_longestRun_28, rfl⟩
  · cases h; exact ⟨so_X6_longestRun_41, rfl⟩
  · cases h
def gm_X6_row : List MI := [mi_X0_glassOnDesk, mi_X6_columnsThat, mi_X6_longestRun]
def sg_X6_row_0 : List Ins := [(0, .aload_n 0, 0, 0, 0, 0), (1, .getfield 12, 6, 0, 267, 0), (4, .invokevirtual 84, 476, 0, 10, 1), (7, .astore_n 3, 0, 0, 0, 0), (8, .aload_n 3, 0, 0, 0, 0), (9, .ifnull 13, 0, 0, 22, 0), (12, .iload_n 1, 0, 0, 0, 0), (13, .ifCond .lt 9, 0, 0, 22, 0), (16, .iload_n 1, 0, 0, 0, 0), (17, .bipush 10, 10, 0, 0, 0), (19, .if_icmp .lt 5, 0, 0, 24, 0), (22, .iconst (-1), 1, 1, 0, 0), (23, .ireturn, 0, 0, 0, 0)]
theorem so_X6_row_0 : sgOK mi_X6_row gm_X6_row sg_X6_row_0 = true := by decide +kernel
def sg_X6_row_22 : List Ins := [(22, .iconst (-1), 1, 1, 0, 0), (23, .ireturn, 0, 0, 0, 0)]
theorem so_X6_row_22 : sgOK mi_X6_row gm_X6_row sg_X6_row_22 = true := by decide +kernel
def sg_X6_row_24 : List Ins := [(24, .iload_n 2, 0, 0, 0, 0), (25, .tableswitch 54 0 4 #[35, 35, 35, 35, 43], 35, 0, 0, 0)]
theorem so_X6_row_24 : sgOK mi_X6_row gm_X6_row sg_X6_row_24 = true := by decide +kernel
def sg_X6_row_60 : List Ins := [(60, .aload_n 0, 0, 0, 0, 0), (61, .aload_n 3, 0, 0, 0, 0), (62, .iload_n 1, 0, 0, 0, 0), (63, .iload_n 2, 0, 0, 0, 0), (64, .invokevirtual 123, 490, 1, 16, 4), (67, .ireturn, 0, 0, 0, 0)]
theorem so_X6_row_60 : sgOK mi_X6_row gm_X6_row sg_X6_row_60 = true := by decide +kernel
def sg_X6_row_68 : List Ins := [(68, .aload_n 0, 0, 0, 0, 0), (69, .aload_n 3, 0, 0, 0, 0), (70, .iload_n 1, 0, 0, 0, 0), (71, .iconst 1, 1, 0, 0, 0), (72, .invokevirtual 123, 490, 1, 16, 4), (75, .invokestatic 127, 498, 2, 0, 1), (78, .ireturn, 0, 0, 0, 0)]
theorem so_X6_row_68 : sgOK mi_X6_row gm_X6_row sg_X6_row_68 = true := by decide +kernel
def sg_X6_row_79 : List Ins := [(79, .bipush (-2), 2, 1, 0, 0), (81, .ireturn, 0, 0, 0, 0)]
theorem so_X6_row_79 : sgOK mi_X6_row gm_X6_row sg_X6_row_79 = true := by decide +kernel
def sgs_X6_row : Nat → Option (List Ins) := fun t => match t with
  | 0 => some sg_X6_row_0
  | 22 => some sg_X6_row_22
  | 24 => some sg_X6_row_24
  | 60 => some sg_X6_row_60
  | 68 => some sg_X6_row_68
  | 79 => some sg_X6_row_79
  | _ => none
theorem so_X6_row : ∀ t sg, sgs_X6_row t = some sg → sgOK mi_X6_row gm_X6_row sg = true ∧ segPc sg = t := by
  intro t sg h
  unfold sgs_X6_row at h
  split at h
  · cases h; exact ⟨so_X6_row_0, rfl⟩
  · cases h; exact ⟨so_X6_row_22, rfl⟩
  · cases h; exact ⟨so_X6_row_24, rfl⟩
  · cases h; exact ⟨so_X6_row_60, rfl⟩
  · cases h; exact ⟨so_X6_row_68, rfl⟩
  · cases h; exact ⟨so_X6_row_79, rfl⟩
  · cases h
def gm_X6_of : List MI := [mi_X0_isWriter, mi_X0_placesOfWriter]
def sg_X6_of_0 : List Ins := [(0, .aload_n 0, 0, 0, 0, 0), (1, .getfield 12, 6, 0, 267, 0), (4, .iload_n 1, 0, 0, 0, 0), (5, .invokevirtual 130, 505, 0, 10, 2), (8, .ifCond .ne 5, 0, 0, 13, 0), (11, .iconst (-1), 1, 1, 0, 0), (12, .ireturn, 0, 0, 0, 0)]
theorem so_X6_of_0 : sgOK mi_X6_of gm_X6_of sg_X6_of_0 = true := by decide +kernel
def sg_X6_of_13 : List Ins := [(13, .iload_n 2, 0, 0, 0, 0), (14, .tableswitch 78 0 5 #[38, 48, 48, 48, 58, 68], 38, 0, 0, 0)]
theorem so_X6_of_13 : sgOK mi_X6_of gm_X6_of sg_X6_of_13 = true := by decide +kernel
def sg_X6_of_52 : List Ins := [(52, .aload_n 0, 0, 0, 0, 0), (53, .getfield 12, 6, 0, 267, 0), (56, .getfield 134, 0, 1, 130, 0), (59, .iload_n 1, 0, 0, 0, 0), (60, .iaload, 8, 0, 0, 0), (61, .ireturn, 0, 0, 0, 0)]
theorem so_X6_of_52 : sgOK mi_X6_of gm_X6_of sg_X6_of_52 = true := by decide +kernel
def sg_X6_of_62 : List Ins := [(62, .aload_n 0, 0, 0, 0, 0), (63, .getfield 12, 6, 0, 267, 0), (66, .iload_n 1, 0, 0, 0, 0), (67, .iload_n 2, 0, 0, 0, 0), (68, .invokevirtual 137, 506, 1, 10, 3), (71, .ireturn, 0, 0, 0, 0)]
theorem so_X6_of_62 : sgOK mi_X6_of gm_X6_of sg_X6_of_62 = true := by decide +kernel
def sg_X6_of_72 : List Ins := [(72, .aload_n 0, 0, 0, 0, 0), (73, .getfield 12, 6, 0, 267, 0), (76, .getfield 140, 0, 2, 132, 0), (79, .iload_n 1, 0, 0, 0, 0), (80, .iaload, 8, 0, 0, 0), (81, .ireturn, 0, 0, 0, 0)]
theorem so_X6_of_72 : sgOK mi_X6_of gm_X6_of sg_X6_of_72 = true := by decide +kernel
def sg_X6_of_82 : List Ins := [(82, .aload_n 0, 0, 0, 0, 0), (83, .getfield 12, 6, 0, 267, 0), (86, .getfield 143, 0, 3, 134, 0), (89, .iload_n 1, 0, 0, 0, 0), (90, .iaload, 8, 0, 0, 0), (91, .ireturn, 0, 0, 0, 0)]
theorem so_X6_of_82 : sgOK mi_X6_of gm_X6_of sg_X6_of_82 = true := by decide +kernel
def sg_X6_of_92 : List Ins := [(92, .bipush (-2), 2, 1, 0, 0), (94, .ireturn, 0, 0, 0, 0)]
theorem so_X6_of_92 : sgOK mi_X6_of gm_X6_of sg_X6_of_92 = true := by decide +kernel
def sgs_X6_of : Nat → Option (List Ins) := fun t => match t with
  | 0 => some sg_X6_of_0
  | 13 => some sg_X6_of_13
  | 52 => some sg_X6_of_52
  | 62 => some sg_X6_of_62
  | 72 => some sg_X6_of_72
  | 82 => some sg_X6_of_82
  | 92 => some sg_X6_of_92
  | _ => none
theorem so_X6_of : ∀ t sg, sgs_X6_of t = some sg → sgOK mi_X6_of gm_X6_of sg = true ∧ segPc sg = t := by
  intro t sg h
  unfold sgs_X6_of at h
  split at h
  · cases h; exact ⟨so_X6_of_0, rfl⟩
  · cases h; exact ⟨so_X6_of_13, rfl⟩
  · cases h; exact ⟨so_X6_of_52, rfl⟩
  · cases h; exact ⟨so_X6_of_62, rfl⟩
  · cases h; exact ⟨so_X6_of_72, rfl⟩
  · cases h; exact ⟨so_X6_of_82, rfl⟩
  · cases h; exact ⟨so_X6_of_92, rfl⟩
  · cases h
def gm_X6_ofPlate : List MI := [mi_X0_isPlate, mi_X0_placesThat, mi_X1_leastLight, mi_X6_bitsOfFloat, mi_X1_sumOfLight]
def sg_X6_ofPlate_0 : List Ins := [(0, .aload_n 0, 0, 0, 0, 0), (1, .getfield 12, 6, 0, 267, 0), (4, .iload_n 1, 0, 0, 0, 0), (5, .invokevirtual 146, 515, 0, 10, 2), (8, .ifCond .ne 5, 0, 0, 13, 0), (11, .iconst (-1), 1, 1, 0, 0), (12, .ireturn, 0, 0, 0, 0)]
theorem so_X6_ofPlate_0 : sgOK mi_X6_ofPlate gm_X6_ofPlate sg_X6_ofPlate_0 = true := by decide +kernel
def sg_X6_ofPlate_13 : List Ins := [(13, .aload_n 0, 0, 0, 0, 0), (14, .getfield 12, 6, 0, 267, 0), (17, .getfield 149, 0, 4, 136, 0), (20, .iload_n 1, 0, 0, 0, 0), (21, .aaload, 13, 0, 0, 0), (22, .astore_n 3, 0, 0, 0, 0), (23, .iload_n 2, 0, 0, 0, 0), (24, .tableswitch 66 0 5 #[40, 40, 40, 40, 50, 58], 40, 0, 0, 0)]
theorem so_X6_ofPlate_13 : sgOK mi_X6_ofPlate gm_X6_ofPlate sg_X6_ofPlate_13 = true := by decide +kernel
def sg_X6_ofPlate_64 : List Ins := [(64, .aload_n 0, 0, 0, 0, 0), (65, .getfield 12, 6, 0, 267, 0), (68, .aload_n 3, 0, 0, 0, 0), (69, .iload_n 2, 0, 0, 0, 0), (70, .invokevirtual 153, 516, 1, 10, 3), (73, .ireturn, 0, 0, 0, 0)]
theorem so_X6_ofPlate_64 : sgOK mi_X6_ofPlate gm_X6_ofPlate sg_X6_ofPlate_64 = true := by decide +kernel
def sg_X6_ofPlate_74 : List Ins := [(74, .aload_n 3, 0, 0, 0, 0), (75, .invokevirtual 157, 520, 2, 11, 1), (78, .invokestatic 108, 478, 3, 0, 1), (81, .ireturn, 0, 0, 0, 0)]
theorem so_X6_ofPlate_74 : sgOK mi_X6_ofPlate gm_X6_ofPlate sg_X6_ofPlate_74 = true := by decide +kernel
def sg_X6_ofPlate_82 : List Ins := [(82, .aload_n 3, 0, 0, 0, 0), (83, .invokevirtual 161, 524, 4, 11, 1), (86, .invokestatic 108, 478, 3, 0, 1), (89, .ireturn, 0, 0, 0, 0)]
theorem so_X6_ofPlate_82 : sgOK mi_X6_ofPlate gm_X6_ofPlate sg_X6_ofPlate_82 = true := by decide +kernel
def sg_X6_ofPlate_90 : List Ins := [(90, .bipush (-2), 2, 1, 0, 0), (92, .ireturn, 0, 0, 0, 0)]
theorem so_X6_ofPlate_90 : sgOK mi_X6_ofPlate gm_X6_ofPlate sg_X6_ofPlate_90 = true := by decide +kernel
def sgs_X6_ofPlate : Nat → Option (List Ins) := fun t => match t with
  | 0 => some sg_X6_ofPlate_0
  | 13 => some sg_X6_ofPlate_13
  | 64 => some sg_X6_ofPlate_64
  | 74 => some sg_X6_ofPlate_74
  | 82 => some sg_X6_ofPlate_82
  | 90 => some sg_X6_ofPlate_90
  | _ => none
theorem so_X6_ofPlate : ∀ t sg, sgs_X6_ofPlate t = some sg → sgOK mi_X6_ofPlate gm_X6_ofPlate sg = true ∧ segPc sg = t := by
  intro t sg h
  unfold sgs_X6_ofPlate at h
  split at h
  · cases h; exact ⟨so_X6_ofPlate_0, rfl⟩
  · cases h; exact ⟨so_X6_ofPlate_13, rfl⟩
  · cases h; exact ⟨so_X6_ofPlate_64, rfl⟩
  · cases h; exact ⟨so_X6_ofPlate_74, rfl⟩
  · cases h; exact ⟨so_X6_ofPlate_82, rfl⟩
  · cases h; exact ⟨so_X6_ofPlate_90, rfl⟩
  · cases h
def gm_X6_count : List MI := []
def sg_X6_count_0 : List Ins := [(0, .iload_n 1, 0, 0, 0, 0), (1, .tableswitch 118 0 9 #[55, 63, 71, 79, 87, 87, 87, 87, 99, 110], 55, 0, 0, 0)]
theorem so_X6_count_0 : sgOK mi_X6_count gm_X6_count sg_X6_count_0 = true := by decide +kernel
def sg_X6_count_56 : List Ins := [(56, .aload_n 0, 0, 0, 0, 0), (57, .getfield 12, 6, 0, 267, 0), (60, .getfield 164, 0, 5, 138, 0), (63, .ireturn, 0, 0, 0, 0)]
theorem so_X6_count_56 : sgOK mi_X6_count gm_X6_count sg_X6_count_56 = true := by decide +kernel
def sg_X6_count_64 : List Ins := [(64, .aload_n 0, 0, 0, 0, 0), (65, .getfield 12, 6, 0, 267, 0), (68, .getfield 168, 0, 6, 140, 0), (71, .ireturn, 0, 0, 0, 0)]
theorem so_X6_count_64 : sgOK mi_X6_count gm_X6_count sg_X6_count_64 = true := by decide +kernel
def sg_X6_count_72 : List Ins := [(72, .aload_n 0, 0, 0, 0, 0), (73, .getfield 12, 6, 0, 267, 0), (76, .getfield 171, 0, 7, 142, 0), (79, .ireturn, 0, 0, 0, 0)]
theorem so_X6_count_72 : sgOK mi_X6_count gm_X6_count sg_X6_count_72 = true := by decide +kernel
def sg_X6_count_80 : List Ins := [(80, .aload_n 0, 0, 0, 0, 0), (81, .getfield 12, 6, 0, 267, 0), (84, .getfield 174, 0, 8, 144, 0), (87, .ireturn, 0, 0, 0, 0)]
theorem so_X6_count_80 : sgOK mi_X6_count gm_X6_count sg_X6_count_80 = true := by decide +kernel
def sg_X6_count_88 : List Ins := [(88, .aload_n 0, 0, 0, 0, 0), (89, .getfield 12, 6, 0, 267, 0), (92, .getfield 177, 0, 0, 128, 0), (95, .iload_n 1, 0, 0, 0, 0), (96, .iconst 4, 4, 0, 0, 0), (97, .isub, 0, 0, 0, 0), (98, .iaload, 8, 0, 0, 0), (99, .ireturn, 0, 0, 0, 0)]
theorem so_X6_count_88 : sgOK mi_X6_count gm_X6_count sg_X6_count_88 = true := by decide +kernel
def sg_X6_count_100 : List Ins := [(100, .aload_n 0, 0, 0, 0, 0), (101, .getfield 34, 6, 4, 271, 0), (104, .getfield 180, 3, 0, 209, 0), (107, .getfield 184, 4, 1, 200, 0), (110, .ireturn, 0, 0, 0, 0)]
theorem so_X6_count_100 : sgOK mi_X6_count gm_X6_count sg_X6_count_100 = true := by decide +kernel
def sg_X6_count_111 : List Ins := [(111, .aload_n 0, 0, 0, 0, 0), (112, .getfield 19, 6, 1, 268, 0), (115, .getfield 189, 2, 2, 176, 0), (118, .ireturn, 0, 0, 0, 0)]
theorem so_X6_count_111 : sgOK mi_X6_count gm_X6_count sg_X6_count_111 = true := by decide +kernel
def sg_X6_count_119 : List Ins := [(119, .bipush (-2), 2, 1, 0, 0), (121, .ireturn, 0, 0, 0, 0)]
theorem so_X6_count_119 : sgOK mi_X6_count gm_X6_count sg_X6_count_119 = true := by decide +kernel
def sgs_X6_count : Nat → Option (List Ins) := fun t => match t with
  | 0 => some sg_X6_count_0
  | 56 => some sg_X6_count_56
  | 64 => some sg_X6_count_64
  | 72 => some sg_X6_count_72
  | 80 => some sg_X6_count_80
  | 88 => some sg_X6_count_88
  | 100 => some sg_X6_count_100
  | 111 => some sg_X6_count_111
  | 119 => some sg_X6_count_119
  | _ => none
theorem so_X6_count : ∀ t sg, sgs_X6_count t = some sg → sgOK mi_X6_count gm_X6_count sg = true ∧ segPc sg = t := by
  intro t sg h
  unfold sgs_X6_count at h
  split at h
  · cases h; exact ⟨so_X6_count_0, rfl⟩
  · cases h; exact ⟨so_X6_count_56, rfl⟩
  · cases h; exact ⟨so_X6_count_64, rfl⟩
  · cases h; exact ⟨so_X6_count_72, rfl⟩
  · cases h; exact ⟨so_X6_count_80, rfl⟩
  · cases h; exact ⟨so_X6_count_88, rfl⟩
  · cases h; exact ⟨so_X6_count_100, rfl⟩
  · cases h; exact ⟨so_X6_count_111, rfl⟩
  · cases h; exact ⟨so_X6_count_119, rfl⟩
  · cases h
def gm_X6_bitsOfMean : List MI := []
def sg_X6_bitsOfMean_0 : List Ins := [(0, .dload_n 0, 0, 0, 0, 0), (1, .dstore_n 2, 0, 0, 0, 0), (2, .iconst 0, 0, 0, 0, 0), (3, .istore 4, 0, 0, 0, 0), (5, .nop, 0, 0, 0, 0)]
theorem so_X6_bitsOfMean_0 : sgOK mi_X6_bitsOfMean gm_X6_bitsOfMean sg_X6_bitsOfMean_0 = true := by decide +kernel
def sg_X6_bitsOfMean_5 : List Ins := [(5, .dload_n 2, 0, 0, 0, 0), (6, .dconst 1, 0, 0, 0, 0), (7, .dcmp .g, 0, 0, 0, 0), (8, .ifCond .ge 23, 0, 0, 31, 0), (11, .iload 4, 0, 0, 0, 0), (13, .sipush (-1022), 1022, 1, 0, 0), (16, .if_icmp .le 15, 0, 0, 31, 0), (19, .dload_n 2, 0, 0, 0, 0), (20, .ldc2_w 273, 4611686018427387904, 3, 481, 0), (23, .dmul, 0, 0, 0, 0), (24, .dstore_n 2, 0, 0, 0, 0), (25, .iinc 4 (-1), 1, 1, 0, 0), (28, .goto (-23), 0, 0, 5, 0)]
theorem so_X6_bitsOfMean_5 : sgOK mi_X6_bitsOfMean gm_X6_bitsOfMean sg_X6_bitsOfMean_5 = true := by decide +kernel
def sg_X6_bitsOfMean_31 : List Ins := [(31, .dload_n 2, 0, 0, 0, 0), (32, .dconst 1, 0, 0, 0, 0), (33, .dcmp .g, 0, 0, 0, 0), (34, .ifCond .ge 10, 0, 0, 44, 0), (37, .dload_n 2, 0, 0, 0, 0), (38, .ldc2_w 277, 4841369599423283200, 3, 540, 0), (41, .dmul, 0, 0, 0, 0), (42, .d2l, 0, 0, 0, 0), (43, .lreturn, 0, 0, 0, 0)]
theorem so_X6_bitsOfMean_31 : sgOK mi_X6_bitsOfMean gm_X6_bitsOfMean sg_X6_bitsOfMean_31 = true := by decide +kernel
def sg_X6_bitsOfMean_44 : List Ins := [(44, .iload 4, 0, 0, 0, 0), (46, .sipush 1023, 1023, 0, 0, 0), (49, .iadd, 0, 0, 0, 0), (50, .i2l, 0, 0, 0, 0), (51, .bipush 52, 52, 0, 0, 0), (53, .lshl, 0, 0, 0, 0), (54, .dload_n 2, 0, 0, 0, 0), (55, .dconst 1, 0, 0, 0, 0), (56, .dsub, 0, 0, 0, 0), (57, .ldc2_w 277, 4841369599423283200, 3, 540, 0), (60, .dmul, 0, 0, 0, 0), (61, .d2l, 0, 0, 0, 0), (62, .lor, 0, 0, 0, 0), (63, .lreturn, 0, 0, 0, 0)]
theorem so_X6_bitsOfMean_44 : sgOK mi_X6_bitsOfMean gm_X6_bitsOfMean sg_X6_bitsOfMean_44 = true := by decide +kernel
def sgs_X6_bitsOfMean : Nat → Option (List Ins) := fun t => match t with
  | 0 => some sg_X6_bitsOfMean_0
  | 31 => some sg_X6_bitsOfMean_31
  | 44 => some sg_X6_bitsOfMean_44
  | _ => none
theorem so_X6_bitsOfMean : ∀ t sg, sgs_X6_bitsOfMean t = some sg → sgOK mi_X6_bitsOfMean gm_X6_bitsOfMean sg = true ∧ segPc sg = t := by
  intro t sg h
  unfold sgs_X6_bitsOfMean at h
  split at h
  · cases h; exact ⟨so_X6_bitsOfMean_0, rfl⟩
  · cases h; exact ⟨so_X6_bitsOfMean_31, rfl⟩
  · cases h; exact ⟨so_X6_bitsOfMean_44, rfl⟩
  · cases h
def gm_X6_mean : List MI := [mi_X0_glassOnDesk, mi_X6_bitsOfMean]
def sg_X6_mean_0 : List Ins := [(0, .aload_n 0, 0, 0, 0, 0), (1, .getfield 12, 6, 0, 267, 0), (4, .invokevirtual 84, 476, 0, 10, 1), (7, .astore_n 1, 0, 0, 0, 0), (8, .aload_n 1, 0, 0, 0, 0), (9, .ifnonnull 5, 0, 0, 14, 0), (12, .lconst 0, 0, 0, 0, 0), (13, .lreturn, 0, 0, 0, 0)]
theorem so_X6_mean_0 : sgOK mi_X6_mean gm_X6_mean sg_X6_mean_0 = true := by decide +kernel
def sg_X6_mean_14 : List Ins := [(14, .dconst 0, 0, 0, 0, 0), (15, .dstore_n 2, 0, 0, 0, 0), (16, .iconst 0, 0, 0, 0, 0), (17, .istore 4, 0, 0, 0, 0), (19, .nop, 0, 0, 0, 0)]
theorem so_X6_mean_14 : sgOK mi_X6_mean gm_X6_mean sg_X6_mean_14 = true := by decide +kernel
def sg_X6_mean_19 : List Ins := [(19, .iload 4, 0, 0, 0, 0), (21, .bipush 120, 120, 0, 0, 0), (23, .if_icmp .ge 20, 0, 0, 43, 0), (26, .dload_n 2, 0, 0, 0, 0), (27, .aload_n 1, 0, 0, 0, 0), (28, .getfield 104, 1, 0, 105, 0), (31, .iload 4, 0, 0, 0, 0), (33, .faload, 0, 0, 0, 0), (34, .f2d, 0, 0, 0, 0), (35, .dadd, 0, 0, 0, 0), (36, .dstore_n 2, 0, 0, 0, 0), (37, .iinc 4 1, 1, 0, 0, 0), (40, .goto (-21), 0, 0, 19, 0)]
theorem so_X6_mean_19 : sgOK mi_X6_mean gm_X6_mean sg_X6_mean_19 = true := by decide +kernel
def sg_X6_mean_43 : List Ins := [(43, .dload_n 2, 0, 0, 0, 0), (44, .ldc2_w 192, 4638144666238189568, 3, 536, 0), (47, .ddiv, 0, 0, 0, 0), (48, .invokestatic 194, 537, 1, 0, 1), (51, .lreturn, 0, 0, 0, 0)]
theorem so_X6_mean_43 : sgOK mi_X6_mean gm_X6_mean sg_X6_mean_43 = true := by decide +kernel
def sgs_X6_mean : Nat → Option (List Ins) := fun t => match t with
  | 0 => some sg_X6_mean_0
  | 14 => some sg_X6_mean_14
  | 43 => some sg_X6_mean_43
  | _ => none
theorem so_X6_mean : ∀ t sg, sgs_X6_mean t = some sg → sgOK mi_X6_mean gm_X6_mean sg = true ∧ segPc sg = t := by
  intro t sg h
  unfold sgs_X6_mean at h
  split at h
  · cases h; exact ⟨so_X6_mean_0, rfl⟩
  · cases h; exact ⟨so_X6_mean_14, rfl⟩
  · cases h; exact ⟨so_X6_mean_43, rfl⟩
  · cases h
def gm_X6_ifWritten : List MI := [mi_X0_glassOnDesk, mi_X0_isWriter, mi_X6_isPlace, mi_X5_lettersSpoiled, mi_X5_promisesSpoiled, mi_X5_roomLeft]
def sg_X6_ifWritten_0 : List Ins := [(0, .aload_n 0, 0, 0, 0, 0), (1, .getfield 12, 6, 0, 267, 0), (4, .invokevirtual 84, 476, 0, 10, 1), (7, .astore 5, 0, 0, 0, 0), (9, .aload_n 0, 0, 0, 0, 0), (10, .getfield 12, 6, 0, 267, 0), (13, .iload_n 1, 0, 0, 0, 0), (14, .invokevirtual 130, 505, 1, 10, 2), (17, .ifCond .eq 16, 0, 0, 33, 0), (20, .aload 5, 0, 0, 0, 0), (22, .ifnull 11, 0, 0, 33, 0), (25, .iload_n 2, 0, 0, 0, 0), (26, .iload_n 3, 0, 0, 0, 0), (27, .invokestatic 88, 477, 2, 0, 2), (30, .ifCond .ne 5, 0, 0, 35, 0), (33, .iconst (-1), 1, 1, 0, 0), (34, .ireturn, 0, 0, 0, 0)]
theorem so_X6_ifWritten_0 : sgOK mi_X6_ifWritten gm_X6_ifWritten sg_X6_ifWritten_0 = true := by decide +kernel
def sg_X6_ifWritten_33 : List Ins := [(33, .iconst (-1), 1, 1, 0, 0), (34, .ireturn, 0, 0, 0, 0)]
theorem so_X6_ifWritten_33 : sgOK mi_X6_ifWritten gm_X6_ifWritten sg_X6_ifWritten_33 = true := by decide +kernel
def sg_X6_ifWritten_35 : List Ins := [(35, .iload_n 2, 0, 0, 0, 0), (36, .bipush 12, 12, 0, 0, 0), (38, .imul, 0, 0, 0, 0), (39, .iload_n 3, 0, 0, 0, 0), (40, .iadd, 0, 0, 0, 0), (41, .istore 6, 0, 0, 0, 0), (43, .iload 4, 0, 0, 0, 0), (45, .tableswitch 78 0 2 #[27, 44, 61], 27, 0, 0, 0)]
theorem so_X6_ifWritten_35 : sgOK mi_X6_ifWritten gm_X6_ifWritten sg_X6_ifWritten_35 = true := by decide +kernel
def sg_X6_ifWritten_72 : List Ins := [(72, .aload_n 0, 0, 0, 0, 0), (73, .getfield 41, 6, 5, 272, 0), (76, .aload_n 0, 0, 0, 0, 0), (77, .getfield 12, 6, 0, 267, 0), (80, .aload 5, 0, 0, 0, 0), (82, .iload_n 1, 0, 0, 0, 0), (83, .iload 6, 0, 0, 0, 0), (85, .invokevirtual 198, 545, 3, 15, 5), (88, .ireturn, 0, 0, 0, 0)]
theorem so_X6_ifWritten_72 : sgOK mi_X6_ifWritten gm_X6_ifWritten sg_X6_ifWritten_72 = true := by decide +kernel
def sg_X6_ifWritten_89 : List Ins := [(89, .aload_n 0, 0, 0, 0, 0), (90, .getfield 41, 6, 5, 272, 0), (93, .aload_n 0, 0, 0, 0, 0), (94, .getfield 12, 6, 0, 267, 0), (97, .aload 5, 0, 0, 0, 0), (99, .iload_n 1, 0, 0, 0, 0), (100, .iload 6, 0, 0, 0, 0), (102, .invokevirtual 202, 551, 4, 15, 5), (105, .ireturn, 0, 0, 0, 0)]
theorem so_X6_ifWritten_89 : sgOK mi_X6_ifWritten gm_X6_ifWritten sg_X6_ifWritten_89 = true := by decide +kernel
def sg_X6_ifWritten_106 : List Ins := [(106, .aload_n 0, 0, 0, 0, 0), (107, .getfield 41, 6, 5, 272, 0), (110, .aload_n 0, 0, 0, 0, 0), (111, .getfield 12, 6, 0, 267, 0), (114, .aload 5, 0, 0, 0, 0), (116, .iload_n 1, 0, 0, 0, 0), (117, .iload 6, 0, 0, 0, 0), (119, .invokevirtual 205, 556, 5, 15, 5), (122, .ireturn, 0, 0, 0, 0)]
theorem so_X6_ifWritten_106 : sgOK mi_X6_ifWritten gm_X6_ifWritten sg_X6_ifWritten_106 = true := by decide +kernel
def sg_X6_ifWritten_123 : List Ins := [(123, .bipush (-2), 2, 1, 0, 0), (125, .ireturn, 0, 0, 0, 0)]
theorem so_X6_ifWritten_123 : sgOK mi_X6_ifWritten gm_X6_ifWritten sg_X6_ifWritten_123 = true := by decide +kernel
def sgs_X6_ifWritten : Nat → Option (List Ins) := fun t => match t with
  | 0 => some sg_X6_ifWritten_0
  | 33 => some sg_X6_ifWritten_33
  | 35 => some sg_X6_ifWritten_35
  | 72 => some sg_X6_ifWritten_72
  | 89 => some sg_X6_ifWritten_89
  | 106 => some sg_X6_ifWritten_106
  | 123 => some sg_X6_ifWritten_123
  | _ => none
theorem so_X6_ifWritten : ∀ t sg, sgs_X6_ifWritten t = some sg → sgOK mi_X6_ifWritten gm_X6_ifWritten sg = true ∧ segPc sg = t := by
  intro t sg h
  unfold sgs_X6_ifWritten at h
  split at h
  · cases h; exact ⟨so_X6_ifWritten_0, rfl⟩
  · cases h; exact ⟨so_X6_ifWritten_33, rfl⟩
  · cases h; exact ⟨so_X6_ifWritten_35, rfl⟩
  · cases h; exact ⟨so_X6_ifWritten_72, rfl⟩
  · cases h; exact ⟨so_X6_ifWritten_89, rfl⟩
  · cases h; exact ⟨so_X6_ifWritten_106, rfl⟩
  · cases h; exact ⟨so_X6_ifWritten_123, rfl⟩
  · cases h
def gm_X6_bestPlace : List MI := [mi_X0_glassOnDesk, mi_X5_brightestOf]
def sg_X6_bestPlace_0 : List Ins := [(0, .aload_n 0, 0, 0, 0, 0), (1, .getfield 12, 6, 0, 267, 0), (4, .invokevirtual 84, 476, 0, 10, 1), (7, .astore_n 1, 0, 0, 0, 0), (8, .aload_n 1, 0, 0, 0, 0), (9, .ifnonnull 7, 0, 0, 16, 0), (12, .iconst (-1), 1, 1, 0, 0), (13, .goto 15, 0, 0, 28, 0)]
theorem so_X6_bestPlace_0 : sgOK mi_X6_bestPlace gm_X6_bestPlace sg_X6_bestPlace_0 = true := by decide +kernel
def sg_X6_bestPlace_16 : List Ins := [(16, .aload_n 0, 0, 0, 0, 0), (17, .getfield 41, 6, 5, 272, 0), (20, .aload_n 0, 0, 0, 0, 0), (21, .getfield 12, 6, 0, 267, 0), (24, .aload_n 1, 0, 0, 0, 0), (25, .invokevirtual 208, 565, 1, 15, 3), (28, .ireturn, 0, 0, 0, 0)]
theorem so_X6_bestPlace_16 : sgOK mi_X6_bestPlace gm_X6_bestPlace sg_X6_bestPlace_16 = true := by decide +kernel
def sg_X6_bestPlace_28 : List Ins := [(28, .ireturn, 0, 0, 0, 0)]
theorem so_X6_bestPlace_28 : sgOK mi_X6_bestPlace gm_X6_bestPlace sg_X6_bestPlace_28 = true := by decide +kernel
def sgs_X6_bestPlace : Nat → Option (List Ins) := fun t => match t with
  | 0 => some sg_X6_bestPlace_0
  | 16 => some sg_X6_bestPlace_16
  | 28 => some sg_X6_bestPlace_28
  | _ => none
theorem so_X6_bestPlace : ∀ t sg, sgs_X6_bestPlace t = some sg → sgOK mi_X6_bestPlace gm_X6_bestPlace sg = true ∧ segPc sg = t := by
  intro t sg h
  unfold sgs_X6_bestPlace at h
  split at h
  · cases h; exact ⟨so_X6_bestPlace_0, rfl⟩
  · cases h; exact ⟨so_X6_bestPlace_16, rfl⟩
  · cases h; exact ⟨so_X6_bestPlace_28, rfl⟩
  · cases h
def gm_X6_fills : List MI := [mi_X0_glassOnDesk, mi_X0_isWriter, mi_X5_lettersUntilFull]
def sg_X6_fills_0 : List Ins := [(0, .aload_n 0, 0, 0, 0, 0), (1, .getfield 12, 6, 0, 267, 0), (4, .invokevirtual 84, 476, 0, 10, 1), (7, .astore_n 2, 0, 0, 0, 0), (8, .aload_n 0, 0, 0, 0, 0), (9, .getfield 12, 6, 0, 267, 0), (12, .iload_n 1, 0, 0, 0, 0), (13, .invokevirtual 130, 505, 1, 10, 2), (16, .ifCond .eq 7, 0, 0, 23, 0), (19, .aload_n 2, 0, 0, 0, 0), (20, .ifnonnull 7, 0, 0, 27, 0), (23, .iconst (-1), 1, 1, 0, 0), (24, .goto 16, 0, 0, 40, 0)]
theorem so_X6_fills_0 : sgOK mi_X6_fills gm_X6_fills sg_X6_fills_0 = true := by decide +kernel
def sg_X6_fills_23 : List Ins := [(23, .iconst (-1), 1, 1, 0, 0), (24, .goto 16, 0, 0, 40, 0)]
theorem so_X6_fills_23 : sgOK mi_X6_fills gm_X6_fills sg_X6_fills_23 = true := by decide +kernel
def sg_X6_fills_27 : List Ins := [(27, .aload_n 0, 0, 0, 0, 0), (28, .getfield 41, 6, 5, 272, 0), (31, .aload_n 0, 0, 0, 0, 0), (32, .getfield 12, 6, 0, 267, 0), (35, .aload_n 2, 0, 0, 0, 0), (36, .iload_n 1, 0, 0, 0, 0), (37, .invokevirtual 212, 583, 2, 15, 4), (40, .ireturn, 0, 0, 0, 0)]
theorem so_X6_fills_27 : sgOK mi_X6_fills gm_X6_fills sg_X6_fills_27 = true := by decide +kernel
def sg_X6_fills_40 : List Ins := [(40, .ireturn, 0, 0, 0, 0)]
theorem so_X6_fills_40 : sgOK mi_X6_fills gm_X6_fills sg_X6_fills_40 = true := by decide +kernel
def sgs_X6_fills : Nat → Option (List Ins) := fun t => match t with
  | 0 => some sg_X6_fills_0
  | 23 => some sg_X6_fills_23
  | 27 => some sg_X6_fills_27
  | 40 => some sg_X6_fills_40
  | _ => none
theorem so_X6_fills : ∀ t sg, sgs_X6_fills t = some sg → sgOK mi_X6_fills gm_X6_fills sg = true ∧ segPc sg = t := by
  intro t sg h
  unfold sgs_X6_fills at h
  split at h
  · cases h; exact ⟨so_X6_fills_0, rfl⟩
  · cases h; exact ⟨so_X6_fills_23, rfl⟩
  · cases h; exact ⟨so_X6_fills_27, rfl⟩
  · cases h; exact ⟨so_X6_fills_40, rfl⟩
  · cases h
def gm_X6_whoDims : List MI := [mi_X0_glassOnDesk, mi_X6_isPlace, mi_X0_lightLeftBy]
def sg_X6_whoDims_0 : List Ins := [(0, .aload_n 0, 0, 0, 0, 0), (1, .getfield 12, 6, 0, 267, 0), (4, .invokevirtual 84, 476, 0, 10, 1), (7, .astore_n 3, 0, 0, 0, 0), (8, .aload_n 3, 0, 0, 0, 0), (9, .ifnull 11, 0, 0, 20, 0), (12, .iload_n 1, 0, 0, 0, 0), (13, .iload_n 2, 0, 0, 0, 0), (14, .invokestatic 88, 477, 1, 0, 2), (17, .ifCond .ne 5, 0, 0, 22, 0), (20, .iconst (-1), 1, 1, 0, 0), (21, .ireturn, 0, 0, 0, 0)]
theorem so_X6_whoDims_0 : sgOK mi_X6_whoDims gm_X6_whoDims sg_X6_whoDims_0 = true := by decide +kernel
def sg_X6_whoDims_20 : List Ins := [(20, .iconst (-1), 1, 1, 0, 0), (21, .ireturn, 0, 0, 0, 0)]
theorem so_X6_whoDims_20 : sgOK mi_X6_whoDims gm_X6_whoDims sg_X6_whoDims_20 = true := by decide +kernel
def sg_X6_whoDims_22 : List Ins := [(22, .bipush (-6), 6, 1, 0, 0), (24, .istore 4, 0, 0, 0, 0), (26, .fconst 1, 0, 0, 0, 0), (27, .fstore 5, 0, 0, 0, 0), (29, .iconst 0, 0, 0, 0, 0), (30, .istore 6, 0, 0, 0, 0), (32, .nop, 0, 0, 0, 0)]
theorem so_X6_whoDims_22 : sgOK mi_X6_whoDims gm_X6_whoDims sg_X6_whoDims_22 = true := by decide +kernel
def sg_X6_whoDims_32 : List Ins := [(32, .iload 6, 0, 0, 0, 0), (34, .aload_n 0, 0, 0, 0, 0), (35, .getfield 12, 6, 0, 267, 0), (38, .getfield 174, 0, 8, 144, 0), (41, .if_icmp .ge 43, 0, 0, 84, 0), (44, .aload_n 0, 0, 0, 0, 0), (45, .getfield 12, 6, 0, 267, 0), (48, .aload_n 3, 0, 0, 0, 0), (49, .iload 6, 0, 0, 0, 0), (51, .iload_n 1, 0, 0, 0, 0), (52, .bipush 12, 12, 0, 0, 0), (54, .imul, 0, 0, 0, 0), (55, .iload_n 2, 0, 0, 0, 0), (56, .iadd, 0, 0, 0, 0), (57, .invokevirtual 216, 597, 2, 10, 4), (60, .fstore 7, 0, 0, 0, 0), (62, .fload 7, 0, 0, 0, 0), (64, .fload 5, 0, 0, 0, 0), (66, .fcmp .g, 0, 0, 0, 0), (67, .ifCond .ge 11, 0, 0, 78, 0), (70, .fload 7, 0, 0, 0, 0), (72, .fstore 5, 0, 0, 0, 0), (74, .iload 6, 0, 0, 0, 0), (76, .istore 4, 0, 0, 0, 0), (78, .iinc 6 1, 1, 0, 0, 0), (81, .goto (-49), 0, 0, 32, 0)]
theorem so_X6_whoDims_32 : sgOK mi_X6_whoDims gm_X6_whoDims sg_X6_whoDims_32 = true := by decide +kernel
def sg_X6_whoDims_78 : List Ins := [(78, .iinc 6 1, 1, 0, 0, 0), (81, .goto (-49), 0, 0, 32, 0)]
theorem so_X6_whoDims_78 : sgOK mi_X6_whoDims gm_X6_whoDims sg_X6_whoDims_78 = true := by decide +kernel
def sg_X6_whoDims_84 : List Ins := [(84, .iload 4, 0, 0, 0, 0), (86, .ireturn, 0, 0, 0, 0)]
theorem so_X6_whoDims_84 : sgOK mi_X6_whoDims gm_X6_whoDims sg_X6_whoDims_84 = true := by decide +kernel
def sgs_X6_whoDims : Nat → Option (List Ins) := fun t => match t with
  | 0 => some sg_X6_whoDims_0
  | 20 => some sg_X6_whoDims_20
  | 22 => some sg_X6_whoDims_22
  | 78 => some sg_X6_whoDims_78
  | 84 => some sg_X6_whoDims_84
  | _ => none
theorem so_X6_whoDims : ∀ t sg, sgs_X6_whoDims t = some sg → sgOK mi_X6_whoDims gm_X6_whoDims sg = true ∧ segPc sg = t := by
  intro t sg h
  unfold sgs_X6_whoDims at h
  split at h
  · cases h; exact ⟨so_X6_whoDims_0, rfl⟩
  · cases h; exact ⟨so_X6_whoDims_20, rfl⟩
  · cases h; exact ⟨so_X6_whoDims_22, rfl⟩
  · cases h; exact ⟨so_X6_whoDims_78, rfl⟩
  · cases h; exact ⟨so_X6_whoDims_84, rfl⟩
  · cases h
def gm_X6_readableIn : List MI := [mi_X0_isPlate, mi_X0_hoursUntilReadable]
def sg_X6_readableIn_0 : List Ins := [(0, .aload_n 0, 0, 0, 0, 0), (1, .getfield 12, 6, 0, 267, 0), (4, .iload_n 1, 0, 0, 0, 0), (5, .invokevirtual 146, 515, 0, 10, 2), (8, .ifCond .eq 22, 0, 0, 30, 0), (11, .aload_n 0, 0, 0, 0, 0), (12, .getfield 12, 6, 0, 267, 0), (15, .aload_n 0, 0, 0, 0, 0), (16, .getfield 12, 6, 0, 267, 0), (19, .getfield 149, 0, 4, 136, 0), (22, .iload_n 1, 0, 0, 0, 0), (23, .aaload, 13, 0, 0, 0), (24, .invokevirtual 220, 605, 1, 10, 2), (27, .goto 4, 0, 0, 31, 0)]
theorem so_X6_readableIn_0 : sgOK mi_X6_readableIn gm_X6_readableIn sg_X6_readableIn_0 = true := by decide +kernel
def sg_X6_readableIn_30 : List Ins := [(30, .iconst (-1), 1, 1, 0, 0), (31, .ireturn, 0, 0, 0, 0)]
theorem so_X6_readableIn_30 : sgOK mi_X6_readableIn gm_X6_readableIn sg_X6_readableIn_30 = true := by decide +kernel
def sg_X6_readableIn_31 : List Ins := [(31, .ireturn, 0, 0, 0, 0)]
theorem so_X6_readableIn_31 : sgOK mi_X6_readableIn gm_X6_readableIn sg_X6_readableIn_31 = true := by decide +kernel
def sgs_X6_readableIn : Nat → Option (List Ins) := fun t => match t with
  | 0 => some sg_X6_readableIn_0
  | 30 => some sg_X6_readableIn_30
  | 31 => some sg_X6_readableIn_31
  | _ => none
theorem so_X6_readableIn : ∀ t sg, sgs_X6_readableIn t = some sg → sgOK mi_X6_readableIn gm_X6_readableIn sg = true ∧ segPc sg = t := by
  intro t sg h
  unfold sgs_X6_readableIn at h
  split at h
  · cases h; exact ⟨so_X6_readableIn_0, rfl⟩
  · cases h; exact ⟨so_X6_readableIn_30, rfl⟩
  · cases h; exact ⟨so_X6_readableIn_31, rfl⟩
  · cases h
def gm_X6_put : List MI := [mi_X4_append]
def sg_X6_put_0 : List Ins := [(0, .aload_n 0, 0, 0, 0, 0), (1, .getfield 34, 6, 4, 271, 0), (4, .getfield 180, 3, 0, 209, 0), (7, .lload_n 1, 0, 0, 0, 0), (8, .invokevirtual 224, 617, 0, 14, 2), (11, .ireturn, 0, 0, 0, 0)]
theorem so_X6_put_0 : sgOK mi_X6_put gm_X6_put sg_X6_put_0 = true := by decide +kernel
def sgs_X6_put : Nat → Option (List Ins) := fun t => match t with
  | 0 => some sg_X6_put_0
  | _ => none
theorem so_X6_put : ∀ t sg, sgs_X6_put t = some sg → sgOK mi_X6_put gm_X6_put sg = true ∧ segPc sg = t := by
  intro t sg h
  unfold sgs_X6_put at h
  split at h
  · cases h; exact ⟨so_X6_put_0, rfl⟩
  · cases h
def gm_X6_wipe : List MI := [mi_X4_empty]
def sg_X6_wipe_0 : List Ins := [(0, .aload_n 0, 0, 0, 0, 0), (1, .getfield 34, 6, 4, 271, 0), (4, .getfield 180, 3, 0, 209, 0), (7, .invokevirtual 228, 632, 0, 14, 1), (10, .ireturn, 0, 0, 0, 0)]
theorem so_X6_wipe_0 : sgOK mi_X6_wipe gm_X6_wipe sg_X6_wipe_0 = true := by decide +kernel
def sgs_X6_wipe : Nat → Option (List Ins) := fun t => match t with
  | 0 => some sg_X6_wipe_0
  | _ => none
theorem so_X6_wipe : ∀ t sg, sgs_X6_wipe t = some sg → sgOK mi_X6_wipe gm_X6_wipe sg = true ∧ segPc sg = t := by
  intro t sg h
  unfold sgs_X6_wipe at h
  split at h
  · cases h; exact ⟨so_X6_wipe_0, rfl⟩
  · cases h
def gm_X6_fault : List MI := [mi_X3_readPad]
def sg_X6_fault_0 : List Ins := [(0, .aload_n 0, 0, 0, 0, 0), (1, .getfield 34, 6, 4, 271, 0), (4, .invokevirtual 231, 640, 0, 13, 1), (7, .ireturn, 0, 0, 0, 0)]
theorem so_X6_fault_0 : sgOK mi_X6_fault gm_X6_fault sg_X6_fault_0 = true := by decide +kernel
def sgs_X6_fault : Nat → Option (List Ins) := fun t => match t with
  | 0 => some sg_X6_fault_0
  | _ => none
theorem so_X6_fault : ∀ t sg, sgs_X6_fault t = some sg → sgOK mi_X6_fault gm_X6_fault sg = true ∧ segPc sg = t := by
  intro t sg h
  unfold sgs_X6_fault at h
  split at h
  · cases h; exact ⟨so_X6_fault_0, rfl⟩
  · cases h
def gm_X6_obey : List MI := [mi_X0_addPlate, mi_X0_layPlate, mi_X0_addWriter, mi_X0_writeLetter, mi_X0_promisePlace, mi_X0_rubLetter, mi_X0_passHours]
def sg_X6_obey_0 : List Ins := [(0, .aload_n 0, 0, 0, 0, 0), (1, .getfield 34, 6, 4, 271, 0), (4, .getfield 259, 3, 2, 213, 0), (7, .iload_n 1, 0, 0, 0, 0), (8, .iaload, 8, 0, 0, 0), (9, .istore_n 2, 0, 0, 0, 0), (10, .aload_n 0, 0, 0, 0, 0), (11, .getfield 34, 6, 4, 271, 0), (14, .getfield 262, 3, 3, 215, 0), (17, .iload_n 1, 0, 0, 0, 0), (18, .iaload, 8, 0, 0, 0), (19, .istore_n 3, 0, 0, 0, 0), (20, .aload_n 0, 0, 0, 0, 0), (21, .getfield 34, 6, 4, 271, 0), (24, .getfield 265, 3, 4, 217, 0), (27, .iload_n 1, 0, 0, 0, 0), (28, .iaload, 8, 0, 0, 0), (29, .istore 4, 0, 0, 0, 0), (31, .aload_n 0, 0, 0, 0, 0), (32, .getfield 34, 6, 4, 271, 0), (35, .getfield 268, 3, 1, 211, 0), (38, .iload_n 1, 0, 0, 0, 0), (39, .caload, 0, 0, 0, 0), (40, .tableswitch 163 104 120 #[154, 163, 163, 101, 163, 163, 84, 92, 131, 163, 163, 163, 163, 163, 163, 110, 143], 84, 0, 0, 0)]
theorem so_X6_obey_0 : sgOK mi_X6_obey gm_X6_obey sg_X6_obey_0 = true := by decide +kernel
def sg_X6_obey_124 : List Ins := [(124, .aload_n 0, 0, 0, 0, 0), (125, .getfield 12, 6, 0, 267, 0), (128, .invokevirtual 57, 325, 0, 10, 1), (131, .ireturn, 0, 0, 0, 0)]
theorem so_X6_obey_124 : sgOK mi_X6_obey gm_X6_obey sg_X6_obey_124 = true := by decide +kernel
def sg_X6_obey_132 : List Ins := [(132, .aload_n 0, 0, 0, 0, 0), (133, .getfield 12, 6, 0, 267, 0), (136, .iload_n 2, 0, 0, 0, 0), (137, .invokevirtual 61, 343, 1, 10, 2), (140, .ireturn, 0, 0, 0, 0)]
theorem so_X6_obey_132 : sgOK mi_X6_obey gm_X6_obey sg_X6_obey_132 = true := by decide +kernel
def sg_X6_obey_141 : List Ins := [(141, .aload_n 0, 0, 0, 0, 0), (142, .getfield 12, 6, 0, 267, 0), (145, .iload_n 2, 0, 0, 0, 0), (146, .invokevirtual 64, 355, 2, 10, 2), (149, .ireturn, 0, 0, 0, 0)]
theorem so_X6_obey_141 : sgOK mi_X6_obey gm_X6_obey sg_X6_obey_141 = true := by decide +kernel
def sg_X6_obey_150 : List Ins := [(150, .aload_n 0, 0, 0, 0, 0), (151, .getfield 12, 6, 0, 267, 0), (154, .iload_n 2, 0, 0, 0, 0), (155, .iload_n 3, 0, 0, 0, 0), (156, .iload 4, 0, 0, 0, 0), (158, .aload_n 0, 0, 0, 0, 0), (159, .getfield 34, 6, 4, 271, 0), (162, .getfield 272, 3, 5, 219, 0), (165, .iload_n 1, 0, 0, 0, 0), (166, .iaload, 8, 0, 0, 0), (167, .invokevirtual 67, 363, 3, 10, 5), (170, .ireturn, 0, 0, 0, 0)]
theorem so_X6_obey_150 : sgOK mi_X6_obey gm_X6_obey sg_X6_obey_150 = true := by decide +kernel
def sg_X6_obey_171 : List Ins := [(171, .aload_n 0, 0, 0, 0, 0), (172, .getfield 12, 6, 0, 267, 0), (175, .iload_n 2, 0, 0, 0, 0), (176, .iload_n 3, 0, 0, 0, 0), (177, .iload 4, 0, 0, 0, 0), (179, .invokevirtual 71, 416, 4, 10, 4), (182, .ireturn, 0, 0, 0, 0)]
theorem so_X6_obey_171 : sgOK mi_X6_obey gm_X6_obey sg_X6_obey_171 = true := by decide +kernel
def sg_X6_obey_183 : List Ins := [(183, .aload_n 0, 0, 0, 0, 0), (184, .getfield 12, 6, 0, 267, 0), (187, .iload_n 3, 0, 0, 0, 0), (188, .iload 4, 0, 0, 0, 0), (190, .invokevirtual 78, 448, 5, 10, 3), (193, .ireturn, 0, 0, 0, 0)]
theorem so_X6_obey_183 : sgOK mi_X6_obey gm_X6_obey sg_X6_obey_183 = true := by decide +kernel
def sg_X6_obey_194 : List Ins := [(194, .aload_n 0, 0, 0, 0, 0), (195, .getfield 12, 6, 0, 267, 0), (198, .iload_n 2, 0, 0, 0, 0), (199, .invokevirtual 81, 456, 6, 10, 2), (202, .ireturn, 0, 0, 0, 0)]
theorem so_X6_obey_194 : sgOK mi_X6_obey gm_X6_obey sg_X6_obey_194 = true := by decide +kernel
def sg_X6_obey_203 : List Ins := [(203, .bipush (-3), 3, 1, 0, 0), (205, .ireturn, 0, 0, 0, 0)]
theorem so_X6_obey_203 : sgOK mi_X6_obey gm_X6_obey sg_X6_obey_203 = true := by decide +kernel
def sgs_X6_obey : Nat → Option (List Ins) := fun t => match t with
  | 0 => some sg_X6_obey_0
  | 124 => some sg_X6_obey_124
  | 132 => some sg_X6_obey_132
  | 141 => some sg_X6_obey_141
  | 150 => some sg_X6_obey_150
  | 171 => some sg_X6_obey_171
  | 183 => some sg_X6_obey_183
  | 194 => some sg_X6_obey_194
  | 203 => some sg_X6_obey_203
  | _ => none
theorem so_X6_obey : ∀ t sg, sgs_X6_obey t = some sg → sgOK mi_X6_obey gm_X6_obey sg = true ∧ segPc sg = t := by
  intro t sg h
  unfold sgs_X6_obey at h
  split at h
  · cases h; exact ⟨so_X6_obey_0, rfl⟩
  · cases h; exact ⟨so_X6_obey_124, rfl⟩
  · cases h; exact ⟨so_X6_obey_132, rfl⟩
  · cases h; exact ⟨so_X6_obey_141, rfl⟩
  · cases h; exact ⟨so_X6_obey_150, rfl⟩
  · cases h; exact ⟨so_X6_obey_171, rfl⟩
  · cases h; exact ⟨so_X6_obey_183, rfl⟩
  · cases h; exact ⟨so_X6_obey_194, rfl⟩
  · cases h; exact ⟨so_X6_obey_203, rfl⟩
  · cases h
def gm_X6_carryOut : List MI := [mi_X3_readPad, mi_X2_prepare, mi_X6_obey, mi_X4_empty, mi_X2_keepUnlessError]
def sg_X6_carryOut_0 : List Ins := [(0, .aload_n 0, 0, 0, 0, 0), (1, .getfield 34, 6, 4, 271, 0), (4, .invokevirtual 231, 640, 0, 13, 1), (7, .bipush (-6), 6, 1, 0, 0), (9, .if_icmp .eq 6, 0, 0, 15, 0), (12, .bipush (-3), 3, 1, 0, 0), (14, .ireturn, 0, 0, 0, 0)]
theorem so_X6_carryOut_0 : sgOK mi_X6_carryOut gm_X6_carryOut sg_X6_carryOut_0 = true := by decide +kernel
def sg_X6_carryOut_15 : List Ins := [(15, .aload_n 0, 0, 0, 0, 0), (16, .getfield 19, 6, 1, 268, 0), (19, .aload_n 0, 0, 0, 0, 0), (20, .getfield 12, 6, 0, 267, 0), (23, .invokevirtual 45, 290, 1, 12, 2), (26, .iconst 0, 0, 0, 0, 0), (27, .istore_n 1, 0, 0, 0, 0), (28, .nop, 0, 0, 0, 0)]
theorem so_X6_carryOut_15 : sgOK mi_X6_carryOut gm_X6_carryOut sg_X6_carryOut_15 = true := by decide +kernel
def sg_X6_carryOut_28 : List Ins := [(28, .iload_n 1, 0, 0, 0, 0), (29, .aload_n 0, 0, 0, 0, 0), (30, .getfield 34, 6, 4, 271, 0), (33, .getfield 234, 3, 6, 221, 0), (36, .if_icmp .ge 17, 0, 0, 53, 0), (39, .aload_n 0, 0, 0, 0, 0), (40, .iload_n 1, 0, 0, 0, 0), (41, .invokevirtual 237, 690, 2, 16, 2), (44, .ifCond .lt 9, 0, 0, 53, 0), (47, .iinc 1 1, 1, 0, 0, 0), (50, .goto (-22), 0, 0, 28, 0)]
theorem so_X6_carryOut_28 : sgOK mi_X6_carryOut gm_X6_carryOut sg_X6_carryOut_28 = true := by decide +kernel
def sg_X6_carryOut_53 : List Ins := [(53, .aload_n 0, 0, 0, 0, 0), (54, .getfield 34, 6, 4, 271, 0), (57, .getfield 180, 3, 0, 209, 0), (60, .invokevirtual 228, 632, 3, 14, 1), (63, .pop, 0, 0, 0, 0), (64, .aload_n 0, 0, 0, 0, 0), (65, .getfield 19, 6, 1, 268, 0), (68, .iload_n 1, 0, 0, 0, 0), (69, .invokevirtual 53, 314, 4, 12, 2), (72, .ireturn, 0, 0, 0, 0)]
theorem so_X6_carryOut_53 : sgOK mi_X6_carryOut gm_X6_carryOut sg_X6_carryOut_53 = true := by decide +kernel
def sgs_X6_carryOut : Nat → Option (List Ins) := fun t => match t with
  | 0 => some sg_X6_carryOut_0
  | 15 => some sg_X6_carryOut_15
  | 53 => some sg_X6_carryOut_53
  | _ => none
theorem so_X6_carryOut : ∀ t sg, sgs_X6_carryOut t = some sg → sgOK mi_X6_carryOut gm_X6_carryOut sg = true ∧ segPc sg = t := by
  intro t sg h
  unfold sgs_X6_carryOut at h
  split at h
  · cases h; exact ⟨so_X6_carryOut_0, rfl⟩
  · cases h; exact ⟨so_X6_carryOut_15, rfl⟩
  · cases h; exact ⟨so_X6_carryOut_53, rfl⟩
  · cases h
def gm_X6_undo : List MI := [mi_X2_takeBackInto]
def sg_X6_undo_0 : List Ins := [(0, .aload_n 0, 0, 0, 0, 0), (1, .getfield 19, 6, 1, 268, 0), (4, .aload_n 0, 0, 0, 0, 0), (5, .getfield 12, 6, 0, 267, 0), (8, .invokevirtual 240, 698, 0, 12, 2), (11, .ireturn, 0, 0, 0, 0)]
theorem so_X6_undo_0 : sgOK mi_X6_undo gm_X6_undo sg_X6_undo_0 = true := by decide +kernel
def sgs_X6_undo : Nat → Option (List Ins) := fun t => match t with
  | 0 => some sg_X6_undo_0
  | _ => none
theorem so_X6_undo : ∀ t sg, sgs_X6_undo t = some sg → sgOK mi_X6_undo gm_X6_undo sg = true ∧ segPc sg = t := by
  intro t sg h
  unfold sgs_X6_undo at h
  split at h
  · cases h; exact ⟨so_X6_undo_0, rfl⟩
  · cases h
def gm_X6_save : List MI := [mi_X0_copyFrom]
def sg_X6_save_0 : List Ins := [(0, .iload_n 1, 0, 0, 0, 0), (1, .ifCond .lt 8, 0, 0, 9, 0), (4, .iload_n 1, 0, 0, 0, 0), (5, .iconst 2, 2, 0, 0, 0), (6, .if_icmp .lt 6, 0, 0, 12, 0), (9, .bipush (-2), 2, 1, 0, 0), (11, .ireturn, 0, 0, 0, 0)]
theorem so_X6_save_0 : sgOK mi_X6_save gm_X6_save sg_X6_save_0 = true := by decide +kernel
def sg_X6_save_9 : List Ins := [(9, .bipush (-2), 2, 1, 0, 0), (11, .ireturn, 0, 0, 0, 0)]
theorem so_X6_save_9 : sgOK mi_X6_save gm_X6_save sg_X6_save_9 = true := by decide +kernel
def sg_X6_save_12 : List Ins := [(12, .aload_n 0, 0, 0, 0, 0), (13, .getfield 23, 6, 2, 269, 0), (16, .iload_n 1, 0, 0, 0, 0), (17, .aaload, 12, 0, 0, 0), (18, .aload_n 0, 0, 0, 0, 0), (19, .getfield 12, 6, 0, 267, 0), (22, .invokevirtual 244, 706, 0, 10, 2), (25, .aload_n 0, 0, 0, 0, 0), (26, .getfield 27, 6, 3, 270, 0), (29, .iload_n 1, 0, 0, 0, 0), (30, .iconst 1, 1, 0, 0, 0), (31, .bastore, 0, 0, 0, 0), (32, .aload_n 0, 0, 0, 0, 0), (33, .getfield 12, 6, 0, 267, 0), (36, .getfield 168, 0, 6, 140, 0), (39, .ireturn, 0, 0, 0, 0)]
theorem so_X6_save_12 : sgOK mi_X6_save gm_X6_save sg_X6_save_12 = true := by decide +kernel
def sgs_X6_save : Nat → Option (List Ins) := fun t => match t with
  | 0 => some sg_X6_save_0
  | 9 => some sg_X6_save_9
  | 12 => some sg_X6_save_12
  | _ => none
theorem so_X6_save : ∀ t sg, sgs_X6_save t = some sg → sgOK mi_X6_save gm_X6_save sg = true ∧ segPc sg = t := by
  intro t sg h
  unfold sgs_X6_save at h
  split at h
  · cases h; exact ⟨so_X6_save_0, rfl⟩
  · cases h; exact ⟨so_X6_save_9, rfl⟩
  · cases h; exact ⟨so_X6_save_12, rfl⟩
  · cases h
def gm_X6_restore : List MI := [mi_X2_prepare, mi_X0_copyFrom, mi_X2_keepUnlessError]
def sg_X6_restore_0 : List Ins := [(0, .iload_n 1, 0, 0, 0, 0), (1, .ifCond .lt 8, 0, 0, 9, 0), (4, .iload_n 1, 0, 0, 0, 0), (5, .iconst 2, 2, 0, 0, 0), (6, .if_icmp .lt 6, 0, 0, 12, 0), (9, .bipush (-2), 2, 1, 0, 0), (11, .ireturn, 0, 0, 0, 0)]
theorem so_X6_restore_0 : sgOK mi_X6_restore gm_X6_restore sg_X6_restore_0 = true := by decide +kernel
def sg_X6_restore_9 : List Ins := [(9, .bipush (-2), 2, 1, 0, 0), (11, .ireturn, 0, 0, 0, 0)]
theorem so_X6_restore_9 : sgOK mi_X6_restore gm_X6_restore sg_X6_restore_9 = true := by decide +kernel
def sg_X6_restore_12 : List Ins := [(12, .aload_n 0, 0, 0, 0, 0), (13, .getfield 27, 6, 3, 270, 0), (16, .iload_n 1, 0, 0, 0, 0), (17, .baload, 0, 0, 0, 0), (18, .ifCond .ne 6, 0, 0, 24, 0), (21, .bipush (-5), 5, 1, 0, 0), (23, .ireturn, 0, 0, 0, 0)]
theorem so_X6_restore_12 : sgOK mi_X6_restore gm_X6_restore sg_X6_restore_12 = true := by decide +kernel
def sg_X6_restore_24 : List Ins := [(24, .aload_n 0, 0, 0, 0, 0), (25, .getfield 19, 6, 1, 268, 0), (28, .aload_n 0, 0, 0, 0, 0), (29, .getfield 12, 6, 0, 267, 0), (32, .invokevirtual 45, 290, 0, 12, 2), (35, .aload_n 0, 0, 0, 0, 0), (36, .getfield 12, 6, 0, 267, 0), (39, .aload_n 0, 0, 0, 0, 0), (40, .getfield 23, 6, 2, 269, 0), (43, .iload_n 1, 0, 0, 0, 0), (44, .aaload, 12, 0, 0, 0), (45, .invokevirtual 244, 706, 1, 10, 2), (48, .aload_n 0, 0, 0, 0, 0), (49, .getfield 19, 6, 1, 268, 0), (52, .aload_n 0, 0, 0, 0, 0), (53, .getfield 12, 6, 0, 267, 0), (56, .getfield 168, 0, 6, 140, 0), (59, .invokevirtual 53, 314, 2, 12, 2), (62, .ireturn, 0, 0, 0, 0)]
theorem so_X6_restore_24 : sgOK mi_X6_restore gm_X6_restore sg_X6_restore_24 = true := by decide +kernel
def sgs_X6_restore : Nat → Option (List Ins) := fun t => match t with
  | 0 => some sg_X6_restore_0
  | 9 => some sg_X6_restore_9
  | 12 => some sg_X6_restore_12
  | 24 => some sg_X6_restore_24
  | _ => none
theorem so_X6_restore : ∀ t sg, sgs_X6_restore t = some sg → sgOK mi_X6_restore gm_X6_restore sg = true ∧ segPc sg = t := by
  intro t sg h
  unfold sgs_X6_restore at h
  split at h
  · cases h; exact ⟨so_X6_restore_0, rfl⟩
  · cases h; exact ⟨so_X6_restore_9, rfl⟩
  · cases h; exact ⟨so_X6_restore_12, rfl⟩
  · cases h; exact ⟨so_X6_restore_24, rfl⟩
  · cases h
end
section
/-! stretches of code (printed by wip/whole/gen/meth.py) -/
def gm_X7_init : List MI := []
def sg_X7_init_0 : List Ins := [(0, .aload_n 0, 0, 0, 0, 0), (1, .invokespecial 1, 716, 0, 8, 0), (4, .aload_n 0, 0, 0, 0, 0), (5, .sipush 9830, 9830, 0, 0, 0), (8, .newarray .int, 8, 0, 125, 0), (10, .putfield 7, 7, 0, 717, 0), (13, .aload_n 0, 0, 0, 0, 0), (14, .sipush 4800, 4800, 0, 0, 0), (17, .newarray .float, 9, 0, 126, 0), (19, .putfield 13, 7, 1, 718, 0), (22, .aload_n 0, 0, 0, 0, 0), (23, .iconst 2, 2, 0, 0, 0), (24, .newarray .boolean, 10, 0, 206, 0), (26, .putfield 17, 7, 3, 720, 0), (29, .aload_n 0, 0, 0, 0, 0), (30, .bipush 120, 120, 0, 0, 0), (32, .newarray .int, 8, 0, 125, 0), (34, .putfield 21, 7, 4, 721, 0), (37, .aload_n 0, 0, 0, 0, 0), (38, .bipush 80, 80, 0, 0, 0), (40, .newarray .int, 8, 0, 125, 0), (42, .putfield 24, 7, 5, 722, 0), (45, .aload_n 0, 0, 0, 0, 0), (46, .getfield 7, 7, 0, 717, 0), (49, .iconst 0, 0, 0, 0, 0), (50, .bipush 6, 6, 0, 0, 0), (52, .iastore, 0, 0, 0, 0), (53, .aload_n 0, 0, 0, 0, 0), (54, .getfield 7, 7, 0, 717, 0), (57, .iconst 1, 1, 0, 0, 0), (58, .iconst 2, 2, 0, 0, 0), (59, .iastore, 0, 0, 0, 0), (60, .aload_n 0, 0, 0, 0, 0), (61, .getfield 7, 7, 0, 717, 0), (64, .iconst 2, 2, 0, 0, 0), (65, .bipush 40, 40, 0, 0, 0), (67, .iastore, 0, 0, 0, 0), (68, .aload_n 0, 0, 0, 0, 0), (69, .getfield 7, 7, 0, 717, 0), (72, .iconst 3, 3, 0, 0, 0), (73, .bipush 10, 10, 0, 0, 0), (75, .iastore, 0, 0, 0, 0), (76, .aload_n 0, 0, 0, 0, 0), (77, .getfield 7, 7, 0, 717, 0), (80, .bipush 6, 6, 0, 0, 0), (82, .bipush (-6), 6, 1, 0, 0), (84, .iastore, 0, 0, 0, 0), (85, .return_, 0, 0, 0, 0)]
theorem so_X7_init_0 : sgOK mi_X7_init gm_X7_init sg_X7_init_0 = true := by decide +kernel
def sgs_X7_init : Nat → Option (List Ins) := fun t => match t with
  | 0 => some sg_X7_init_0
  | _ => none
theorem so_X7_init : ∀ t sg, sgs_X7_init t = some sg → sgOK mi_X7_init gm_X7_init sg = true ∧ segPc sg = t := by
  intro t sg h
  unfold sgs_X7_init at h
  split at h
  · cases h; exact ⟨so_X7_init_0, rfl⟩
  · cases h
def gm_X7_in : List MI := []
def sg_X7_in_0 : List Ins := [(0, .lload_n 0, 0, 0, 0, 0), (1, .lload_n 2, 0, 0, 0, 0), (2, .lcmp, 0, 0, 0, 0), (3, .ifCond .lt 14, 0, 0, 17, 0), (6, .lload_n 0, 0, 0, 0, 0), (7, .lload 4, 0, 0, 0, 0), (9, .lcmp, 0, 0, 0, 0), (10, .ifCond .gt 7, 0, 0, 17, 0), (13, .iconst 1, 1, 0, 0, 0), (14, .goto 4, 0, 0, 18, 0)]
theorem so_X7_in_0 : sgOK mi_X7_in gm_X7_in sg_X7_in_0 = true := by decide +kernel
def sg_X7_in_17 : List Ins := [(17, .iconst 0, 0, 0, 0, 0), (18, .ireturn, 0, 0, 0, 0)]
theorem so_X7_in_17 : sgOK mi_X7_in gm_X7_in sg_X7_in_17 = true := by decide +kernel
def sg_X7_in_18 : List Ins := [(18, .ireturn, 0, 0, 0, 0)]
theorem so_X7_in_18 : sgOK mi_X7_in gm_X7_in sg_X7_in_18 = true := by decide +kernel
def sgs_X7_in : Nat → Option (List Ins) := fun t => match t with
  | 0 => some sg_X7_in_0
  | 17 => some sg_X7_in_17
  | 18 => some sg_X7_in_18
  | _ => none
theorem so_X7_in : ∀ t sg, sgs_X7_in t = some sg → sgOK mi_X7_in gm_X7_in sg = true ∧ segPc sg = t := by
  intro t sg h
  unfold sgs_X7_in at h
  split at h
  · cases h; exact ⟨so_X7_in_0, rfl⟩
  · cases h; exact ⟨so_X7_in_17, rfl⟩
  · cases h; exact ⟨so_X7_in_18, rfl⟩
  · cases h
def gm_X7_copies : List MI := []
def sg_X7_copies_0 : List Ins := [(0, .iconst 0, 0, 0, 0, 0), (1, .istore_n 3, 0, 0, 0, 0), (2, .nop, 0, 0, 0, 0)]
theorem so_X7_copies_0 : sgOK mi_X7_copies gm_X7_copies sg_X7_copies_0 = true := by decide +kernel
def sg_X7_copies_2 : List Ins := [(2, .iload_n 3, 0, 0, 0, 0), (3, .sipush 983, 983, 0, 0, 0), (6, .if_icmp .ge 33, 0, 0, 39, 0), (9, .aload_n 0, 0, 0, 0, 0), (10, .getfield 7, 7, 0, 717, 0), (13, .sipush 983, 983, 0, 0, 0), (16, .iload_n 2, 0, 0, 0, 0), (17, .imul, 0, 0, 0, 0), (18, .iload_n 3, 0, 0, 0, 0), (19, .iadd, 0, 0, 0, 0), (20, .aload_n 0, 0, 0, 0, 0), (21, .getfield 7, 7, 0, 717, 0), (24, .sipush 983, 983, 0, 0, 0), (27, .iload_n 1, 0, 0, 0, 0), (28, .imul, 0, 0, 0, 0), (29, .iload_n 3, 0, 0, 0, 0), (30, .iadd, 0, 0, 0, 0), (31, .iaload, 8, 0, 0, 0), (32, .iastore, 0, 0, 0, 0), (33, .iinc 3 1, 1, 0, 0, 0), (36, .goto (-34), 0, 0, 2, 0)]
theorem so_X7_copies_2 : sgOK mi_X7_copies gm_X7_copies sg_X7_copies_2 = true := by decide +kernel
def sg_X7_copies_39 : List Ins := [(39, .iconst 0, 0, 0, 0, 0), (40, .istore_n 3, 0, 0, 0, 0), (41, .nop, 0, 0, 0, 0)]
theorem so_X7_copies_39 : sgOK mi_X7_copies gm_X7_copies sg_X7_copies_39 = true := by decide +kernel
def sg_X7_copies_41 : List Ins := [(41, .iload_n 3, 0, 0, 0, 0), (42, .sipush 480, 480, 0, 0, 0), (45, .if_icmp .ge 33, 0, 0, 78, 0), (48, .aload_n 0, 0, 0, 0, 0), (49, .getfield 13, 7, 1, 718, 0), (52, .sipush 480, 480, 0, 0, 0), (55, .iload_n 2, 0, 0, 0, 0), (56, .imul, 0, 0, 0, 0), (57, .iload_n 3, 0, 0, 0, 0), (58, .iadd, 0, 0, 0, 0), (59, .aload_n 0, 0, 0, 0, 0), (60, .getfield 13, 7, 1, 718, 0), (63, .sipush 480, 480, 0, 0, 0), (66, .iload_n 1, 0, 0, 0, 0), (67, .imul, 0, 0, 0, 0), (68, .iload_n 3, 0, 0, 0, 0), (69, .iadd, 0, 0, 0, 0), (70, .faload, 0, 0, 0, 0), (71, .fastore, 0, 0, 0, 0), (72, .iinc 3 1, 1, 0, 0, 0), (75, .goto (-34), 0, 0, 41, 0)]
theorem so_X7_copies_41 : sgOK mi_X7_copies gm_X7_copies sg_X7_copies_41 = true := by decide +kernel
def sg_X7_copies_78 : List Ins := [(78, .return_, 0, 0, 0, 0)]
theorem so_X7_copies_78 : sgOK mi_X7_copies gm_X7_copies sg_X7_copies_78 = true := by decide +kernel
def sgs_X7_copies : Nat → Option (List Ins) := fun t => match t with
  | 0 => some sg_X7_copies_0
  | 39 => some sg_X7_copies_39
  | 78 => some sg_X7_copies_78
  | _ => none
theorem so_X7_copies : ∀ t sg, sgs_X7_copies t = some sg → sgOK mi_X7_copies gm_X7_copies sg = true ∧ segPc sg = t := by
  intro t sg h
  unfold sgs_X7_copies at h
  split at h
  · cases h; exact ⟨so_X7_copies_0, rfl⟩
  · cases h; exact ⟨so_X7_copies_39, rfl⟩
  · cases h; exact ⟨so_X7_copies_78, rfl⟩
  · cases h
def gm_X7_changes : List MI := [mi_X7_copies]
def sg_X7_changes_0 : List Ins := [(0, .aload_n 0, 0, 0, 0, 0), (1, .getfield 27, 7, 2, 719, 0), (4, .bipush 6, 6, 0, 0, 0), (6, .if_icmp .ne 35, 0, 0, 41, 0), (9, .iconst 1, 1, 0, 0, 0), (10, .istore_n 1, 0, 0, 0, 0), (11, .nop, 0, 0, 0, 0)]
theorem so_X7_changes_0 : sgOK mi_X7_changes gm_X7_changes sg_X7_changes_0 = true := by decide +kernel
def sg_X7_changes_11 : List Ins := [(11, .iload_n 1, 0, 0, 0, 0), (12, .bipush 6, 6, 0, 0, 0), (14, .if_icmp .ge 17, 0, 0, 31, 0), (17, .aload_n 0, 0, 0, 0, 0), (18, .iload_n 1, 0, 0, 0, 0), (19, .iconst 1, 1, 0, 0, 0), (20, .iadd, 0, 0, 0, 0), (21, .iload_n 1, 0, 0, 0, 0), (22, .invokevirtual 31, 778, 0, 17, 3), (25, .iinc 1 1, 1, 0, 0, 0), (28, .goto (-17), 0, 0, 11, 0)]
theorem so_X7_changes_11 : sgOK mi_X7_changes gm_X7_changes sg_X7_changes_11 = true := by decide +kernel
def sg_X7_changes_31 : List Ins := [(31, .aload_n 0, 0, 0, 0, 0), (32, .dup, 0, 0, 0, 0), (33, .getfield 27, 7, 2, 719, 0), (36, .iconst 1, 1, 0, 0, 0), (37, .isub, 0, 0, 0, 0), (38, .putfield 27, 7, 2, 719, 0), (41, .aload_n 0, 0, 0, 0, 0), (42, .dup, 0, 0, 0, 0), (43, .getfield 27, 7, 2, 719, 0), (46, .iconst 1, 1, 0, 0, 0), (47, .iadd, 0, 0, 0, 0), (48, .putfield 27, 7, 2, 719, 0), (51, .aload_n 0, 0, 0, 0, 0), (52, .iconst 0, 0, 0, 0, 0), (53, .aload_n 0, 0, 0, 0, 0), (54, .getfield 27, 7, 2, 719, 0), (57, .invokevirtual 31, 778, 0, 17, 3), (60, .return_, 0, 0, 0, 0)]
theorem so_X7_changes_31 : sgOK mi_X7_changes gm_X7_changes sg_X7_changes_31 = true := by decide +kernel
def sg_X7_changes_41 : List Ins := [(41, .aload_n 0, 0, 0, 0, 0), (42, .dup, 0, 0, 0, 0), (43, .getfield 27, 7, 2, 719, 0), (46, .iconst 1, 1, 0, 0, 0), (47, .iadd, 0, 0, 0, 0), (48, .putfield 27, 7, 2, 719, 0), (51, .aload_n 0, 0, 0, 0, 0), (52, .iconst 0, 0, 0, 0, 0), (53, .aload_n 0, 0, 0, 0, 0), (54, .getfield 27, 7, 2, 719, 0), (57, .invokevirtual 31, 778, 0, 17, 3), (60, .return_, 0, 0, 0, 0)]
theorem so_X7_changes_41 : sgOK mi_X7_changes gm_X7_changes sg_X7_changes_41 = true := by decide +kernel
def sgs_X7_changes : Nat → Option (List Ins) := fun t => match t with
  | 0 => some sg_X7_changes_0
  | 31 => some sg_X7_changes_31
  | 41 => some sg_X7_changes_41
  | _ => none
theorem so_X7_changes : ∀ t sg, sgs_X7_changes t = some sg → sgOK mi_X7_changes gm_X7_changes sg = true ∧ segPc sg = t := by
  intro t sg h
  unfold sgs_X7_changes at h
  split at h
  · cases h; exact ⟨so_X7_changes_0, rfl⟩
  · cases h; exact ⟨so_X7_changes_31, rfl⟩
  · cases h; exact ⟨so_X7_changes_41, rfl⟩
  · cases h
def gm_X7_inkAt : List MI := []
def sg_X7_inkAt_0 : List Ins := [(0, .sipush 983, 983, 0, 0, 0), (3, .iload_n 0, 0, 0, 0, 0), (4, .imul, 0, 0, 0, 0), (5, .bipush 23, 23, 0, 0, 0), (7, .iadd, 0, 0, 0, 0), (8, .iconst 2, 2, 0, 0, 0), (9, .bipush 120, 120, 0, 0, 0), (11, .iload_n 1, 0, 0, 0, 0), (12, .imul, 0, 0, 0, 0), (13, .iload_n 2, 0, 0, 0, 0), (14, .iadd, 0, 0, 0, 0), (15, .imul, 0, 0, 0, 0), (16, .iadd, 0, 0, 0, 0), (17, .ireturn, 0, 0, 0, 0)]
theorem so_X7_inkAt_0 : sgOK mi_X7_inkAt gm_X7_inkAt sg_X7_inkAt_0 = true := by decide +kernel
def sgs_X7_inkAt : Nat → Option (List Ins) := fun t => match t with
  | 0 => some sg_X7_inkAt_0
  | _ => none
theorem so_X7_inkAt : ∀ t sg, sgs_X7_inkAt t = some sg → sgOK mi_X7_inkAt gm_X7_inkAt sg = true ∧ segPc sg = t := by
  intro t sg h
  unfold sgs_X7_inkAt at h
  split at h
  · cases h; exact ⟨so_X7_inkAt_0, rfl⟩
  · cases h
def gm_X7_lightAt : List MI := []
def sg_X7_lightAt_0 : List Ins := [(0, .sipush 480, 480, 0, 0, 0), (3, .iload_n 0, 0, 0, 0, 0), (4, .imul, 0, 0, 0, 0), (5, .bipush 120, 120, 0, 0, 0), (7, .iload_n 1, 0, 0, 0, 0), (8, .imul, 0, 0, 0, 0), (9, .iadd, 0, 0, 0, 0), (10, .iload_n 2, 0, 0, 0, 0), (11, .iadd, 0, 0, 0, 0), (12, .ireturn, 0, 0, 0, 0)]
theorem so_X7_lightAt_0 : sgOK mi_X7_lightAt gm_X7_lightAt sg_X7_lightAt_0 = true := by decide +kernel
def sgs_X7_lightAt : Nat → Option (List Ins) := fun t => match t with
  | 0 => some sg_X7_lightAt_0
  | _ => none
theorem so_X7_lightAt : ∀ t sg, sgs_X7_lightAt t = some sg → sgOK mi_X7_lightAt gm_X7_lightAt sg = true ∧ segPc sg = t := by
  intro t sg h
  unfold sgs_X7_lightAt at h
  split at h
  · cases h; exact ⟨so_X7_lightAt_0, rfl⟩
  · cases h
def gm_X7_hasLetter : List MI := [mi_X7_inkAt]
def sg_X7_hasLetter_0 : List Ins := [(0, .aload_n 0, 0, 0, 0, 0), (1, .getfield 7, 7, 0, 717, 0), (4, .iload_n 1, 0, 0, 0, 0), (5, .iload_n 2, 0, 0, 0, 0), (6, .iload_n 3, 0, 0, 0, 0), (7, .invokestatic 35, 790, 0, 0, 3), (10, .iaload, 8, 0, 0, 0), (11, .bipush (-6), 6, 1, 0, 0), (13, .if_icmp .eq 7, 0, 0, 20, 0), (16, .iconst 1, 1, 0, 0, 0), (17, .goto 4, 0, 0, 21, 0)]
theorem so_X7_hasLetter_0 : sgOK mi_X7_hasLetter gm_X7_hasLetter sg_X7_hasLetter_0 = true := by decide +kernel
def sg_X7_hasLetter_20 : List Ins := [(20, .iconst 0, 0, 0, 0, 0), (21, .ireturn, 0, 0, 0, 0)]
theorem so_X7_hasLetter_20 : sgOK mi_X7_hasLetter gm_X7_hasLetter sg_X7_hasLetter_20 = true := by decide +kernel
def sg_X7_hasLetter_21 : List Ins := [(21, .ireturn, 0, 0, 0, 0)]
theorem so_X7_hasLetter_21 : sgOK mi_X7_hasLetter gm_X7_hasLetter sg_X7_hasLetter_21 = true := by decide +kernel
def sgs_X7_hasLetter : Nat → Option (List Ins) := fun t => match t with
  | 0 => some sg_X7_hasLetter_0
  | 20 => some sg_X7_hasLetter_20
  | 21 => some sg_X7_hasLetter_21
  | _ => none
theorem so_X7_hasLetter : ∀ t sg, sgs_X7_hasLetter t = some sg → sgOK mi_X7_hasLetter gm_X7_hasLetter sg = true ∧ segPc sg = t := by
  intro t sg h
  unfold sgs_X7_hasLetter at h
  split at h
  · cases h; exact ⟨so_X7_hasLetter_0, rfl⟩
  · cases h; exact ⟨so_X7_hasLetter_20, rfl⟩
  · cases h; exact ⟨so_X7_hasLetter_21, rfl⟩
  · cases h
def gm_X7_promisedTo : List MI := [mi_X7_inkAt]
def sg_X7_promisedTo_0 : List Ins := [(0, .aload_n 0, 0, 0, 0, 0), (1, .getfield 7, 7, 0, 717, 0), (4, .iload_n 1, 0, 0, 0, 0), (5, .iload_n 2, 0, 0, 0, 0), (6, .iload_n 3, 0, 0, 0, 0), (7, .invokestatic 35, 790, 0, 0, 3), (10, .iconst 1, 1, 0, 0, 0), (11, .iadd, 0, 0, 0, 0), (12, .iaload, 8, 0, 0, 0), (13, .ireturn, 0, 0, 0, 0)]
theorem so_X7_promisedTo_0 : sgOK mi_X7_promisedTo gm_X7_promisedTo sg_X7_promisedTo_0 = true := by decide +kernel
def sgs_X7_promisedTo : Nat → Option (List Ins) := fun t => match t with
  | 0 => some sg_X7_promisedTo_0
  | _ => none
theorem so_X7_promisedTo : ∀ t sg, sgs_X7_promisedTo t = some sg → sgOK mi_X7_promisedTo gm_X7_promisedTo sg = true ∧ segPc sg = t := by
  intro t sg h
  unfold sgs_X7_promisedTo at h
  split at h
  · cases h; exact ⟨so_X7_promisedTo_0, rfl⟩
  · cases h
def gm_X7_clouded : List MI := []
def sg_X7_clouded_0 : List Ins := [(0, .iload_n 3, 0, 0, 0, 0), (1, .bipush 12, 12, 0, 0, 0), (3, .idiv, 0, 0, 0, 0), (4, .iload 4, 0, 0, 0, 0), (6, .bipush 12, 12, 0, 0, 0), (8, .idiv, 0, 0, 0, 0), (9, .isub, 0, 0, 0, 0), (10, .istore 6, 0, 0, 0, 0), (12, .iload_n 3, 0, 0, 0, 0), (13, .bipush 12, 12, 0, 0, 0), (15, .irem, 0, 0, 0, 0), (16, .iload 4, 0, 0, 0, 0), (18, .bipush 12, 12, 0, 0, 0), (20, .irem, 0, 0, 0, 0), (21, .isub, 0, 0, 0, 0), (22, .istore 7, 0, 0, 0, 0), (24, .iload 6, 0, 0, 0, 0), (26, .ifCond .ge 9, 0, 0, 35, 0), (29, .iload 6, 0, 0, 0, 0), (31, .ineg, 0, 0, 0, 0), (32, .goto 5, 0, 0, 37, 0)]
theorem so_X7_clouded_0 : sgOK mi_X7_clouded gm_X7_clouded sg_X7_clouded_0 = true := by decide +kernel
def sg_X7_clouded_35 : List Ins := [(35, .iload 6, 0, 0, 0, 0), (37, .istore 6, 0, 0, 0, 0), (39, .iload 7, 0, 0, 0, 0), (41, .ifCond .ge 9, 0, 0, 50, 0), (44, .iload 7, 0, 0, 0, 0), (46, .ineg, 0, 0, 0, 0), (47, .goto 5, 0, 0, 52, 0)]
theorem so_X7_clouded_35 : sgOK mi_X7_clouded gm_X7_clouded sg_X7_clouded_35 = true := by decide +kernel
def sg_X7_clouded_37 : List Ins := [(37, .istore 6, 0, 0, 0, 0), (39, .iload 7, 0, 0, 0, 0), (41, .ifCond .ge 9, 0, 0, 50, 0), (44, .iload 7, 0, 0, 0, 0), (46, .ineg, 0, 0, 0, 0), (47, .goto 5, 0, 0, 52, 0)]
theorem so_X7_clouded_37 : sgOK mi_X7_clouded gm_X7_clouded sg_X7_clouded_37 = true := by decide +kernel
def sg_X7_clouded_50 : List Ins := [(50, .iload 7, 0, 0, 0, 0), (52, .istore 7, 0, 0, 0, 0), (54, .iload 6, 0, 0, 0, 0), (56, .iload 7, 0, 0, 0, 0), (58, .if_icmp .le 8, 0, 0, 66, 0), (61, .iload 6, 0, 0, 0, 0), (63, .goto 5, 0, 0, 68, 0)]
theorem so_X7_clouded_50 : sgOK mi_X7_clouded gm_X7_clouded sg_X7_clouded_50 = true := by decide +kernel
def sg_X7_clouded_52 : List Ins := [(52, .istore 7, 0, 0, 0, 0), (54, .iload 6, 0, 0, 0, 0), (56, .iload 7, 0, 0, 0, 0), (58, .if_icmp .le 8, 0, 0, 66, 0), (61, .iload 6, 0, 0, 0, 0), (63, .goto 5, 0, 0, 68, 0)]
theorem so_X7_clouded_52 : sgOK mi_X7_clouded gm_X7_clouded sg_X7_clouded_52 = true := by decide +kernel
def sg_X7_clouded_66 : List Ins := [(66, .iload 7, 0, 0, 0, 0), (68, .istore 8, 0, 0, 0, 0), (70, .iload 8, 0, 0, 0, 0), (72, .ifCond .eq 9, 0, 0, 81, 0), (75, .iload 8, 0, 0, 0, 0), (77, .iconst 2, 2, 0, 0, 0), (78, .if_icmp .le 5, 0, 0, 83, 0), (81, .fload_n 2, 0, 0, 0, 0), (82, .freturn, 0, 0, 0, 0)]
theorem so_X7_clouded_66 : sgOK mi_X7_clouded gm_X7_clouded sg_X7_clouded_66 = true := by decide +kernel
def sg_X7_clouded_68 : List Ins := [(68, .istore 8, 0, 0, 0, 0), (70, .iload 8, 0, 0, 0, 0), (72, .ifCond .eq 9, 0, 0, 81, 0), (75, .iload 8, 0, 0, 0, 0), (77, .iconst 2, 2, 0, 0, 0), (78, .if_icmp .le 5, 0, 0, 83, 0), (81, .fload_n 2, 0, 0, 0, 0), (82, .freturn, 0, 0, 0, 0)]
theorem so_X7_clouded_68 : sgOK mi_X7_clouded gm_X7_clouded sg_X7_clouded_68 = true := by decide +kernel
def sg_X7_clouded_81 : List Ins := [(81, .fload_n 2, 0, 0, 0, 0), (82, .freturn, 0, 0, 0, 0)]
theorem so_X7_clouded_81 : sgOK mi_X7_clouded gm_X7_clouded sg_X7_clouded_81 = true := by decide +kernel
def sg_X7_clouded_83 : List Ins := [(83, .aload_n 0, 0, 0, 0, 0), (84, .getfield 7, 7, 0, 717, 0), (87, .sipush 983, 983, 0, 0, 0), (90, .iload_n 1, 0, 0, 0, 0), (91, .imul, 0, 0, 0, 0), (92, .iload 8, 0, 0, 0, 0), (94, .iadd, 0, 0, 0, 0), (95, .iconst 1, 1, 0, 0, 0), (96, .isub, 0, 0, 0, 0), (97, .iaload, 8, 0, 0, 0), (98, .iload 5, 0, 0, 0, 0), (100, .imul, 0, 0, 0, 0), (101, .istore 9, 0, 0, 0, 0), (103, .fload_n 2, 0, 0, 0, 0), (104, .bipush 100, 100, 0, 0, 0), (106, .iload 9, 0, 0, 0, 0), (108, .isub, 0, 0, 0, 0), (109, .i2f, 0, 0, 0, 0), (110, .fmul, 0, 0, 0, 0), (111, .ldc 39, 1120403456, 1, 861, 0), (113, .fdiv, 0, 0, 0, 0), (114, .freturn, 0, 0, 0, 0)]
theorem so_X7_clouded_83 : sgOK mi_X7_clouded gm_X7_clouded sg_X7_clouded_83 = true := by decide +kernel
def sgs_X7_clouded : Nat → Option (List Ins) := fun t => match t with
  | 0 => some sg_X7_clouded_0
  | 35 => some sg_X7_clouded_35
  | 37 => some sg_X7_clouded_37
  | 50 => some sg_X7_clouded_50
  | 52 => some sg_X7_clouded_52
  | 66 => some sg_X7_clouded_66
  | 68 => some sg_X7_clouded_68
  | 81 => some sg_X7_clouded_81
  | 83 => some sg_X7_clouded_83
  | _ => none
theorem so_X7_clouded : ∀ t sg, sgs_X7_clouded t = some sg → sgOK mi_X7_clouded gm_X7_clouded sg = true ∧ segPc sg = t := by
  intro t sg h
  unfold sgs_X7_clouded at h
  split at h
  · cases h; exact ⟨so_X7_clouded_0, rfl⟩
  · cases h; exact ⟨so_X7_clouded_35, rfl⟩
  · cases h; exact ⟨so_X7_clouded_37, rfl⟩
  · cases h; exact ⟨so_X7_clouded_50, rfl⟩
  · cases h; exact ⟨so_X7_clouded_52, rfl⟩
  · cases h; exact ⟨so_X7_clouded_66, rfl⟩
  · cases h; exact ⟨so_X7_clouded_68, rfl⟩
  · cases h; exact ⟨so_X7_clouded_81, rfl⟩
  · cases h; exact ⟨so_X7_clouded_83, rfl⟩
  · cases h
def gm_X7_isBright : List MI := []
def sg_X7_isBright_0 : List Ins := [(0, .fload_n 2, 0, 0, 0, 0), (1, .aload_n 0, 0, 0, 0, 0), (2, .getfield 7, 7, 0, 717, 0), (5, .sipush 983, 983, 0, 0, 0), (8, .iload_n 1, 0, 0, 0, 0), (9, .imul, 0, 0, 0, 0), (10, .iconst 2, 2, 0, 0, 0), (11, .iadd, 0, 0, 0, 0), (12, .iaload, 8, 0, 0, 0), (13, .i2f, 0, 0, 0, 0), (14, .ldc 39, 1120403456, 1, 861, 0), (16, .fdiv, 0, 0, 0, 0), (17, .fcmp .l, 0, 0, 0, 0), (18, .ifCond .lt 7, 0, 0, 25, 0), (21, .iconst 1, 1, 0, 0, 0), (22, .goto 4, 0, 0, 26, 0)]
theorem so_X7_isBright_0 : sgOK mi_X7_isBright gm_X7_isBright sg_X7_isBright_0 = true := by decide +kernel
def sg_X7_isBright_25 : List Ins := [(25, .iconst 0, 0, 0, 0, 0), (26, .ireturn, 0, 0, 0, 0)]
theorem so_X7_isBright_25 : sgOK mi_X7_isBright gm_X7_isBright sg_X7_isBright_25 = true := by decide +kernel
def sg_X7_isBright_26 : List Ins := [(26, .ireturn, 0, 0, 0, 0)]
theorem so_X7_isBright_26 : sgOK mi_X7_isBright gm_X7_isBright sg_X7_isBright_26 = true := by decide +kernel
def sgs_X7_isBright : Nat → Option (List Ins) := fun t => match t with
  | 0 => some sg_X7_isBright_0
  | 25 => some sg_X7_isBright_25
  | 26 => some sg_X7_isBright_26
  | _ => none
theorem so_X7_isBright : ∀ t sg, sgs_X7_isBright t = some sg → sgOK mi_X7_isBright gm_X7_isBright sg = true ∧ segPc sg = t := by
  intro t sg h
  unfold sgs_X7_isBright at h
  split at h
  · cases h; exact ⟨so_X7_isBright_0, rfl⟩
  · cases h; exact ⟨so_X7_isBright_25, rfl⟩
  · cases h; exact ⟨so_X7_isBright_26, rfl⟩
  · cases h
def gm_X7_ahead : List MI := [mi_X7_lightAt, mi_X7_promisedTo, mi_X7_clouded]
def sg_X7_ahead_0 : List Ins := [(0, .aload_n 0, 0, 0, 0, 0), (1, .getfield 13, 7, 1, 718, 0), (4, .iload_n 1, 0, 0, 0, 0), (5, .iload_n 2, 0, 0, 0, 0), (6, .iload_n 3, 0, 0, 0, 0), (7, .invokestatic 40, 793, 0, 0, 3), (10, .faload, 0, 0, 0, 0), (11, .fstore 4, 0, 0, 0, 0), (13, .iconst 0, 0, 0, 0, 0), (14, .istore 5, 0, 0, 0, 0), (16, .nop, 0, 0, 0, 0)]
theorem so_X7_ahead_0 : sgOK mi_X7_ahead gm_X7_ahead sg_X7_ahead_0 = true := by decide +kernel
def sg_X7_ahead_16 : List Ins := [(16, .iload 5, 0, 0, 0, 0), (18, .bipush 120, 120, 0, 0, 0), (20, .if_icmp .ge 60, 0, 0, 80, 0), (23, .aload_n 0, 0, 0, 0, 0), (24, .iload_n 1, 0, 0, 0, 0), (25, .iload_n 2, 0, 0, 0, 0), (26, .iload 5, 0, 0, 0, 0), (28, .invokevirtual 43, 849, 1, 17, 4), (31, .istore 6, 0, 0, 0, 0), (33, .iload 5, 0, 0, 0, 0), (35, .iload_n 3, 0, 0, 0, 0), (36, .if_icmp .eq 38, 0, 0, 74, 0), (39, .iload 6, 0, 0, 0, 0), (41, .bipush (-6), 6, 1, 0, 0), (43, .if_icmp .eq 31, 0, 0, 74, 0), (46, .aload_n 0, 0, 0, 0, 0), (47, .iload_n 1, 0, 0, 0, 0), (48, .fload 4, 0, 0, 0, 0), (50, .iload_n 3, 0, 0, 0, 0), (51, .iload 5, 0, 0, 0, 0), (53, .aload_n 0, 0, 0, 0, 0), (54, .getfield 7, 7, 0, 717, 0), (57, .sipush 983, 983, 0, 0, 0), (60, .iload_n 1, 0, 0, 0, 0), (61, .imul, 0, 0, 0, 0), (62, .bipush 8, 8, 0, 0, 0), (64, .iadd, 0, 0, 0, 0), (65, .iload 6, 0, 0, 0, 0), (67, .iadd, 0, 0, 0, 0), (68, .iaload, 8, 0, 0, 0), (69, .invokevirtual 46, 878, 2, 17, 6), (72, .fstore 4, 0, 0, 0, 0), (74, .iinc 5 1, 1, 0, 0, 0), (77, .goto (-61), 0, 0, 16, 0)]
theorem so_X7_ahead_16 : sgOK mi_X7_ahead gm_X7_ahead sg_X7_ahead_16 = true := by decide +kernel
def sg_X7_ahead_74 : List Ins := [(74, .iinc 5 1, 1, 0, 0, 0), (77, .goto (-61), 0, 0, 16, 0)]
theorem so_X7_ahead_74 : sgOK mi_X7_ahead gm_X7_ahead sg_X7_ahead_74 = true := by decide +kernel
def sg_X7_ahead_80 : List Ins := [(80, .fload 4, 0, 0, 0, 0), (82, .freturn, 0, 0, 0, 0)]
theorem so_X7_ahead_80 : sgOK mi_X7_ahead gm_X7_ahead sg_X7_ahead_80 = true := by decide +kernel
def sgs_X7_ahead : Nat → Option (List Ins) := fun t => match t with
  | 0 => some sg_X7_ahead_0
  | 74 => some sg_X7_ahead_74
  | 80 => some sg_X7_ahead_80
  | _ => none
theorem so_X7_ahead : ∀ t sg, sgs_X7_ahead t = some sg → sgOK mi_X7_ahead gm_X7_ahead sg = true ∧ segPc sg = t := by
  intro t sg h
  unfold sgs_X7_ahead at h
  split at h
  · cases h; exact ⟨so_X7_ahead_0, rfl⟩
  · cases h; exact ⟨so_X7_ahead_74, rfl⟩
  · cases h; exact ⟨so_X7_ahead_80, rfl⟩
  · cases h
def gm_X7_hasRoom : List MI := [mi_X7_hasLetter, mi_X7_promisedTo, mi_X7_ahead, mi_X7_isBright]
def sg_X7_hasRoom_0 : List Ins := [(0, .aload_n 0, 0, 0, 0, 0), (1, .iload_n 1, 0, 0, 0, 0), (2, .iload_n 2, 0, 0, 0, 0), (3, .iload_n 3, 0, 0, 0, 0), (4, .invokevirtual 50, 853, 0, 17, 4), (7, .ifCond .ne 34, 0, 0, 41, 0), (10, .aload_n 0, 0, 0, 0, 0), (11, .iload_n 1, 0, 0, 0, 0), (12, .iload_n 2, 0, 0, 0, 0), (13, .iload_n 3, 0, 0, 0, 0), (14, .invokevirtual 43, 849, 1, 17, 4), (17, .bipush (-6), 6, 1, 0, 0), (19, .if_icmp .ne 22, 0, 0, 41, 0), (22, .aload_n 0, 0, 0, 0, 0), (23, .iload_n 1, 0, 0, 0, 0), (24, .aload_n 0, 0, 0, 0, 0), (25, .iload_n 1, 0, 0, 0, 0), (26, .iload_n 2, 0, 0, 0, 0), (27, .iload_n 3, 0, 0, 0, 0), (28, .invokevirtual 54, 898, 2, 17, 4), (31, .invokevirtual 58, 857, 3, 17, 3), (34, .ifCond .eq 7, 0, 0, 41, 0), (37, .iconst 1, 1, 0, 0, 0), (38, .goto 4, 0, 0, 42, 0)]
theorem so_X7_hasRoom_0 : sgOK mi_X7_hasRoom gm_X7_hasRoom sg_X7_hasRoom_0 = true := by decide +kernel
def sg_X7_hasRoom_41 : List Ins := [(41, .iconst 0, 0, 0, 0, 0), (42, .ireturn, 0, 0, 0, 0)]
theorem so_X7_hasRoom_41 : sgOK mi_X7_hasRoom gm_X7_hasRoom sg_X7_hasRoom_41 = true := by decide +kernel
def sg_X7_hasRoom_42 : List Ins := [(42, .ireturn, 0, 0, 0, 0)]
theorem so_X7_hasRoom_42 : sgOK mi_X7_hasRoom gm_X7_hasRoom sg_X7_hasRoom_42 = true := by decide +kernel
def sgs_X7_hasRoom : Nat → Option (List Ins) := fun t => match t with
  | 0 => some sg_X7_hasRoom_0
  | 41 => some sg_X7_hasRoom_41
  | 42 => some sg_X7_hasRoom_42
  | _ => none
theorem so_X7_hasRoom : ∀ t sg, sgs_X7_hasRoom t = some sg → sgOK mi_X7_hasRoom gm_X7_hasRoom sg = true ∧ segPc sg = t := by
  intro t sg h
  unfold sgs_X7_hasRoom at h
  split at h
  · cases h; exact ⟨so_X7_hasRoom_0, rfl⟩
  · cases h; exact ⟨so_X7_hasRoom_41, rfl⟩
  · cases h; exact ⟨so_X7_hasRoom_42, rfl⟩
  · cases h
def gm_X7_canRead : List MI := [mi_X7_hasLetter, mi_X7_lightAt, mi_X7_isBright]
def sg_X7_canRead_0 : List Ins := [(0, .aload_n 0, 0, 0, 0, 0), (1, .iload_n 1, 0, 0, 0, 0), (2, .iload_n 2, 0, 0, 0, 0), (3, .iload_n 3, 0, 0, 0, 0), (4, .invokevirtual 50, 853, 0, 17, 4), (7, .ifCond .eq 26, 0, 0, 33, 0), (10, .aload_n 0, 0, 0, 0, 0), (11, .iload_n 1, 0, 0, 0, 0), (12, .aload_n 0, 0, 0, 0, 0), (13, .getfield 13, 7, 1, 718, 0), (16, .iload_n 1, 0, 0, 0, 0), (17, .iload_n 2, 0, 0, 0, 0), (18, .iload_n 3, 0, 0, 0, 0), (19, .invokestatic 40, 793, 1, 0, 3), (22, .faload, 0, 0, 0, 0), (23, .invokevirtual 58, 857, 2, 17, 3), (26, .ifCond .eq 7, 0, 0, 33, 0), (29, .iconst 1, 1, 0, 0, 0), (30, .goto 4, 0, 0, 34, 0)]
theorem so_X7_canRead_0 : sgOK mi_X7_canRead gm_X7_canRead sg_X7_canRead_0 = true := by decide +kernel
def sg_X7_canRead_33 : List Ins := [(33, .iconst 0, 0, 0, 0, 0), (34, .ireturn, 0, 0, 0, 0)]
theorem so_X7_canRead_33 : sgOK mi_X7_canRead gm_X7_canRead sg_X7_canRead_33 = true := by decide +kernel
def sg_X7_canRead_34 : List Ins := [(34, .ireturn, 0, 0, 0, 0)]
theorem so_X7_canRead_34 : sgOK mi_X7_canRead gm_X7_canRead sg_X7_canRead_34 = true := by decide +kernel
def sgs_X7_canRead : Nat → Option (List Ins) := fun t => match t with
  | 0 => some sg_X7_canRead_0
  | 33 => some sg_X7_canRead_33
  | 34 => some sg_X7_canRead_34
  | _ => none
theorem so_X7_canRead : ∀ t sg, sgs_X7_canRead t = some sg → sgOK mi_X7_canRead gm_X7_canRead sg = true ∧ segPc sg = t := by
  intro t sg h
  unfold sgs_X7_canRead at h
  split at h
  · cases h; exact ⟨so_X7_canRead_0, rfl⟩
  · cases h; exact ⟨so_X7_canRead_33, rfl⟩
  · cases h; exact ⟨so_X7_canRead_34, rfl⟩
  · cases h
def gm_X7_rooms : List MI := [mi_X7_hasRoom]
def sg_X7_rooms_0 : List Ins := [(0, .iconst 0, 0, 0, 0, 0), (1, .istore_n 3, 0, 0, 0, 0), (2, .iconst 0, 0, 0, 0, 0), (3, .istore 4, 0, 0, 0, 0), (5, .nop, 0, 0, 0, 0)]
theorem so_X7_rooms_0 : sgOK mi_X7_rooms gm_X7_rooms sg_X7_rooms_0 = true := by decide +kernel
def sg_X7_rooms_5 : List Ins := [(5, .iload 4, 0, 0, 0, 0), (7, .bipush 120, 120, 0, 0, 0), (9, .if_icmp .ge 28, 0, 0, 37, 0), (12, .iload_n 3, 0, 0, 0, 0), (13, .aload_n 0, 0, 0, 0, 0), (14, .iload_n 1, 0, 0, 0, 0), (15, .iload_n 2, 0, 0, 0, 0), (16, .iload 4, 0, 0, 0, 0), (18, .invokevirtual 62, 894, 0, 17, 4), (21, .ifCond .eq 7, 0, 0, 28, 0), (24, .iconst 1, 1, 0, 0, 0), (25, .goto 4, 0, 0, 29, 0)]
theorem so_X7_rooms_5 : sgOK mi_X7_rooms gm_X7_rooms sg_X7_rooms_5 = true := by decide +kernel
def sg_X7_rooms_28 : List Ins := [(28, .iconst 0, 0, 0, 0, 0), (29, .iadd, 0, 0, 0, 0), (30, .istore_n 3, 0, 0, 0, 0), (31, .iinc 4 1, 1, 0, 0, 0), (34, .goto (-29), 0, 0, 5, 0)]
theorem so_X7_rooms_28 : sgOK mi_X7_rooms gm_X7_rooms sg_X7_rooms_28 = true := by decide +kernel
def sg_X7_rooms_29 : List Ins := [(29, .iadd, 0, 0, 0, 0), (30, .istore_n 3, 0, 0, 0, 0), (31, .iinc 4 1, 1, 0, 0, 0), (34, .goto (-29), 0, 0, 5, 0)]
theorem so_X7_rooms_29 : sgOK mi_X7_rooms gm_X7_rooms sg_X7_rooms_29 = true := by decide +kernel
def sg_X7_rooms_37 : List Ins := [(37, .iload_n 3, 0, 0, 0, 0), (38, .ireturn, 0, 0, 0, 0)]
theorem so_X7_rooms_37 : sgOK mi_X7_rooms gm_X7_rooms sg_X7_rooms_37 = true := by decide +kernel
def sgs_X7_rooms : Nat → Option (List Ins) := fun t => match t with
  | 0 => some sg_X7_rooms_0
  | 28 => some sg_X7_rooms_28
  | 29 => some sg_X7_rooms_29
  | 37 => some sg_X7_rooms_37
  | _ => none
theorem so_X7_rooms : ∀ t sg, sgs_X7_rooms t = some sg → sgOK mi_X7_rooms gm_X7_rooms sg = true ∧ segPc sg = t := by
  intro t sg h
  unfold sgs_X7_rooms at h
  split at h
  · cases h; exact ⟨so_X7_rooms_0, rfl⟩
  · cases h; exact ⟨so_X7_rooms_28, rfl⟩
  · cases h; exact ⟨so_X7_rooms_29, rfl⟩
  · cases h; exact ⟨so_X7_rooms_37, rfl⟩
  · cases h
def gm_X7_looks : List MI := [mi_X7_canRead]
def sg_X7_looks_0 : List Ins := [(0, .iconst 0, 0, 0, 0, 0), (1, .istore_n 2, 0, 0, 0, 0), (2, .nop, 0, 0, 0, 0)]
theorem so_X7_looks_0 : sgOK mi_X7_looks gm_X7_looks sg_X7_looks_0 = true := by decide +kernel
def sg_X7_looks_2 : List Ins := [(2, .iload_n 2, 0, 0, 0, 0), (3, .bipush 120, 120, 0, 0, 0), (5, .if_icmp .ge 30, 0, 0, 35, 0), (8, .aload_n 0, 0, 0, 0, 0), (9, .getfield 21, 7, 4, 721, 0), (12, .iload_n 2, 0, 0, 0, 0), (13, .aload_n 0, 0, 0, 0, 0), (14, .iconst 0, 0, 0, 0, 0), (15, .iload_n 1, 0, 0, 0, 0), (16, .iload_n 2, 0, 0, 0, 0), (17, .invokevirtual 65, 870, 0, 17, 4), (20, .ifCond .eq 7, 0, 0, 27, 0), (23, .iconst 1, 1, 0, 0, 0), (24, .goto 4, 0, 0, 28, 0)]
theorem so_X7_looks_2 : sgOK mi_X7_looks gm_X7_looks sg_X7_looks_2 = true := by decide +kernel
def sg_X7_looks_27 : List Ins := [(27, .iconst 0, 0, 0, 0, 0), (28, .iastore, 0, 0, 0, 0), (29, .iinc 2 1, 1, 0, 0, 0), (32, .goto (-30), 0, 0, 2, 0)]
theorem so_X7_looks_27 : sgOK mi_X7_looks gm_X7_looks sg_X7_looks_27 = true := by decide +kernel
def sg_X7_looks_28 : List Ins := [(28, .iastore, 0, 0, 0, 0), (29, .iinc 2 1, 1, 0, 0, 0), (32, .goto (-30), 0, 0, 2, 0)]
theorem so_X7_looks_28 : sgOK mi_X7_looks gm_X7_looks sg_X7_looks_28 = true := by decide +kernel
def sg_X7_looks_35 : List Ins := [(35, .return_, 0, 0, 0, 0)]
theorem so_X7_looks_35 : sgOK mi_X7_looks gm_X7_looks sg_X7_looks_35 = true := by decide +kernel
def sgs_X7_looks : Nat → Option (List Ins) := fun t => match t with
  | 0 => some sg_X7_looks_0
  | 27 => some sg_X7_looks_27
  | 28 => some sg_X7_looks_28
  | 35 => some sg_X7_looks_35
  | _ => none
theorem so_X7_looks : ∀ t sg, sgs_X7_looks t = some sg → sgOK mi_X7_looks gm_X7_looks sg = true ∧ segPc sg = t := by
  intro t sg h
  unfold sgs_X7_looks at h
  split at h
  · cases h; exact ⟨so_X7_looks_0, rfl⟩
  · cases h; exact ⟨so_X7_looks_27, rfl⟩
  · cases h; exact ⟨so_X7_looks_28, rfl⟩
  · cases h; exact ⟨so_X7_looks_35, rfl⟩
  · cases h
def gm_X7_spoilt : List MI := [mi_X7_canRead]
def sg_X7_spoilt_0 : List Ins := [(0, .iconst 0, 0, 0, 0, 0), (1, .istore 4, 0, 0, 0, 0), (3, .iconst 0, 0, 0, 0, 0), (4, .istore 5, 0, 0, 0, 0), (6, .nop, 0, 0, 0, 0)]
theorem so_X7_spoilt_0 : sgOK mi_X7_spoilt gm_X7_spoilt sg_X7_spoilt_0 = true := by decide +kernel
def sg_X7_spoilt_6 : List Ins := [(6, .iload 5, 0, 0, 0, 0), (8, .bipush 120, 120, 0, 0, 0), (10, .if_icmp .ge 47, 0, 0, 57, 0), (13, .iload 4, 0, 0, 0, 0), (15, .iload 5, 0, 0, 0, 0), (17, .iload_n 3, 0, 0, 0, 0), (18, .if_icmp .eq 29, 0, 0, 47, 0), (21, .aload_n 0, 0, 0, 0, 0), (22, .getfield 21, 7, 4, 721, 0), (25, .iload 5, 0, 0, 0, 0), (27, .iaload, 8, 0, 0, 0), (28, .iconst 1, 1, 0, 0, 0), (29, .if_icmp .ne 18, 0, 0, 47, 0), (32, .aload_n 0, 0, 0, 0, 0), (33, .iload_n 1, 0, 0, 0, 0), (34, .iload_n 2, 0, 0, 0, 0), (35, .iload 5, 0, 0, 0, 0), (37, .invokevirtual 65, 870, 0, 17, 4), (40, .ifCond .ne 7, 0, 0, 47, 0), (43, .iconst 1, 1, 0, 0, 0), (44, .goto 4, 0, 0, 48, 0)]
theorem so_X7_spoilt_6 : sgOK mi_X7_spoilt gm_X7_spoilt sg_X7_spoilt_6 = true := by decide +kernel
def sg_X7_spoilt_47 : List Ins := [(47, .iconst 0, 0, 0, 0, 0), (48, .iadd, 0, 0, 0, 0), (49, .istore 4, 0, 0, 0, 0), (51, .iinc 5 1, 1, 0, 0, 0), (54, .goto (-48), 0, 0, 6, 0)]
theorem so_X7_spoilt_47 : sgOK mi_X7_spoilt gm_X7_spoilt sg_X7_spoilt_47 = true := by decide +kernel
def sg_X7_spoilt_48 : List Ins := [(48, .iadd, 0, 0, 0, 0), (49, .istore 4, 0, 0, 0, 0), (51, .iinc 5 1, 1, 0, 0, 0), (54, .goto (-48), 0, 0, 6, 0)]
theorem so_X7_spoilt_48 : sgOK mi_X7_spoilt gm_X7_spoilt sg_X7_spoilt_48 = true := by decide +kernel
def sg_X7_spoilt_57 : List Ins := [(57, .iload 4, 0, 0, 0, 0), (59, .ireturn, 0, 0, 0, 0)]
theorem so_X7_spoilt_57 : sgOK mi_X7_spoilt gm_X7_spoilt sg_X7_spoilt_57 = true := by decide +kernel
def sgs_X7_spoilt : Nat → Option (List Ins) := fun t => match t with
  | 0 => some sg_X7_spoilt_0
  | 47 => some sg_X7_spoilt_47
  | 48 => some sg_X7_spoilt_48
  | 57 => some sg_X7_spoilt_57
  | _ => none
theorem so_X7_spoilt : ∀ t sg, sgs_X7_spoilt t = some sg → sgOK mi_X7_spoilt gm_X7_spoilt sg = true ∧ segPc sg = t := by
  intro t sg h
  unfold sgs_X7_spoilt at h
  split at h
  · cases h; exact ⟨so_X7_spoilt_0, rfl⟩
  · cases h; exact ⟨so_X7_spoilt_47, rfl⟩
  · cases h; exact ⟨so_X7_spoilt_48, rfl⟩
  · cases h; exact ⟨so_X7_spoilt_57, rfl⟩
  · cases h
def gm_X7_writes : List MI := [mi_X7_lightAt, mi_X7_clouded, mi_X7_inkAt]
def sg_X7_writes_0 : List Ins := [(0, .iconst 0, 0, 0, 0, 0), (1, .istore 6, 0, 0, 0, 0), (3, .nop, 0, 0, 0, 0)]
theorem so_X7_writes_0 : sgOK mi_X7_writes gm_X7_writes sg_X7_writes_0 = true := by decide +kernel
def sg_X7_writes_3 : List Ins := [(3, .iload 6, 0, 0, 0, 0), (5, .bipush 120, 120, 0, 0, 0), (7, .if_icmp .ge 56, 0, 0, 63, 0), (10, .iload_n 1, 0, 0, 0, 0), (11, .iload_n 2, 0, 0, 0, 0), (12, .iload 6, 0, 0, 0, 0), (14, .invokestatic 40, 793, 0, 0, 3), (17, .istore 7, 0, 0, 0, 0), (19, .aload_n 0, 0, 0, 0, 0), (20, .getfield 13, 7, 1, 718, 0), (23, .iload 7, 0, 0, 0, 0), (25, .aload_n 0, 0, 0, 0, 0), (26, .iload_n 1, 0, 0, 0, 0), (27, .aload_n 0, 0, 0, 0, 0), (28, .getfield 13, 7, 1, 718, 0), (31, .iload 7, 0, 0, 0, 0), (33, .faload, 0, 0, 0, 0), (34, .iload 6, 0, 0, 0, 0), (36, .iload_n 3, 0, 0, 0, 0), (37, .aload_n 0, 0, 0, 0, 0), (38, .getfield 7, 7, 0, 717, 0), (41, .sipush 983, 983, 0, 0, 0), (44, .iload_n 1, 0, 0, 0, 0), (45, .imul, 0, 0, 0, 0), (46, .bipush 8, 8, 0, 0, 0), (48, .iadd, 0, 0, 0, 0), (49, .iload 4, 0, 0, 0, 0), (51, .iadd, 0, 0, 0, 0), (52, .iaload, 8, 0, 0, 0), (53, .invokevirtual 46, 878, 1, 17, 6), (56, .fastore, 0, 0, 0, 0), (57, .iinc 6 1, 1, 0, 0, 0), (60, .goto (-57), 0, 0, 3, 0)]
theorem so_X7_writes_3 : sgOK mi_X7_writes gm_X7_writes sg_X7_writes_3 = true := by decide +kernel
def sg_X7_writes_63 : List Ins := [(63, .aload_n 0, 0, 0, 0, 0), (64, .getfield 7, 7, 0, 717, 0), (67, .iload_n 1, 0, 0, 0, 0), (68, .iload_n 2, 0, 0, 0, 0), (69, .iload_n 3, 0, 0, 0, 0), (70, .invokestatic 35, 790, 2, 0, 3), (73, .bipush 26, 26, 0, 0, 0), (75, .iload 4, 0, 0, 0, 0), (77, .imul, 0, 0, 0, 0), (78, .iload 5, 0, 0, 0, 0), (80, .iadd, 0, 0, 0, 0), (81, .iastore, 0, 0, 0, 0), (82, .aload_n 0, 0, 0, 0, 0), (83, .getfield 7, 7, 0, 717, 0), (86, .iload_n 1, 0, 0, 0, 0), (87, .iload_n 2, 0, 0, 0, 0), (88, .iload_n 3, 0, 0, 0, 0), (89, .invokestatic 35, 790, 2, 0, 3), (92, .iconst 1, 1, 0, 0, 0), (93, .iadd, 0, 0, 0, 0), (94, .bipush (-6), 6, 1, 0, 0), (96, .iastore, 0, 0, 0, 0), (97, .return_, 0, 0, 0, 0)]
theorem so_X7_writes_63 : sgOK mi_X7_writes gm_X7_writes sg_X7_writes_63 = true := by decide +kernel
def sgs_X7_writes : Nat → Option (List Ins) := fun t => match t with
  | 0 => some sg_X7_writes_0
  | 63 => some sg_X7_writes_63
  | _ => none
theorem so_X7_writes : ∀ t sg, sgs_X7_writes t = some sg → sgOK mi_X7_writes gm_X7_writes sg = true ∧ segPc sg = t := by
  intro t sg h
  unfold sgs_X7_writes at h
  split at h
  · cases h; exact ⟨so_X7_writes_0, rfl⟩
  · cases h; exact ⟨so_X7_writes_63, rfl⟩
  · cases h
def gm_X7_best : List MI := [mi_X7_hasRoom, mi_X7_ahead]
def sg_X7_best_0 : List Ins := [(0, .bipush (-6), 6, 1, 0, 0), (2, .istore_n 3, 0, 0, 0, 0), (3, .fconst 0, 0, 0, 0, 0), (4, .fstore 4, 0, 0, 0, 0), (6, .iconst 0, 0, 0, 0, 0), (7, .istore 5, 0, 0, 0, 0), (9, .nop, 0, 0, 0, 0)]
theorem so_X7_best_0 : sgOK mi_X7_best gm_X7_best sg_X7_best_0 = true := by decide +kernel
def sg_X7_best_9 : List Ins := [(9, .iload 5, 0, 0, 0, 0), (11, .bipush 120, 120, 0, 0, 0), (13, .if_icmp .ge 90, 0, 0, 103, 0), (16, .aload_n 0, 0, 0, 0, 0), (17, .iload_n 1, 0, 0, 0, 0), (18, .iload_n 2, 0, 0, 0, 0), (19, .iload 5, 0, 0, 0, 0), (21, .invokevirtual 62, 894, 0, 17, 4), (24, .istore 6, 0, 0, 0, 0), (26, .iload 6, 0, 0, 0, 0), (28, .ifCond .eq 14, 0, 0, 42, 0), (31, .aload_n 0, 0, 0, 0, 0), (32, .iload_n 1, 0, 0, 0, 0), (33, .iload_n 2, 0, 0, 0, 0), (34, .iload 5, 0, 0, 0, 0), (36, .invokevirtual 54, 898, 1, 17, 4), (39, .goto 4, 0, 0, 43, 0)]
theorem so_X7_best_9 : sgOK mi_X7_best gm_X7_best sg_X7_best_9 = true := by decide +kernel
def sg_X7_best_42 : List Ins := [(42, .fconst 0, 0, 0, 0, 0), (43, .fstore 7, 0, 0, 0, 0), (45, .iload 6, 0, 0, 0, 0), (47, .ifCond .eq 21, 0, 0, 68, 0), (50, .iload_n 3, 0, 0, 0, 0), (51, .bipush (-6), 6, 1, 0, 0), (53, .if_icmp .eq 11, 0, 0, 64, 0), (56, .fload 7, 0, 0, 0, 0), (58, .fload 4, 0, 0, 0, 0), (60, .fcmp .l, 0, 0, 0, 0), (61, .ifCond .le 7, 0, 0, 68, 0), (64, .iconst 1, 1, 0, 0, 0), (65, .goto 4, 0, 0, 69, 0)]
theorem so_X7_best_42 : sgOK mi_X7_best gm_X7_best sg_X7_best_42 = true := by decide +kernel
def sg_X7_best_43 : List Ins := [(43, .fstore 7, 0, 0, 0, 0), (45, .iload 6, 0, 0, 0, 0), (47, .ifCond .eq 21, 0, 0, 68, 0), (50, .iload_n 3, 0, 0, 0, 0), (51, .bipush (-6), 6, 1, 0, 0), (53, .if_icmp .eq 11, 0, 0, 64, 0), (56, .fload 7, 0, 0, 0, 0), (58, .fload 4, 0, 0, 0, 0), (60, .fcmp .l, 0, 0, 0, 0), (61, .ifCond .le 7, 0, 0, 68, 0), (64, .iconst 1, 1, 0, 0, 0), (65, .goto 4, 0, 0, 69, 0)]
theorem so_X7_best_43 : sgOK mi_X7_best gm_X7_best sg_X7_best_43 = true := by decide +kernel
def sg_X7_best_64 : List Ins := [(64, .iconst 1, 1, 0, 0, 0), (65, .goto 4, 0, 0, 69, 0)]
theorem so_X7_best_64 : sgOK mi_X7_best gm_X7_best sg_X7_best_64 = true := by decide +kernel
def sg_X7_best_68 : List Ins := [(68, .iconst 0, 0, 0, 0, 0), (69, .istore 8, 0, 0, 0, 0), (71, .iload 8, 0, 0, 0, 0), (73, .ifCond .eq 8, 0, 0, 81, 0), (76, .iload 5, 0, 0, 0, 0), (78, .goto 4, 0, 0, 82, 0)]
theorem so_X7_best_68 : sgOK mi_X7_best gm_X7_best sg_X7_best_68 = true := by decide +kernel
def sg_X7_best_69 : List Ins := [(69, .istore 8, 0, 0, 0, 0), (71, .iload 8, 0, 0, 0, 0), (73, .ifCond .eq 8, 0, 0, 81, 0), (76, .iload 5, 0, 0, 0, 0), (78, .goto 4, 0, 0, 82, 0)]
theorem so_X7_best_69 : sgOK mi_X7_best gm_X7_best sg_X7_best_69 = true := by decide +kernel
def sg_X7_best_81 : List Ins := [(81, .iload_n 3, 0, 0, 0, 0), (82, .istore_n 3, 0, 0, 0, 0), (83, .iload 8, 0, 0, 0, 0), (85, .ifCond .eq 8, 0, 0, 93, 0), (88, .fload 7, 0, 0, 0, 0), (90, .goto 5, 0, 0, 95, 0)]
theorem so_X7_best_81 : sgOK mi_X7_best gm_X7_best sg_X7_best_81 = true := by decide +kernel
def sg_X7_best_82 : List Ins := [(82, .istore_n 3, 0, 0, 0, 0), (83, .iload 8, 0, 0, 0, 0), (85, .ifCond .eq 8, 0, 0, 93, 0), (88, .fload 7, 0, 0, 0, 0), (90, .goto 5, 0, 0, 95, 0)]
theorem so_X7_best_82 : sgOK mi_X7_best gm_X7_best sg_X7_best_82 = true := by decide +kernel
def sg_X7_best_93 : List Ins := [(93, .fload 4, 0, 0, 0, 0), (95, .fstore 4, 0, 0, 0, 0), (97, .iinc 5 1, 1, 0, 0, 0), (100, .goto (-91), 0, 0, 9, 0)]
theorem so_X7_best_93 : sgOK mi_X7_best gm_X7_best sg_X7_best_93 = true := by decide +kernel
def sg_X7_best_95 : List Ins := [(95, .fstore 4, 0, 0, 0, 0), (97, .iinc 5 1, 1, 0, 0, 0), (100, .goto (-91), 0, 0, 9, 0)]
theorem so_X7_best_95 : sgOK mi_X7_best gm_X7_best sg_X7_best_95 = true := by decide +kernel
def sg_X7_best_103 : List Ins := [(103, .iload_n 3, 0, 0, 0, 0), (104, .ireturn, 0, 0, 0, 0)]
theorem so_X7_best_103 : sgOK mi_X7_best gm_X7_best sg_X7_best_103 = true := by decide +kernel
def sgs_X7_best : Nat → Option (List Ins) := fun t => match t with
  | 0 => some sg_X7_best_0
  | 42 => some sg_X7_best_42
  | 43 => some sg_X7_best_43
  | 64 => some sg_X7_best_64
  | 68 => some sg_X7_best_68
  | 69 => some sg_X7_best_69
  | 81 => some sg_X7_best_81
  | 82 => some sg_X7_best_82
  | 93 => some sg_X7_best_93
  | 95 => some sg_X7_best_95
  | 103 => some sg_X7_best_103
  | _ => none
theorem so_X7_best : ∀ t sg, sgs_X7_best t = some sg → sgOK mi_X7_best gm_X7_best sg = true ∧ segPc sg = t := by
  intro t sg h
  unfold sgs_X7_best at h
  split at h
  · cases h; exact ⟨so_X7_best_0, rfl⟩
  · cases h; exact ⟨so_X7_best_42, rfl⟩
  · cases h; exact ⟨so_X7_best_43, rfl⟩
  · cases h; exact ⟨so_X7_best_64, rfl⟩
  · cases h; exact ⟨so_X7_best_68, rfl⟩
  · cases h; exact ⟨so_X7_best_69, rfl⟩
  · cases h; exact ⟨so_X7_best_81, rfl⟩
  · cases h; exact ⟨so_X7_best_82, rfl⟩
  · cases h; exact ⟨so_X7_best_93, rfl⟩
  · cases h; exact ⟨so_X7_best_95, rfl⟩
  · cases h; exact ⟨so_X7_best_103, rfl⟩
  · cases h
def gm_X7_clears : List MI := [mi_X7_lightAt]
def sg_X7_clears_0 : List Ins := [(0, .iconst 0, 0, 0, 0, 0), (1, .istore_n 3, 0, 0, 0, 0), (2, .nop, 0, 0, 0, 0)]
theorem so_X7_clears_0 : sgOK mi_X7_clears gm_X7_clears sg_X7_clears_0 = true := by decide +kernel
def sg_X7_clears_2 : List Ins := [(2, .iload_n 3, 0, 0, 0, 0), (3, .bipush 120, 120, 0, 0, 0), (5, .if_icmp .ge 57, 0, 0, 62, 0), (8, .aload_n 0, 0, 0, 0, 0), (9, .getfield 13, 7, 1, 718, 0), (12, .iload_n 1, 0, 0, 0, 0), (13, .iload_n 2, 0, 0, 0, 0), (14, .iload_n 3, 0, 0, 0, 0), (15, .invokestatic 40, 793, 0, 0, 3), (18, .faload, 0, 0, 0, 0), (19, .fstore 4, 0, 0, 0, 0), (21, .aload_n 0, 0, 0, 0, 0), (22, .getfield 13, 7, 1, 718, 0), (25, .iload_n 1, 0, 0, 0, 0), (26, .iload_n 2, 0, 0, 0, 0), (27, .iload_n 3, 0, 0, 0, 0), (28, .invokestatic 40, 793, 0, 0, 3), (31, .fload 4, 0, 0, 0, 0), (33, .fconst 1, 0, 0, 0, 0), (34, .fload 4, 0, 0, 0, 0), (36, .fsub, 0, 0, 0, 0), (37, .aload_n 0, 0, 0, 0, 0), (38, .getfield 7, 7, 0, 717, 0), (41, .sipush 983, 983, 0, 0, 0), (44, .iload_n 1, 0, 0, 0, 0), (45, .imul, 0, 0, 0, 0), (46, .iconst 3, 3, 0, 0, 0), (47, .iadd, 0, 0, 0, 0), (48, .iaload, 8, 0, 0, 0), (49, .i2f, 0, 0, 0, 0), (50, .fmul, 0, 0, 0, 0), (51, .ldc 39, 1120403456, 1, 861, 0), (53, .fdiv, 0, 0, 0, 0), (54, .fadd, 0, 0, 0, 0), (55, .fastore, 0, 0, 0, 0), (56, .iinc 3 1, 1, 0, 0, 0), (59, .goto (-57), 0, 0, 2, 0)]
theorem so_X7_clears_2 : sgOK mi_X7_clears gm_X7_clears sg_X7_clears_2 = true := by decide +kernel
def sg_X7_clears_62 : List Ins := [(62, .return_, 0, 0, 0, 0)]
theorem so_X7_clears_62 : sgOK mi_X7_clears gm_X7_clears sg_X7_clears_62 = true := by decide +kernel
def sgs_X7_clears : Nat → Option (List Ins) := fun t => match t with
  | 0 => some sg_X7_clears_0
  | 62 => some sg_X7_clears_62
  | _ => none
theorem so_X7_clears : ∀ t sg, sgs_X7_clears t = some sg → sgOK mi_X7_clears gm_X7_clears sg = true ∧ segPc sg = t := by
  intro t sg h
  unfold sgs_X7_clears at h
  split at h
  · cases h; exact ⟨so_X7_clears_0, rfl⟩
  · cases h; exact ⟨so_X7_clears_62, rfl⟩
  · cases h
def gm_X7_isWriter : List MI := [mi_X7_in]
def sg_X7_isWriter_0 : List Ins := [(0, .iload_n 1, 0, 0, 0, 0), (1, .i2l, 0, 0, 0, 0), (2, .lconst 0, 0, 0, 0, 0), (3, .aload_n 0, 0, 0, 0, 0), (4, .getfield 7, 7, 0, 717, 0), (7, .bipush 7, 7, 0, 0, 0), (9, .iaload, 8, 0, 0, 0), (10, .iconst 1, 1, 0, 0, 0), (11, .isub, 0, 0, 0, 0), (12, .i2l, 0, 0, 0, 0), (13, .invokestatic 68, 768, 0, 0, 3), (16, .ireturn, 0, 0, 0, 0)]
theorem so_X7_isWriter_0 : sgOK mi_X7_isWriter gm_X7_isWriter sg_X7_isWriter_0 = true := by decide +kernel
def sgs_X7_isWriter : Nat → Option (List Ins) := fun t => match t with
  | 0 => some sg_X7_isWriter_0
  | _ => none
theorem so_X7_isWriter : ∀ t sg, sgs_X7_isWriter t = some sg → sgOK mi_X7_isWriter gm_X7_isWriter sg = true ∧ segPc sg = t := by
  intro t sg h
  unfold sgs_X7_isWriter at h
  split at h
  · cases h; exact ⟨so_X7_isWriter_0, rfl⟩
  · cases h
def gm_X7_isPlate : List MI := [mi_X7_in]
def sg_X7_isPlate_0 : List Ins := [(0, .iload_n 1, 0, 0, 0, 0), (1, .i2l, 0, 0, 0, 0), (2, .lconst 0, 0, 0, 0, 0), (3, .aload_n 0, 0, 0, 0, 0), (4, .getfield 7, 7, 0, 717, 0), (7, .iconst 5, 5, 0, 0, 0), (8, .iaload, 8, 0, 0, 0), (9, .iconst 1, 1, 0, 0, 0), (10, .isub, 0, 0, 0, 0), (11, .i2l, 0, 0, 0, 0), (12, .invokestatic 68, 768, 0, 0, 3), (15, .ireturn, 0, 0, 0, 0)]
theorem so_X7_isPlate_0 : sgOK mi_X7_isPlate gm_X7_isPlate sg_X7_isPlate_0 = true := by decide +kernel
def sgs_X7_isPlate : Nat → Option (List Ins) := fun t => match t with
  | 0 => some sg_X7_isPlate_0
  | _ => none
theorem so_X7_isPlate : ∀ t sg, sgs_X7_isPlate t = some sg → sgOK mi_X7_isPlate gm_X7_isPlate sg = true ∧ segPc sg = t := by
  intro t sg h
  unfold sgs_X7_isPlate at h
  split at h
  · cases h; exact ⟨so_X7_isPlate_0, rfl⟩
  · cases h
def gm_X7_isRow : List MI := [mi_X7_in]
def sg_X7_isRow_0 : List Ins := [(0, .iload_n 0, 0, 0, 0, 0), (1, .i2l, 0, 0, 0, 0), (2, .lconst 0, 0, 0, 0, 0), (3, .ldc2_w 72, 9, 2, 771, 0), (6, .invokestatic 68, 768, 0, 0, 3), (9, .ireturn, 0, 0, 0, 0)]
theorem so_X7_isRow_0 : sgOK mi_X7_isRow gm_X7_isRow sg_X7_isRow_0 = true := by decide +kernel
def sgs_X7_isRow : Nat → Option (List Ins) := fun t => match t with
  | 0 => some sg_X7_isRow_0
  | _ => none
theorem so_X7_isRow : ∀ t sg, sgs_X7_isRow t = some sg → sgOK mi_X7_isRow gm_X7_isRow sg = true ∧ segPc sg = t := by
  intro t sg h
  unfold sgs_X7_isRow at h
  split at h
  · cases h; exact ⟨so_X7_isRow_0, rfl⟩
  · cases h
def gm_X7_isThere : List MI := [mi_X7_isRow, mi_X7_in]
def sg_X7_isThere_0 : List Ins := [(0, .aload_n 0, 0, 0, 0, 0), (1, .getfield 7, 7, 0, 717, 0), (4, .bipush 6, 6, 0, 0, 0), (6, .iaload, 8, 0, 0, 0), (7, .bipush (-6), 6, 1, 0, 0), (9, .if_icmp .eq 26, 0, 0, 35, 0), (12, .iload_n 1, 0, 0, 0, 0), (13, .invokestatic 74, 841, 0, 0, 1), (16, .ifCond .eq 19, 0, 0, 35, 0), (19, .iload_n 2, 0, 0, 0, 0), (20, .i2l, 0, 0, 0, 0), (21, .lconst 0, 0, 0, 0, 0), (22, .ldc2_w 78, 11, 2, 844, 0), (25, .invokestatic 68, 768, 1, 0, 3), (28, .ifCond .eq 7, 0, 0, 35, 0), (31, .iconst 1, 1, 0, 0, 0), (32, .goto 4, 0, 0, 36, 0)]
theorem so_X7_isThere_0 : sgOK mi_X7_isThere gm_X7_isThere sg_X7_isThere_0 = true := by decide +kernel
def sg_X7_isThere_35 : List Ins := [(35, .iconst 0, 0, 0, 0, 0), (36, .ireturn, 0, 0, 0, 0)]
theorem so_X7_isThere_35 : sgOK mi_X7_isThere gm_X7_isThere sg_X7_isThere_35 = true := by decide +kernel
def sg_X7_isThere_36 : List Ins := [(36, .ireturn, 0, 0, 0, 0)]
theorem so_X7_isThere_36 : sgOK mi_X7_isThere gm_X7_isThere sg_X7_isThere_36 = true := by decide +kernel
def sgs_X7_isThere : Nat → Option (List Ins) := fun t => match t with
  | 0 => some sg_X7_isThere_0
  | 35 => some sg_X7_isThere_35
  | 36 => some sg_X7_isThere_36
  | _ => none
theorem so_X7_isThere : ∀ t sg, sgs_X7_isThere t = some sg → sgOK mi_X7_isThere gm_X7_isThere sg = true ∧ segPc sg = t := by
  intro t sg h
  unfold sgs_X7_isThere at h
  split at h
  · cases h; exact ⟨so_X7_isThere_0, rfl⟩
  · cases h; exact ⟨so_X7_isThere_35, rfl⟩
  · cases h; exact ⟨so_X7_isThere_36, rfl⟩
  · cases h
def gm_X7_spotOf : List MI := []
def sg_X7_spotOf_0 : List Ins := [(0, .bipush 12, 12, 0, 0, 0), (2, .iload_n 0, 0, 0, 0, 0), (3, .imul, 0, 0, 0, 0), (4, .iload_n 1, 0, 0, 0, 0), (5, .iadd, 0, 0, 0, 0), (6, .ireturn, 0, 0, 0, 0)]
theorem so_X7_spotOf_0 : sgOK mi_X7_spotOf gm_X7_spotOf sg_X7_spotOf_0 = true := by decide +kernel
def sgs_X7_spotOf : Nat → Option (List Ins) := fun t => match t with
  | 0 => some sg_X7_spotOf_0
  | _ => none
theorem so_X7_spotOf : ∀ t sg, sgs_X7_spotOf t = some sg → sgOK mi_X7_spotOf gm_X7_spotOf sg = true ∧ segPc sg = t := by
  intro t sg h
  unfold sgs_X7_spotOf at h
  split at h
  · cases h; exact ⟨so_X7_spotOf_0, rfl⟩
  · cases h
def gm_X7_layError : List MI := [mi_X7_isPlate]
def sg_X7_layError_0 : List Ins := [(0, .aload_n 0, 0, 0, 0, 0), (1, .iload_n 1, 0, 0, 0, 0), (2, .invokevirtual 80, 804, 0, 17, 2), (5, .ifCond .ne 7, 0, 0, 12, 0), (8, .iconst (-1), 1, 1, 0, 0), (9, .goto 20, 0, 0, 29, 0)]
theorem so_X7_layError_0 : sgOK mi_X7_layError gm_X7_layError sg_X7_layError_0 = true := by decide +kernel
def sg_X7_layError_12 : List Ins := [(12, .iload_n 1, 0, 0, 0, 0), (13, .aload_n 0, 0, 0, 0, 0), (14, .getfield 7, 7, 0, 717, 0), (17, .bipush 6, 6, 0, 0, 0), (19, .iaload, 8, 0, 0, 0), (20, .if_icmp .ne 8, 0, 0, 28, 0), (23, .bipush (-5), 5, 1, 0, 0), (25, .goto 4, 0, 0, 29, 0)]
theorem so_X7_layError_12 : sgOK mi_X7_layError gm_X7_layError sg_X7_layError_12 = true := by decide +kernel
def sg_X7_layError_28 : List Ins := [(28, .iconst 0, 0, 0, 0, 0), (29, .ireturn, 0, 0, 0, 0)]
theorem so_X7_layError_28 : sgOK mi_X7_layError gm_X7_layError sg_X7_layError_28 = true := by decide +kernel
def sg_X7_layError_29 : List Ins := [(29, .ireturn, 0, 0, 0, 0)]
theorem so_X7_layError_29 : sgOK mi_X7_layError gm_X7_layError sg_X7_layError_29 = true := by decide +kernel
def sgs_X7_layError : Nat → Option (List Ins) := fun t => match t with
  | 0 => some sg_X7_layError_0
  | 12 => some sg_X7_layError_12
  | 28 => some sg_X7_layError_28
  | 29 => some sg_X7_layError_29
  | _ => none
theorem so_X7_layError : ∀ t sg, sgs_X7_layError t = some sg → sgOK mi_X7_layError gm_X7_layError sg = true ∧ segPc sg = t := by
  intro t sg h
  unfold sgs_X7_layError at h
  split at h
  · cases h; exact ⟨so_X7_layError_0, rfl⟩
  · cases h; exact ⟨so_X7_layError_12, rfl⟩
  · cases h; exact ⟨so_X7_layError_28, rfl⟩
  · cases h; exact ⟨so_X7_layError_29, rfl⟩
  · cases h
def gm_X7_writerError : List MI := [mi_X7_in]
def sg_X7_writerError_0 : List Ins := [(0, .iload_n 1, 0, 0, 0, 0), (1, .i2l, 0, 0, 0, 0), (2, .lconst 1, 0, 0, 0, 0), (3, .ldc2_w 83, 5, 2, 820, 0), (6, .invokestatic 68, 768, 0, 0, 3), (9, .ifCond .ne 8, 0, 0, 17, 0), (12, .bipush (-2), 2, 1, 0, 0), (14, .goto 20, 0, 0, 34, 0)]
theorem so_X7_writerError_0 : sgOK mi_X7_writerError gm_X7_writerError sg_X7_writerError_0 = true := by decide +kernel
def sg_X7_writerError_17 : List Ins := [(17, .aload_n 0, 0, 0, 0, 0), (18, .getfield 7, 7, 0, 717, 0), (21, .bipush 7, 7, 0, 0, 0), (23, .iaload, 8, 0, 0, 0), (24, .iconst 5, 5, 0, 0, 0), (25, .if_icmp .ne 8, 0, 0, 33, 0), (28, .bipush (-4), 4, 1, 0, 0), (30, .goto 4, 0, 0, 34, 0)]
theorem so_X7_writerError_17 : sgOK mi_X7_writerError gm_X7_writerError sg_X7_writerError_17 = true := by decide +kernel
def sg_X7_writerError_33 : List Ins := [(33, .iconst 0, 0, 0, 0, 0), (34, .ireturn, 0, 0, 0, 0)]
theorem so_X7_writerError_33 : sgOK mi_X7_writerError gm_X7_writerError sg_X7_writerError_33 = true := by decide +kernel
def sg_X7_writerError_34 : List Ins := [(34, .ireturn, 0, 0, 0, 0)]
theorem so_X7_writerError_34 : sgOK mi_X7_writerError gm_X7_writerError sg_X7_writerError_34 = true := by decide +kernel
def sgs_X7_writerError : Nat → Option (List Ins) := fun t => match t with
  | 0 => some sg_X7_writerError_0
  | 17 => some sg_X7_writerError_17
  | 33 => some sg_X7_writerError_33
  | 34 => some sg_X7_writerError_34
  | _ => none
theorem so_X7_writerError : ∀ t sg, sgs_X7_writerError t = some sg → sgOK mi_X7_writerError gm_X7_writerError sg = true ∧ segPc sg = t := by
  intro t sg h
  unfold sgs_X7_writerError at h
  split at h
  · cases h; exact ⟨so_X7_writerError_0, rfl⟩
  · cases h; exact ⟨so_X7_writerError_17, rfl⟩
  · cases h; exact ⟨so_X7_writerError_33, rfl⟩
  · cases h; exact ⟨so_X7_writerError_34, rfl⟩
  · cases h
def gm_X7_writeError : List MI := [mi_X7_isWriter, mi_X7_isThere, mi_X7_in, mi_X7_spotOf, mi_X7_promisedTo, mi_X7_hasLetter, mi_X7_lightAt, mi_X7_isBright]
def sg_X7_writeError_0 : List Ins := [(0, .aload_n 0, 0, 0, 0, 0), (1, .iload_n 1, 0, 0, 0, 0), (2, .invokevirtual 85, 833, 0, 17, 2), (5, .ifCond .eq 12, 0, 0, 17, 0), (8, .aload_n 0, 0, 0, 0, 0), (9, .iload_n 2, 0, 0, 0, 0), (10, .iload_n 3, 0, 0, 0, 0), (11, .invokevirtual 88, 837, 1, 17, 3), (14, .ifCond .ne 5, 0, 0, 19, 0), (17, .iconst (-1), 1, 1, 0, 0), (18, .ireturn, 0, 0, 0, 0)]
theorem so_X7_writeError_0 : sgOK mi_X7_writeError gm_X7_writeError sg_X7_writeError_0 = true := by decide +kernel
def sg_X7_writeError_17 : List Ins := [(17, .iconst (-1), 1, 1, 0, 0), (18, .ireturn, 0, 0, 0, 0)]
theorem so_X7_writeError_17 : sgOK mi_X7_writeError gm_X7_writeError sg_X7_writeError_17 = true := by decide +kernel
def sg_X7_writeError_19 : List Ins := [(19, .iload 4, 0, 0, 0, 0), (21, .i2l, 0, 0, 0, 0), (22, .lconst 0, 0, 0, 0, 0), (23, .ldc2_w 92, 25, 2, 845, 0), (26, .invokestatic 68, 768, 2, 0, 3), (29, .ifCond .ne 6, 0, 0, 35, 0), (32, .bipush (-2), 2, 1, 0, 0), (34, .ireturn, 0, 0, 0, 0)]
theorem so_X7_writeError_19 : sgOK mi_X7_writeError gm_X7_writeError sg_X7_writeError_19 = true := by decide +kernel
def sg_X7_writeError_35 : List Ins := [(35, .iload_n 2, 0, 0, 0, 0), (36, .iload_n 3, 0, 0, 0, 0), (37, .invokestatic 94, 846, 3, 0, 2), (40, .istore 5, 0, 0, 0, 0), (42, .aload_n 0, 0, 0, 0, 0), (43, .iconst 0, 0, 0, 0, 0), (44, .aload_n 0, 0, 0, 0, 0), (45, .getfield 7, 7, 0, 717, 0), (48, .bipush 6, 6, 0, 0, 0), (50, .iaload, 8, 0, 0, 0), (51, .iload 5, 0, 0, 0, 0), (53, .invokevirtual 43, 849, 4, 17, 4), (56, .istore 6, 0, 0, 0, 0), (58, .aload_n 0, 0, 0, 0, 0), (59, .iconst 0, 0, 0, 0, 0), (60, .aload_n 0, 0, 0, 0, 0), (61, .getfield 7, 7, 0, 717, 0), (64, .bipush 6, 6, 0, 0, 0), (66, .iaload, 8, 0, 0, 0), (67, .iload 5, 0, 0, 0, 0), (69, .invokevirtual 50, 853, 5, 17, 4), (72, .ifCond .ne 46, 0, 0, 118, 0), (75, .iload 6, 0, 0, 0, 0), (77, .bipush (-6), 6, 1, 0, 0), (79, .if_icmp .eq 9, 0, 0, 88, 0), (82, .iload 6, 0, 0, 0, 0), (84, .iload_n 1, 0, 0, 0, 0), (85, .if_icmp .ne 33, 0, 0, 118, 0), (88, .aload_n 0, 0, 0, 0, 0), (89, .iconst 0, 0, 0, 0, 0), (90, .aload_n 0, 0, 0, 0, 0), (91, .getfield 13, 7, 1, 718, 0), (94, .iconst 0, 0, 0, 0, 0), (95, .aload_n 0, 0, 0, 0, 0), (96, .getfield 7, 7, 0, 717, 0), (99, .bipush 6, 6, 0, 0, 0), (101, .iaload, 8, 0, 0, 0), (102, .iload 5, 0, 0, 0, 0), (104, .invokestatic 40, 793, 6, 0, 3), (107, .faload, 0, 0, 0, 0), (108, .invokevirtual 58, 857, 7, 17, 3), (111, .ifCond .eq 7, 0, 0, 118, 0), (114, .iconst 1, 1, 0, 0, 0), (115, .goto 4, 0, 0, 119, 0)]
theorem so_X7_writeError_35 : sgOK mi_X7_writeError gm_X7_writeError sg_X7_writeError_35 = true := by decide +kernel
def sg_X7_writeError_88 : List Ins := [(88, .aload_n 0, 0, 0, 0, 0), (89, .iconst 0, 0, 0, 0, 0), (90, .aload_n 0, 0, 0, 0, 0), (91, .getfield 13, 7, 1, 718, 0), (94, .iconst 0, 0, 0, 0, 0), (95, .aload_n 0, 0, 0, 0, 0), (96, .getfield 7, 7, 0, 717, 0), (99, .bipush 6, 6, 0, 0, 0), (101, .iaload, 8, 0, 0, 0), (102, .iload 5, 0, 0, 0, 0), (104, .invokestatic 40, 793, 6, 0, 3), (107, .faload, 0, 0, 0, 0), (108, .invokevirtual 58, 857, 7, 17, 3), (111, .ifCond .eq 7, 0, 0, 118, 0), (114, .iconst 1, 1, 0, 0, 0), (115, .goto 4, 0, 0, 119, 0)]
theorem so_X7_writeError_88 : sgOK mi_X7_writeError gm_X7_writeError sg_X7_writeError_88 = true := by decide +kernel
def sg_X7_writeError_118 : List Ins := [(118, .iconst 0, 0, 0, 0, 0), (119, .istore 7, 0, 0, 0, 0), (121, .iload 7, 0, 0, 0, 0), (123, .ifCond .eq 7, 0, 0, 130, 0), (126, .iconst 0, 0, 0, 0, 0), (127, .goto 5, 0, 0, 132, 0)]
theorem so_X7_writeError_118 : sgOK mi_X7_writeError gm_X7_writeError sg_X7_writeError_118 = true := by decide +kernel
def sg_X7_writeError_119 : List Ins := [(119, .istore 7, 0, 0, 0, 0), (121, .iload 7, 0, 0, 0, 0), (123, .ifCond .eq 7, 0, 0, 130, 0), (126, .iconst 0, 0, 0, 0, 0), (127, .goto 5, 0, 0, 132, 0)]
theorem so_X7_writeError_119 : sgOK mi_X7_writeError gm_X7_writeError sg_X7_writeError_119 = true := by decide +kernel
def sg_X7_writeError_130 : List Ins := [(130, .bipush (-5), 5, 1, 0, 0), (132, .ireturn, 0, 0, 0, 0)]
theorem so_X7_writeError_130 : sgOK mi_X7_writeError gm_X7_writeError sg_X7_writeError_130 = true := by decide +kernel
def sg_X7_writeError_132 : List Ins := [(132, .ireturn, 0, 0, 0, 0)]
theorem so_X7_writeError_132 : sgOK mi_X7_writeError gm_X7_writeError sg_X7_writeError_132 = true := by decide +kernel
def sgs_X7_writeError : Nat → Option (List Ins) := fun t => match t with
  | 0 => some sg_X7_writeError_0
  | 17 => some sg_X7_writeError_17
  | 19 => some sg_X7_writeError_19
  | 35 => some sg_X7_writeError_35
  | 88 => some sg_X7_writeError_88
  | 118 => some sg_X7_writeError_118
  | 119 => some sg_X7_writeError_119
  | 130 => some sg_X7_writeError_130
  | 132 => some sg_X7_writeError_132
  | _ => none
theorem so_X7_writeError : ∀ t sg, sgs_X7_writeError t = some sg → sgOK mi_X7_writeError gm_X7_writeError sg = true ∧ segPc sg = t := by
  intro t sg h
  unfold sgs_X7_writeError at h
  split at h
  · cases h; exact ⟨so_X7_writeError_0, rfl⟩
  · cases h; exact ⟨so_X7_writeError_17, rfl⟩
  · cases h; exact ⟨so_X7_writeError_19, rfl⟩
  · cases h; exact ⟨so_X7_writeError_35, rfl⟩
  · cases h; exact ⟨so_X7_writeError_88, rfl⟩
  · cases h; exact ⟨so_X7_writeError_118, rfl⟩
  · cases h; exact ⟨so_X7_writeError_119, rfl⟩
  · cases h; exact ⟨so_X7_writeError_130, rfl⟩
  · cases h; exact ⟨so_X7_writeError_132, rfl⟩
  · cases h
def gm_X7_promiseError : List MI := [mi_X7_isWriter, mi_X7_isThere, mi_X7_spotOf, mi_X7_hasRoom]
def sg_X7_promiseError_0 : List Ins := [(0, .aload_n 0, 0, 0, 0, 0), (1, .iload_n 1, 0, 0, 0, 0), (2, .invokevirtual 85, 833, 0, 17, 2), (5, .ifCond .eq 12, 0, 0, 17, 0), (8, .aload_n 0, 0, 0, 0, 0), (9, .iload_n 2, 0, 0, 0, 0), (10, .iload_n 3, 0, 0, 0, 0), (11, .invokevirtual 88, 837, 1, 17, 3), (14, .ifCond .ne 5, 0, 0, 19, 0), (17, .iconst (-1), 1, 1, 0, 0), (18, .ireturn, 0, 0, 0, 0)]
theorem so_X7_promiseError_0 : sgOK mi_X7_promiseError gm_X7_promiseError sg_X7_promiseError_0 = true := by decide +kernel
def sg_X7_promiseError_17 : List Ins := [(17, .iconst (-1), 1, 1, 0, 0), (18, .ireturn, 0, 0, 0, 0)]
theorem so_X7_promiseError_17 : sgOK mi_X7_promiseError gm_X7_promiseError sg_X7_promiseError_17 = true := by decide +kernel
def sg_X7_promiseError_19 : List Ins := [(19, .aload_n 0, 0, 0, 0, 0), (20, .iconst 0, 0, 0, 0, 0), (21, .aload_n 0, 0, 0, 0, 0), (22, .getfield 7, 7, 0, 717, 0), (25, .bipush 6, 6, 0, 0, 0), (27, .iaload, 8, 0, 0, 0), (28, .iload_n 2, 0, 0, 0, 0), (29, .iload_n 3, 0, 0, 0, 0), (30, .invokestatic 94, 846, 2, 0, 2), (33, .invokevirtual 62, 894, 3, 17, 4), (36, .ifCond .eq 7, 0, 0, 43, 0), (39, .iconst 0, 0, 0, 0, 0), (40, .goto 5, 0, 0, 45, 0)]
theorem so_X7_promiseError_19 : sgOK mi_X7_promiseError gm_X7_promiseError sg_X7_promiseError_19 = true := by decide +kernel
def sg_X7_promiseError_43 : List Ins := [(43, .bipush (-5), 5, 1, 0, 0), (45, .ireturn, 0, 0, 0, 0)]
theorem so_X7_promiseError_43 : sgOK mi_X7_promiseError gm_X7_promiseError sg_X7_promiseError_43 = true := by decide +kernel
def sg_X7_promiseError_45 : List Ins := [(45, .ireturn, 0, 0, 0, 0)]
theorem so_X7_promiseError_45 : sgOK mi_X7_promiseError gm_X7_promiseError sg_X7_promiseError_45 = true := by decide +kernel
def sgs_X7_promiseError : Nat → Option (List Ins) := fun t => match t with
  | 0 => some sg_X7_promiseError_0
  | 17 => some sg_X7_promiseError_17
  | 19 => some sg_X7_promiseError_19
  | 43 => some sg_X7_promiseError_43
  | 45 => some sg_X7_promiseError_45
  | _ => none
theorem so_X7_promiseError : ∀ t sg, sgs_X7_promiseError t = some sg → sgOK mi_X7_promiseError gm_X7_promiseError sg = true ∧ segPc sg = t := by
  intro t sg h
  unfold sgs_X7_promiseError at h
  split at h
  · cases h; exact ⟨so_X7_promiseError_0, rfl⟩
  · cases h; exact ⟨so_X7_promiseError_17, rfl⟩
  · cases h; exact ⟨so_X7_promiseError_19, rfl⟩
  · cases h; exact ⟨so_X7_promiseError_43, rfl⟩
  · cases h; exact ⟨so_X7_promiseError_45, rfl⟩
  · cases h
def gm_X7_rubError : List MI := [mi_X7_isThere, mi_X7_spotOf, mi_X7_hasLetter]
def sg_X7_rubError_0 : List Ins := [(0, .aload_n 0, 0, 0, 0, 0), (1, .iload_n 1, 0, 0, 0, 0), (2, .iload_n 2, 0, 0, 0, 0), (3, .invokevirtual 88, 837, 0, 17, 3), (6, .ifCond .ne 7, 0, 0, 13, 0), (9, .iconst (-1), 1, 1, 0, 0), (10, .goto 29, 0, 0, 39, 0)]
theorem so_X7_rubError_0 : sgOK mi_X7_rubError gm_X7_rubError sg_X7_rubError_0 = true := by decide +kernel
def sg_X7_rubError_13 : List Ins := [(13, .aload_n 0, 0, 0, 0, 0), (14, .iconst 0, 0, 0, 0, 0), (15, .aload_n 0, 0, 0, 0, 0), (16, .getfield 7, 7, 0, 717, 0), (19, .bipush 6, 6, 0, 0, 0), (21, .iaload, 8, 0, 0, 0), (22, .iload_n 1, 0, 0, 0, 0), (23, .iload_n 2, 0, 0, 0, 0), (24, .invokestatic 94, 846, 1, 0, 2), (27, .invokevirtual 50, 853, 2, 17, 4), (30, .ifCond .ne 8, 0, 0, 38, 0), (33, .bipush (-5), 5, 1, 0, 0), (35, .goto 4, 0, 0, 39, 0)]
theorem so_X7_rubError_13 : sgOK mi_X7_rubError gm_X7_rubError sg_X7_rubError_13 = true := by decide +kernel
def sg_X7_rubError_38 : List Ins := [(38, .iconst 0, 0, 0, 0, 0), (39, .ireturn, 0, 0, 0, 0)]
theorem so_X7_rubError_38 : sgOK mi_X7_rubError gm_X7_rubError sg_X7_rubError_38 = true := by decide +kernel
def sg_X7_rubError_39 : List Ins := [(39, .ireturn, 0, 0, 0, 0)]
theorem so_X7_rubError_39 : sgOK mi_X7_rubError gm_X7_rubError sg_X7_rubError_39 = true := by decide +kernel
def sgs_X7_rubError : Nat → Option (List Ins) := fun t => match t with
  | 0 => some sg_X7_rubError_0
  | 13 => some sg_X7_rubError_13
  | 38 => some sg_X7_rubError_38
  | 39 => some sg_X7_rubError_39
  | _ => none
theorem so_X7_rubError : ∀ t sg, sgs_X7_rubError t = some sg → sgOK mi_X7_rubError gm_X7_rubError sg = true ∧ segPc sg = t := by
  intro t sg h
  unfold sgs_X7_rubError at h
  split at h
  · cases h; exact ⟨so_X7_rubError_0, rfl⟩
  · cases h; exact ⟨so_X7_rubError_13, rfl⟩
  · cases h; exact ⟨so_X7_rubError_38, rfl⟩
  · cases h; exact ⟨so_X7_rubError_39, rfl⟩
  · cases h
def gm_X7_passError : List MI := [mi_X7_in]
def sg_X7_passError_0 : List Ins := [(0, .iload_n 1, 0, 0, 0, 0), (1, .i2l, 0, 0, 0, 0), (2, .lconst 1, 0, 0, 0, 0), (3, .ldc2_w 98, 48, 2, 934, 0), (6, .invokestatic 68, 768, 0, 0, 3), (9, .ifCond .ne 8, 0, 0, 17, 0), (12, .bipush (-2), 2, 1, 0, 0), (14, .goto 23, 0, 0, 37, 0)]
theorem so_X7_passError_0 : sgOK mi_X7_passError gm_X7_passError sg_X7_passError_0 = true := by decide +kernel
def sg_X7_passError_17 : List Ins := [(17, .aload_n 0, 0, 0, 0, 0), (18, .getfield 7, 7, 0, 717, 0), (21, .iconst 4, 4, 0, 0, 0), (22, .iaload, 8, 0, 0, 0), (23, .iload_n 1, 0, 0, 0, 0), (24, .iadd, 0, 0, 0, 0), (25, .sipush 9999, 9999, 0, 0, 0), (28, .if_icmp .le 8, 0, 0, 36, 0), (31, .bipush (-5), 5, 1, 0, 0), (33, .goto 4, 0, 0, 37, 0)]
theorem so_X7_passError_17 : sgOK mi_X7_passError gm_X7_passError sg_X7_passError_17 = true := by decide +kernel
def sg_X7_passError_36 : List Ins := [(36, .iconst 0, 0, 0, 0, 0), (37, .ireturn, 0, 0, 0, 0)]
theorem so_X7_passError_36 : sgOK mi_X7_passError gm_X7_passError sg_X7_passError_36 = true := by decide +kernel
def sg_X7_passError_37 : List Ins := [(37, .ireturn, 0, 0, 0, 0)]
theorem so_X7_passError_37 : sgOK mi_X7_passError gm_X7_passError sg_X7_passError_37 = true := by decide +kernel
def sgs_X7_passError : Nat → Option (List Ins) := fun t => match t with
  | 0 => some sg_X7_passError_0
  | 17 => some sg_X7_passError_17
  | 36 => some sg_X7_passError_36
  | 37 => some sg_X7_passError_37
  | _ => none
theorem so_X7_passError : ∀ t sg, sgs_X7_passError t = some sg → sgOK mi_X7_passError gm_X7_passError sg = true ∧ segPc sg = t := by
  intro t sg h
  unfold sgs_X7_passError at h
  split at h
  · cases h; exact ⟨so_X7_passError_0, rfl⟩
  · cases h; exact ⟨so_X7_passError_17, rfl⟩
  · cases h; exact ⟨so_X7_passError_36, rfl⟩
  · cases h; exact ⟨so_X7_passError_37, rfl⟩
  · cases h
def gm_X7_comes : List MI := [mi_X7_inkAt, mi_X7_lightAt]
def sg_X7_comes_0 : List Ins := [(0, .aload_n 0, 0, 0, 0, 0), (1, .getfield 7, 7, 0, 717, 0), (4, .iconst 5, 5, 0, 0, 0), (5, .iaload, 8, 0, 0, 0), (6, .istore_n 1, 0, 0, 0, 0), (7, .iconst 0, 0, 0, 0, 0), (8, .istore_n 2, 0, 0, 0, 0), (9, .nop, 0, 0, 0, 0)]
theorem so_X7_comes_0 : sgOK mi_X7_comes gm_X7_comes sg_X7_comes_0 = true := by decide +kernel
def sg_X7_comes_9 : List Ins := [(9, .iload_n 2, 0, 0, 0, 0), (10, .bipush 120, 120, 0, 0, 0), (12, .if_icmp .ge 49, 0, 0, 61, 0), (15, .aload_n 0, 0, 0, 0, 0), (16, .getfield 7, 7, 0, 717, 0), (19, .iconst 0, 0, 0, 0, 0), (20, .iload_n 1, 0, 0, 0, 0), (21, .iload_n 2, 0, 0, 0, 0), (22, .invokestatic 35, 790, 0, 0, 3), (25, .bipush (-6), 6, 1, 0, 0), (27, .iastore, 0, 0, 0, 0), (28, .aload_n 0, 0, 0, 0, 0), (29, .getfield 7, 7, 0, 717, 0), (32, .iconst 0, 0, 0, 0, 0), (33, .iload_n 1, 0, 0, 0, 0), (34, .iload_n 2, 0, 0, 0, 0), (35, .invokestatic 35, 790, 0, 0, 3), (38, .iconst 1, 1, 0, 0, 0), (39, .iadd, 0, 0, 0, 0), (40, .bipush (-6), 6, 1, 0, 0), (42, .iastore, 0, 0, 0, 0), (43, .aload_n 0, 0, 0, 0, 0), (44, .getfield 13, 7, 1, 718, 0), (47, .iconst 0, 0, 0, 0, 0), (48, .iload_n 1, 0, 0, 0, 0), (49, .iload_n 2, 0, 0, 0, 0), (50, .invokestatic 40, 793, 1, 0, 3), (53, .fconst 1, 0, 0, 0, 0), (54, .fastore, 0, 0, 0, 0), (55, .iinc 2 1, 1, 0, 0, 0), (58, .goto (-49), 0, 0, 9, 0)]
theorem so_X7_comes_9 : sgOK mi_X7_comes gm_X7_comes sg_X7_comes_9 = true := by decide +kernel
def sg_X7_comes_61 : List Ins := [(61, .aload_n 0, 0, 0, 0, 0), (62, .getfield 7, 7, 0, 717, 0), (65, .iconst 5, 5, 0, 0, 0), (66, .dup2, 0, 0, 0, 0), (67, .iaload, 8, 0, 0, 0), (68, .iconst 1, 1, 0, 0, 0), (69, .iadd, 0, 0, 0, 0), (70, .iastore, 0, 0, 0, 0), (71, .aload_n 0, 0, 0, 0, 0), (72, .getfield 7, 7, 0, 717, 0), (75, .bipush 6, 6, 0, 0, 0), (77, .iload_n 1, 0, 0, 0, 0), (78, .iastore, 0, 0, 0, 0), (79, .iload_n 1, 0, 0, 0, 0), (80, .ireturn, 0, 0, 0, 0)]
theorem so_X7_comes_61 : sgOK mi_X7_comes gm_X7_comes sg_X7_comes_61 = true := by decide +kernel
def sgs_X7_comes : Nat → Option (List Ins) := fun t => match t with
  | 0 => some sg_X7_comes_0
  | 61 => some sg_X7_comes_61
  | _ => none
theorem so_X7_comes : ∀ t sg, sgs_X7_comes t = some sg → sgOK mi_X7_comes gm_X7_comes sg = true ∧ segPc sg = t := by
  intro t sg h
  unfold sgs_X7_comes at h
  split at h
  · cases h; exact ⟨so_X7_comes_0, rfl⟩
  · cases h; exact ⟨so_X7_comes_61, rfl⟩
  · cases h
def gm_X7_lays : List MI := []
def sg_X7_lays_0 : List Ins := [(0, .aload_n 0, 0, 0, 0, 0), (1, .getfield 7, 7, 0, 717, 0), (4, .bipush 6, 6, 0, 0, 0), (6, .iaload, 8, 0, 0, 0), (7, .istore_n 2, 0, 0, 0, 0), (8, .aload_n 0, 0, 0, 0, 0), (9, .getfield 7, 7, 0, 717, 0), (12, .bipush 6, 6, 0, 0, 0), (14, .iload_n 1, 0, 0, 0, 0), (15, .iastore, 0, 0, 0, 0), (16, .iload_n 2, 0, 0, 0, 0), (17, .ireturn, 0, 0, 0, 0)]
theorem so_X7_lays_0 : sgOK mi_X7_lays gm_X7_lays sg_X7_lays_0 = true := by decide +kernel
def sgs_X7_lays : Nat → Option (List Ins) := fun t => match t with
  | 0 => some sg_X7_lays_0
  | _ => none
theorem so_X7_lays : ∀ t sg, sgs_X7_lays t = some sg → sgOK mi_X7_lays gm_X7_lays sg = true ∧ segPc sg = t := by
  intro t sg h
  unfold sgs_X7_lays at h
  split at h
  · cases h; exact ⟨so_X7_lays_0, rfl⟩
  · cases h
def gm_X7_joins : List MI := []
def sg_X7_joins_0 : List Ins := [(0, .aload_n 0, 0, 0, 0, 0), (1, .getfield 7, 7, 0, 717, 0), (4, .bipush 7, 7, 0, 0, 0), (6, .iaload, 8, 0, 0, 0), (7, .istore_n 2, 0, 0, 0, 0), (8, .aload_n 0, 0, 0, 0, 0), (9, .getfield 7, 7, 0, 717, 0), (12, .bipush 8, 8, 0, 0, 0), (14, .iload_n 2, 0, 0, 0, 0), (15, .iadd, 0, 0, 0, 0), (16, .iload_n 1, 0, 0, 0, 0), (17, .iastore, 0, 0, 0, 0), (18, .aload_n 0, 0, 0, 0, 0), (19, .getfield 7, 7, 0, 717, 0), (22, .bipush 13, 13, 0, 0, 0), (24, .iload_n 2, 0, 0, 0, 0), (25, .iadd, 0, 0, 0, 0), (26, .iconst 0, 0, 0, 0, 0), (27, .iastore, 0, 0, 0, 0), (28, .aload_n 0, 0, 0, 0, 0), (29, .getfield 7, 7, 0, 717, 0), (32, .bipush 18, 18, 0, 0, 0), (34, .iload_n 2, 0, 0, 0, 0), (35, .iadd, 0, 0, 0, 0), (36, .iconst 0, 0, 0, 0, 0), (37, .iastore, 0, 0, 0, 0), (38, .aload_n 0, 0, 0, 0, 0), (39, .getfield 7, 7, 0, 717, 0), (42, .bipush 7, 7, 0, 0, 0), (44, .dup2, 0, 0, 0, 0), (45, .iaload, 8, 0, 0, 0), (46, .iconst 1, 1, 0, 0, 0), (47, .iadd, 0, 0, 0, 0), (48, .iastore, 0, 0, 0, 0), (49, .iload_n 2, 0, 0, 0, 0), (50, .ireturn, 0, 0, 0, 0)]
theorem so_X7_joins_0 : sgOK mi_X7_joins gm_X7_joins sg_X7_joins_0 = true := by decide +kernel
def sgs_X7_joins : Nat → Option (List Ins) := fun t => match t with
  | 0 => some sg_X7_joins_0
  | _ => none
theorem so_X7_joins : ∀ t sg, sgs_X7_joins t = some sg → sgOK mi_X7_joins gm_X7_joins sg = true ∧ segPc sg = t := by
  intro t sg h
  unfold sgs_X7_joins at h
  split at h
  · cases h; exact ⟨so_X7_joins_0, rfl⟩
  · cases h
def gm_X7_pens : List MI := [mi_X7_looks, mi_X7_writes, mi_X7_spoilt]
def sg_X7_pens_0 : List Ins := [(0, .aload_n 0, 0, 0, 0, 0), (1, .aload_n 0, 0, 0, 0, 0), (2, .getfield 7, 7, 0, 717, 0), (5, .bipush 6, 6, 0, 0, 0), (7, .iaload, 8, 0, 0, 0), (8, .invokevirtual 100, 866, 0, 17, 2), (11, .aload_n 0, 0, 0, 0, 0), (12, .iconst 0, 0, 0, 0, 0), (13, .aload_n 0, 0, 0, 0, 0), (14, .getfield 7, 7, 0, 717, 0), (17, .bipush 6, 6, 0, 0, 0), (19, .iaload, 8, 0, 0, 0), (20, .iload_n 2, 0, 0, 0, 0), (21, .iload_n 1, 0, 0, 0, 0), (22, .iload_n 3, 0, 0, 0, 0), (23, .invokevirtual 104, 874, 1, 17, 6), (26, .aload_n 0, 0, 0, 0, 0), (27, .iconst 0, 0, 0, 0, 0), (28, .aload_n 0, 0, 0, 0, 0), (29, .getfield 7, 7, 0, 717, 0), (32, .bipush 6, 6, 0, 0, 0), (34, .iaload, 8, 0, 0, 0), (35, .bipush (-6), 6, 1, 0, 0), (37, .invokevirtual 108, 882, 2, 17, 4), (40, .istore 4, 0, 0, 0, 0), (42, .aload_n 0, 0, 0, 0, 0), (43, .getfield 7, 7, 0, 717, 0), (46, .bipush 13, 13, 0, 0, 0), (48, .iload_n 1, 0, 0, 0, 0), (49, .iadd, 0, 0, 0, 0), (50, .dup2, 0, 0, 0, 0), (51, .iaload, 8, 0, 0, 0), (52, .iconst 1, 1, 0, 0, 0), (53, .iadd, 0, 0, 0, 0), (54, .iastore, 0, 0, 0, 0), (55, .aload_n 0, 0, 0, 0, 0), (56, .getfield 7, 7, 0, 717, 0), (59, .bipush 18, 18, 0, 0, 0), (61, .iload_n 1, 0, 0, 0, 0), (62, .iadd, 0, 0, 0, 0), (63, .dup2, 0, 0, 0, 0), (64, .iaload, 8, 0, 0, 0), (65, .iload 4, 0, 0, 0, 0), (67, .iadd, 0, 0, 0, 0), (68, .iastore, 0, 0, 0, 0), (69, .iload 4, 0, 0, 0, 0), (71, .ireturn, 0, 0, 0, 0)]
theorem so_X7_pens_0 : sgOK mi_X7_pens gm_X7_pens sg_X7_pens_0 = true := by decide +kernel
def sgs_X7_pens : Nat → Option (List Ins) := fun t => match t with
  | 0 => some sg_X7_pens_0
  | _ => none
theorem so_X7_pens : ∀ t sg, sgs_X7_pens t = some sg → sgOK mi_X7_pens gm_X7_pens sg = true ∧ segPc sg = t := by
  intro t sg h
  unfold sgs_X7_pens at h
  split at h
  · cases h; exact ⟨so_X7_pens_0, rfl⟩
  · cases h
def gm_X7_promisedOn : List MI := [mi_X7_promisedTo]
def sg_X7_promisedOn_0 : List Ins := [(0, .iconst 0, 0, 0, 0, 0), (1, .istore_n 2, 0, 0, 0, 0), (2, .iconst 0, 0, 0, 0, 0), (3, .istore_n 3, 0, 0, 0, 0), (4, .nop, 0, 0, 0, 0)]
theorem so_X7_promisedOn_0 : sgOK mi_X7_promisedOn gm_X7_promisedOn sg_X7_promisedOn_0 = true := by decide +kernel
def sg_X7_promisedOn_4 : List Ins := [(4, .iload_n 3, 0, 0, 0, 0), (5, .bipush 120, 120, 0, 0, 0), (7, .if_icmp .ge 29, 0, 0, 36, 0), (10, .iload_n 2, 0, 0, 0, 0), (11, .aload_n 0, 0, 0, 0, 0), (12, .iconst 0, 0, 0, 0, 0), (13, .iload_n 1, 0, 0, 0, 0), (14, .iload_n 3, 0, 0, 0, 0), (15, .invokevirtual 43, 849, 0, 17, 4), (18, .bipush (-6), 6, 1, 0, 0), (20, .if_icmp .ne 7, 0, 0, 27, 0), (23, .iconst 0, 0, 0, 0, 0), (24, .goto 4, 0, 0, 28, 0)]
theorem so_X7_promisedOn_4 : sgOK mi_X7_promisedOn gm_X7_promisedOn sg_X7_promisedOn_4 = true := by decide +kernel
def sg_X7_promisedOn_27 : List Ins := [(27, .iconst 1, 1, 0, 0, 0), (28, .iadd, 0, 0, 0, 0), (29, .istore_n 2, 0, 0, 0, 0), (30, .iinc 3 1, 1, 0, 0, 0), (33, .goto (-29), 0, 0, 4, 0)]
theorem so_X7_promisedOn_27 : sgOK mi_X7_promisedOn gm_X7_promisedOn sg_X7_promisedOn_27 = true := by decide +kernel
def sg_X7_promisedOn_28 : List Ins := [(28, .iadd, 0, 0, 0, 0), (29, .istore_n 2, 0, 0, 0, 0), (30, .iinc 3 1, 1, 0, 0, 0), (33, .goto (-29), 0, 0, 4, 0)]
theorem so_X7_promisedOn_28 : sgOK mi_X7_promisedOn gm_X7_promisedOn sg_X7_promisedOn_28 = true := by decide +kernel
def sg_X7_promisedOn_36 : List Ins := [(36, .iload_n 2, 0, 0, 0, 0), (37, .ireturn, 0, 0, 0, 0)]
theorem so_X7_promisedOn_36 : sgOK mi_X7_promisedOn gm_X7_promisedOn sg_X7_promisedOn_36 = true := by decide +kernel
def sgs_X7_promisedOn : Nat → Option (List Ins) := fun t => match t with
  | 0 => some sg_X7_promisedOn_0
  | 27 => some sg_X7_promisedOn_27
  | 28 => some sg_X7_promisedOn_28
  | 36 => some sg_X7_promisedOn_36
  | _ => none
theorem so_X7_promisedOn : ∀ t sg, sgs_X7_promisedOn t = some sg → sgOK mi_X7_promisedOn gm_X7_promisedOn sg = true ∧ segPc sg = t := by
  intro t sg h
  unfold sgs_X7_promisedOn at h
  split at h
  · cases h; exact ⟨so_X7_promisedOn_0, rfl⟩
  · cases h; exact ⟨so_X7_promisedOn_27, rfl⟩
  · cases h; exact ⟨so_X7_promisedOn_28, rfl⟩
  · cases h; exact ⟨so_X7_promisedOn_36, rfl⟩
  · cases h
def gm_X7_promises : List MI := [mi_X7_inkAt, mi_X7_promisedOn]
def sg_X7_promises_0 : List Ins := [(0, .aload_n 0, 0, 0, 0, 0), (1, .getfield 7, 7, 0, 717, 0), (4, .iconst 0, 0, 0, 0, 0), (5, .aload_n 0, 0, 0, 0, 0), (6, .getfield 7, 7, 0, 717, 0), (9, .bipush 6, 6, 0, 0, 0), (11, .iaload, 8, 0, 0, 0), (12, .iload_n 2, 0, 0, 0, 0), (13, .invokestatic 35, 790, 0, 0, 3), (16, .iconst 1, 1, 0, 0, 0), (17, .iadd, 0, 0, 0, 0), (18, .iload_n 1, 0, 0, 0, 0), (19, .iastore, 0, 0, 0, 0), (20, .aload_n 0, 0, 0, 0, 0), (21, .aload_n 0, 0, 0, 0, 0), (22, .getfield 7, 7, 0, 717, 0), (25, .bipush 6, 6, 0, 0, 0), (27, .iaload, 8, 0, 0, 0), (28, .invokevirtual 111, 906, 1, 17, 2), (31, .ireturn, 0, 0, 0, 0)]
theorem so_X7_promises_0 : sgOK mi_X7_promises gm_X7_promises sg_X7_promises_0 = true := by decide +kernel
def sgs_X7_promises : Nat → Option (List Ins) := fun t => match t with
  | 0 => some sg_X7_promises_0
  | _ => none
theorem so_X7_promises : ∀ t sg, sgs_X7_promises t = some sg → sgOK mi_X7_promises gm_X7_promises sg = true ∧ segPc sg = t := by
  intro t sg h
  unfold sgs_X7_promises at h
  split at h
  · cases h; exact ⟨so_X7_promises_0, rfl⟩
  · cases h
def gm_X7_rubs : List MI := [mi_X7_inkAt, mi_X7_lightAt]
def sg_X7_rubs_0 : List Ins := [(0, .iconst 0, 0, 0, 0, 0), (1, .aload_n 0, 0, 0, 0, 0), (2, .getfield 7, 7, 0, 717, 0), (5, .bipush 6, 6, 0, 0, 0), (7, .iaload, 8, 0, 0, 0), (8, .iload_n 1, 0, 0, 0, 0), (9, .invokestatic 35, 790, 0, 0, 3), (12, .istore_n 2, 0, 0, 0, 0), (13, .aload_n 0, 0, 0, 0, 0), (14, .getfield 7, 7, 0, 717, 0), (17, .iload_n 2, 0, 0, 0, 0), (18, .iaload, 8, 0, 0, 0), (19, .bipush 26, 26, 0, 0, 0), (21, .irem, 0, 0, 0, 0), (22, .istore_n 3, 0, 0, 0, 0), (23, .aload_n 0, 0, 0, 0, 0), (24, .getfield 7, 7, 0, 717, 0), (27, .iload_n 2, 0, 0, 0, 0), (28, .bipush (-6), 6, 1, 0, 0), (30, .iastore, 0, 0, 0, 0), (31, .aload_n 0, 0, 0, 0, 0), (32, .getfield 13, 7, 1, 718, 0), (35, .iconst 0, 0, 0, 0, 0), (36, .aload_n 0, 0, 0, 0, 0), (37, .getfield 7, 7, 0, 717, 0), (40, .bipush 6, 6, 0, 0, 0), (42, .iaload, 8, 0, 0, 0), (43, .iload_n 1, 0, 0, 0, 0), (44, .invokestatic 40, 793, 1, 0, 3), (47, .aload_n 0, 0, 0, 0, 0), (48, .getfield 13, 7, 1, 718, 0), (51, .iconst 0, 0, 0, 0, 0), (52, .aload_n 0, 0, 0, 0, 0), (53, .getfield 7, 7, 0, 717, 0), (56, .bipush 6, 6, 0, 0, 0), (58, .iaload, 8, 0, 0, 0), (59, .iload_n 1, 0, 0, 0, 0), (60, .invokestatic 40, 793, 1, 0, 3), (63, .faload, 0, 0, 0, 0), (64, .fconst 1, 0, 0, 0, 0), (65, .fadd, 0, 0, 0, 0), (66, .fconst 2, 0, 0, 0, 0), (67, .fdiv, 0, 0, 0, 0), (68, .fastore, 0, 0, 0, 0), (69, .iload_n 3, 0, 0, 0, 0), (70, .ireturn, 0, 0, 0, 0)]
theorem so_X7_rubs_0 : sgOK mi_X7_rubs gm_X7_rubs sg_X7_rubs_0 = true := by decide +kernel
def sgs_X7_rubs : Nat → Option (List Ins) := fun t => match t with
  | 0 => some sg_X7_rubs_0
  | _ => none
theorem so_X7_rubs : ∀ t sg, sgs_X7_rubs t = some sg → sgOK mi_X7_rubs gm_X7_rubs sg = true ∧ segPc sg = t := by
  intro t sg h
  unfold sgs_X7_rubs at h
  split at h
  · cases h; exact ⟨so_X7_rubs_0, rfl⟩
  · cases h
def gm_X7_goesOn : List MI := [mi_X7_clears]
def sg_X7_goesOn_0 : List Ins := [(0, .iconst 0, 0, 0, 0, 0), (1, .istore_n 2, 0, 0, 0, 0), (2, .nop, 0, 0, 0, 0)]
theorem so_X7_goesOn_0 : sgOK mi_X7_goesOn gm_X7_goesOn sg_X7_goesOn_0 = true := by decide +kernel
def sg_X7_goesOn_2 : List Ins := [(2, .iload_n 2, 0, 0, 0, 0), (3, .iload_n 1, 0, 0, 0, 0), (4, .if_icmp .ge 44, 0, 0, 48, 0), (7, .iconst 0, 0, 0, 0, 0), (8, .istore_n 3, 0, 0, 0, 0), (9, .nop, 0, 0, 0, 0)]
theorem so_X7_goesOn_2 : sgOK mi_X7_goesOn gm_X7_goesOn sg_X7_goesOn_2 = true := by decide +kernel
def sg_X7_goesOn_9 : List Ins := [(9, .iload_n 3, 0, 0, 0, 0), (10, .aload_n 0, 0, 0, 0, 0), (11, .getfield 7, 7, 0, 717, 0), (14, .iconst 5, 5, 0, 0, 0), (15, .iaload, 8, 0, 0, 0), (16, .if_icmp .ge 26, 0, 0, 42, 0), (19, .iload_n 3, 0, 0, 0, 0), (20, .aload_n 0, 0, 0, 0, 0), (21, .getfield 7, 7, 0, 717, 0), (24, .bipush 6, 6, 0, 0, 0), (26, .iaload, 8, 0, 0, 0), (27, .if_icmp .eq 9, 0, 0, 36, 0), (30, .aload_n 0, 0, 0, 0, 0), (31, .iconst 0, 0, 0, 0, 0), (32, .iload_n 3, 0, 0, 0, 0), (33, .invokevirtual 115, 939, 0, 17, 3), (36, .iinc 3 1, 1, 0, 0, 0), (39, .goto (-30), 0, 0, 9, 0)]
theorem so_X7_goesOn_9 : sgOK mi_X7_goesOn gm_X7_goesOn sg_X7_goesOn_9 = true := by decide +kernel
def sg_X7_goesOn_36 : List Ins := [(36, .iinc 3 1, 1, 0, 0, 0), (39, .goto (-30), 0, 0, 9, 0)]
theorem so_X7_goesOn_36 : sgOK mi_X7_goesOn gm_X7_goesOn sg_X7_goesOn_36 = true := by decide +kernel
def sg_X7_goesOn_42 : List Ins := [(42, .iinc 2 1, 1, 0, 0, 0), (45, .goto (-43), 0, 0, 2, 0)]
theorem so_X7_goesOn_42 : sgOK mi_X7_goesOn gm_X7_goesOn sg_X7_goesOn_42 = true := by decide +kernel
def sg_X7_goesOn_48 : List Ins := [(48, .aload_n 0, 0, 0, 0, 0), (49, .getfield 7, 7, 0, 717, 0), (52, .iconst 4, 4, 0, 0, 0), (53, .dup2, 0, 0, 0, 0), (54, .iaload, 8, 0, 0, 0), (55, .iload_n 1, 0, 0, 0, 0), (56, .iadd, 0, 0, 0, 0), (57, .iastore, 0, 0, 0, 0), (58, .aload_n 0, 0, 0, 0, 0), (59, .getfield 7, 7, 0, 717, 0), (62, .iconst 4, 4, 0, 0, 0), (63, .iaload, 8, 0, 0, 0), (64, .ireturn, 0, 0, 0, 0)]
theorem so_X7_goesOn_48 : sgOK mi_X7_goesOn gm_X7_goesOn sg_X7_goesOn_48 = true := by decide +kernel
def sgs_X7_goesOn : Nat → Option (List Ins) := fun t => match t with
  | 0 => some sg_X7_goesOn_0
  | 36 => some sg_X7_goesOn_36
  | 42 => some sg_X7_goesOn_42
  | 48 => some sg_X7_goesOn_48
  | _ => none
theorem so_X7_goesOn : ∀ t sg, sgs_X7_goesOn t = some sg → sgOK mi_X7_goesOn gm_X7_goesOn sg = true ∧ segPc sg = t := by
  intro t sg h
  unfold sgs_X7_goesOn at h
  split at h
  · cases h; exact ⟨so_X7_goesOn_0, rfl⟩
  · cases h; exact ⟨so_X7_goesOn_36, rfl⟩
  · cases h; exact ⟨so_X7_goesOn_42, rfl⟩
  · cases h; exact ⟨so_X7_goesOn_48, rfl⟩
  · cases h
def gm_X7_isValue : List MI := [mi_X7_in]
def sg_X7_isValue_0 : List Ins := [(0, .iload_n 0, 0, 0, 0, 0), (1, .tableswitch 71 0 3 #[31, 41, 51, 61], 31, 0, 0, 0)]
theorem so_X7_isValue_0 : sgOK mi_X7_isValue gm_X7_isValue sg_X7_isValue_0 = true := by decide +kernel
def sg_X7_isValue_32 : List Ins := [(32, .iload_n 1, 0, 0, 0, 0), (33, .i2l, 0, 0, 0, 0), (34, .lconst 0, 0, 0, 0, 0), (35, .ldc2_w 118, 18, 2, 767, 0), (38, .invokestatic 68, 768, 0, 0, 3), (41, .ireturn, 0, 0, 0, 0)]
theorem so_X7_isValue_32 : sgOK mi_X7_isValue gm_X7_isValue sg_X7_isValue_32 = true := by decide +kernel
def sg_X7_isValue_42 : List Ins := [(42, .iload_n 1, 0, 0, 0, 0), (43, .i2l, 0, 0, 0, 0), (44, .lconst 0, 0, 0, 0, 0), (45, .ldc2_w 72, 9, 2, 771, 0), (48, .invokestatic 68, 768, 0, 0, 3), (51, .ireturn, 0, 0, 0, 0)]
theorem so_X7_isValue_42 : sgOK mi_X7_isValue gm_X7_isValue sg_X7_isValue_42 = true := by decide +kernel
def sg_X7_isValue_52 : List Ins := [(52, .iload_n 1, 0, 0, 0, 0), (53, .i2l, 0, 0, 0, 0), (54, .lconst 1, 0, 0, 0, 0), (55, .ldc2_w 120, 99, 2, 772, 0), (58, .invokestatic 68, 768, 0, 0, 3), (61, .ireturn, 0, 0, 0, 0)]
theorem so_X7_isValue_52 : sgOK mi_X7_isValue gm_X7_isValue sg_X7_isValue_52 = true := by decide +kernel
def sg_X7_isValue_62 : List Ins := [(62, .iload_n 1, 0, 0, 0, 0), (63, .i2l, 0, 0, 0, 0), (64, .lconst 0, 0, 0, 0, 0), (65, .ldc2_w 122, 50, 2, 773, 0), (68, .invokestatic 68, 768, 0, 0, 3), (71, .ireturn, 0, 0, 0, 0)]
theorem so_X7_isValue_62 : sgOK mi_X7_isValue gm_X7_isValue sg_X7_isValue_62 = true := by decide +kernel
def sg_X7_isValue_72 : List Ins := [(72, .iconst 0, 0, 0, 0, 0), (73, .ireturn, 0, 0, 0, 0)]
theorem so_X7_isValue_72 : sgOK mi_X7_isValue gm_X7_isValue sg_X7_isValue_72 = true := by decide +kernel
def sgs_X7_isValue : Nat → Option (List Ins) := fun t => match t with
  | 0 => some sg_X7_isValue_0
  | 32 => some sg_X7_isValue_32
  | 42 => some sg_X7_isValue_42
  | 52 => some sg_X7_isValue_52
  | 62 => some sg_X7_isValue_62
  | 72 => some sg_X7_isValue_72
  | _ => none
theorem so_X7_isValue : ∀ t sg, sgs_X7_isValue t = some sg → sgOK mi_X7_isValue gm_X7_isValue sg = true ∧ segPc sg = t := by
  intro t sg h
  unfold sgs_X7_isValue at h
  split at h
  · cases h; exact ⟨so_X7_isValue_0, rfl⟩
  · cases h; exact ⟨so_X7_isValue_32, rfl⟩
  · cases h; exact ⟨so_X7_isValue_42, rfl⟩
  · cases h; exact ⟨so_X7_isValue_52, rfl⟩
  · cases h; exact ⟨so_X7_isValue_62, rfl⟩
  · cases h; exact ⟨so_X7_isValue_72, rfl⟩
  · cases h
def gm_X7_set : List MI := [mi_X7_isValue, mi_X7_changes]
def sg_X7_set_0 : List Ins := [(0, .iload_n 1, 0, 0, 0, 0), (1, .iload_n 2, 0, 0, 0, 0), (2, .invokestatic 124, 764, 0, 0, 2), (5, .ifCond .ne 6, 0, 0, 11, 0), (8, .bipush (-2), 2, 1, 0, 0), (10, .ireturn, 0, 0, 0, 0)]
theorem so_X7_set_0 : sgOK mi_X7_set gm_X7_set sg_X7_set_0 = true := by decide +kernel
def sg_X7_set_11 : List Ins := [(11, .aload_n 0, 0, 0, 0, 0), (12, .invokevirtual 127, 774, 1, 17, 1), (15, .aload_n 0, 0, 0, 0, 0), (16, .getfield 7, 7, 0, 717, 0), (19, .iload_n 1, 0, 0, 0, 0), (20, .iaload, 8, 0, 0, 0), (21, .istore_n 3, 0, 0, 0, 0), (22, .aload_n 0, 0, 0, 0, 0), (23, .getfield 7, 7, 0, 717, 0), (26, .iload_n 1, 0, 0, 0, 0), (27, .iload_n 2, 0, 0, 0, 0), (28, .iastore, 0, 0, 0, 0), (29, .iload_n 3, 0, 0, 0, 0), (30, .ireturn, 0, 0, 0, 0)]
theorem so_X7_set_11 : sgOK mi_X7_set gm_X7_set sg_X7_set_11 = true := by decide +kernel
def sgs_X7_set : Nat → Option (List Ins) := fun t => match t with
  | 0 => some sg_X7_set_0
  | 11 => some sg_X7_set_11
  | _ => none
theorem so_X7_set : ∀ t sg, sgs_X7_set t = some sg → sgOK mi_X7_set gm_X7_set sg = true ∧ segPc sg = t := by
  intro t sg h
  unfold sgs_X7_set at h
  split at h
  · cases h; exact ⟨so_X7_set_0, rfl⟩
  · cases h; exact ⟨so_X7_set_11, rfl⟩
  · cases h
def gm_X7_plate : List MI := [mi_X7_changes, mi_X7_comes]
def sg_X7_plate_0 : List Ins := [(0, .aload_n 0, 0, 0, 0, 0), (1, .getfield 7, 7, 0, 717, 0), (4, .iconst 5, 5, 0, 0, 0), (5, .iaload, 8, 0, 0, 0), (6, .iconst 4, 4, 0, 0, 0), (7, .if_icmp .ne 6, 0, 0, 13, 0), (10, .bipush (-4), 4, 1, 0, 0), (12, .ireturn, 0, 0, 0, 0)]
theorem so_X7_plate_0 : sgOK mi_X7_plate gm_X7_plate sg_X7_plate_0 = true := by decide +kernel
def sg_X7_plate_13 : List Ins := [(13, .aload_n 0, 0, 0, 0, 0), (14, .invokevirtual 127, 774, 0, 17, 1), (17, .aload_n 0, 0, 0, 0, 0), (18, .invokevirtual 130, 786, 1, 17, 1), (21, .ireturn, 0, 0, 0, 0)]
theorem so_X7_plate_13 : sgOK mi_X7_plate gm_X7_plate sg_X7_plate_13 = true := by decide +kernel
def sgs_X7_plate : Nat → Option (List Ins) := fun t => match t with
  | 0 => some sg_X7_plate_0
  | 13 => some sg_X7_plate_13
  | _ => none
theorem so_X7_plate : ∀ t sg, sgs_X7_plate t = some sg → sgOK mi_X7_plate gm_X7_plate sg = true ∧ segPc sg = t := by
  intro t sg h
  unfold sgs_X7_plate at h
  split at h
  · cases h; exact ⟨so_X7_plate_0, rfl⟩
  · cases h; exact ⟨so_X7_plate_13, rfl⟩
  · cases h
def gm_X7_lay : List MI := [mi_X7_layError, mi_X7_changes, mi_X7_lays]
def sg_X7_lay_0 : List Ins := [(0, .aload_n 0, 0, 0, 0, 0), (1, .iload_n 1, 0, 0, 0, 0), (2, .invokevirtual 134, 800, 0, 17, 2), (5, .istore_n 2, 0, 0, 0, 0), (6, .iload_n 2, 0, 0, 0, 0), (7, .ifCond .eq 5, 0, 0, 12, 0), (10, .iload_n 2, 0, 0, 0, 0), (11, .ireturn, 0, 0, 0, 0)]
theorem so_X7_lay_0 : sgOK mi_X7_lay gm_X7_lay sg_X7_lay_0 = true := by decide +kernel
def sg_X7_lay_12 : List Ins := [(12, .aload_n 0, 0, 0, 0, 0), (13, .invokevirtual 127, 774, 1, 17, 1), (16, .aload_n 0, 0, 0, 0, 0), (17, .iload_n 1, 0, 0, 0, 0), (18, .invokevirtual 137, 808, 2, 17, 2), (21, .ireturn, 0, 0, 0, 0)]
theorem so_X7_lay_12 : sgOK mi_X7_lay gm_X7_lay sg_X7_lay_12 = true := by decide +kernel
def sgs_X7_lay : Nat → Option (List Ins) := fun t => match t with
  | 0 => some sg_X7_lay_0
  | 12 => some sg_X7_lay_12
  | _ => none
theorem so_X7_lay : ∀ t sg, sgs_X7_lay t = some sg → sgOK mi_X7_lay gm_X7_lay sg = true ∧ segPc sg = t := by
  intro t sg h
  unfold sgs_X7_lay at h
  split at h
  · cases h; exact ⟨so_X7_lay_0, rfl⟩
  · cases h; exact ⟨so_X7_lay_12, rfl⟩
  · cases h
def gm_X7_writer : List MI := [mi_X7_writerError, mi_X7_changes, mi_X7_joins]
def sg_X7_writer_0 : List Ins := [(0, .aload_n 0, 0, 0, 0, 0), (1, .iload_n 1, 0, 0, 0, 0), (2, .invokevirtual 140, 816, 0, 17, 2), (5, .istore_n 2, 0, 0, 0, 0), (6, .iload_n 2, 0, 0, 0, 0), (7, .ifCond .eq 5, 0, 0, 12, 0), (10, .iload_n 2, 0, 0, 0, 0), (11, .ireturn, 0, 0, 0, 0)]
theorem so_X7_writer_0 : sgOK mi_X7_writer gm_X7_writer sg_X7_writer_0 = true := by decide +kernel
def sg_X7_writer_12 : List Ins := [(12, .aload_n 0, 0, 0, 0, 0), (13, .invokevirtual 127, 774, 1, 17, 1), (16, .aload_n 0, 0, 0, 0, 0), (17, .iload_n 1, 0, 0, 0, 0), (18, .invokevirtual 143, 821, 2, 17, 2), (21, .ireturn, 0, 0, 0, 0)]
theorem so_X7_writer_12 : sgOK mi_X7_writer gm_X7_writer sg_X7_writer_12 = true := by decide +kernel
def sgs_X7_writer : Nat → Option (List Ins) := fun t => match t with
  | 0 => some sg_X7_writer_0
  | 12 => some sg_X7_writer_12
  | _ => none
theorem so_X7_writer : ∀ t sg, sgs_X7_writer t = some sg → sgOK mi_X7_writer gm_X7_writer sg = true ∧ segPc sg = t := by
  intro t sg h
  unfold sgs_X7_writer at h
  split at h
  · cases h; exact ⟨so_X7_writer_0, rfl⟩
  · cases h; exact ⟨so_X7_writer_12, rfl⟩
  · cases h
def gm_X7_write : List MI := [mi_X7_writeError, mi_X7_changes, mi_X7_spotOf, mi_X7_pens]
def sg_X7_write_0 : List Ins := [(0, .aload_n 0, 0, 0, 0, 0), (1, .iload_n 1, 0, 0, 0, 0), (2, .iload_n 2, 0, 0, 0, 0), (3, .iload_n 3, 0, 0, 0, 0), (4, .iload 4, 0, 0, 0, 0), (6, .invokevirtual 146, 829, 0, 17, 5), (9, .istore 5, 0, 0, 0, 0), (11, .iload 5, 0, 0, 0, 0), (13, .ifCond .eq 6, 0, 0, 19, 0), (16, .iload 5, 0, 0, 0, 0), (18, .ireturn, 0, 0, 0, 0)]
theorem so_X7_write_0 : sgOK mi_X7_write gm_X7_write sg_X7_write_0 = true := by decide +kernel
def sg_X7_write_19 : List Ins := [(19, .aload_n 0, 0, 0, 0, 0), (20, .invokevirtual 127, 774, 1, 17, 1), (23, .aload_n 0, 0, 0, 0, 0), (24, .iload_n 1, 0, 0, 0, 0), (25, .iload_n 2, 0, 0, 0, 0), (26, .iload_n 3, 0, 0, 0, 0), (27, .invokestatic 94, 846, 2, 0, 2), (30, .iload 4, 0, 0, 0, 0), (32, .invokevirtual 150, 862, 3, 17, 4), (35, .ireturn, 0, 0, 0, 0)]
theorem so_X7_write_19 : sgOK mi_X7_write gm_X7_write sg_X7_write_19 = true := by decide +kernel
def sgs_X7_write : Nat → Option (List Ins) := fun t => match t with
  | 0 => some sg_X7_write_0
  | 19 => some sg_X7_write_19
  | _ => none
theorem so_X7_write : ∀ t sg, sgs_X7_write t = some sg → sgOK mi_X7_write gm_X7_write sg = true ∧ segPc sg = t := by
  intro t sg h
  unfold sgs_X7_write at h
  split at h
  · cases h; exact ⟨so_X7_write_0, rfl⟩
  · cases h; exact ⟨so_X7_write_19, rfl⟩
  · cases h
def gm_X7_promise : List MI := [mi_X7_promiseError, mi_X7_changes, mi_X7_spotOf, mi_X7_promises]
def sg_X7_promise_0 : List Ins := [(0, .aload_n 0, 0, 0, 0, 0), (1, .iload_n 1, 0, 0, 0, 0), (2, .iload_n 2, 0, 0, 0, 0), (3, .iload_n 3, 0, 0, 0, 0), (4, .invokevirtual 153, 890, 0, 17, 4), (7, .istore 4, 0, 0, 0, 0), (9, .iload 4, 0, 0, 0, 0), (11, .ifCond .eq 6, 0, 0, 17, 0), (14, .iload 4, 0, 0, 0, 0), (16, .ireturn, 0, 0, 0, 0)]
theorem so_X7_promise_0 : sgOK mi_X7_promise gm_X7_promise sg_X7_promise_0 = true := by decide +kernel
def sg_X7_promise_17 : List Ins := [(17, .aload_n 0, 0, 0, 0, 0), (18, .invokevirtual 127, 774, 1, 17, 1), (21, .aload_n 0, 0, 0, 0, 0), (22, .iload_n 1, 0, 0, 0, 0), (23, .iload_n 2, 0, 0, 0, 0), (24, .iload_n 3, 0, 0, 0, 0), (25, .invokestatic 94, 846, 2, 0, 2), (28, .invokevirtual 156, 902, 3, 17, 3), (31, .ireturn, 0, 0, 0, 0)]
theorem so_X7_promise_17 : sgOK mi_X7_promise gm_X7_promise sg_X7_promise_17 = true := by decide +kernel
def sgs_X7_promise : Nat → Option (List Ins) := fun t => match t with
  | 0 => some sg_X7_promise_0
  | 17 => some sg_X7_promise_17
  | _ => none
theorem so_X7_promise : ∀ t sg, sgs_X7_promise t = some sg → sgOK mi_X7_promise gm_X7_promise sg = true ∧ segPc sg = t := by
  intro t sg h
  unfold sgs_X7_promise at h
  split at h
  · cases h; exact ⟨so_X7_promise_0, rfl⟩
  · cases h; exact ⟨so_X7_promise_17, rfl⟩
  · cases h
def gm_X7_takeBack : List MI := [mi_X7_isThere, mi_X7_spotOf, mi_X7_promisedTo, mi_X7_changes, mi_X7_inkAt]
def sg_X7_takeBack_0 : List Ins := [(0, .aload_n 0, 0, 0, 0, 0), (1, .iload_n 1, 0, 0, 0, 0), (2, .iload_n 2, 0, 0, 0, 0), (3, .invokevirtual 88, 837, 0, 17, 3), (6, .ifCond .ne 5, 0, 0, 11, 0), (9, .iconst (-1), 1, 1, 0, 0), (10, .ireturn, 0, 0, 0, 0)]
theorem so_X7_takeBack_0 : sgOK mi_X7_takeBack gm_X7_takeBack sg_X7_takeBack_0 = true := by decide +kernel
def sg_X7_takeBack_11 : List Ins := [(11, .aload_n 0, 0, 0, 0, 0), (12, .iconst 0, 0, 0, 0, 0), (13, .aload_n 0, 0, 0, 0, 0), (14, .getfield 7, 7, 0, 717, 0), (17, .bipush 6, 6, 0, 0, 0), (19, .iaload, 8, 0, 0, 0), (20, .iload_n 1, 0, 0, 0, 0), (21, .iload_n 2, 0, 0, 0, 0), (22, .invokestatic 94, 846, 1, 0, 2), (25, .invokevirtual 43, 849, 2, 17, 4), (28, .istore_n 3, 0, 0, 0, 0), (29, .iload_n 3, 0, 0, 0, 0), (30, .bipush (-6), 6, 1, 0, 0), (32, .if_icmp .ne 6, 0, 0, 38, 0), (35, .bipush (-5), 5, 1, 0, 0), (37, .ireturn, 0, 0, 0, 0)]
theorem so_X7_takeBack_11 : sgOK mi_X7_takeBack gm_X7_takeBack sg_X7_takeBack_11 = true := by decide +kernel
def sg_X7_takeBack_38 : List Ins := [(38, .aload_n 0, 0, 0, 0, 0), (39, .invokevirtual 127, 774, 3, 17, 1), (42, .aload_n 0, 0, 0, 0, 0), (43, .getfield 7, 7, 0, 717, 0), (46, .iconst 0, 0, 0, 0, 0), (47, .aload_n 0, 0, 0, 0, 0), (48, .getfield 7, 7, 0, 717, 0), (51, .bipush 6, 6, 0, 0, 0), (53, .iaload, 8, 0, 0, 0), (54, .iload_n 1, 0, 0, 0, 0), (55, .iload_n 2, 0, 0, 0, 0), (56, .invokestatic 94, 846, 1, 0, 2), (59, .invokestatic 35, 790, 4, 0, 3), (62, .iconst 1, 1, 0, 0, 0), (63, .iadd, 0, 0, 0, 0), (64, .bipush (-6), 6, 1, 0, 0), (66, .iastore, 0, 0, 0, 0), (67, .iload_n 3, 0, 0, 0, 0), (68, .ireturn, 0, 0, 0, 0)]
theorem so_X7_takeBack_38 : sgOK mi_X7_takeBack gm_X7_takeBack sg_X7_takeBack_38 = true := by decide +kernel
def sgs_X7_takeBack : Nat → Option (List Ins) := fun t => match t with
  | 0 => some sg_X7_takeBack_0
  | 11 => some sg_X7_takeBack_11
  | 38 => some sg_X7_takeBack_38
  | _ => none
theorem so_X7_takeBack : ∀ t sg, sgs_X7_takeBack t = some sg → sgOK mi_X7_takeBack gm_X7_takeBack sg = true ∧ segPc sg = t := by
  intro t sg h
  unfold sgs_X7_takeBack at h
  split at h
  · cases h; exact ⟨so_X7_takeBack_0, rfl⟩
  · cases h; exact ⟨so_X7_takeBack_11, rfl⟩
  · cases h; exact ⟨so_X7_takeBack_38, rfl⟩
  · cases h
def gm_X7_rub : List MI := [mi_X7_rubError, mi_X7_changes, mi_X7_spotOf, mi_X7_rubs]
def sg_X7_rub_0 : List Ins := [(0, .aload_n 0, 0, 0, 0, 0), (1, .iload_n 1, 0, 0, 0, 0), (2, .iload_n 2, 0, 0, 0, 0), (3, .invokevirtual 159, 918, 0, 17, 3), (6, .istore_n 3, 0, 0, 0, 0), (7, .iload_n 3, 0, 0, 0, 0), (8, .ifCond .eq 5, 0, 0, 13, 0), (11, .iload_n 3, 0, 0, 0, 0), (12, .ireturn, 0, 0, 0, 0)]
theorem so_X7_rub_0 : sgOK mi_X7_rub gm_X7_rub sg_X7_rub_0 = true := by decide +kernel
def sg_X7_rub_13 : List Ins := [(13, .aload_n 0, 0, 0, 0, 0), (14, .invokevirtual 127, 774, 1, 17, 1), (17, .aload_n 0, 0, 0, 0, 0), (18, .iload_n 1, 0, 0, 0, 0), (19, .iload_n 2, 0, 0, 0, 0), (20, .invokestatic 94, 846, 2, 0, 2), (23, .invokevirtual 162, 922, 3, 17, 2), (26, .ireturn, 0, 0, 0, 0)]
theorem so_X7_rub_13 : sgOK mi_X7_rub gm_X7_rub sg_X7_rub_13 = true := by decide +kernel
def sgs_X7_rub : Nat → Option (List Ins) := fun t => match t with
  | 0 => some sg_X7_rub_0
  | 13 => some sg_X7_rub_13
  | _ => none
theorem so_X7_rub : ∀ t sg, sgs_X7_rub t = some sg → sgOK mi_X7_rub gm_X7_rub sg = true ∧ segPc sg = t := by
  intro t sg h
  unfold sgs_X7_rub at h
  split at h
  · cases h; exact ⟨so_X7_rub_0, rfl⟩
  · cases h; exact ⟨so_X7_rub_13, rfl⟩
  · cases h
def gm_X7_pass : List MI := [mi_X7_passError, mi_X7_changes, mi_X7_goesOn]
def sg_X7_pass_0 : List Ins := [(0, .aload_n 0, 0, 0, 0, 0), (1, .iload_n 1, 0, 0, 0, 0), (2, .invokevirtual 165, 930, 0, 17, 2), (5, .istore_n 2, 0, 0, 0, 0), (6, .iload_n 2, 0, 0, 0, 0), (7, .ifCond .eq 5, 0, 0, 12, 0), (10, .iload_n 2, 0, 0, 0, 0), (11, .ireturn, 0, 0, 0, 0)]
theorem so_X7_pass_0 : sgOK mi_X7_pass gm_X7_pass sg_X7_pass_0 = true := by decide +kernel
def sg_X7_pass_12 : List Ins := [(12, .aload_n 0, 0, 0, 0, 0), (13, .invokevirtual 127, 774, 1, 17, 1), (16, .aload_n 0, 0, 0, 0, 0), (17, .iload_n 1, 0, 0, 0, 0), (18, .invokevirtual 168, 935, 2, 17, 2), (21, .ireturn, 0, 0, 0, 0)]
theorem so_X7_pass_12 : sgOK mi_X7_pass gm_X7_pass sg_X7_pass_12 = true := by decide +kernel
def sgs_X7_pass : Nat → Option (List Ins) := fun t => match t with
  | 0 => some sg_X7_pass_0
  | 12 => some sg_X7_pass_12
  | _ => none
theorem so_X7_pass : ∀ t sg, sgs_X7_pass t = some sg → sgOK mi_X7_pass gm_X7_pass sg = true ∧ segPc sg = t := by
  intro t sg h
  unfold sgs_X7_pass at h
  split at h
  · cases h; exact ⟨so_X7_pass_0, rfl⟩
  · cases h; exact ⟨so_X7_pass_12, rfl⟩
  · cases h
def gm_X7_flag : List MI := []
def sg_X7_flag_0 : List Ins := [(0, .iload_n 0, 0, 0, 0, 0), (1, .ifCond .eq 7, 0, 0, 8, 0), (4, .iconst 1, 1, 0, 0, 0), (5, .goto 4, 0, 0, 9, 0)]
theorem so_X7_flag_0 : sgOK mi_X7_flag gm_X7_flag sg_X7_flag_0 = true := by decide +kernel
def sg_X7_flag_8 : List Ins := [(8, .iconst 0, 0, 0, 0, 0), (9, .ireturn, 0, 0, 0, 0)]
theorem so_X7_flag_8 : sgOK mi_X7_flag gm_X7_flag sg_X7_flag_8 = true := by decide +kernel
def sg_X7_flag_9 : List Ins := [(9, .ireturn, 0, 0, 0, 0)]
theorem so_X7_flag_9 : sgOK mi_X7_flag gm_X7_flag sg_X7_flag_9 = true := by decide +kernel
def sgs_X7_flag : Nat → Option (List Ins) := fun t => match t with
  | 0 => some sg_X7_flag_0
  | 8 => some sg_X7_flag_8
  | 9 => some sg_X7_flag_9
  | _ => none
theorem so_X7_flag : ∀ t sg, sgs_X7_flag t = some sg → sgOK mi_X7_flag gm_X7_flag sg = true ∧ segPc sg = t := by
  intro t sg h
  unfold sgs_X7_flag at h
  split at h
  · cases h; exact ⟨so_X7_flag_0, rfl⟩
  · cases h; exact ⟨so_X7_flag_8, rfl⟩
  · cases h; exact ⟨so_X7_flag_9, rfl⟩
  · cases h
def gm_X7_at : List MI := [mi_X7_isThere, mi_X7_spotOf, mi_X7_inkAt, mi_X7_promisedTo, mi_X7_lightAt, mi_Jxf58ca_floatToIntBits_5c35a, mi_X7_ahead, mi_X7_hasRoom, mi_X7_flag, mi_X7_canRead]
def sg_X7_at_0 : List Ins := [(0, .aload_n 0, 0, 0, 0, 0), (1, .iload_n 1, 0, 0, 0, 0), (2, .iload_n 2, 0, 0, 0, 0), (3, .invokevirtual 88, 837, 0, 17, 3), (6, .ifCond .ne 5, 0, 0, 11, 0), (9, .iconst (-1), 1, 1, 0, 0), (10, .ireturn, 0, 0, 0, 0)]
theorem so_X7_at_0 : sgOK mi_X7_at gm_X7_at sg_X7_at_0 = true := by decide +kernel
def sg_X7_at_11 : List Ins := [(11, .aload_n 0, 0, 0, 0, 0), (12, .getfield 7, 7, 0, 717, 0), (15, .bipush 6, 6, 0, 0, 0), (17, .iaload, 8, 0, 0, 0), (18, .istore 4, 0, 0, 0, 0), (20, .iload_n 1, 0, 0, 0, 0), (21, .iload_n 2, 0, 0, 0, 0), (22, .invokestatic 94, 846, 1, 0, 2), (25, .istore 5, 0, 0, 0, 0), (27, .aload_n 0, 0, 0, 0, 0), (28, .getfield 7, 7, 0, 717, 0), (31, .iconst 0, 0, 0, 0, 0), (32, .iload 4, 0, 0, 0, 0), (34, .iload 5, 0, 0, 0, 0), (36, .invokestatic 35, 790, 2, 0, 3), (39, .iaload, 8, 0, 0, 0), (40, .istore 6, 0, 0, 0, 0), (42, .iload_n 3, 0, 0, 0, 0), (43, .tableswitch 143 0 6 #[41, 59, 77, 87, 104, 117, 130], 41, 0, 0, 0)]
theorem so_X7_at_11 : sgOK mi_X7_at gm_X7_at sg_X7_at_11 = true := by decide +kernel
def sg_X7_at_84 : List Ins := [(84, .iload 6, 0, 0, 0, 0), (86, .bipush (-6), 6, 1, 0, 0), (88, .if_icmp .ne 8, 0, 0, 96, 0), (91, .bipush (-6), 6, 1, 0, 0), (93, .goto 8, 0, 0, 101, 0)]
theorem so_X7_at_84 : sgOK mi_X7_at gm_X7_at sg_X7_at_84 = true := by decide +kernel
def sg_X7_at_96 : List Ins := [(96, .iload 6, 0, 0, 0, 0), (98, .bipush 26, 26, 0, 0, 0), (100, .irem, 0, 0, 0, 0), (101, .ireturn, 0, 0, 0, 0)]
theorem so_X7_at_96 : sgOK mi_X7_at gm_X7_at sg_X7_at_96 = true := by decide +kernel
def sg_X7_at_101 : List Ins := [(101, .ireturn, 0, 0, 0, 0)]
theorem so_X7_at_101 : sgOK mi_X7_at gm_X7_at sg_X7_at_101 = true := by decide +kernel
def sg_X7_at_102 : List Ins := [(102, .iload 6, 0, 0, 0, 0), (104, .bipush (-6), 6, 1, 0, 0), (106, .if_icmp .ne 8, 0, 0, 114, 0), (109, .bipush (-6), 6, 1, 0, 0), (111, .goto 8, 0, 0, 119, 0)]
theorem so_X7_at_102 : sgOK mi_X7_at gm_X7_at sg_X7_at_102 = true := by decide +kernel
def sg_X7_at_114 : List Ins := [(114, .iload 6, 0, 0, 0, 0), (116, .bipush 26, 26, 0, 0, 0), (118, .idiv, 0, 0, 0, 0), (119, .ireturn, 0, 0, 0, 0)]
theorem so_X7_at_114 : sgOK mi_X7_at gm_X7_at sg_X7_at_114 = true := by decide +kernel
def sg_X7_at_119 : List Ins := [(119, .ireturn, 0, 0, 0, 0)]
theorem so_X7_at_119 : sgOK mi_X7_at gm_X7_at sg_X7_at_119 = true := by decide +kernel
def sg_X7_at_120 : List Ins := [(120, .aload_n 0, 0, 0, 0, 0), (121, .iconst 0, 0, 0, 0, 0), (122, .iload 4, 0, 0, 0, 0), (124, .iload 5, 0, 0, 0, 0), (126, .invokevirtual 43, 849, 3, 17, 4), (129, .ireturn, 0, 0, 0, 0)]
theorem so_X7_at_120 : sgOK mi_X7_at gm_X7_at sg_X7_at_120 = true := by decide +kernel
def sg_X7_at_130 : List Ins := [(130, .aload_n 0, 0, 0, 0, 0), (131, .getfield 13, 7, 1, 718, 0), (134, .iconst 0, 0, 0, 0, 0), (135, .iload 4, 0, 0, 0, 0), (137, .iload 5, 0, 0, 0, 0), (139, .invokestatic 40, 793, 4, 0, 3), (142, .faload, 0, 0, 0, 0), (143, .invokestatic 171, 947, 5, 0, 1), (146, .ireturn, 0, 0, 0, 0)]
theorem so_X7_at_130 : sgOK mi_X7_at gm_X7_at sg_X7_at_130 = true := by decide +kernel
def sg_X7_at_147 : List Ins := [(147, .aload_n 0, 0, 0, 0, 0), (148, .iconst 0, 0, 0, 0, 0), (149, .iload 4, 0, 0, 0, 0), (151, .iload 5, 0, 0, 0, 0), (153, .invokevirtual 54, 898, 6, 17, 4), (156, .invokestatic 171, 947, 5, 0, 1), (159, .ireturn, 0, 0, 0, 0)]
theorem so_X7_at_147 : sgOK mi_X7_at gm_X7_at sg_X7_at_147 = true := by decide +kernel
def sg_X7_at_160 : List Ins := [(160, .aload_n 0, 0, 0, 0, 0), (161, .iconst 0, 0, 0, 0, 0), (162, .iload 4, 0, 0, 0, 0), (164, .iload 5, 0, 0, 0, 0), (166, .invokevirtual 62, 894, 7, 17, 4), (169, .invokestatic 177, 957, 8, 0, 1), (172, .ireturn, 0, 0, 0, 0)]
theorem so_X7_at_160 : sgOK mi_X7_at gm_X7_at sg_X7_at_160 = true := by decide +kernel
def sg_X7_at_173 : List Ins := [(173, .aload_n 0, 0, 0, 0, 0), (174, .iconst 0, 0, 0, 0, 0), (175, .iload 4, 0, 0, 0, 0), (177, .iload 5, 0, 0, 0, 0), (179, .invokevirtual 65, 870, 9, 17, 4), (182, .invokestatic 177, 957, 8, 0, 1), (185, .ireturn, 0, 0, 0, 0)]
theorem so_X7_at_173 : sgOK mi_X7_at gm_X7_at sg_X7_at_173 = true := by decide +kernel
def sg_X7_at_186 : List Ins := [(186, .bipush (-2), 2, 1, 0, 0), (188, .ireturn, 0, 0, 0, 0)]
theorem so_X7_at_186 : sgOK mi_X7_at gm_X7_at sg_X7_at_186 = true := by decide +kernel
def sgs_X7_at : Nat → Option (List Ins) := fun t => match t with
  | 0 => some sg_X7_at_0
  | 11 => some sg_X7_at_11
  | 84 => some sg_X7_at_84
  | 96 => some sg_X7_at_96
  | 101 => some sg_X7_at_101
  | 102 => some sg_X7_at_102
  | 114 => some sg_X7_at_114
  | 119 => some sg_X7_at_119
  | 120 => some sg_X7_at_120
  | 130 => some sg_X7_at_130
  | 147 => some sg_X7_at_147
  | 160 => some sg_X7_at_160
  | 173 => some sg_X7_at_173
  | 186 => some sg_X7_at_186
  | _ => none
theorem so_X7_at : ∀ t sg, sgs_X7_at t = some sg → sgOK mi_X7_at gm_X7_at sg = true ∧ segPc sg = t := by
  intro t sg h
  unfold sgs_X7_at at h
  split at h
  · cases h; exact ⟨so_X7_at_0, rfl⟩
  · cases h; exact ⟨so_X7_at_11, rfl⟩
  · cases h; exact ⟨so_X7_at_84, rfl⟩
  · cases h; exact ⟨so_X7_at_96, rfl⟩
  · cases h; exact ⟨so_X7_at_101, rfl⟩
  · cases h; exact ⟨so_X7_at_102, rfl⟩
  · cases h; exact ⟨so_X7_at_114, rfl⟩
  · cases h; exact ⟨so_X7_at_119, rfl⟩
  · cases h; exact ⟨so_X7_at_120, rfl⟩
  · cases h; exact ⟨so_X7_at_130, rfl⟩
  · cases h; exact ⟨so_X7_at_147, rfl⟩
  · cases h; exact ⟨so_X7_at_160, rfl⟩
  · cases h; exact ⟨so_X7_at_173, rfl⟩
  · cases h; exact ⟨so_X7_at_186, rfl⟩
  · cases h
def gm_X7_isSo : List MI := [mi_X7_hasLetter, mi_X7_canRead, mi_X7_promisedTo, mi_X7_hasRoom]
def sg_X7_isSo_0 : List Ins := [(0, .iload_n 3, 0, 0, 0, 0), (1, .ifCond .ne 13, 0, 0, 14, 0), (4, .aload_n 0, 0, 0, 0, 0), (5, .iconst 0, 0, 0, 0, 0), (6, .iload_n 1, 0, 0, 0, 0), (7, .iload_n 2, 0, 0, 0, 0), (8, .invokevirtual 50, 853, 0, 17, 4), (11, .goto 50, 0, 0, 61, 0)]
theorem so_X7_isSo_0 : sgOK mi_X7_isSo gm_X7_isSo sg_X7_isSo_0 = true := by decide +kernel
def sg_X7_isSo_14 : List Ins := [(14, .iload_n 3, 0, 0, 0, 0), (15, .iconst 1, 1, 0, 0, 0), (16, .if_icmp .ne 13, 0, 0, 29, 0), (19, .aload_n 0, 0, 0, 0, 0), (20, .iconst 0, 0, 0, 0, 0), (21, .iload_n 1, 0, 0, 0, 0), (22, .iload_n 2, 0, 0, 0, 0), (23, .invokevirtual 65, 870, 1, 17, 4), (26, .goto 35, 0, 0, 61, 0)]
theorem so_X7_isSo_14 : sgOK mi_X7_isSo gm_X7_isSo sg_X7_isSo_14 = true := by decide +kernel
def sg_X7_isSo_29 : List Ins := [(29, .iload_n 3, 0, 0, 0, 0), (30, .iconst 2, 2, 0, 0, 0), (31, .if_icmp .ne 23, 0, 0, 54, 0), (34, .aload_n 0, 0, 0, 0, 0), (35, .iconst 0, 0, 0, 0, 0), (36, .iload_n 1, 0, 0, 0, 0), (37, .iload_n 2, 0, 0, 0, 0), (38, .invokevirtual 43, 849, 2, 17, 4), (41, .bipush (-6), 6, 1, 0, 0), (43, .if_icmp .eq 7, 0, 0, 50, 0), (46, .iconst 1, 1, 0, 0, 0), (47, .goto 14, 0, 0, 61, 0)]
theorem so_X7_isSo_29 : sgOK mi_X7_isSo gm_X7_isSo sg_X7_isSo_29 = true := by decide +kernel
def sg_X7_isSo_50 : List Ins := [(50, .iconst 0, 0, 0, 0, 0), (51, .goto 10, 0, 0, 61, 0)]
theorem so_X7_isSo_50 : sgOK mi_X7_isSo gm_X7_isSo sg_X7_isSo_50 = true := by decide +kernel
def sg_X7_isSo_54 : List Ins := [(54, .aload_n 0, 0, 0, 0, 0), (55, .iconst 0, 0, 0, 0, 0), (56, .iload_n 1, 0, 0, 0, 0), (57, .iload_n 2, 0, 0, 0, 0), (58, .invokevirtual 62, 894, 3, 17, 4), (61, .ireturn, 0, 0, 0, 0)]
theorem so_X7_isSo_54 : sgOK mi_X7_isSo gm_X7_isSo sg_X7_isSo_54 = true := by decide +kernel
def sg_X7_isSo_61 : List Ins := [(61, .ireturn, 0, 0, 0, 0)]
theorem so_X7_isSo_61 : sgOK mi_X7_isSo gm_X7_isSo sg_X7_isSo_61 = true := by decide +kernel
def sgs_X7_isSo : Nat → Option (List Ins) := fun t => match t with
  | 0 => some sg_X7_isSo_0
  | 14 => some sg_X7_isSo_14
  | 29 => some sg_X7_isSo_29
  | 50 => some sg_X7_isSo_50
  | 54 => some sg_X7_isSo_54
  | 61 => some sg_X7_isSo_61
  | _ => none
theorem so_X7_isSo : ∀ t sg, sgs_X7_isSo t = some sg → sgOK mi_X7_isSo gm_X7_isSo sg = true ∧ segPc sg = t := by
  intro t sg h
  unfold sgs_X7_isSo at h
  split at h
  · cases h; exact ⟨so_X7_isSo_0, rfl⟩
  · cases h; exact ⟨so_X7_isSo_14, rfl⟩
  · cases h; exact ⟨so_X7_isSo_29, rfl⟩
  · cases h; exact ⟨so_X7_isSo_50, rfl⟩
  · cases h; exact ⟨so_X7_isSo_54, rfl⟩
  · cases h; exact ⟨so_X7_isSo_61, rfl⟩
  · cases h
def gm_X7_longestWord : List MI := [mi_X7_spotOf, mi_X7_canRead]
def sg_X7_longestWord_0 : List Ins := [(0, .iconst 0, 0, 0, 0, 0), (1, .istore_n 3, 0, 0, 0, 0), (2, .iconst 0, 0, 0, 0, 0), (3, .istore 4, 0, 0, 0, 0), (5, .iconst 0, 0, 0, 0, 0), (6, .istore 5, 0, 0, 0, 0), (8, .nop, 0, 0, 0, 0)]
theorem so_X7_longestWord_0 : sgOK mi_X7_longestWord gm_X7_longestWord sg_X7_longestWord_0 = true := by decide +kernel
def sg_X7_longestWord_8 : List Ins := [(8, .iload 5, 0, 0, 0, 0), (10, .bipush 12, 12, 0, 0, 0), (12, .if_icmp .ge 47, 0, 0, 59, 0), (15, .aload_n 0, 0, 0, 0, 0), (16, .iconst 0, 0, 0, 0, 0), (17, .iload_n 1, 0, 0, 0, 0), (18, .iload_n 2, 0, 0, 0, 0), (19, .iload 5, 0, 0, 0, 0), (21, .invokestatic 94, 846, 0, 0, 2), (24, .invokevirtual 65, 870, 1, 17, 4), (27, .ifCond .eq 10, 0, 0, 37, 0), (30, .iload 4, 0, 0, 0, 0), (32, .iconst 1, 1, 0, 0, 0), (33, .iadd, 0, 0, 0, 0), (34, .goto 4, 0, 0, 38, 0)]
theorem so_X7_longestWord_8 : sgOK mi_X7_longestWord gm_X7_longestWord sg_X7_longestWord_8 = true := by decide +kernel
def sg_X7_longestWord_37 : List Ins := [(37, .iconst 0, 0, 0, 0, 0), (38, .istore 4, 0, 0, 0, 0), (40, .iload 4, 0, 0, 0, 0), (42, .iload_n 3, 0, 0, 0, 0), (43, .if_icmp .le 8, 0, 0, 51, 0), (46, .iload 4, 0, 0, 0, 0), (48, .goto 4, 0, 0, 52, 0)]
theorem so_X7_longestWord_37 : sgOK mi_X7_longestWord gm_X7_longestWord sg_X7_longestWord_37 = true := by decide +kernel
def sg_X7_longestWord_38 : List Ins := [(38, .istore 4, 0, 0, 0, 0), (40, .iload 4, 0, 0, 0, 0), (42, .iload_n 3, 0, 0, 0, 0), (43, .if_icmp .le 8, 0, 0, 51, 0), (46, .iload 4, 0, 0, 0, 0), (48, .goto 4, 0, 0, 52, 0)]
theorem so_X7_longestWord_38 : sgOK mi_X7_longestWord gm_X7_longestWord sg_X7_longestWord_38 = true := by decide +kernel
def sg_X7_longestWord_51 : List Ins := [(51, .iload_n 3, 0, 0, 0, 0), (52, .istore_n 3, 0, 0, 0, 0), (53, .iinc 5 1, 1, 0, 0, 0), (56, .goto (-48), 0, 0, 8, 0)]
theorem so_X7_longestWord_51 : sgOK mi_X7_longestWord gm_X7_longestWord sg_X7_longestWord_51 = true := by decide +kernel
def sg_X7_longestWord_52 : List Ins := [(52, .istore_n 3, 0, 0, 0, 0), (53, .iinc 5 1, 1, 0, 0, 0), (56, .goto (-48), 0, 0, 8, 0)]
theorem so_X7_longestWord_52 : sgOK mi_X7_longestWord gm_X7_longestWord sg_X7_longestWord_52 = true := by decide +kernel
def sg_X7_longestWord_59 : List Ins := [(59, .iload_n 3, 0, 0, 0, 0), (60, .ireturn, 0, 0, 0, 0)]
theorem so_X7_longestWord_59 : sgOK mi_X7_longestWord gm_X7_longestWord sg_X7_longestWord_59 = true := by decide +kernel
def sgs_X7_longestWord : Nat → Option (List Ins) := fun t => match t with
  | 0 => some sg_X7_longestWord_0
  | 37 => some sg_X7_longestWord_37
  | 38 => some sg_X7_longestWord_38
  | 51 => some sg_X7_longestWord_51
  | 52 => some sg_X7_longestWord_52
  | 59 => some sg_X7_longestWord_59
  | _ => none
theorem so_X7_longestWord : ∀ t sg, sgs_X7_longestWord t = some sg → sgOK mi_X7_longestWord gm_X7_longestWord sg = true ∧ segPc sg = t := by
  intro t sg h
  unfold sgs_X7_longestWord at h
  split at h
  · cases h; exact ⟨so_X7_longestWord_0, rfl⟩
  · cases h; exact ⟨so_X7_longestWord_37, rfl⟩
  · cases h; exact ⟨so_X7_longestWord_38, rfl⟩
  · cases h; exact ⟨so_X7_longestWord_51, rfl⟩
  · cases h; exact ⟨so_X7_longestWord_52, rfl⟩
  · cases h; exact ⟨so_X7_longestWord_59, rfl⟩
  · cases h
def gm_X7_row : List MI := [mi_X7_isRow, mi_X7_in, mi_X7_longestWord, mi_X7_spotOf, mi_X7_isSo, mi_X7_flag]
def sg_X7_row_0 : List Ins := [(0, .aload_n 0, 0, 0, 0, 0), (1, .getfield 7, 7, 0, 717, 0), (4, .bipush 6, 6, 0, 0, 0), (6, .iaload, 8, 0, 0, 0), (7, .bipush (-6), 6, 1, 0, 0), (9, .if_icmp .eq 10, 0, 0, 19, 0), (12, .iload_n 1, 0, 0, 0, 0), (13, .invokestatic 74, 841, 0, 0, 1), (16, .ifCond .ne 5, 0, 0, 21, 0), (19, .iconst (-1), 1, 1, 0, 0), (20, .ireturn, 0, 0, 0, 0)]
theorem so_X7_row_0 : sgOK mi_X7_row gm_X7_row sg_X7_row_0 = true := by decide +kernel
def sg_X7_row_19 : List Ins := [(19, .iconst (-1), 1, 1, 0, 0), (20, .ireturn, 0, 0, 0, 0)]
theorem so_X7_row_19 : sgOK mi_X7_row gm_X7_row sg_X7_row_19 = true := by decide +kernel
def sg_X7_row_21 : List Ins := [(21, .iload_n 2, 0, 0, 0, 0), (22, .i2l, 0, 0, 0, 0), (23, .lconst 0, 0, 0, 0, 0), (24, .ldc2_w 181, 4, 2, 964, 0), (27, .invokestatic 68, 768, 1, 0, 3), (30, .ifCond .ne 6, 0, 0, 36, 0), (33, .bipush (-2), 2, 1, 0, 0), (35, .ireturn, 0, 0, 0, 0)]
theorem so_X7_row_21 : sgOK mi_X7_row gm_X7_row sg_X7_row_21 = true := by decide +kernel
def sg_X7_row_36 : List Ins := [(36, .iload_n 2, 0, 0, 0, 0), (37, .iconst 4, 4, 0, 0, 0), (38, .if_icmp .ne 16, 0, 0, 54, 0), (41, .aload_n 0, 0, 0, 0, 0), (42, .aload_n 0, 0, 0, 0, 0), (43, .getfield 7, 7, 0, 717, 0), (46, .bipush 6, 6, 0, 0, 0), (48, .iaload, 8, 0, 0, 0), (49, .iload_n 1, 0, 0, 0, 0), (50, .invokevirtual 183, 965, 2, 17, 3), (53, .ireturn, 0, 0, 0, 0)]
theorem so_X7_row_36 : sgOK mi_X7_row gm_X7_row sg_X7_row_36 = true := by decide +kernel
def sg_X7_row_54 : List Ins := [(54, .iconst 0, 0, 0, 0, 0), (55, .istore_n 3, 0, 0, 0, 0), (56, .iconst 0, 0, 0, 0, 0), (57, .istore 4, 0, 0, 0, 0), (59, .nop, 0, 0, 0, 0)]
theorem so_X7_row_54 : sgOK mi_X7_row gm_X7_row sg_X7_row_54 = true := by decide +kernel
def sg_X7_row_59 : List Ins := [(59, .iload 4, 0, 0, 0, 0), (61, .bipush 12, 12, 0, 0, 0), (63, .if_icmp .ge 36, 0, 0, 99, 0), (66, .iload_n 3, 0, 0, 0, 0), (67, .aload_n 0, 0, 0, 0, 0), (68, .aload_n 0, 0, 0, 0, 0), (69, .getfield 7, 7, 0, 717, 0), (72, .bipush 6, 6, 0, 0, 0), (74, .iaload, 8, 0, 0, 0), (75, .iload_n 1, 0, 0, 0, 0), (76, .iload 4, 0, 0, 0, 0), (78, .invokestatic 94, 846, 3, 0, 2), (81, .iload_n 2, 0, 0, 0, 0), (82, .invokevirtual 186, 969, 4, 17, 4), (85, .invokestatic 177, 957, 5, 0, 1), (88, .iload 4, 0, 0, 0, 0), (90, .ishl, 0, 0, 0, 0), (91, .ior, 0, 0, 0, 0), (92, .istore_n 3, 0, 0, 0, 0), (93, .iinc 4 1, 1, 0, 0, 0), (96, .goto (-37), 0, 0, 59, 0)]
theorem so_X7_row_59 : sgOK mi_X7_row gm_X7_row sg_X7_row_59 = true := by decide +kernel
def sg_X7_row_99 : List Ins := [(99, .iload_n 3, 0, 0, 0, 0), (100, .ireturn, 0, 0, 0, 0)]
theorem so_X7_row_99 : sgOK mi_X7_row gm_X7_row sg_X7_row_99 = true := by decide +kernel
def sgs_X7_row : Nat → Option (List Ins) := fun t => match t with
  | 0 => some sg_X7_row_0
  | 19 => some sg_X7_row_19
  | 21 => some sg_X7_row_21
  | 36 => some sg_X7_row_36
  | 54 => some sg_X7_row_54
  | 99 => some sg_X7_row_99
  | _ => none
theorem so_X7_row : ∀ t sg, sgs_X7_row t = some sg → sgOK mi_X7_row gm_X7_row sg = true ∧ segPc sg = t := by
  intro t sg h
  unfold sgs_X7_row at h
  split at h
  · cases h; exact ⟨so_X7_row_0, rfl⟩
  · cases h; exact ⟨so_X7_row_19, rfl⟩
  · cases h; exact ⟨so_X7_row_21, rfl⟩
  · cases h; exact ⟨so_X7_row_36, rfl⟩
  · cases h; exact ⟨so_X7_row_54, rfl⟩
  · cases h; exact ⟨so_X7_row_99, rfl⟩
  · cases h
def gm_X7_counted : List MI := [mi_X7_hasLetter, mi_X7_inkAt, mi_X7_canRead, mi_X7_promisedTo, mi_X7_flag]
def sg_X7_counted_0 : List Ins := [(0, .iconst 0, 0, 0, 0, 0), (1, .istore_n 3, 0, 0, 0, 0), (2, .iconst 0, 0, 0, 0, 0), (3, .istore 4, 0, 0, 0, 0), (5, .nop, 0, 0, 0, 0)]
theorem so_X7_counted_0 : sgOK mi_X7_counted gm_X7_counted sg_X7_counted_0 = true := by decide +kernel
def sg_X7_counted_5 : List Ins := [(5, .iload 4, 0, 0, 0, 0), (7, .aload_n 0, 0, 0, 0, 0), (8, .getfield 7, 7, 0, 717, 0), (11, .iconst 5, 5, 0, 0, 0), (12, .iaload, 8, 0, 0, 0), (13, .if_icmp .ge 128, 0, 0, 141, 0), (16, .iconst 0, 0, 0, 0, 0), (17, .istore 5, 0, 0, 0, 0), (19, .nop, 0, 0, 0, 0)]
theorem so_X7_counted_5 : sgOK mi_X7_counted gm_X7_counted sg_X7_counted_5 = true := by decide +kernel
def sg_X7_counted_19 : List Ins := [(19, .iload 5, 0, 0, 0, 0), (21, .bipush 120, 120, 0, 0, 0), (23, .if_icmp .ge 112, 0, 0, 135, 0), (26, .aload_n 0, 0, 0, 0, 0), (27, .iconst 0, 0, 0, 0, 0), (28, .iload 4, 0, 0, 0, 0), (30, .iload 5, 0, 0, 0, 0), (32, .invokevirtual 50, 853, 0, 17, 4), (35, .ifCond .eq 27, 0, 0, 62, 0), (38, .aload_n 0, 0, 0, 0, 0), (39, .getfield 7, 7, 0, 717, 0), (42, .iconst 0, 0, 0, 0, 0), (43, .iload 4, 0, 0, 0, 0), (45, .iload 5, 0, 0, 0, 0), (47, .invokestatic 35, 790, 1, 0, 3), (50, .iaload, 8, 0, 0, 0), (51, .bipush 26, 26, 0, 0, 0), (53, .idiv, 0, 0, 0, 0), (54, .iload_n 1, 0, 0, 0, 0), (55, .if_icmp .ne 7, 0, 0, 62, 0), (58, .iconst 1, 1, 0, 0, 0), (59, .goto 4, 0, 0, 63, 0)]
theorem so_X7_counted_19 : sgOK mi_X7_counted gm_X7_counted sg_X7_counted_19 = true := by decide +kernel
def sg_X7_counted_62 : List Ins := [(62, .iconst 0, 0, 0, 0, 0), (63, .istore 6, 0, 0, 0, 0), (65, .iload_n 3, 0, 0, 0, 0), (66, .iload_n 2, 0, 0, 0, 0), (67, .iconst 1, 1, 0, 0, 0), (68, .if_icmp .ne 8, 0, 0, 76, 0), (71, .iload 6, 0, 0, 0, 0), (73, .goto 51, 0, 0, 124, 0)]
theorem so_X7_counted_62 : sgOK mi_X7_counted gm_X7_counted sg_X7_counted_62 = true := by decide +kernel
def sg_X7_counted_63 : List Ins := [(63, .istore 6, 0, 0, 0, 0), (65, .iload_n 3, 0, 0, 0, 0), (66, .iload_n 2, 0, 0, 0, 0), (67, .iconst 1, 1, 0, 0, 0), (68, .if_icmp .ne 8, 0, 0, 76, 0), (71, .iload 6, 0, 0, 0, 0), (73, .goto 51, 0, 0, 124, 0)]
theorem so_X7_counted_63 : sgOK mi_X7_counted gm_X7_counted sg_X7_counted_63 = true := by decide +kernel
def sg_X7_counted_76 : List Ins := [(76, .iload_n 2, 0, 0, 0, 0), (77, .iconst 2, 2, 0, 0, 0), (78, .if_icmp .ne 28, 0, 0, 106, 0), (81, .iload 6, 0, 0, 0, 0), (83, .ifCond .eq 19, 0, 0, 102, 0), (86, .aload_n 0, 0, 0, 0, 0), (87, .iconst 0, 0, 0, 0, 0), (88, .iload 4, 0, 0, 0, 0), (90, .iload 5, 0, 0, 0, 0), (92, .invokevirtual 65, 870, 2, 17, 4), (95, .ifCond .eq 7, 0, 0, 102, 0), (98, .iconst 1, 1, 0, 0, 0), (99, .goto 25, 0, 0, 124, 0)]
theorem so_X7_counted_76 : sgOK mi_X7_counted gm_X7_counted sg_X7_counted_76 = true := by decide +kernel
def sg_X7_counted_102 : List Ins := [(102, .iconst 0, 0, 0, 0, 0), (103, .goto 21, 0, 0, 124, 0)]
theorem so_X7_counted_102 : sgOK mi_X7_counted gm_X7_counted sg_X7_counted_102 = true := by decide +kernel
def sg_X7_counted_106 : List Ins := [(106, .aload_n 0, 0, 0, 0, 0), (107, .iconst 0, 0, 0, 0, 0), (108, .iload 4, 0, 0, 0, 0), (110, .iload 5, 0, 0, 0, 0), (112, .invokevirtual 43, 849, 3, 17, 4), (115, .iload_n 1, 0, 0, 0, 0), (116, .if_icmp .ne 7, 0, 0, 123, 0), (119, .iconst 1, 1, 0, 0, 0), (120, .goto 4, 0, 0, 124, 0)]
theorem so_X7_counted_106 : sgOK mi_X7_counted gm_X7_counted sg_X7_counted_106 = true := by decide +kernel
def sg_X7_counted_123 : List Ins := [(123, .iconst 0, 0, 0, 0, 0), (124, .invokestatic 177, 957, 4, 0, 1), (127, .iadd, 0, 0, 0, 0), (128, .istore_n 3, 0, 0, 0, 0), (129, .iinc 5 1, 1, 0, 0, 0), (132, .goto (-113), 0, 0, 19, 0)]
theorem so_X7_counted_123 : sgOK mi_X7_counted gm_X7_counted sg_X7_counted_123 = true := by decide +kernel
def sg_X7_counted_124 : List Ins := [(124, .invokestatic 177, 957, 4, 0, 1), (127, .iadd, 0, 0, 0, 0), (128, .istore_n 3, 0, 0, 0, 0), (129, .iinc 5 1, 1, 0, 0, 0), (132, .goto (-113), 0, 0, 19, 0)]
theorem so_X7_counted_124 : sgOK mi_X7_counted gm_X7_counted sg_X7_counted_124 = true := by decide +kernel
def sg_X7_counted_135 : List Ins := [(135, .iinc 4 1, 1, 0, 0, 0), (138, .goto (-133), 0, 0, 5, 0)]
theorem so_X7_counted_135 : sgOK mi_X7_counted gm_X7_counted sg_X7_counted_135 = true := by decide +kernel
def sg_X7_counted_141 : List Ins := [(141, .iload_n 3, 0, 0, 0, 0), (142, .ireturn, 0, 0, 0, 0)]
theorem so_X7_counted_141 : sgOK mi_X7_counted gm_X7_counted sg_X7_counted_141 = true := by decide +kernel
def sgs_X7_counted : Nat → Option (List Ins) := fun t => match t with
  | 0 => some sg_X7_counted_0
  | 62 => some sg_X7_counted_62
  | 63 => some sg_X7_counted_63
  | 76 => some sg_X7_counted_76
  | 102 => some sg_X7_counted_102
  | 106 => some sg_X7_counted_106
  | 123 => some sg_X7_counted_123
  | 124 => some sg_X7_counted_124
  | 135 => some sg_X7_counted_135
  | 141 => some sg_X7_counted_141
  | _ => none
theorem so_X7_counted : ∀ t sg, sgs_X7_counted t = some sg → sgOK mi_X7_counted gm_X7_counted sg = true ∧ segPc sg = t := by
  intro t sg h
  unfold sgs_X7_counted at h
  split at h
  · cases h; exact ⟨so_X7_counted_0, rfl⟩
  · cases h; exact ⟨so_X7_counted_62, rfl⟩
  · cases h; exact ⟨so_X7_counted_63, rfl⟩
  · cases h; exact ⟨so_X7_counted_76, rfl⟩
  · cases h; exact ⟨so_X7_counted_102, rfl⟩
  · cases h; exact ⟨so_X7_counted_106, rfl⟩
  · cases h; exact ⟨so_X7_counted_123, rfl⟩
  · cases h; exact ⟨so_X7_counted_124, rfl⟩
  · cases h; exact ⟨so_X7_counted_135, rfl⟩
  · cases h; exact ⟨so_X7_counted_141, rfl⟩
  · cases h
def gm_X7_of : List MI := [mi_X7_isWriter, mi_X7_counted]
def sg_X7_of_0 : List Ins := [(0, .aload_n 0, 0, 0, 0, 0), (1, .iload_n 1, 0, 0, 0, 0), (2, .invokevirtual 85, 833, 0, 17, 2), (5, .ifCond .ne 5, 0, 0, 10, 0), (8, .iconst (-1), 1, 1, 0, 0), (9, .ireturn, 0, 0, 0, 0)]
theorem so_X7_of_0 : sgOK mi_X7_of gm_X7_of sg_X7_of_0 = true := by decide +kernel
def sg_X7_of_10 : List Ins := [(10, .iload_n 2, 0, 0, 0, 0), (11, .tableswitch 74 0 5 #[37, 47, 47, 47, 54, 64], 37, 0, 0, 0)]
theorem so_X7_of_10 : sgOK mi_X7_of gm_X7_of sg_X7_of_10 = true := by decide +kernel
def sg_X7_of_48 : List Ins := [(48, .aload_n 0, 0, 0, 0, 0), (49, .getfield 7, 7, 0, 717, 0), (52, .bipush 8, 8, 0, 0, 0), (54, .iload_n 1, 0, 0, 0, 0), (55, .iadd, 0, 0, 0, 0), (56, .iaload, 8, 0, 0, 0), (57, .ireturn, 0, 0, 0, 0)]
theorem so_X7_of_48 : sgOK mi_X7_of gm_X7_of sg_X7_of_48 = true := by decide +kernel
def sg_X7_of_58 : List Ins := [(58, .aload_n 0, 0, 0, 0, 0), (59, .iload_n 1, 0, 0, 0, 0), (60, .iload_n 2, 0, 0, 0, 0), (61, .invokevirtual 189, 977, 1, 17, 3), (64, .ireturn, 0, 0, 0, 0)]
theorem so_X7_of_58 : sgOK mi_X7_of gm_X7_of sg_X7_of_58 = true := by decide +kernel
def sg_X7_of_65 : List Ins := [(65, .aload_n 0, 0, 0, 0, 0), (66, .getfield 7, 7, 0, 717, 0), (69, .bipush 13, 13, 0, 0, 0), (71, .iload_n 1, 0, 0, 0, 0), (72, .iadd, 0, 0, 0, 0), (73, .iaload, 8, 0, 0, 0), (74, .ireturn, 0, 0, 0, 0)]
theorem so_X7_of_65 : sgOK mi_X7_of gm_X7_of sg_X7_of_65 = true := by decide +kernel
def sg_X7_of_75 : List Ins := [(75, .aload_n 0, 0, 0, 0, 0), (76, .getfield 7, 7, 0, 717, 0), (79, .bipush 18, 18, 0, 0, 0), (81, .iload_n 1, 0, 0, 0, 0), (82, .iadd, 0, 0, 0, 0), (83, .iaload, 8, 0, 0, 0), (84, .ireturn, 0, 0, 0, 0)]
theorem so_X7_of_75 : sgOK mi_X7_of gm_X7_of sg_X7_of_75 = true := by decide +kernel
def sg_X7_of_85 : List Ins := [(85, .bipush (-2), 2, 1, 0, 0), (87, .ireturn, 0, 0, 0, 0)]
theorem so_X7_of_85 : sgOK mi_X7_of gm_X7_of sg_X7_of_85 = true := by decide +kernel
def sgs_X7_of : Nat → Option (List Ins) := fun t => match t with
  | 0 => some sg_X7_of_0
  | 10 => some sg_X7_of_10
  | 48 => some sg_X7_of_48
  | 58 => some sg_X7_of_58
  | 65 => some sg_X7_of_65
  | 75 => some sg_X7_of_75
  | 85 => some sg_X7_of_85
  | _ => none
theorem so_X7_of : ∀ t sg, sgs_X7_of t = some sg → sgOK mi_X7_of gm_X7_of sg = true ∧ segPc sg = t := by
  intro t sg h
  unfold sgs_X7_of at h
  split at h
  · cases h; exact ⟨so_X7_of_0, rfl⟩
  · cases h; exact ⟨so_X7_of_10, rfl⟩
  · cases h; exact ⟨so_X7_of_48, rfl⟩
  · cases h; exact ⟨so_X7_of_58, rfl⟩
  · cases h; exact ⟨so_X7_of_65, rfl⟩
  · cases h; exact ⟨so_X7_of_75, rfl⟩
  · cases h; exact ⟨so_X7_of_85, rfl⟩
  · cases h
def gm_X7_leastLight : List MI := [mi_X7_lightAt]
def sg_X7_leastLight_0 : List Ins := [(0, .aload_n 0, 0, 0, 0, 0), (1, .getfield 13, 7, 1, 718, 0), (4, .iconst 0, 0, 0, 0, 0), (5, .iload_n 1, 0, 0, 0, 0), (6, .iconst 0, 0, 0, 0, 0), (7, .invokestatic 40, 793, 0, 0, 3), (10, .faload, 0, 0, 0, 0), (11, .fstore_n 2, 0, 0, 0, 0), (12, .iconst 1, 1, 0, 0, 0), (13, .istore_n 3, 0, 0, 0, 0), (14, .nop, 0, 0, 0, 0)]
theorem so_X7_leastLight_0 : sgOK mi_X7_leastLight gm_X7_leastLight sg_X7_leastLight_0 = true := by decide +kernel
def sg_X7_leastLight_14 : List Ins := [(14, .iload_n 3, 0, 0, 0, 0), (15, .bipush 120, 120, 0, 0, 0), (17, .if_icmp .ge 36, 0, 0, 53, 0), (20, .aload_n 0, 0, 0, 0, 0), (21, .getfield 13, 7, 1, 718, 0), (24, .iconst 0, 0, 0, 0, 0), (25, .iload_n 1, 0, 0, 0, 0), (26, .iload_n 3, 0, 0, 0, 0), (27, .invokestatic 40, 793, 0, 0, 3), (30, .faload, 0, 0, 0, 0), (31, .fstore 4, 0, 0, 0, 0), (33, .fload 4, 0, 0, 0, 0), (35, .fload_n 2, 0, 0, 0, 0), (36, .fcmp .g, 0, 0, 0, 0), (37, .ifCond .ge 8, 0, 0, 45, 0), (40, .fload 4, 0, 0, 0, 0), (42, .goto 4, 0, 0, 46, 0)]
theorem so_X7_leastLight_14 : sgOK mi_X7_leastLight gm_X7_leastLight sg_X7_leastLight_14 = true := by decide +kernel
def sg_X7_leastLight_45 : List Ins := [(45, .fload_n 2, 0, 0, 0, 0), (46, .fstore_n 2, 0, 0, 0, 0), (47, .iinc 3 1, 1, 0, 0, 0), (50, .goto (-36), 0, 0, 14, 0)]
theorem so_X7_leastLight_45 : sgOK mi_X7_leastLight gm_X7_leastLight sg_X7_leastLight_45 = true := by decide +kernel
def sg_X7_leastLight_46 : List Ins := [(46, .fstore_n 2, 0, 0, 0, 0), (47, .iinc 3 1, 1, 0, 0, 0), (50, .goto (-36), 0, 0, 14, 0)]
theorem so_X7_leastLight_46 : sgOK mi_X7_leastLight gm_X7_leastLight sg_X7_leastLight_46 = true := by decide +kernel
def sg_X7_leastLight_53 : List Ins := [(53, .fload_n 2, 0, 0, 0, 0), (54, .freturn, 0, 0, 0, 0)]
theorem so_X7_leastLight_53 : sgOK mi_X7_leastLight gm_X7_leastLight sg_X7_leastLight_53 = true := by decide +kernel
def sgs_X7_leastLight : Nat → Option (List Ins) := fun t => match t with
  | 0 => some sg_X7_leastLight_0
  | 45 => some sg_X7_leastLight_45
  | 46 => some sg_X7_leastLight_46
  | 53 => some sg_X7_leastLight_53
  | _ => none
theorem so_X7_leastLight : ∀ t sg, sgs_X7_leastLight t = some sg → sgOK mi_X7_leastLight gm_X7_leastLight sg = true ∧ segPc sg = t := by
  intro t sg h
  unfold sgs_X7_leastLight at h
  split at h
  · cases h; exact ⟨so_X7_leastLight_0, rfl⟩
  · cases h; exact ⟨so_X7_leastLight_45, rfl⟩
  · cases h; exact ⟨so_X7_leastLight_46, rfl⟩
  · cases h; exact ⟨so_X7_leastLight_53, rfl⟩
  · cases h
def gm_X7_allLight : List MI := [mi_X7_lightAt]
def sg_X7_allLight_0 : List Ins := [(0, .fconst 0, 0, 0, 0, 0), (1, .fstore_n 2, 0, 0, 0, 0), (2, .iconst 0, 0, 0, 0, 0), (3, .istore_n 3, 0, 0, 0, 0), (4, .nop, 0, 0, 0, 0)]
theorem so_X7_allLight_0 : sgOK mi_X7_allLight gm_X7_allLight sg_X7_allLight_0 = true := by decide +kernel
def sg_X7_allLight_4 : List Ins := [(4, .iload_n 3, 0, 0, 0, 0), (5, .bipush 120, 120, 0, 0, 0), (7, .if_icmp .ge 23, 0, 0, 30, 0), (10, .fload_n 2, 0, 0, 0, 0), (11, .aload_n 0, 0, 0, 0, 0), (12, .getfield 13, 7, 1, 718, 0), (15, .iconst 0, 0, 0, 0, 0), (16, .iload_n 1, 0, 0, 0, 0), (17, .iload_n 3, 0, 0, 0, 0), (18, .invokestatic 40, 793, 0, 0, 3), (21, .faload, 0, 0, 0, 0), (22, .fadd, 0, 0, 0, 0), (23, .fstore_n 2, 0, 0, 0, 0), (24, .iinc 3 1, 1, 0, 0, 0), (27, .goto (-23), 0, 0, 4, 0)]
theorem so_X7_allLight_4 : sgOK mi_X7_allLight gm_X7_allLight sg_X7_allLight_4 = true := by decide +kernel
def sg_X7_allLight_30 : List Ins := [(30, .fload_n 2, 0, 0, 0, 0), (31, .freturn, 0, 0, 0, 0)]
theorem so_X7_allLight_30 : sgOK mi_X7_allLight gm_X7_allLight sg_X7_allLight_30 = true := by decide +kernel
def sgs_X7_allLight : Nat → Option (List Ins) := fun t => match t with
  | 0 => some sg_X7_allLight_0
  | 30 => some sg_X7_allLight_30
  | _ => none
theorem so_X7_allLight : ∀ t sg, sgs_X7_allLight t = some sg → sgOK mi_X7_allLight gm_X7_allLight sg = true ∧ segPc sg = t := by
  intro t sg h
  unfold sgs_X7_allLight at h
  split at h
  · cases h; exact ⟨so_X7_allLight_0, rfl⟩
  · cases h; exact ⟨so_X7_allLight_30, rfl⟩
  · cases h
def gm_X7_ofPlate : List MI := [mi_X7_isPlate, mi_X7_in, mi_X7_leastLight, mi_X7_allLight, mi_Jxf58ca_floatToIntBits_5c35a, mi_X7_isSo, mi_X7_flag]
def sg_X7_ofPlate_0 : List Ins := [(0, .aload_n 0, 0, 0, 0, 0), (1, .iload_n 1, 0, 0, 0, 0), (2, .invokevirtual 80, 804, 0, 17, 2), (5, .ifCond .ne 5, 0, 0, 10, 0), (8, .iconst (-1), 1, 1, 0, 0), (9, .ireturn, 0, 0, 0, 0)]
theorem so_X7_ofPlate_0 : sgOK mi_X7_ofPlate gm_X7_ofPlate sg_X7_ofPlate_0 = true := by decide +kernel
def sg_X7_ofPlate_10 : List Ins := [(10, .iload_n 2, 0, 0, 0, 0), (11, .i2l, 0, 0, 0, 0), (12, .lconst 0, 0, 0, 0, 0), (13, .ldc2_w 83, 5, 2, 820, 0), (16, .invokestatic 68, 768, 1, 0, 3), (19, .ifCond .ne 6, 0, 0, 25, 0), (22, .bipush (-2), 2, 1, 0, 0), (24, .ireturn, 0, 0, 0, 0)]
theorem so_X7_ofPlate_10 : sgOK mi_X7_ofPlate gm_X7_ofPlate sg_X7_ofPlate_10 = true := by decide +kernel
def sg_X7_ofPlate_25 : List Ins := [(25, .iload_n 2, 0, 0, 0, 0), (26, .iconst 3, 3, 0, 0, 0), (27, .if_icmp .le 25, 0, 0, 52, 0), (30, .iload_n 2, 0, 0, 0, 0), (31, .iconst 4, 4, 0, 0, 0), (32, .if_icmp .ne 11, 0, 0, 43, 0), (35, .aload_n 0, 0, 0, 0, 0), (36, .iload_n 1, 0, 0, 0, 0), (37, .invokevirtual 192, 985, 2, 17, 2), (40, .goto 8, 0, 0, 48, 0)]
theorem so_X7_ofPlate_25 : sgOK mi_X7_ofPlate gm_X7_ofPlate sg_X7_ofPlate_25 = true := by decide +kernel
def sg_X7_ofPlate_43 : List Ins := [(43, .aload_n 0, 0, 0, 0, 0), (44, .iload_n 1, 0, 0, 0, 0), (45, .invokevirtual 196, 989, 3, 17, 2), (48, .invokestatic 171, 947, 4, 0, 1), (51, .ireturn, 0, 0, 0, 0)]
theorem so_X7_ofPlate_43 : sgOK mi_X7_ofPlate gm_X7_ofPlate sg_X7_ofPlate_43 = true := by decide +kernel
def sg_X7_ofPlate_48 : List Ins := [(48, .invokestatic 171, 947, 4, 0, 1), (51, .ireturn, 0, 0, 0, 0)]
theorem so_X7_ofPlate_48 : sgOK mi_X7_ofPlate gm_X7_ofPlate sg_X7_ofPlate_48 = true := by decide +kernel
def sg_X7_ofPlate_52 : List Ins := [(52, .iconst 0, 0, 0, 0, 0), (53, .istore_n 3, 0, 0, 0, 0), (54, .iconst 0, 0, 0, 0, 0), (55, .istore 4, 0, 0, 0, 0), (57, .nop, 0, 0, 0, 0)]
theorem so_X7_ofPlate_52 : sgOK mi_X7_ofPlate gm_X7_ofPlate sg_X7_ofPlate_52 = true := by decide +kernel
def sg_X7_ofPlate_57 : List Ins := [(57, .iload 4, 0, 0, 0, 0), (59, .bipush 120, 120, 0, 0, 0), (61, .if_icmp .ge 23, 0, 0, 84, 0), (64, .iload_n 3, 0, 0, 0, 0), (65, .aload_n 0, 0, 0, 0, 0), (66, .iload_n 1, 0, 0, 0, 0), (67, .iload 4, 0, 0, 0, 0), (69, .iload_n 2, 0, 0, 0, 0), (70, .invokevirtual 186, 969, 5, 17, 4), (73, .invokestatic 177, 957, 6, 0, 1), (76, .iadd, 0, 0, 0, 0), (77, .istore_n 3, 0, 0, 0, 0), (78, .iinc 4 1, 1, 0, 0, 0), (81, .goto (-24), 0, 0, 57, 0)]
theorem so_X7_ofPlate_57 : sgOK mi_X7_ofPlate gm_X7_ofPlate sg_X7_ofPlate_57 = true := by decide +kernel
def sg_X7_ofPlate_84 : List Ins := [(84, .iload_n 3, 0, 0, 0, 0), (85, .ireturn, 0, 0, 0, 0)]
theorem so_X7_ofPlate_84 : sgOK mi_X7_ofPlate gm_X7_ofPlate sg_X7_ofPlate_84 = true := by decide +kernel
def sgs_X7_ofPlate : Nat → Option (List Ins) := fun t => match t with
  | 0 => some sg_X7_ofPlate_0
  | 10 => some sg_X7_ofPlate_10
  | 25 => some sg_X7_ofPlate_25
  | 43 => some sg_X7_ofPlate_43
  | 48 => some sg_X7_ofPlate_48
  | 52 => some sg_X7_ofPlate_52
  | 84 => some sg_X7_ofPlate_84
  | _ => none
theorem so_X7_ofPlate : ∀ t sg, sgs_X7_ofPlate t = some sg → sgOK mi_X7_ofPlate gm_X7_ofPlate sg = true ∧ segPc sg = t := by
  intro t sg h
  unfold sgs_X7_ofPlate at h
  split at h
  · cases h; exact ⟨so_X7_ofPlate_0, rfl⟩
  · cases h; exact ⟨so_X7_ofPlate_10, rfl⟩
  · cases h; exact ⟨so_X7_ofPlate_25, rfl⟩
  · cases h; exact ⟨so_X7_ofPlate_43, rfl⟩
  · cases h; exact ⟨so_X7_ofPlate_48, rfl⟩
  · cases h; exact ⟨so_X7_ofPlate_52, rfl⟩
  · cases h; exact ⟨so_X7_ofPlate_84, rfl⟩
  · cases h
def gm_X7_count : List MI := []
def sg_X7_count_0 : List Ins := [(0, .iload_n 1, 0, 0, 0, 0), (1, .tableswitch 104 0 9 #[55, 62, 69, 77, 85, 85, 85, 85, 94, 99], 55, 0, 0, 0)]
theorem so_X7_count_0 : sgOK mi_X7_count gm_X7_count sg_X7_count_0 = true := by decide +kernel
def sg_X7_count_56 : List Ins := [(56, .aload_n 0, 0, 0, 0, 0), (57, .getfield 7, 7, 0, 717, 0), (60, .iconst 4, 4, 0, 0, 0), (61, .iaload, 8, 0, 0, 0), (62, .ireturn, 0, 0, 0, 0)]
theorem so_X7_count_56 : sgOK mi_X7_count gm_X7_count sg_X7_count_56 = true := by decide +kernel
def sg_X7_count_63 : List Ins := [(63, .aload_n 0, 0, 0, 0, 0), (64, .getfield 7, 7, 0, 717, 0), (67, .iconst 5, 5, 0, 0, 0), (68, .iaload, 8, 0, 0, 0), (69, .ireturn, 0, 0, 0, 0)]
theorem so_X7_count_63 : sgOK mi_X7_count gm_X7_count sg_X7_count_63 = true := by decide +kernel
def sg_X7_count_70 : List Ins := [(70, .aload_n 0, 0, 0, 0, 0), (71, .getfield 7, 7, 0, 717, 0), (74, .bipush 6, 6, 0, 0, 0), (76, .iaload, 8, 0, 0, 0), (77, .ireturn, 0, 0, 0, 0)]
theorem so_X7_count_70 : sgOK mi_X7_count gm_X7_count sg_X7_count_70 = true := by decide +kernel
def sg_X7_count_78 : List Ins := [(78, .aload_n 0, 0, 0, 0, 0), (79, .getfield 7, 7, 0, 717, 0), (82, .bipush 7, 7, 0, 0, 0), (84, .iaload, 8, 0, 0, 0), (85, .ireturn, 0, 0, 0, 0)]
theorem so_X7_count_78 : sgOK mi_X7_count gm_X7_count sg_X7_count_78 = true := by decide +kernel
def sg_X7_count_86 : List Ins := [(86, .aload_n 0, 0, 0, 0, 0), (87, .getfield 7, 7, 0, 717, 0), (90, .iload_n 1, 0, 0, 0, 0), (91, .iconst 4, 4, 0, 0, 0), (92, .isub, 0, 0, 0, 0), (93, .iaload, 8, 0, 0, 0), (94, .ireturn, 0, 0, 0, 0)]
theorem so_X7_count_86 : sgOK mi_X7_count gm_X7_count sg_X7_count_86 = true := by decide +kernel
def sg_X7_count_95 : List Ins := [(95, .aload_n 0, 0, 0, 0, 0), (96, .getfield 199, 7, 6, 723, 0), (99, .ireturn, 0, 0, 0, 0)]
theorem so_X7_count_95 : sgOK mi_X7_count gm_X7_count sg_X7_count_95 = true := by decide +kernel
def sg_X7_count_100 : List Ins := [(100, .aload_n 0, 0, 0, 0, 0), (101, .getfield 27, 7, 2, 719, 0), (104, .ireturn, 0, 0, 0, 0)]
theorem so_X7_count_100 : sgOK mi_X7_count gm_X7_count sg_X7_count_100 = true := by decide +kernel
def sg_X7_count_105 : List Ins := [(105, .bipush (-2), 2, 1, 0, 0), (107, .ireturn, 0, 0, 0, 0)]
theorem so_X7_count_105 : sgOK mi_X7_count gm_X7_count sg_X7_count_105 = true := by decide +kernel
def sgs_X7_count : Nat → Option (List Ins) := fun t => match t with
  | 0 => some sg_X7_count_0
  | 56 => some sg_X7_count_56
  | 63 => some sg_X7_count_63
  | 70 => some sg_X7_count_70
  | 78 => some sg_X7_count_78
  | 86 => some sg_X7_count_86
  | 95 => some sg_X7_count_95
  | 100 => some sg_X7_count_100
  | 105 => some sg_X7_count_105
  | _ => none
theorem so_X7_count : ∀ t sg, sgs_X7_count t = some sg → sgOK mi_X7_count gm_X7_count sg = true ∧ segPc sg = t := by
  intro t sg h
  unfold sgs_X7_count at h
  split at h
  · cases h; exact ⟨so_X7_count_0, rfl⟩
  · cases h; exact ⟨so_X7_count_56, rfl⟩
  · cases h; exact ⟨so_X7_count_63, rfl⟩
  · cases h; exact ⟨so_X7_count_70, rfl⟩
  · cases h; exact ⟨so_X7_count_78, rfl⟩
  · cases h; exact ⟨so_X7_count_86, rfl⟩
  · cases h; exact ⟨so_X7_count_95, rfl⟩
  · cases h; exact ⟨so_X7_count_100, rfl⟩
  · cases h; exact ⟨so_X7_count_105, rfl⟩
  · cases h
def gm_X7_mean : List MI := [mi_X7_lightAt, mi_Jxe99ae_doubleToLongBits_ccdee]
def sg_X7_mean_0 : List Ins := [(0, .dconst 0, 0, 0, 0, 0), (1, .dstore_n 1, 0, 0, 0, 0), (2, .iconst 0, 0, 0, 0, 0), (3, .istore_n 3, 0, 0, 0, 0), (4, .nop, 0, 0, 0, 0)]
theorem so_X7_mean_0 : sgOK mi_X7_mean gm_X7_mean sg_X7_mean_0 = true := by decide +kernel
def sg_X7_mean_4 : List Ins := [(4, .iload_n 3, 0, 0, 0, 0), (5, .bipush 120, 120, 0, 0, 0), (7, .if_icmp .ge 42, 0, 0, 49, 0), (10, .aload_n 0, 0, 0, 0, 0), (11, .getfield 7, 7, 0, 717, 0), (14, .bipush 6, 6, 0, 0, 0), (16, .iaload, 8, 0, 0, 0), (17, .bipush (-6), 6, 1, 0, 0), (19, .if_icmp .eq 30, 0, 0, 49, 0), (22, .dload_n 1, 0, 0, 0, 0), (23, .aload_n 0, 0, 0, 0, 0), (24, .getfield 13, 7, 1, 718, 0), (27, .iconst 0, 0, 0, 0, 0), (28, .aload_n 0, 0, 0, 0, 0), (29, .getfield 7, 7, 0, 717, 0), (32, .bipush 6, 6, 0, 0, 0), (34, .iaload, 8, 0, 0, 0), (35, .iload_n 3, 0, 0, 0, 0), (36, .invokestatic 40, 793, 0, 0, 3), (39, .faload, 0, 0, 0, 0), (40, .f2d, 0, 0, 0, 0), (41, .dadd, 0, 0, 0, 0), (42, .dstore_n 1, 0, 0, 0, 0), (43, .iinc 3 1, 1, 0, 0, 0), (46, .goto (-42), 0, 0, 4, 0)]
theorem so_X7_mean_4 : sgOK mi_X7_mean gm_X7_mean sg_X7_mean_4 = true := by decide +kernel
def sg_X7_mean_49 : List Ins := [(49, .dload_n 1, 0, 0, 0, 0), (50, .ldc2_w 202, 4638144666238189568, 3, 1001, 0), (53, .ddiv, 0, 0, 0, 0), (54, .invokestatic 204, 1002, 1, 0, 1), (57, .lreturn, 0, 0, 0, 0)]
theorem so_X7_mean_49 : sgOK mi_X7_mean gm_X7_mean sg_X7_mean_49 = true := by decide +kernel
def sgs_X7_mean : Nat → Option (List Ins) := fun t => match t with
  | 0 => some sg_X7_mean_0
  | 49 => some sg_X7_mean_49
  | _ => none
theorem so_X7_mean : ∀ t sg, sgs_X7_mean t = some sg → sgOK mi_X7_mean gm_X7_mean sg = true ∧ segPc sg = t := by
  intro t sg h
  unfold sgs_X7_mean at h
  split at h
  · cases h; exact ⟨so_X7_mean_0, rfl⟩
  · cases h; exact ⟨so_X7_mean_49, rfl⟩
  · cases h
def gm_X7_tooDark : List MI := [mi_X7_promisedTo, mi_X7_lightAt, mi_X7_isBright, mi_X7_flag]
def sg_X7_tooDark_0 : List Ins := [(0, .iconst 0, 0, 0, 0, 0), (1, .istore_n 3, 0, 0, 0, 0), (2, .iconst 0, 0, 0, 0, 0), (3, .istore 4, 0, 0, 0, 0), (5, .nop, 0, 0, 0, 0)]
theorem so_X7_tooDark_0 : sgOK mi_X7_tooDark gm_X7_tooDark sg_X7_tooDark_0 = true := by decide +kernel
def sg_X7_tooDark_5 : List Ins := [(5, .iload 4, 0, 0, 0, 0), (7, .bipush 120, 120, 0, 0, 0), (9, .if_icmp .ge 92, 0, 0, 101, 0), (12, .iload 4, 0, 0, 0, 0), (14, .iload_n 2, 0, 0, 0, 0), (15, .if_icmp .eq 20, 0, 0, 35, 0), (18, .aload_n 0, 0, 0, 0, 0), (19, .iconst 0, 0, 0, 0, 0), (20, .iload_n 1, 0, 0, 0, 0), (21, .iload 4, 0, 0, 0, 0), (23, .invokevirtual 43, 849, 0, 17, 4), (26, .bipush (-6), 6, 1, 0, 0), (28, .if_icmp .eq 7, 0, 0, 35, 0), (31, .iconst 1, 1, 0, 0, 0), (32, .goto 4, 0, 0, 36, 0)]
theorem so_X7_tooDark_5 : sgOK mi_X7_tooDark gm_X7_tooDark sg_X7_tooDark_5 = true := by decide +kernel
def sg_X7_tooDark_35 : List Ins := [(35, .iconst 0, 0, 0, 0, 0), (36, .istore 5, 0, 0, 0, 0), (38, .iload_n 3, 0, 0, 0, 0), (39, .iload 5, 0, 0, 0, 0), (41, .ifCond .eq 48, 0, 0, 89, 0), (44, .aload_n 0, 0, 0, 0, 0), (45, .iconst 0, 0, 0, 0, 0), (46, .aload_n 0, 0, 0, 0, 0), (47, .getfield 13, 7, 1, 718, 0), (50, .iconst 0, 0, 0, 0, 0), (51, .iload_n 1, 0, 0, 0, 0), (52, .iload 4, 0, 0, 0, 0), (54, .invokestatic 40, 793, 1, 0, 3), (57, .faload, 0, 0, 0, 0), (58, .invokevirtual 58, 857, 2, 17, 3), (61, .ifCond .eq 28, 0, 0, 89, 0), (64, .aload_n 0, 0, 0, 0, 0), (65, .iconst 0, 0, 0, 0, 0), (66, .aload_n 0, 0, 0, 0, 0), (67, .getfield 13, 7, 1, 718, 0), (70, .bipush 9, 9, 0, 0, 0), (72, .iload_n 1, 0, 0, 0, 0), (73, .iload 4, 0, 0, 0, 0), (75, .invokestatic 40, 793, 1, 0, 3), (78, .faload, 0, 0, 0, 0), (79, .invokevirtual 58, 857, 2, 17, 3), (82, .ifCond .ne 7, 0, 0, 89, 0), (85, .iconst 1, 1, 0, 0, 0), (86, .goto 4, 0, 0, 90, 0)]
theorem so_X7_tooDark_35 : sgOK mi_X7_tooDark gm_X7_tooDark sg_X7_tooDark_35 = true := by decide +kernel
def sg_X7_tooDark_36 : List Ins := [(36, .istore 5, 0, 0, 0, 0), (38, .iload_n 3, 0, 0, 0, 0), (39, .iload 5, 0, 0, 0, 0), (41, .ifCond .eq 48, 0, 0, 89, 0), (44, .aload_n 0, 0, 0, 0, 0), (45, .iconst 0, 0, 0, 0, 0), (46, .aload_n 0, 0, 0, 0, 0), (47, .getfield 13, 7, 1, 718, 0), (50, .iconst 0, 0, 0, 0, 0), (51, .iload_n 1, 0, 0, 0, 0), (52, .iload 4, 0, 0, 0, 0), (54, .invokestatic 40, 793, 1, 0, 3), (57, .faload, 0, 0, 0, 0), (58, .invokevirtual 58, 857, 2, 17, 3), (61, .ifCond .eq 28, 0, 0, 89, 0), (64, .aload_n 0, 0, 0, 0, 0), (65, .iconst 0, 0, 0, 0, 0), (66, .aload_n 0, 0, 0, 0, 0), (67, .getfield 13, 7, 1, 718, 0), (70, .bipush 9, 9, 0, 0, 0), (72, .iload_n 1, 0, 0, 0, 0), (73, .iload 4, 0, 0, 0, 0), (75, .invokestatic 40, 793, 1, 0, 3), (78, .faload, 0, 0, 0, 0), (79, .invokevirtual 58, 857, 2, 17, 3), (82, .ifCond .ne 7, 0, 0, 89, 0), (85, .iconst 1, 1, 0, 0, 0), (86, .goto 4, 0, 0, 90, 0)]
theorem so_X7_tooDark_36 : sgOK mi_X7_tooDark gm_X7_tooDark sg_X7_tooDark_36 = true := by decide +kernel
def sg_X7_tooDark_89 : List Ins := [(89, .iconst 0, 0, 0, 0, 0), (90, .invokestatic 177, 957, 3, 0, 1), (93, .iadd, 0, 0, 0, 0), (94, .istore_n 3, 0, 0, 0, 0), (95, .iinc 4 1, 1, 0, 0, 0), (98, .goto (-93), 0, 0, 5, 0)]
theorem so_X7_tooDark_89 : sgOK mi_X7_tooDark gm_X7_tooDark sg_X7_tooDark_89 = true := by decide +kernel
def sg_X7_tooDark_90 : List Ins := [(90, .invokestatic 177, 957, 3, 0, 1), (93, .iadd, 0, 0, 0, 0), (94, .istore_n 3, 0, 0, 0, 0), (95, .iinc 4 1, 1, 0, 0, 0), (98, .goto (-93), 0, 0, 5, 0)]
theorem so_X7_tooDark_90 : sgOK mi_X7_tooDark gm_X7_tooDark sg_X7_tooDark_90 = true := by decide +kernel
def sg_X7_tooDark_101 : List Ins := [(101, .iload_n 3, 0, 0, 0, 0), (102, .ireturn, 0, 0, 0, 0)]
theorem so_X7_tooDark_101 : sgOK mi_X7_tooDark gm_X7_tooDark sg_X7_tooDark_101 = true := by decide +kernel
def sgs_X7_tooDark : Nat → Option (List Ins) := fun t => match t with
  | 0 => some sg_X7_tooDark_0
  | 35 => some sg_X7_tooDark_35
  | 36 => some sg_X7_tooDark_36
  | 89 => some sg_X7_tooDark_89
  | 90 => some sg_X7_tooDark_90
  | 101 => some sg_X7_tooDark_101
  | _ => none
theorem so_X7_tooDark : ∀ t sg, sgs_X7_tooDark t = some sg → sgOK mi_X7_tooDark gm_X7_tooDark sg = true ∧ segPc sg = t := by
  intro t sg h
  unfold sgs_X7_tooDark at h
  split at h
  · cases h; exact ⟨so_X7_tooDark_0, rfl⟩
  · cases h; exact ⟨so_X7_tooDark_35, rfl⟩
  · cases h; exact ⟨so_X7_tooDark_36, rfl⟩
  · cases h; exact ⟨so_X7_tooDark_89, rfl⟩
  · cases h; exact ⟨so_X7_tooDark_90, rfl⟩
  · cases h; exact ⟨so_X7_tooDark_101, rfl⟩
  · cases h
def gm_X7_ifWritten : List MI := [mi_X7_isWriter, mi_X7_isThere, mi_X7_in, mi_X7_spotOf, mi_X7_looks, mi_X7_copies, mi_X7_writes, mi_X7_spoilt, mi_X7_tooDark, mi_X7_rooms]
def sg_X7_ifWritten_0 : List Ins := [(0, .aload_n 0, 0, 0, 0, 0), (1, .iload_n 1, 0, 0, 0, 0), (2, .invokevirtual 85, 833, 0, 17, 2), (5, .ifCond .eq 12, 0, 0, 17, 0), (8, .aload_n 0, 0, 0, 0, 0), (9, .iload_n 2, 0, 0, 0, 0), (10, .iload_n 3, 0, 0, 0, 0), (11, .invokevirtual 88, 837, 1, 17, 3), (14, .ifCond .ne 5, 0, 0, 19, 0), (17, .iconst (-1), 1, 1, 0, 0), (18, .ireturn, 0, 0, 0, 0)]
theorem so_X7_ifWritten_0 : sgOK mi_X7_ifWritten gm_X7_ifWritten sg_X7_ifWritten_0 = true := by decide +kernel
def sg_X7_ifWritten_17 : List Ins := [(17, .iconst (-1), 1, 1, 0, 0), (18, .ireturn, 0, 0, 0, 0)]
theorem so_X7_ifWritten_17 : sgOK mi_X7_ifWritten gm_X7_ifWritten sg_X7_ifWritten_17 = true := by decide +kernel
def sg_X7_ifWritten_19 : List Ins := [(19, .iload 4, 0, 0, 0, 0), (21, .i2l, 0, 0, 0, 0), (22, .lconst 0, 0, 0, 0, 0), (23, .ldc2_w 210, 2, 2, 1016, 0), (26, .invokestatic 68, 768, 2, 0, 3), (29, .ifCond .ne 6, 0, 0, 35, 0), (32, .bipush (-2), 2, 1, 0, 0), (34, .ireturn, 0, 0, 0, 0)]
theorem so_X7_ifWritten_19 : sgOK mi_X7_ifWritten gm_X7_ifWritten sg_X7_ifWritten_19 = true := by decide +kernel
def sg_X7_ifWritten_35 : List Ins := [(35, .aload_n 0, 0, 0, 0, 0), (36, .getfield 7, 7, 0, 717, 0), (39, .bipush 6, 6, 0, 0, 0), (41, .iaload, 8, 0, 0, 0), (42, .istore 5, 0, 0, 0, 0), (44, .iload_n 2, 0, 0, 0, 0), (45, .iload_n 3, 0, 0, 0, 0), (46, .invokestatic 94, 846, 3, 0, 2), (49, .istore 6, 0, 0, 0, 0), (51, .aload_n 0, 0, 0, 0, 0), (52, .iload 5, 0, 0, 0, 0), (54, .invokevirtual 100, 866, 4, 17, 2), (57, .aload_n 0, 0, 0, 0, 0), (58, .iconst 0, 0, 0, 0, 0), (59, .bipush 9, 9, 0, 0, 0), (61, .invokevirtual 31, 778, 5, 17, 3), (64, .aload_n 0, 0, 0, 0, 0), (65, .bipush 9, 9, 0, 0, 0), (67, .iload 5, 0, 0, 0, 0), (69, .iload 6, 0, 0, 0, 0), (71, .iload_n 1, 0, 0, 0, 0), (72, .iconst 0, 0, 0, 0, 0), (73, .invokevirtual 104, 874, 6, 17, 6), (76, .iload 4, 0, 0, 0, 0), (78, .ifCond .ne 16, 0, 0, 94, 0), (81, .aload_n 0, 0, 0, 0, 0), (82, .bipush 9, 9, 0, 0, 0), (84, .iload 5, 0, 0, 0, 0), (86, .iload 6, 0, 0, 0, 0), (88, .invokevirtual 108, 882, 7, 17, 4), (91, .goto 28, 0, 0, 119, 0)]
theorem so_X7_ifWritten_35 : sgOK mi_X7_ifWritten gm_X7_ifWritten sg_X7_ifWritten_35 = true := by decide +kernel
def sg_X7_ifWritten_94 : List Ins := [(94, .iload 4, 0, 0, 0, 0), (96, .iconst 1, 1, 0, 0, 0), (97, .if_icmp .ne 14, 0, 0, 111, 0), (100, .aload_n 0, 0, 0, 0, 0), (101, .iload 5, 0, 0, 0, 0), (103, .iload 6, 0, 0, 0, 0), (105, .invokevirtual 212, 1017, 8, 17, 3), (108, .goto 11, 0, 0, 119, 0)]
theorem so_X7_ifWritten_94 : sgOK mi_X7_ifWritten gm_X7_ifWritten sg_X7_ifWritten_94 = true := by decide +kernel
def sg_X7_ifWritten_111 : List Ins := [(111, .aload_n 0, 0, 0, 0, 0), (112, .bipush 9, 9, 0, 0, 0), (114, .iload 5, 0, 0, 0, 0), (116, .invokevirtual 215, 1021, 9, 17, 3), (119, .ireturn, 0, 0, 0, 0)]
theorem so_X7_ifWritten_111 : sgOK mi_X7_ifWritten gm_X7_ifWritten sg_X7_ifWritten_111 = true := by decide +kernel
def sg_X7_ifWritten_119 : List Ins := [(119, .ireturn, 0, 0, 0, 0)]
theorem so_X7_ifWritten_119 : sgOK mi_X7_ifWritten gm_X7_ifWritten sg_X7_ifWritten_119 = true := by decide +kernel
def sgs_X7_ifWritten : Nat → Option (List Ins) := fun t => match t with
  | 0 => some sg_X7_ifWritten_0
  | 17 => some sg_X7_ifWritten_17
  | 19 => some sg_X7_ifWritten_19
  | 35 => some sg_X7_ifWritten_35
  | 94 => some sg_X7_ifWritten_94
  | 111 => some sg_X7_ifWritten_111
  | 119 => some sg_X7_ifWritten_119
  | _ => none
theorem so_X7_ifWritten : ∀ t sg, sgs_X7_ifWritten t = some sg → sgOK mi_X7_ifWritten gm_X7_ifWritten sg = true ∧ segPc sg = t := by
  intro t sg h
  unfold sgs_X7_ifWritten at h
  split at h
  · cases h; exact ⟨so_X7_ifWritten_0, rfl⟩
  · cases h; exact ⟨so_X7_ifWritten_17, rfl⟩
  · cases h; exact ⟨so_X7_ifWritten_19, rfl⟩
  · cases h; exact ⟨so_X7_ifWritten_35, rfl⟩
  · cases h; exact ⟨so_X7_ifWritten_94, rfl⟩
  · cases h; exact ⟨so_X7_ifWritten_111, rfl⟩
  · cases h; exact ⟨so_X7_ifWritten_119, rfl⟩
  · cases h
def gm_X7_bestPlace : List MI := [mi_X7_best]
def sg_X7_bestPlace_0 : List Ins := [(0, .aload_n 0, 0, 0, 0, 0), (1, .getfield 7, 7, 0, 717, 0), (4, .bipush 6, 6, 0, 0, 0), (6, .iaload, 8, 0, 0, 0), (7, .bipush (-6), 6, 1, 0, 0), (9, .if_icmp .ne 7, 0, 0, 16, 0), (12, .iconst (-1), 1, 1, 0, 0), (13, .goto 15, 0, 0, 28, 0)]
theorem so_X7_bestPlace_0 : sgOK mi_X7_bestPlace gm_X7_bestPlace sg_X7_bestPlace_0 = true := by decide +kernel
def sg_X7_bestPlace_16 : List Ins := [(16, .aload_n 0, 0, 0, 0, 0), (17, .iconst 0, 0, 0, 0, 0), (18, .aload_n 0, 0, 0, 0, 0), (19, .getfield 7, 7, 0, 717, 0), (22, .bipush 6, 6, 0, 0, 0), (24, .iaload, 8, 0, 0, 0), (25, .invokevirtual 218, 1029, 0, 17, 3), (28, .ireturn, 0, 0, 0, 0)]
theorem so_X7_bestPlace_16 : sgOK mi_X7_bestPlace gm_X7_bestPlace sg_X7_bestPlace_16 = true := by decide +kernel
def sg_X7_bestPlace_28 : List Ins := [(28, .ireturn, 0, 0, 0, 0)]
theorem so_X7_bestPlace_28 : sgOK mi_X7_bestPlace gm_X7_bestPlace sg_X7_bestPlace_28 = true := by decide +kernel
def sgs_X7_bestPlace : Nat → Option (List Ins) := fun t => match t with
  | 0 => some sg_X7_bestPlace_0
  | 16 => some sg_X7_bestPlace_16
  | 28 => some sg_X7_bestPlace_28
  | _ => none
theorem so_X7_bestPlace : ∀ t sg, sgs_X7_bestPlace t = some sg → sgOK mi_X7_bestPlace gm_X7_bestPlace sg = true ∧ segPc sg = t := by
  intro t sg h
  unfold sgs_X7_bestPlace at h
  split at h
  · cases h; exact ⟨so_X7_bestPlace_0, rfl⟩
  · cases h; exact ⟨so_X7_bestPlace_16, rfl⟩
  · cases h; exact ⟨so_X7_bestPlace_28, rfl⟩
  · cases h
def gm_X7_fills : List MI := [mi_X7_isWriter, mi_X7_copies, mi_X7_best, mi_X7_writes]
def sg_X7_fills_0 : List Ins := [(0, .aload_n 0, 0, 0, 0, 0), (1, .iload_n 1, 0, 0, 0, 0), (2, .invokevirtual 85, 833, 0, 17, 2), (5, .ifCond .eq 15, 0, 0, 20, 0), (8, .aload_n 0, 0, 0, 0, 0), (9, .getfield 7, 7, 0, 717, 0), (12, .bipush 6, 6, 0, 0, 0), (14, .iaload, 8, 0, 0, 0), (15, .bipush (-6), 6, 1, 0, 0), (17, .if_icmp .ne 5, 0, 0, 22, 0), (20, .iconst (-1), 1, 1, 0, 0), (21, .ireturn, 0, 0, 0, 0)]
theorem so_X7_fills_0 : sgOK mi_X7_fills gm_X7_fills sg_X7_fills_0 = true := by decide +kernel
def sg_X7_fills_20 : List Ins := [(20, .iconst (-1), 1, 1, 0, 0), (21, .ireturn, 0, 0, 0, 0)]
theorem so_X7_fills_20 : sgOK mi_X7_fills gm_X7_fills sg_X7_fills_20 = true := by decide +kernel
def sg_X7_fills_22 : List Ins := [(22, .aload_n 0, 0, 0, 0, 0), (23, .iconst 0, 0, 0, 0, 0), (24, .bipush 9, 9, 0, 0, 0), (26, .invokevirtual 31, 778, 1, 17, 3), (29, .iconst 0, 0, 0, 0, 0), (30, .istore_n 2, 0, 0, 0, 0), (31, .aload_n 0, 0, 0, 0, 0), (32, .bipush 9, 9, 0, 0, 0), (34, .aload_n 0, 0, 0, 0, 0), (35, .getfield 7, 7, 0, 717, 0), (38, .bipush 6, 6, 0, 0, 0), (40, .iaload, 8, 0, 0, 0), (41, .invokevirtual 218, 1029, 2, 17, 3), (44, .istore_n 3, 0, 0, 0, 0), (45, .nop, 0, 0, 0, 0)]
theorem so_X7_fills_22 : sgOK mi_X7_fills gm_X7_fills sg_X7_fills_22 = true := by decide +kernel
def sg_X7_fills_45 : List Ins := [(45, .iload_n 3, 0, 0, 0, 0), (46, .bipush (-6), 6, 1, 0, 0), (48, .if_icmp .eq 39, 0, 0, 87, 0), (51, .aload_n 0, 0, 0, 0, 0), (52, .bipush 9, 9, 0, 0, 0), (54, .aload_n 0, 0, 0, 0, 0), (55, .getfield 7, 7, 0, 717, 0), (58, .bipush 6, 6, 0, 0, 0), (60, .iaload, 8, 0, 0, 0), (61, .iload_n 3, 0, 0, 0, 0), (62, .iload_n 1, 0, 0, 0, 0), (63, .iconst 0, 0, 0, 0, 0), (64, .invokevirtual 104, 874, 3, 17, 6), (67, .iinc 2 1, 1, 0, 0, 0), (70, .aload_n 0, 0, 0, 0, 0), (71, .bipush 9, 9, 0, 0, 0), (73, .aload_n 0, 0, 0, 0, 0), (74, .getfield 7, 7, 0, 717, 0), (77, .bipush 6, 6, 0, 0, 0), (79, .iaload, 8, 0, 0, 0), (80, .invokevirtual 218, 1029, 2, 17, 3), (83, .istore_n 3, 0, 0, 0, 0), (84, .goto (-39), 0, 0, 45, 0)]
theorem so_X7_fills_45 : sgOK mi_X7_fills gm_X7_fills sg_X7_fills_45 = true := by decide +kernel
def sg_X7_fills_87 : List Ins := [(87, .iload_n 2, 0, 0, 0, 0), (88, .ireturn, 0, 0, 0, 0)]
theorem so_X7_fills_87 : sgOK mi_X7_fills gm_X7_fills sg_X7_fills_87 = true := by decide +kernel
def sgs_X7_fills : Nat → Option (List Ins) := fun t => match t with
  | 0 => some sg_X7_fills_0
  | 20 => some sg_X7_fills_20
  | 22 => some sg_X7_fills_22
  | 87 => some sg_X7_fills_87
  | _ => none
theorem so_X7_fills : ∀ t sg, sgs_X7_fills t = some sg → sgOK mi_X7_fills gm_X7_fills sg = true ∧ segPc sg = t := by
  intro t sg h
  unfold sgs_X7_fills at h
  split at h
  · cases h; exact ⟨so_X7_fills_0, rfl⟩
  · cases h; exact ⟨so_X7_fills_20, rfl⟩
  · cases h; exact ⟨so_X7_fills_22, rfl⟩
  · cases h; exact ⟨so_X7_fills_87, rfl⟩
  · cases h
def gm_X7_leaves : List MI := [mi_X7_hasLetter, mi_X7_inkAt, mi_X7_clouded]
def sg_X7_leaves_0 : List Ins := [(0, .fconst 1, 0, 0, 0, 0), (1, .fstore_n 3, 0, 0, 0, 0), (2, .iconst 0, 0, 0, 0, 0), (3, .istore 4, 0, 0, 0, 0), (5, .nop, 0, 0, 0, 0)]
theorem so_X7_leaves_0 : sgOK mi_X7_leaves gm_X7_leaves sg_X7_leaves_0 = true := by decide +kernel
def sg_X7_leaves_5 : List Ins := [(5, .iload 4, 0, 0, 0, 0), (7, .bipush 120, 120, 0, 0, 0), (9, .if_icmp .ge 70, 0, 0, 79, 0), (12, .aload_n 0, 0, 0, 0, 0), (13, .iconst 0, 0, 0, 0, 0), (14, .aload_n 0, 0, 0, 0, 0), (15, .getfield 7, 7, 0, 717, 0), (18, .bipush 6, 6, 0, 0, 0), (20, .iaload, 8, 0, 0, 0), (21, .iload 4, 0, 0, 0, 0), (23, .invokevirtual 50, 853, 0, 17, 4), (26, .ifCond .eq 47, 0, 0, 73, 0), (29, .aload_n 0, 0, 0, 0, 0), (30, .getfield 7, 7, 0, 717, 0), (33, .iconst 0, 0, 0, 0, 0), (34, .aload_n 0, 0, 0, 0, 0), (35, .getfield 7, 7, 0, 717, 0), (38, .bipush 6, 6, 0, 0, 0), (40, .iaload, 8, 0, 0, 0), (41, .iload 4, 0, 0, 0, 0), (43, .invokestatic 35, 790, 1, 0, 3), (46, .iaload, 8, 0, 0, 0), (47, .bipush 26, 26, 0, 0, 0), (49, .idiv, 0, 0, 0, 0), (50, .iload_n 1, 0, 0, 0, 0), (51, .if_icmp .ne 22, 0, 0, 73, 0), (54, .aload_n 0, 0, 0, 0, 0), (55, .iconst 0, 0, 0, 0, 0), (56, .fload_n 3, 0, 0, 0, 0), (57, .iload_n 2, 0, 0, 0, 0), (58, .iload 4, 0, 0, 0, 0), (60, .aload_n 0, 0, 0, 0, 0), (61, .getfield 7, 7, 0, 717, 0), (64, .bipush 8, 8, 0, 0, 0), (66, .iload_n 1, 0, 0, 0, 0), (67, .iadd, 0, 0, 0, 0), (68, .iaload, 8, 0, 0, 0), (69, .invokevirtual 46, 878, 2, 17, 6), (72, .fstore_n 3, 0, 0, 0, 0), (73, .iinc 4 1, 1, 0, 0, 0), (76, .goto (-71), 0, 0, 5, 0)]
theorem so_X7_leaves_5 : sgOK mi_X7_leaves gm_X7_leaves sg_X7_leaves_5 = true := by decide +kernel
def sg_X7_leaves_73 : List Ins := [(73, .iinc 4 1, 1, 0, 0, 0), (76, .goto (-71), 0, 0, 5, 0)]
theorem so_X7_leaves_73 : sgOK mi_X7_leaves gm_X7_leaves sg_X7_leaves_73 = true := by decide +kernel
def sg_X7_leaves_79 : List Ins := [(79, .fload_n 3, 0, 0, 0, 0), (80, .freturn, 0, 0, 0, 0)]
theorem so_X7_leaves_79 : sgOK mi_X7_leaves gm_X7_leaves sg_X7_leaves_79 = true := by decide +kernel
def sgs_X7_leaves : Nat → Option (List Ins) := fun t => match t with
  | 0 => some sg_X7_leaves_0
  | 73 => some sg_X7_leaves_73
  | 79 => some sg_X7_leaves_79
  | _ => none
theorem so_X7_leaves : ∀ t sg, sgs_X7_leaves t = some sg → sgOK mi_X7_leaves gm_X7_leaves sg = true ∧ segPc sg = t := by
  intro t sg h
  unfold sgs_X7_leaves at h
  split at h
  · cases h; exact ⟨so_X7_leaves_0, rfl⟩
  · cases h; exact ⟨so_X7_leaves_73, rfl⟩
  · cases h; exact ⟨so_X7_leaves_79, rfl⟩
  · cases h
def gm_X7_whoDims : List MI := [mi_X7_isThere, mi_X7_spotOf, mi_X7_leaves]
def sg_X7_whoDims_0 : List Ins := [(0, .aload_n 0, 0, 0, 0, 0), (1, .iload_n 1, 0, 0, 0, 0), (2, .iload_n 2, 0, 0, 0, 0), (3, .invokevirtual 88, 837, 0, 17, 3), (6, .ifCond .ne 5, 0, 0, 11, 0), (9, .iconst (-1), 1, 1, 0, 0), (10, .ireturn, 0, 0, 0, 0)]
theorem so_X7_whoDims_0 : sgOK mi_X7_whoDims gm_X7_whoDims sg_X7_whoDims_0 = true := by decide +kernel
def sg_X7_whoDims_11 : List Ins := [(11, .bipush (-6), 6, 1, 0, 0), (13, .istore_n 3, 0, 0, 0, 0), (14, .fconst 1, 0, 0, 0, 0), (15, .fstore 4, 0, 0, 0, 0), (17, .iconst 0, 0, 0, 0, 0), (18, .istore 5, 0, 0, 0, 0), (20, .nop, 0, 0, 0, 0)]
theorem so_X7_whoDims_11 : sgOK mi_X7_whoDims gm_X7_whoDims sg_X7_whoDims_11 = true := by decide +kernel
def sg_X7_whoDims_20 : List Ins := [(20, .iload 5, 0, 0, 0, 0), (22, .aload_n 0, 0, 0, 0, 0), (23, .getfield 7, 7, 0, 717, 0), (26, .bipush 7, 7, 0, 0, 0), (28, .iaload, 8, 0, 0, 0), (29, .if_icmp .ge 54, 0, 0, 83, 0), (32, .aload_n 0, 0, 0, 0, 0), (33, .iload 5, 0, 0, 0, 0), (35, .iload_n 1, 0, 0, 0, 0), (36, .iload_n 2, 0, 0, 0, 0), (37, .invokestatic 94, 846, 1, 0, 2), (40, .invokevirtual 221, 1041, 2, 17, 3), (43, .fstore 6, 0, 0, 0, 0), (45, .fload 6, 0, 0, 0, 0), (47, .fload 4, 0, 0, 0, 0), (49, .fcmp .g, 0, 0, 0, 0), (50, .ifCond .ge 8, 0, 0, 58, 0), (53, .iload 5, 0, 0, 0, 0), (55, .goto 4, 0, 0, 59, 0)]
theorem so_X7_whoDims_20 : sgOK mi_X7_whoDims gm_X7_whoDims sg_X7_whoDims_20 = true := by decide +kernel
def sg_X7_whoDims_58 : List Ins := [(58, .iload_n 3, 0, 0, 0, 0), (59, .istore_n 3, 0, 0, 0, 0), (60, .fload 6, 0, 0, 0, 0), (62, .fload 4, 0, 0, 0, 0), (64, .fcmp .g, 0, 0, 0, 0), (65, .ifCond .ge 8, 0, 0, 73, 0), (68, .fload 6, 0, 0, 0, 0), (70, .goto 5, 0, 0, 75, 0)]
theorem so_X7_whoDims_58 : sgOK mi_X7_whoDims gm_X7_whoDims sg_X7_whoDims_58 = true := by decide +kernel
def sg_X7_whoDims_59 : List Ins := [(59, .istore_n 3, 0, 0, 0, 0), (60, .fload 6, 0, 0, 0, 0), (62, .fload 4, 0, 0, 0, 0), (64, .fcmp .g, 0, 0, 0, 0), (65, .ifCond .ge 8, 0, 0, 73, 0), (68, .fload 6, 0, 0, 0, 0), (70, .goto 5, 0, 0, 75, 0)]
theorem so_X7_whoDims_59 : sgOK mi_X7_whoDims gm_X7_whoDims sg_X7_whoDims_59 = true := by decide +kernel
def sg_X7_whoDims_73 : List Ins := [(73, .fload 4, 0, 0, 0, 0), (75, .fstore 4, 0, 0, 0, 0), (77, .iinc 5 1, 1, 0, 0, 0), (80, .goto (-60), 0, 0, 20, 0)]
theorem so_X7_whoDims_73 : sgOK mi_X7_whoDims gm_X7_whoDims sg_X7_whoDims_73 = true := by decide +kernel
def sg_X7_whoDims_75 : List Ins := [(75, .fstore 4, 0, 0, 0, 0), (77, .iinc 5 1, 1, 0, 0, 0), (80, .goto (-60), 0, 0, 20, 0)]
theorem so_X7_whoDims_75 : sgOK mi_X7_whoDims gm_X7_whoDims sg_X7_whoDims_75 = true := by decide +kernel
def sg_X7_whoDims_83 : List Ins := [(83, .iload_n 3, 0, 0, 0, 0), (84, .ireturn, 0, 0, 0, 0)]
theorem so_X7_whoDims_83 : sgOK mi_X7_whoDims gm_X7_whoDims sg_X7_whoDims_83 = true := by decide +kernel
def sgs_X7_whoDims : Nat → Option (List Ins) := fun t => match t with
  | 0 => some sg_X7_whoDims_0
  | 11 => some sg_X7_whoDims_11
  | 58 => some sg_X7_whoDims_58
  | 59 => some sg_X7_whoDims_59
  | 73 => some sg_X7_whoDims_73
  | 75 => some sg_X7_whoDims_75
  | 83 => some sg_X7_whoDims_83
  | _ => none
theorem so_X7_whoDims : ∀ t sg, sgs_X7_whoDims t = some sg → sgOK mi_X7_whoDims gm_X7_whoDims sg = true ∧ segPc sg = t := by
  intro t sg h
  unfold sgs_X7_whoDims at h
  split at h
  · cases h; exact ⟨so_X7_whoDims_0, rfl⟩
  · cases h; exact ⟨so_X7_whoDims_11, rfl⟩
  · cases h; exact ⟨so_X7_whoDims_58, rfl⟩
  · cases h; exact ⟨so_X7_whoDims_59, rfl⟩
  · cases h; exact ⟨so_X7_whoDims_73, rfl⟩
  · cases h; exact ⟨so_X7_whoDims_75, rfl⟩
  · cases h; exact ⟨so_X7_whoDims_83, rfl⟩
  · cases h
def gm_X7_areRead : List MI := [mi_X7_hasLetter, mi_X7_canRead]
def sg_X7_areRead_0 : List Ins := [(0, .iconst 1, 1, 0, 0, 0), (1, .istore_n 3, 0, 0, 0, 0), (2, .iconst 0, 0, 0, 0, 0), (3, .istore 4, 0, 0, 0, 0), (5, .nop, 0, 0, 0, 0)]
theorem so_X7_areRead_0 : sgOK mi_X7_areRead gm_X7_areRead sg_X7_areRead_0 = true := by decide +kernel
def sg_X7_areRead_5 : List Ins := [(5, .iload 4, 0, 0, 0, 0), (7, .bipush 120, 120, 0, 0, 0), (9, .if_icmp .ge 41, 0, 0, 50, 0), (12, .iload_n 3, 0, 0, 0, 0), (13, .ifCond .eq 29, 0, 0, 42, 0), (16, .aload_n 0, 0, 0, 0, 0), (17, .iload_n 1, 0, 0, 0, 0), (18, .iload_n 2, 0, 0, 0, 0), (19, .iload 4, 0, 0, 0, 0), (21, .invokevirtual 50, 853, 0, 17, 4), (24, .ifCond .eq 14, 0, 0, 38, 0), (27, .aload_n 0, 0, 0, 0, 0), (28, .iload_n 1, 0, 0, 0, 0), (29, .iload_n 2, 0, 0, 0, 0), (30, .iload 4, 0, 0, 0, 0), (32, .invokevirtual 65, 870, 1, 17, 4), (35, .ifCond .eq 7, 0, 0, 42, 0), (38, .iconst 1, 1, 0, 0, 0), (39, .goto 4, 0, 0, 43, 0)]
theorem so_X7_areRead_5 : sgOK mi_X7_areRead gm_X7_areRead sg_X7_areRead_5 = true := by decide +kernel
def sg_X7_areRead_38 : List Ins := [(38, .iconst 1, 1, 0, 0, 0), (39, .goto 4, 0, 0, 43, 0)]
theorem so_X7_areRead_38 : sgOK mi_X7_areRead gm_X7_areRead sg_X7_areRead_38 = true := by decide +kernel
def sg_X7_areRead_42 : List Ins := [(42, .iconst 0, 0, 0, 0, 0), (43, .istore_n 3, 0, 0, 0, 0), (44, .iinc 4 1, 1, 0, 0, 0), (47, .goto (-42), 0, 0, 5, 0)]
theorem so_X7_areRead_42 : sgOK mi_X7_areRead gm_X7_areRead sg_X7_areRead_42 = true := by decide +kernel
def sg_X7_areRead_43 : List Ins := [(43, .istore_n 3, 0, 0, 0, 0), (44, .iinc 4 1, 1, 0, 0, 0), (47, .goto (-42), 0, 0, 5, 0)]
theorem so_X7_areRead_43 : sgOK mi_X7_areRead gm_X7_areRead sg_X7_areRead_43 = true := by decide +kernel
def sg_X7_areRead_50 : List Ins := [(50, .iload_n 3, 0, 0, 0, 0), (51, .ireturn, 0, 0, 0, 0)]
theorem so_X7_areRead_50 : sgOK mi_X7_areRead gm_X7_areRead sg_X7_areRead_50 = true := by decide +kernel
def sgs_X7_areRead : Nat → Option (List Ins) := fun t => match t with
  | 0 => some sg_X7_areRead_0
  | 38 => some sg_X7_areRead_38
  | 42 => some sg_X7_areRead_42
  | 43 => some sg_X7_areRead_43
  | 50 => some sg_X7_areRead_50
  | _ => none
theorem so_X7_areRead : ∀ t sg, sgs_X7_areRead t = some sg → sgOK mi_X7_areRead gm_X7_areRead sg = true ∧ segPc sg = t := by
  intro t sg h
  unfold sgs_X7_areRead at h
  split at h
  · cases h; exact ⟨so_X7_areRead_0, rfl⟩
  · cases h; exact ⟨so_X7_areRead_38, rfl⟩
  · cases h; exact ⟨so_X7_areRead_42, rfl⟩
  · cases h; exact ⟨so_X7_areRead_43, rfl⟩
  · cases h; exact ⟨so_X7_areRead_50, rfl⟩
  · cases h
def gm_X7_readableIn : List MI := [mi_X7_isPlate, mi_X7_copies, mi_X7_areRead, mi_X7_clears]
def sg_X7_readableIn_0 : List Ins := [(0, .aload_n 0, 0, 0, 0, 0), (1, .iload_n 1, 0, 0, 0, 0), (2, .invokevirtual 80, 804, 0, 17, 2), (5, .ifCond .ne 5, 0, 0, 10, 0), (8, .iconst (-1), 1, 1, 0, 0), (9, .ireturn, 0, 0, 0, 0)]
theorem so_X7_readableIn_0 : sgOK mi_X7_readableIn gm_X7_readableIn sg_X7_readableIn_0 = true := by decide +kernel
def sg_X7_readableIn_10 : List Ins := [(10, .aload_n 0, 0, 0, 0, 0), (11, .iconst 0, 0, 0, 0, 0), (12, .bipush 9, 9, 0, 0, 0), (14, .invokevirtual 31, 778, 1, 17, 3), (17, .iconst 0, 0, 0, 0, 0), (18, .istore_n 2, 0, 0, 0, 0), (19, .nop, 0, 0, 0, 0)]
theorem so_X7_readableIn_10 : sgOK mi_X7_readableIn gm_X7_readableIn sg_X7_readableIn_10 = true := by decide +kernel
def sg_X7_readableIn_19 : List Ins := [(19, .iload_n 2, 0, 0, 0, 0), (20, .sipush 500, 500, 0, 0, 0), (23, .if_icmp .gt 28, 0, 0, 51, 0), (26, .aload_n 0, 0, 0, 0, 0), (27, .bipush 9, 9, 0, 0, 0), (29, .iload_n 1, 0, 0, 0, 0), (30, .invokevirtual 225, 1049, 2, 17, 3), (33, .ifCond .eq 5, 0, 0, 38, 0), (36, .iload_n 2, 0, 0, 0, 0), (37, .ireturn, 0, 0, 0, 0)]
theorem so_X7_readableIn_19 : sgOK mi_X7_readableIn gm_X7_readableIn sg_X7_readableIn_19 = true := by decide +kernel
def sg_X7_readableIn_38 : List Ins := [(38, .aload_n 0, 0, 0, 0, 0), (39, .bipush 9, 9, 0, 0, 0), (41, .iload_n 1, 0, 0, 0, 0), (42, .invokevirtual 115, 939, 3, 17, 3), (45, .iinc 2 1, 1, 0, 0, 0), (48, .goto (-29), 0, 0, 19, 0)]
theorem so_X7_readableIn_38 : sgOK mi_X7_readableIn gm_X7_readableIn sg_X7_readableIn_38 = true := by decide +kernel
def sg_X7_readableIn_51 : List Ins := [(51, .bipush (-6), 6, 1, 0, 0), (53, .ireturn, 0, 0, 0, 0)]
theorem so_X7_readableIn_51 : sgOK mi_X7_readableIn gm_X7_readableIn sg_X7_readableIn_51 = true := by decide +kernel
def sgs_X7_readableIn : Nat → Option (List Ins) := fun t => match t with
  | 0 => some sg_X7_readableIn_0
  | 10 => some sg_X7_readableIn_10
  | 38 => some sg_X7_readableIn_38
  | 51 => some sg_X7_readableIn_51
  | _ => none
theorem so_X7_readableIn : ∀ t sg, sgs_X7_readableIn t = some sg → sgOK mi_X7_readableIn gm_X7_readableIn sg = true ∧ segPc sg = t := by
  intro t sg h
  unfold sgs_X7_readableIn at h
  split at h
  · cases h; exact ⟨so_X7_readableIn_0, rfl⟩
  · cases h; exact ⟨so_X7_readableIn_10, rfl⟩
  · cases h; exact ⟨so_X7_readableIn_38, rfl⟩
  · cases h; exact ⟨so_X7_readableIn_51, rfl⟩
  · cases h
def gm_X7_charactersOf : List MI := [mi_X7_in]
def sg_X7_charactersOf_0 : List Ins := [(0, .lload_n 0, 0, 0, 0, 0), (1, .lstore_n 2, 0, 0, 0, 0), (2, .iconst 0, 0, 0, 0, 0), (3, .istore 4, 0, 0, 0, 0), (5, .nop, 0, 0, 0, 0)]
theorem so_X7_charactersOf_0 : sgOK mi_X7_charactersOf gm_X7_charactersOf sg_X7_charactersOf_0 = true := by decide +kernel
def sg_X7_charactersOf_5 : List Ins := [(5, .iload 4, 0, 0, 0, 0), (7, .bipush 8, 8, 0, 0, 0), (9, .if_icmp .ge 31, 0, 0, 40, 0), (12, .lload_n 2, 0, 0, 0, 0), (13, .ldc2_w 228, 255, 2, 1060, 0), (16, .land, 0, 0, 0, 0), (17, .ldc2_w 230, 33, 2, 1061, 0), (20, .ldc2_w 232, 126, 2, 1062, 0), (23, .invokestatic 68, 768, 0, 0, 3), (26, .ifCond .eq 14, 0, 0, 40, 0), (29, .lload_n 2, 0, 0, 0, 0), (30, .bipush 8, 8, 0, 0, 0), (32, .lushr, 0, 0, 0, 0), (33, .lstore_n 2, 0, 0, 0, 0), (34, .iinc 4 1, 1, 0, 0, 0), (37, .goto (-32), 0, 0, 5, 0)]
theorem so_X7_charactersOf_5 : sgOK mi_X7_charactersOf gm_X7_charactersOf sg_X7_charactersOf_5 = true := by decide +kernel
def sg_X7_charactersOf_40 : List Ins := [(40, .lload_n 2, 0, 0, 0, 0), (41, .lconst 0, 0, 0, 0, 0), (42, .lcmp, 0, 0, 0, 0), (43, .ifCond .ne 8, 0, 0, 51, 0), (46, .iload 4, 0, 0, 0, 0), (48, .goto 4, 0, 0, 52, 0)]
theorem so_X7_charactersOf_40 : sgOK mi_X7_charactersOf gm_X7_charactersOf sg_X7_charactersOf_40 = true := by decide +kernel
def sg_X7_charactersOf_51 : List Ins := [(51, .iconst 0, 0, 0, 0, 0), (52, .ireturn, 0, 0, 0, 0)]
theorem so_X7_charactersOf_51 : sgOK mi_X7_charactersOf gm_X7_charactersOf sg_X7_charactersOf_51 = true := by decide +kernel
def sg_X7_charactersOf_52 : List Ins := [(52, .ireturn, 0, 0, 0, 0)]
theorem so_X7_charactersOf_52 : sgOK mi_X7_charactersOf gm_X7_charactersOf sg_X7_charactersOf_52 = true := by decide +kernel
def sgs_X7_charactersOf : Nat → Option (List Ins) := fun t => match t with
  | 0 => some sg_X7_charactersOf_0
  | 40 => some sg_X7_charactersOf_40
  | 51 => some sg_X7_charactersOf_51
  | 52 => some sg_X7_charactersOf_52
  | _ => none
theorem so_X7_charactersOf : ∀ t sg, sgs_X7_charactersOf t = some sg → sgOK mi_X7_charactersOf gm_X7_charactersOf sg = true ∧ segPc sg = t := by
  intro t sg h
  unfold sgs_X7_charactersOf at h
  split at h
  · cases h; exact ⟨so_X7_charactersOf_0, rfl⟩
  · cases h; exact ⟨so_X7_charactersOf_40, rfl⟩
  · cases h; exact ⟨so_X7_charactersOf_51, rfl⟩
  · cases h; exact ⟨so_X7_charactersOf_52, rfl⟩
  · cases h
def gm_X7_put : List MI := [mi_X7_charactersOf]
def sg_X7_put_0 : List Ins := [(0, .lload_n 1, 0, 0, 0, 0), (1, .invokestatic 234, 1057, 0, 0, 1), (4, .istore_n 3, 0, 0, 0, 0), (5, .iload_n 3, 0, 0, 0, 0), (6, .ifCond .ne 6, 0, 0, 12, 0), (9, .bipush (-2), 2, 1, 0, 0), (11, .ireturn, 0, 0, 0, 0)]
theorem so_X7_put_0 : sgOK mi_X7_put gm_X7_put sg_X7_put_0 = true := by decide +kernel
def sg_X7_put_12 : List Ins := [(12, .aload_n 0, 0, 0, 0, 0), (13, .getfield 199, 7, 6, 723, 0), (16, .iload_n 3, 0, 0, 0, 0), (17, .iadd, 0, 0, 0, 0), (18, .bipush 80, 80, 0, 0, 0), (20, .if_icmp .le 6, 0, 0, 26, 0), (23, .bipush (-4), 4, 1, 0, 0), (25, .ireturn, 0, 0, 0, 0)]
theorem so_X7_put_12 : sgOK mi_X7_put gm_X7_put sg_X7_put_12 = true := by decide +kernel
def sg_X7_put_26 : List Ins := [(26, .iconst 0, 0, 0, 0, 0), (27, .istore 4, 0, 0, 0, 0), (29, .nop, 0, 0, 0, 0)]
theorem so_X7_put_26 : sgOK mi_X7_put gm_X7_put sg_X7_put_26 = true := by decide +kernel
def sg_X7_put_29 : List Ins := [(29, .iload 4, 0, 0, 0, 0), (31, .iload_n 3, 0, 0, 0, 0), (32, .if_icmp .ge 37, 0, 0, 69, 0), (35, .aload_n 0, 0, 0, 0, 0), (36, .getfield 24, 7, 5, 722, 0), (39, .aload_n 0, 0, 0, 0, 0), (40, .getfield 199, 7, 6, 723, 0), (43, .iload 4, 0, 0, 0, 0), (45, .iadd, 0, 0, 0, 0), (46, .lload_n 1, 0, 0, 0, 0), (47, .bipush 8, 8, 0, 0, 0), (49, .iload_n 3, 0, 0, 0, 0), (50, .iconst 1, 1, 0, 0, 0), (51, .isub, 0, 0, 0, 0), (52, .iload 4, 0, 0, 0, 0), (54, .isub, 0, 0, 0, 0), (55, .imul, 0, 0, 0, 0), (56, .lushr, 0, 0, 0, 0), (57, .ldc2_w 228, 255, 2, 1060, 0), (60, .land, 0, 0, 0, 0), (61, .l2i, 0, 0, 0, 0), (62, .iastore, 0, 0, 0, 0), (63, .iinc 4 1, 1, 0, 0, 0), (66, .goto (-37), 0, 0, 29, 0)]
theorem so_X7_put_29 : sgOK mi_X7_put gm_X7_put sg_X7_put_29 = true := by decide +kernel
def sg_X7_put_69 : List Ins := [(69, .aload_n 0, 0, 0, 0, 0), (70, .dup, 0, 0, 0, 0), (71, .getfield 199, 7, 6, 723, 0), (74, .iload_n 3, 0, 0, 0, 0), (75, .iadd, 0, 0, 0, 0), (76, .putfield 199, 7, 6, 723, 0), (79, .aload_n 0, 0, 0, 0, 0), (80, .getfield 199, 7, 6, 723, 0), (83, .ireturn, 0, 0, 0, 0)]
theorem so_X7_put_69 : sgOK mi_X7_put gm_X7_put sg_X7_put_69 = true := by decide +kernel
def sgs_X7_put : Nat → Option (List Ins) := fun t => match t with
  | 0 => some sg_X7_put_0
  | 12 => some sg_X7_put_12
  | 26 => some sg_X7_put_26
  | 69 => some sg_X7_put_69
  | _ => none
theorem so_X7_put : ∀ t sg, sgs_X7_put t = some sg → sgOK mi_X7_put gm_X7_put sg = true ∧ segPc sg = t := by
  intro t sg h
  unfold sgs_X7_put at h
  split at h
  · cases h; exact ⟨so_X7_put_0, rfl⟩
  · cases h; exact ⟨so_X7_put_12, rfl⟩
  · cases h; exact ⟨so_X7_put_26, rfl⟩
  · cases h; exact ⟨so_X7_put_69, rfl⟩
  · cases h
def gm_X7_wipe : List MI := []
def sg_X7_wipe_0 : List Ins := [(0, .aload_n 0, 0, 0, 0, 0), (1, .getfield 199, 7, 6, 723, 0), (4, .istore_n 1, 0, 0, 0, 0), (5, .aload_n 0, 0, 0, 0, 0), (6, .iconst 0, 0, 0, 0, 0), (7, .putfield 199, 7, 6, 723, 0), (10, .iload_n 1, 0, 0, 0, 0), (11, .ireturn, 0, 0, 0, 0)]
theorem so_X7_wipe_0 : sgOK mi_X7_wipe gm_X7_wipe sg_X7_wipe_0 = true := by decide +kernel
def sgs_X7_wipe : Nat → Option (List Ins) := fun t => match t with
  | 0 => some sg_X7_wipe_0
  | _ => none
theorem so_X7_wipe : ∀ t sg, sgs_X7_wipe t = some sg → sgOK mi_X7_wipe gm_X7_wipe sg = true ∧ segPc sg = t := by
  intro t sg h
  unfold sgs_X7_wipe at h
  split at h
  · cases h; exact ⟨so_X7_wipe_0, rfl⟩
  · cases h
def gm_X7_isHere : List MI := [mi_X7_in]
def sg_X7_isHere_0 : List Ins := [(0, .aload_n 0, 0, 0, 0, 0), (1, .getfield 238, 7, 7, 724, 0), (4, .aload_n 0, 0, 0, 0, 0), (5, .getfield 199, 7, 6, 723, 0), (8, .if_icmp .ge 27, 0, 0, 35, 0), (11, .aload_n 0, 0, 0, 0, 0), (12, .getfield 24, 7, 5, 722, 0), (15, .aload_n 0, 0, 0, 0, 0), (16, .getfield 238, 7, 7, 724, 0), (19, .iaload, 8, 0, 0, 0), (20, .i2l, 0, 0, 0, 0), (21, .iload_n 1, 0, 0, 0, 0), (22, .i2l, 0, 0, 0, 0), (23, .iload_n 2, 0, 0, 0, 0), (24, .i2l, 0, 0, 0, 0), (25, .invokestatic 68, 768, 0, 0, 3), (28, .ifCond .eq 7, 0, 0, 35, 0), (31, .iconst 1, 1, 0, 0, 0), (32, .goto 4, 0, 0, 36, 0)]
theorem so_X7_isHere_0 : sgOK mi_X7_isHere gm_X7_isHere sg_X7_isHere_0 = true := by decide +kernel
def sg_X7_isHere_35 : List Ins := [(35, .iconst 0, 0, 0, 0, 0), (36, .ireturn, 0, 0, 0, 0)]
theorem so_X7_isHere_35 : sgOK mi_X7_isHere gm_X7_isHere sg_X7_isHere_35 = true := by decide +kernel
def sg_X7_isHere_36 : List Ins := [(36, .ireturn, 0, 0, 0, 0)]
theorem so_X7_isHere_36 : sgOK mi_X7_isHere gm_X7_isHere sg_X7_isHere_36 = true := by decide +kernel
def sgs_X7_isHere : Nat → Option (List Ins) := fun t => match t with
  | 0 => some sg_X7_isHere_0
  | 35 => some sg_X7_isHere_35
  | 36 => some sg_X7_isHere_36
  | _ => none
theorem so_X7_isHere : ∀ t sg, sgs_X7_isHere t = some sg → sgOK mi_X7_isHere gm_X7_isHere sg = true ∧ segPc sg = t := by
  intro t sg h
  unfold sgs_X7_isHere at h
  split at h
  · cases h; exact ⟨so_X7_isHere_0, rfl⟩
  · cases h; exact ⟨so_X7_isHere_35, rfl⟩
  · cases h; exact ⟨so_X7_isHere_36, rfl⟩
  · cases h
def gm_X7_takes : List MI := [mi_X7_isHere]
def sg_X7_takes_0 : List Ins := [(0, .aload_n 0, 0, 0, 0, 0), (1, .iload_n 1, 0, 0, 0, 0), (2, .iload_n 1, 0, 0, 0, 0), (3, .invokevirtual 241, 1079, 0, 17, 3), (6, .istore_n 2, 0, 0, 0, 0), (7, .aload_n 0, 0, 0, 0, 0), (8, .dup, 0, 0, 0, 0), (9, .getfield 238, 7, 7, 724, 0), (12, .iload_n 2, 0, 0, 0, 0), (13, .ifCond .eq 7, 0, 0, 20, 0), (16, .iconst 1, 1, 0, 0, 0), (17, .goto 4, 0, 0, 21, 0)]
theorem so_X7_takes_0 : sgOK mi_X7_takes gm_X7_takes sg_X7_takes_0 = true := by decide +kernel
def sg_X7_takes_20 : List Ins := [(20, .iconst 0, 0, 0, 0, 0), (21, .iadd, 0, 0, 0, 0), (22, .putfield 238, 7, 7, 724, 0), (25, .iload_n 2, 0, 0, 0, 0), (26, .ireturn, 0, 0, 0, 0)]
theorem so_X7_takes_20 : sgOK mi_X7_takes gm_X7_takes sg_X7_takes_20 = true := by decide +kernel
def sg_X7_takes_21 : List Ins := [(21, .iadd, 0, 0, 0, 0), (22, .putfield 238, 7, 7, 724, 0), (25, .iload_n 2, 0, 0, 0, 0), (26, .ireturn, 0, 0, 0, 0)]
theorem so_X7_takes_21 : sgOK mi_X7_takes gm_X7_takes sg_X7_takes_21 = true := by decide +kernel
def sgs_X7_takes : Nat → Option (List Ins) := fun t => match t with
  | 0 => some sg_X7_takes_0
  | 20 => some sg_X7_takes_20
  | 21 => some sg_X7_takes_21
  | _ => none
theorem so_X7_takes : ∀ t sg, sgs_X7_takes t = some sg → sgOK mi_X7_takes gm_X7_takes sg = true ∧ segPc sg = t := by
  intro t sg h
  unfold sgs_X7_takes at h
  split at h
  · cases h; exact ⟨so_X7_takes_0, rfl⟩
  · cases h; exact ⟨so_X7_takes_20, rfl⟩
  · cases h; exact ⟨so_X7_takes_21, rfl⟩
  · cases h
def gm_X7_digit : List MI := [mi_X7_isHere]
def sg_X7_digit_0 : List Ins := [(0, .aload_n 0, 0, 0, 0, 0), (1, .bipush 48, 48, 0, 0, 0), (3, .bipush 57, 57, 0, 0, 0), (5, .invokevirtual 241, 1079, 0, 17, 3), (8, .ifCond .eq 18, 0, 0, 26, 0), (11, .aload_n 0, 0, 0, 0, 0), (12, .getfield 24, 7, 5, 722, 0), (15, .aload_n 0, 0, 0, 0, 0), (16, .getfield 238, 7, 7, 724, 0), (19, .iaload, 8, 0, 0, 0), (20, .bipush 48, 48, 0, 0, 0), (22, .isub, 0, 0, 0, 0), (23, .goto 5, 0, 0, 28, 0)]
theorem so_X7_digit_0 : sgOK mi_X7_digit gm_X7_digit sg_X7_digit_0 = true := by decide +kernel
def sg_X7_digit_26 : List Ins := [(26, .bipush (-6), 6, 1, 0, 0), (28, .istore_n 1, 0, 0, 0, 0), (29, .aload_n 0, 0, 0, 0, 0), (30, .dup, 0, 0, 0, 0), (31, .getfield 238, 7, 7, 724, 0), (34, .iload_n 1, 0, 0, 0, 0), (35, .bipush (-6), 6, 1, 0, 0), (37, .if_icmp .ne 7, 0, 0, 44, 0), (40, .iconst 0, 0, 0, 0, 0), (41, .goto 4, 0, 0, 45, 0)]
theorem so_X7_digit_26 : sgOK mi_X7_digit gm_X7_digit sg_X7_digit_26 = true := by decide +kernel
def sg_X7_digit_28 : List Ins := [(28, .istore_n 1, 0, 0, 0, 0), (29, .aload_n 0, 0, 0, 0, 0), (30, .dup, 0, 0, 0, 0), (31, .getfield 238, 7, 7, 724, 0), (34, .iload_n 1, 0, 0, 0, 0), (35, .bipush (-6), 6, 1, 0, 0), (37, .if_icmp .ne 7, 0, 0, 44, 0), (40, .iconst 0, 0, 0, 0, 0), (41, .goto 4, 0, 0, 45, 0)]
theorem so_X7_digit_28 : sgOK mi_X7_digit gm_X7_digit sg_X7_digit_28 = true := by decide +kernel
def sg_X7_digit_44 : List Ins := [(44, .iconst 1, 1, 0, 0, 0), (45, .iadd, 0, 0, 0, 0), (46, .putfield 238, 7, 7, 724, 0), (49, .iload_n 1, 0, 0, 0, 0), (50, .ireturn, 0, 0, 0, 0)]
theorem so_X7_digit_44 : sgOK mi_X7_digit gm_X7_digit sg_X7_digit_44 = true := by decide +kernel
def sg_X7_digit_45 : List Ins := [(45, .iadd, 0, 0, 0, 0), (46, .putfield 238, 7, 7, 724, 0), (49, .iload_n 1, 0, 0, 0, 0), (50, .ireturn, 0, 0, 0, 0)]
theorem so_X7_digit_45 : sgOK mi_X7_digit gm_X7_digit sg_X7_digit_45 = true := by decide +kernel
def sgs_X7_digit : Nat → Option (List Ins) := fun t => match t with
  | 0 => some sg_X7_digit_0
  | 26 => some sg_X7_digit_26
  | 28 => some sg_X7_digit_28
  | 44 => some sg_X7_digit_44
  | 45 => some sg_X7_digit_45
  | _ => none
theorem so_X7_digit : ∀ t sg, sgs_X7_digit t = some sg → sgOK mi_X7_digit gm_X7_digit sg = true ∧ segPc sg = t := by
  intro t sg h
  unfold sgs_X7_digit at h
  split at h
  · cases h; exact ⟨so_X7_digit_0, rfl⟩
  · cases h; exact ⟨so_X7_digit_26, rfl⟩
  · cases h; exact ⟨so_X7_digit_28, rfl⟩
  · cases h; exact ⟨so_X7_digit_44, rfl⟩
  · cases h; exact ⟨so_X7_digit_45, rfl⟩
  · cases h
def gm_X7_number : List MI := [mi_X7_digit, mi_X7_isHere]
def sg_X7_number_0 : List Ins := [(0, .aload_n 0, 0, 0, 0, 0), (1, .invokevirtual 244, 1075, 0, 17, 1), (4, .istore_n 1, 0, 0, 0, 0), (5, .iload_n 1, 0, 0, 0, 0), (6, .ifCond .le 42, 0, 0, 48, 0), (9, .aload_n 0, 0, 0, 0, 0), (10, .bipush 48, 48, 0, 0, 0), (12, .bipush 57, 57, 0, 0, 0), (14, .invokevirtual 241, 1079, 1, 17, 3), (17, .ifCond .eq 31, 0, 0, 48, 0), (20, .bipush 10, 10, 0, 0, 0), (22, .iload_n 1, 0, 0, 0, 0), (23, .imul, 0, 0, 0, 0), (24, .aload_n 0, 0, 0, 0, 0), (25, .getfield 24, 7, 5, 722, 0), (28, .aload_n 0, 0, 0, 0, 0), (29, .getfield 238, 7, 7, 724, 0), (32, .iaload, 8, 0, 0, 0), (33, .iadd, 0, 0, 0, 0), (34, .bipush 48, 48, 0, 0, 0), (36, .isub, 0, 0, 0, 0), (37, .istore_n 1, 0, 0, 0, 0), (38, .aload_n 0, 0, 0, 0, 0), (39, .dup, 0, 0, 0, 0), (40, .getfield 238, 7, 7, 724, 0), (43, .iconst 1, 1, 0, 0, 0), (44, .iadd, 0, 0, 0, 0), (45, .putfield 238, 7, 7, 724, 0), (48, .iload_n 1, 0, 0, 0, 0), (49, .ireturn, 0, 0, 0, 0)]
theorem so_X7_number_0 : sgOK mi_X7_number gm_X7_number sg_X7_number_0 = true := by decide +kernel
def sg_X7_number_48 : List Ins := [(48, .iload_n 1, 0, 0, 0, 0), (49, .ireturn, 0, 0, 0, 0)]
theorem so_X7_number_48 : sgOK mi_X7_number gm_X7_number sg_X7_number_48 = true := by decide +kernel
def sgs_X7_number : Nat → Option (List Ins) := fun t => match t with
  | 0 => some sg_X7_number_0
  | 48 => some sg_X7_number_48
  | _ => none
theorem so_X7_number : ∀ t sg, sgs_X7_number t = some sg → sgOK mi_X7_number gm_X7_number sg = true ∧ segPc sg = t := by
  intro t sg h
  unfold sgs_X7_number at h
  split at h
  · cases h; exact ⟨so_X7_number_0, rfl⟩
  · cases h; exact ⟨so_X7_number_48, rfl⟩
  · cases h
def gm_X7_readsPlace : List MI := [mi_X7_takes, mi_X7_number]
def sg_X7_readsPlace_0 : List Ins := [(0, .aload_n 0, 0, 0, 0, 0), (1, .aload_n 0, 0, 0, 0, 0), (2, .bipush 64, 64, 0, 0, 0), (4, .invokevirtual 247, 1087, 0, 17, 2), (7, .ifCond .eq 10, 0, 0, 17, 0), (10, .aload_n 0, 0, 0, 0, 0), (11, .invokevirtual 250, 1091, 1, 17, 1), (14, .goto 5, 0, 0, 19, 0)]
theorem so_X7_readsPlace_0 : sgOK mi_X7_readsPlace gm_X7_readsPlace sg_X7_readsPlace_0 = true := by decide +kernel
def sg_X7_readsPlace_17 : List Ins := [(17, .bipush (-6), 6, 1, 0, 0), (19, .putfield 253, 7, 10, 727, 0), (22, .aload_n 0, 0, 0, 0, 0), (23, .aload_n 0, 0, 0, 0, 0), (24, .getfield 253, 7, 10, 727, 0), (27, .bipush (-6), 6, 1, 0, 0), (29, .if_icmp .eq 19, 0, 0, 48, 0), (32, .aload_n 0, 0, 0, 0, 0), (33, .bipush 46, 46, 0, 0, 0), (35, .invokevirtual 247, 1087, 0, 17, 2), (38, .ifCond .eq 10, 0, 0, 48, 0), (41, .aload_n 0, 0, 0, 0, 0), (42, .invokevirtual 250, 1091, 1, 17, 1), (45, .goto 5, 0, 0, 50, 0)]
theorem so_X7_readsPlace_17 : sgOK mi_X7_readsPlace gm_X7_readsPlace sg_X7_readsPlace_17 = true := by decide +kernel
def sg_X7_readsPlace_19 : List Ins := [(19, .putfield 253, 7, 10, 727, 0), (22, .aload_n 0, 0, 0, 0, 0), (23, .aload_n 0, 0, 0, 0, 0), (24, .getfield 253, 7, 10, 727, 0), (27, .bipush (-6), 6, 1, 0, 0), (29, .if_icmp .eq 19, 0, 0, 48, 0), (32, .aload_n 0, 0, 0, 0, 0), (33, .bipush 46, 46, 0, 0, 0), (35, .invokevirtual 247, 1087, 0, 17, 2), (38, .ifCond .eq 10, 0, 0, 48, 0), (41, .aload_n 0, 0, 0, 0, 0), (42, .invokevirtual 250, 1091, 1, 17, 1), (45, .goto 5, 0, 0, 50, 0)]
theorem so_X7_readsPlace_19 : sgOK mi_X7_readsPlace gm_X7_readsPlace sg_X7_readsPlace_19 = true := by decide +kernel
def sg_X7_readsPlace_48 : List Ins := [(48, .bipush (-6), 6, 1, 0, 0), (50, .putfield 256, 7, 11, 728, 0), (53, .aload_n 0, 0, 0, 0, 0), (54, .getfield 256, 7, 11, 728, 0), (57, .bipush (-6), 6, 1, 0, 0), (59, .if_icmp .eq 7, 0, 0, 66, 0), (62, .iconst 1, 1, 0, 0, 0), (63, .goto 4, 0, 0, 67, 0)]
theorem so_X7_readsPlace_48 : sgOK mi_X7_readsPlace gm_X7_readsPlace sg_X7_readsPlace_48 = true := by decide +kernel
def sg_X7_readsPlace_50 : List Ins := [(50, .putfield 256, 7, 11, 728, 0), (53, .aload_n 0, 0, 0, 0, 0), (54, .getfield 256, 7, 11, 728, 0), (57, .bipush (-6), 6, 1, 0, 0), (59, .if_icmp .eq 7, 0, 0, 66, 0), (62, .iconst 1, 1, 0, 0, 0), (63, .goto 4, 0, 0, 67, 0)]
theorem so_X7_readsPlace_50 : sgOK mi_X7_readsPlace gm_X7_readsPlace sg_X7_readsPlace_50 = true := by decide +kernel
def sg_X7_readsPlace_66 : List Ins := [(66, .iconst 0, 0, 0, 0, 0), (67, .ireturn, 0, 0, 0, 0)]
theorem so_X7_readsPlace_66 : sgOK mi_X7_readsPlace gm_X7_readsPlace sg_X7_readsPlace_66 = true := by decide +kernel
def sg_X7_readsPlace_67 : List Ins := [(67, .ireturn, 0, 0, 0, 0)]
theorem so_X7_readsPlace_67 : sgOK mi_X7_readsPlace gm_X7_readsPlace sg_X7_readsPlace_67 = true := by decide +kernel
def sgs_X7_readsPlace : Nat → Option (List Ins) := fun t => match t with
  | 0 => some sg_X7_readsPlace_0
  | 17 => some sg_X7_readsPlace_17
  | 19 => some sg_X7_readsPlace_19
  | 48 => some sg_X7_readsPlace_48
  | 50 => some sg_X7_readsPlace_50
  | 66 => some sg_X7_readsPlace_66
  | 67 => some sg_X7_readsPlace_67
  | _ => none
theorem so_X7_readsPlace : ∀ t sg, sgs_X7_readsPlace t = some sg → sgOK mi_X7_readsPlace gm_X7_readsPlace sg = true ∧ segPc sg = t := by
  intro t sg h
  unfold sgs_X7_readsPlace at h
  split at h
  · cases h; exact ⟨so_X7_readsPlace_0, rfl⟩
  · cases h; exact ⟨so_X7_readsPlace_17, rfl⟩
  · cases h; exact ⟨so_X7_readsPlace_19, rfl⟩
  · cases h; exact ⟨so_X7_readsPlace_48, rfl⟩
  · cases h; exact ⟨so_X7_readsPlace_50, rfl⟩
  · cases h; exact ⟨so_X7_readsPlace_66, rfl⟩
  · cases h; exact ⟨so_X7_readsPlace_67, rfl⟩
  · cases h
def gm_X7_readsLetters : List MI := [mi_X7_isHere]
def sg_X7_readsLetters_0 : List Ins := [(0, .aload_n 0, 0, 0, 0, 0), (1, .aload_n 0, 0, 0, 0, 0), (2, .getfield 238, 7, 7, 724, 0), (5, .putfield 259, 7, 12, 729, 0), (8, .nop, 0, 0, 0, 0)]
theorem so_X7_readsLetters_0 : sgOK mi_X7_readsLetters gm_X7_readsLetters sg_X7_readsLetters_0 = true := by decide +kernel
def sg_X7_readsLetters_8 : List Ins := [(8, .aload_n 0, 0, 0, 0, 0), (9, .bipush 97, 97, 0, 0, 0), (11, .bipush 122, 122, 0, 0, 0), (13, .invokevirtual 241, 1079, 0, 17, 3), (16, .ifCond .eq 16, 0, 0, 32, 0), (19, .aload_n 0, 0, 0, 0, 0), (20, .dup, 0, 0, 0, 0), (21, .getfield 238, 7, 7, 724, 0), (24, .iconst 1, 1, 0, 0, 0), (25, .iadd, 0, 0, 0, 0), (26, .putfield 238, 7, 7, 724, 0), (29, .goto (-21), 0, 0, 8, 0)]
theorem so_X7_readsLetters_8 : sgOK mi_X7_readsLetters gm_X7_readsLetters sg_X7_readsLetters_8 = true := by decide +kernel
def sg_X7_readsLetters_32 : List Ins := [(32, .aload_n 0, 0, 0, 0, 0), (33, .aload_n 0, 0, 0, 0, 0), (34, .getfield 238, 7, 7, 724, 0), (37, .putfield 262, 7, 13, 730, 0), (40, .aload_n 0, 0, 0, 0, 0), (41, .getfield 262, 7, 13, 730, 0), (44, .aload_n 0, 0, 0, 0, 0), (45, .getfield 259, 7, 12, 729, 0), (48, .if_icmp .le 7, 0, 0, 55, 0), (51, .iconst 1, 1, 0, 0, 0), (52, .goto 4, 0, 0, 56, 0)]
theorem so_X7_readsLetters_32 : sgOK mi_X7_readsLetters gm_X7_readsLetters sg_X7_readsLetters_32 = true := by decide +kernel
def sg_X7_readsLetters_55 : List Ins := [(55, .iconst 0, 0, 0, 0, 0), (56, .ireturn, 0, 0, 0, 0)]
theorem so_X7_readsLetters_55 : sgOK mi_X7_readsLetters gm_X7_readsLetters sg_X7_readsLetters_55 = true := by decide +kernel
def sg_X7_readsLetters_56 : List Ins := [(56, .ireturn, 0, 0, 0, 0)]
theorem so_X7_readsLetters_56 : sgOK mi_X7_readsLetters gm_X7_readsLetters sg_X7_readsLetters_56 = true := by decide +kernel
def sgs_X7_readsLetters : Nat → Option (List Ins) := fun t => match t with
  | 0 => some sg_X7_readsLetters_0
  | 32 => some sg_X7_readsLetters_32
  | 55 => some sg_X7_readsLetters_55
  | 56 => some sg_X7_readsLetters_56
  | _ => none
theorem so_X7_readsLetters : ∀ t sg, sgs_X7_readsLetters t = some sg → sgOK mi_X7_readsLetters gm_X7_readsLetters sg = true ∧ segPc sg = t := by
  intro t sg h
  unfold sgs_X7_readsLetters at h
  split at h
  · cases h; exact ⟨so_X7_readsLetters_0, rfl⟩
  · cases h; exact ⟨so_X7_readsLetters_32, rfl⟩
  · cases h; exact ⟨so_X7_readsLetters_55, rfl⟩
  · cases h; exact ⟨so_X7_readsLetters_56, rfl⟩
  · cases h
def gm_X7_readsOrder : List MI := [mi_X7_digit, mi_X7_readsPlace, mi_X7_takes, mi_X7_readsLetters, mi_X7_number]
def sg_X7_readsOrder_0 : List Ins := [(0, .aload_n 0, 0, 0, 0, 0), (1, .aload_n 0, 0, 0, 0, 0), (2, .getfield 238, 7, 7, 724, 0), (5, .aload_n 0, 0, 0, 0, 0), (6, .getfield 199, 7, 6, 723, 0), (9, .if_icmp .ge 16, 0, 0, 25, 0), (12, .aload_n 0, 0, 0, 0, 0), (13, .getfield 24, 7, 5, 722, 0), (16, .aload_n 0, 0, 0, 0, 0), (17, .getfield 238, 7, 7, 724, 0), (20, .iaload, 8, 0, 0, 0), (21, .i2c, 0, 0, 0, 0), (22, .goto 5, 0, 0, 27, 0)]
theorem so_X7_readsOrder_0 : sgOK mi_X7_readsOrder gm_X7_readsOrder sg_X7_readsOrder_0 = true := by decide +kernel
def sg_X7_readsOrder_25 : List Ins := [(25, .bipush 32, 32, 0, 0, 0), (27, .putfield 265, 7, 8, 725, 0), (30, .aload_n 0, 0, 0, 0, 0), (31, .dup, 0, 0, 0, 0), (32, .getfield 238, 7, 7, 724, 0), (35, .iconst 1, 1, 0, 0, 0), (36, .iadd, 0, 0, 0, 0), (37, .putfield 238, 7, 7, 724, 0), (40, .aload_n 0, 0, 0, 0, 0), (41, .getfield 265, 7, 8, 725, 0), (44, .tableswitch 213 104 120 #[190, 213, 213, 86, 213, 213, 84, 86, 155, 213, 213, 213, 213, 213, 213, 109, 185], 84, 0, 0, 0)]
theorem so_X7_readsOrder_25 : sgOK mi_X7_readsOrder gm_X7_readsOrder sg_X7_readsOrder_25 = true := by decide +kernel
def sg_X7_readsOrder_27 : List Ins := [(27, .putfield 265, 7, 8, 725, 0), (30, .aload_n 0, 0, 0, 0, 0), (31, .dup, 0, 0, 0, 0), (32, .getfield 238, 7, 7, 724, 0), (35, .iconst 1, 1, 0, 0, 0), (36, .iadd, 0, 0, 0, 0), (37, .putfield 238, 7, 7, 724, 0), (40, .aload_n 0, 0, 0, 0, 0), (41, .getfield 265, 7, 8, 725, 0), (44, .tableswitch 213 104 120 #[190, 213, 213, 86, 213, 213, 84, 86, 155, 213, 213, 213, 213, 213, 213, 109, 185], 84, 0, 0, 0)]
theorem so_X7_readsOrder_27 : sgOK mi_X7_readsOrder gm_X7_readsOrder sg_X7_readsOrder_27 = true := by decide +kernel
def sg_X7_readsOrder_128 : List Ins := [(128, .iconst 1, 1, 0, 0, 0), (129, .ireturn, 0, 0, 0, 0)]
theorem so_X7_readsOrder_128 : sgOK mi_X7_readsOrder gm_X7_readsOrder sg_X7_readsOrder_128 = true := by decide +kernel
def sg_X7_readsOrder_130 : List Ins := [(130, .aload_n 0, 0, 0, 0, 0), (131, .aload_n 0, 0, 0, 0, 0), (132, .invokevirtual 244, 1075, 0, 17, 1), (135, .putfield 269, 7, 9, 726, 0), (138, .aload_n 0, 0, 0, 0, 0), (139, .getfield 269, 7, 9, 726, 0), (142, .bipush (-6), 6, 1, 0, 0), (144, .if_icmp .eq 7, 0, 0, 151, 0), (147, .iconst 1, 1, 0, 0, 0), (148, .goto 4, 0, 0, 152, 0)]
theorem so_X7_readsOrder_130 : sgOK mi_X7_readsOrder gm_X7_readsOrder sg_X7_readsOrder_130 = true := by decide +kernel
def sg_X7_readsOrder_151 : List Ins := [(151, .iconst 0, 0, 0, 0, 0), (152, .ireturn, 0, 0, 0, 0)]
theorem so_X7_readsOrder_151 : sgOK mi_X7_readsOrder gm_X7_readsOrder sg_X7_readsOrder_151 = true := by decide +kernel
def sg_X7_readsOrder_152 : List Ins := [(152, .ireturn, 0, 0, 0, 0)]
theorem so_X7_readsOrder_152 : sgOK mi_X7_readsOrder gm_X7_readsOrder sg_X7_readsOrder_152 = true := by decide +kernel
def sg_X7_readsOrder_153 : List Ins := [(153, .aload_n 0, 0, 0, 0, 0), (154, .aload_n 0, 0, 0, 0, 0), (155, .invokevirtual 244, 1075, 0, 17, 1), (158, .putfield 269, 7, 9, 726, 0), (161, .aload_n 0, 0, 0, 0, 0), (162, .getfield 269, 7, 9, 726, 0), (165, .bipush (-6), 6, 1, 0, 0), (167, .if_icmp .eq 30, 0, 0, 197, 0), (170, .aload_n 0, 0, 0, 0, 0), (171, .invokevirtual 272, 1083, 1, 17, 1), (174, .ifCond .eq 23, 0, 0, 197, 0), (177, .aload_n 0, 0, 0, 0, 0), (178, .bipush 61, 61, 0, 0, 0), (180, .invokevirtual 247, 1087, 2, 17, 2), (183, .ifCond .eq 14, 0, 0, 197, 0), (186, .aload_n 0, 0, 0, 0, 0), (187, .invokevirtual 276, 1095, 3, 17, 1), (190, .ifCond .eq 7, 0, 0, 197, 0), (193, .iconst 1, 1, 0, 0, 0), (194, .goto 4, 0, 0, 198, 0)]
theorem so_X7_readsOrder_153 : sgOK mi_X7_readsOrder gm_X7_readsOrder sg_X7_readsOrder_153 = true := by decide +kernel
def sg_X7_readsOrder_197 : List Ins := [(197, .iconst 0, 0, 0, 0, 0), (198, .ireturn, 0, 0, 0, 0)]
theorem so_X7_readsOrder_197 : sgOK mi_X7_readsOrder gm_X7_readsOrder sg_X7_readsOrder_197 = true := by decide +kernel
def sg_X7_readsOrder_198 : List Ins := [(198, .ireturn, 0, 0, 0, 0)]
theorem so_X7_readsOrder_198 : sgOK mi_X7_readsOrder gm_X7_readsOrder sg_X7_readsOrder_198 = true := by decide +kernel
def sg_X7_readsOrder_199 : List Ins := [(199, .aload_n 0, 0, 0, 0, 0), (200, .aload_n 0, 0, 0, 0, 0), (201, .invokevirtual 244, 1075, 0, 17, 1), (204, .putfield 269, 7, 9, 726, 0), (207, .aload_n 0, 0, 0, 0, 0), (208, .getfield 269, 7, 9, 726, 0), (211, .bipush (-6), 6, 1, 0, 0), (213, .if_icmp .eq 14, 0, 0, 227, 0), (216, .aload_n 0, 0, 0, 0, 0), (217, .invokevirtual 272, 1083, 1, 17, 1), (220, .ifCond .eq 7, 0, 0, 227, 0), (223, .iconst 1, 1, 0, 0, 0), (224, .goto 4, 0, 0, 228, 0)]
theorem so_X7_readsOrder_199 : sgOK mi_X7_readsOrder gm_X7_readsOrder sg_X7_readsOrder_199 = true := by decide +kernel
def sg_X7_readsOrder_227 : List Ins := [(227, .iconst 0, 0, 0, 0, 0), (228, .ireturn, 0, 0, 0, 0)]
theorem so_X7_readsOrder_227 : sgOK mi_X7_readsOrder gm_X7_readsOrder sg_X7_readsOrder_227 = true := by decide +kernel
def sg_X7_readsOrder_228 : List Ins := [(228, .ireturn, 0, 0, 0, 0)]
theorem so_X7_readsOrder_228 : sgOK mi_X7_readsOrder gm_X7_readsOrder sg_X7_readsOrder_228 = true := by decide +kernel
def sg_X7_readsOrder_229 : List Ins := [(229, .aload_n 0, 0, 0, 0, 0), (230, .invokevirtual 272, 1083, 1, 17, 1), (233, .ireturn, 0, 0, 0, 0)]
theorem so_X7_readsOrder_229 : sgOK mi_X7_readsOrder gm_X7_readsOrder sg_X7_readsOrder_229 = true := by decide +kernel
def sg_X7_readsOrder_234 : List Ins := [(234, .aload_n 0, 0, 0, 0, 0), (235, .aload_n 0, 0, 0, 0, 0), (236, .invokevirtual 250, 1091, 4, 17, 1), (239, .putfield 269, 7, 9, 726, 0), (242, .aload_n 0, 0, 0, 0, 0), (243, .getfield 269, 7, 9, 726, 0), (246, .bipush (-6), 6, 1, 0, 0), (248, .if_icmp .eq 7, 0, 0, 255, 0), (251, .iconst 1, 1, 0, 0, 0), (252, .goto 4, 0, 0, 256, 0)]
theorem so_X7_readsOrder_234 : sgOK mi_X7_readsOrder gm_X7_readsOrder sg_X7_readsOrder_234 = true := by decide +kernel
def sg_X7_readsOrder_255 : List Ins := [(255, .iconst 0, 0, 0, 0, 0), (256, .ireturn, 0, 0, 0, 0)]
theorem so_X7_readsOrder_255 : sgOK mi_X7_readsOrder gm_X7_readsOrder sg_X7_readsOrder_255 = true := by decide +kernel
def sg_X7_readsOrder_256 : List Ins := [(256, .ireturn, 0, 0, 0, 0)]
theorem so_X7_readsOrder_256 : sgOK mi_X7_readsOrder gm_X7_readsOrder sg_X7_readsOrder_256 = true := by decide +kernel
def sg_X7_readsOrder_257 : List Ins := [(257, .aload_n 0, 0, 0, 0, 0), (258, .dup, 0, 0, 0, 0), (259, .getfield 238, 7, 7, 724, 0), (262, .iconst 1, 1, 0, 0, 0), (263, .isub, 0, 0, 0, 0), (264, .putfield 238, 7, 7, 724, 0), (267, .iconst 0, 0, 0, 0, 0), (268, .ireturn, 0, 0, 0, 0)]
theorem so_X7_readsOrder_257 : sgOK mi_X7_readsOrder gm_X7_readsOrder sg_X7_readsOrder_257 = true := by decide +kernel
def sgs_X7_readsOrder : Nat → Option (List Ins) := fun t => match t with
  | 0 => some sg_X7_readsOrder_0
  | 25 => some sg_X7_readsOrder_25
  | 27 => some sg_X7_readsOrder_27
  | 128 => some sg_X7_readsOrder_128
  | 130 => some sg_X7_readsOrder_130
  | 151 => some sg_X7_readsOrder_151
  | 152 => some sg_X7_readsOrder_152
  | 153 => some sg_X7_readsOrder_153
  | 197 => some sg_X7_readsOrder_197
  | 198 => some sg_X7_readsOrder_198
  | 199 => some sg_X7_readsOrder_199
  | 227 => some sg_X7_readsOrder_227
  | 228 => some sg_X7_readsOrder_228
  | 229 => some sg_X7_readsOrder_229
  | 234 => some sg_X7_readsOrder_234
  | 255 => some sg_X7_readsOrder_255
  | 256 => some sg_X7_readsOrder_256
  | 257 => some sg_X7_readsOrder_257
  | _ => none
theorem so_X7_readsOrder : ∀ t sg, sgs_X7_readsOrder t = some sg → sgOK mi_X7_readsOrder gm_X7_readsOrder sg = true ∧ segPc sg = t := by
  intro t sg h
  unfold sgs_X7_readsOrder at h
  split at h
  · cases h; exact ⟨so_X7_readsOrder_0, rfl⟩
  · cases h; exact ⟨so_X7_readsOrder_25, rfl⟩
  · cases h; exact ⟨so_X7_readsOrder_27, rfl⟩
  · cases h; exact ⟨so_X7_readsOrder_128, rfl⟩
  · cases h; exact ⟨so_X7_readsOrder_130, rfl⟩
  · cases h; exact ⟨so_X7_readsOrder_151, rfl⟩
  · cases h; exact ⟨so_X7_readsOrder_152, rfl⟩
  · cases h; exact ⟨so_X7_readsOrder_153, rfl⟩
  · cases h; exact ⟨so_X7_readsOrder_197, rfl⟩
  · cases h; exact ⟨so_X7_readsOrder_198, rfl⟩
  · cases h; exact ⟨so_X7_readsOrder_199, rfl⟩
  · cases h; exact ⟨so_X7_readsOrder_227, rfl⟩
  · cases h; exact ⟨so_X7_readsOrder_228, rfl⟩
  · cases h; exact ⟨so_X7_readsOrder_229, rfl⟩
  · cases h; exact ⟨so_X7_readsOrder_234, rfl⟩
  · cases h; exact ⟨so_X7_readsOrder_255, rfl⟩
  · cases h; exact ⟨so_X7_readsOrder_256, rfl⟩
  · cases h; exact ⟨so_X7_readsOrder_257, rfl⟩
  · cases h
def gm_X7_fault : List MI := [mi_X7_readsOrder, mi_X7_takes]
def sg_X7_fault_0 : List Ins := [(0, .aload_n 0, 0, 0, 0, 0), (1, .iconst 0, 0, 0, 0, 0), (2, .putfield 238, 7, 7, 724, 0), (5, .iconst 1, 1, 0, 0, 0), (6, .istore_n 1, 0, 0, 0, 0), (7, .nop, 0, 0, 0, 0)]
theorem so_X7_fault_0 : sgOK mi_X7_fault gm_X7_fault sg_X7_fault_0 = true := by decide +kernel
def sg_X7_fault_7 : List Ins := [(7, .iload_n 1, 0, 0, 0, 0), (8, .ifCond .eq 25, 0, 0, 33, 0), (11, .aload_n 0, 0, 0, 0, 0), (12, .invokevirtual 279, 1071, 0, 17, 1), (15, .ifCond .ne 8, 0, 0, 23, 0), (18, .aload_n 0, 0, 0, 0, 0), (19, .getfield 238, 7, 7, 724, 0), (22, .ireturn, 0, 0, 0, 0)]
theorem so_X7_fault_7 : sgOK mi_X7_fault gm_X7_fault sg_X7_fault_7 = true := by decide +kernel
def sg_X7_fault_23 : List Ins := [(23, .aload_n 0, 0, 0, 0, 0), (24, .bipush 59, 59, 0, 0, 0), (26, .invokevirtual 247, 1087, 1, 17, 2), (29, .istore_n 1, 0, 0, 0, 0), (30, .goto (-23), 0, 0, 7, 0)]
theorem so_X7_fault_23 : sgOK mi_X7_fault gm_X7_fault sg_X7_fault_23 = true := by decide +kernel
def sg_X7_fault_33 : List Ins := [(33, .aload_n 0, 0, 0, 0, 0), (34, .getfield 238, 7, 7, 724, 0), (37, .aload_n 0, 0, 0, 0, 0), (38, .getfield 199, 7, 6, 723, 0), (41, .if_icmp .ne 8, 0, 0, 49, 0), (44, .bipush (-6), 6, 1, 0, 0), (46, .goto 7, 0, 0, 53, 0)]
theorem so_X7_fault_33 : sgOK mi_X7_fault gm_X7_fault sg_X7_fault_33 = true := by decide +kernel
def sg_X7_fault_49 : List Ins := [(49, .aload_n 0, 0, 0, 0, 0), (50, .getfield 238, 7, 7, 724, 0), (53, .ireturn, 0, 0, 0, 0)]
theorem so_X7_fault_49 : sgOK mi_X7_fault gm_X7_fault sg_X7_fault_49 = true := by decide +kernel
def sg_X7_fault_53 : List Ins := [(53, .ireturn, 0, 0, 0, 0)]
theorem so_X7_fault_53 : sgOK mi_X7_fault gm_X7_fault sg_X7_fault_53 = true := by decide +kernel
def sgs_X7_fault : Nat → Option (List Ins) := fun t => match t with
  | 0 => some sg_X7_fault_0
  | 23 => some sg_X7_fault_23
  | 33 => some sg_X7_fault_33
  | 49 => some sg_X7_fault_49
  | 53 => some sg_X7_fault_53
  | _ => none
theorem so_X7_fault : ∀ t sg, sgs_X7_fault t = some sg → sgOK mi_X7_fault gm_X7_fault sg = true ∧ segPc sg = t := by
  intro t sg h
  unfold sgs_X7_fault at h
  split at h
  · cases h; exact ⟨so_X7_fault_0, rfl⟩
  · cases h; exact ⟨so_X7_fault_23, rfl⟩
  · cases h; exact ⟨so_X7_fault_33, rfl⟩
  · cases h; exact ⟨so_X7_fault_49, rfl⟩
  · cases h; exact ⟨so_X7_fault_53, rfl⟩
  · cases h
def gm_X7_orderError : List MI := [mi_X7_layError, mi_X7_writerError, mi_X7_writeError, mi_X7_promiseError, mi_X7_rubError, mi_X7_passError]
def sg_X7_orderError_0 : List Ins := [(0, .aload_n 0, 0, 0, 0, 0), (1, .getfield 265, 7, 8, 725, 0), (4, .tableswitch 170 107 120 #[98, 170, 170, 72, 89, 140, 170, 170, 170, 170, 170, 170, 107, 157], 72, 0, 0, 0)]
theorem so_X7_orderError_0 : sgOK mi_X7_orderError gm_X7_orderError sg_X7_orderError_0 = true := by decide +kernel
def sg_X7_orderError_76 : List Ins := [(76, .aload_n 0, 0, 0, 0, 0), (77, .getfield 7, 7, 0, 717, 0), (80, .iconst 5, 5, 0, 0, 0), (81, .iaload, 8, 0, 0, 0), (82, .iconst 4, 4, 0, 0, 0), (83, .if_icmp .ne 8, 0, 0, 91, 0), (86, .bipush (-4), 4, 1, 0, 0), (88, .goto 4, 0, 0, 92, 0)]
theorem so_X7_orderError_76 : sgOK mi_X7_orderError gm_X7_orderError sg_X7_orderError_76 = true := by decide +kernel
def sg_X7_orderError_91 : List Ins := [(91, .iconst 0, 0, 0, 0, 0), (92, .ireturn, 0, 0, 0, 0)]
theorem so_X7_orderError_91 : sgOK mi_X7_orderError gm_X7_orderError sg_X7_orderError_91 = true := by decide +kernel
def sg_X7_orderError_92 : List Ins := [(92, .ireturn, 0, 0, 0, 0)]
theorem so_X7_orderError_92 : sgOK mi_X7_orderError gm_X7_orderError sg_X7_orderError_92 = true := by decide +kernel
def sg_X7_orderError_93 : List Ins := [(93, .aload_n 0, 0, 0, 0, 0), (94, .aload_n 0, 0, 0, 0, 0), (95, .getfield 269, 7, 9, 726, 0), (98, .invokevirtual 134, 800, 0, 17, 2), (101, .ireturn, 0, 0, 0, 0)]
theorem so_X7_orderError_93 : sgOK mi_X7_orderError gm_X7_orderError sg_X7_orderError_93 = true := by decide +kernel
def sg_X7_orderError_102 : List Ins := [(102, .aload_n 0, 0, 0, 0, 0), (103, .aload_n 0, 0, 0, 0, 0), (104, .getfield 269, 7, 9, 726, 0), (107, .invokevirtual 140, 816, 1, 17, 2), (110, .ireturn, 0, 0, 0, 0)]
theorem so_X7_orderError_102 : sgOK mi_X7_orderError gm_X7_orderError sg_X7_orderError_102 = true := by decide +kernel
def sg_X7_orderError_111 : List Ins := [(111, .aload_n 0, 0, 0, 0, 0), (112, .aload_n 0, 0, 0, 0, 0), (113, .getfield 269, 7, 9, 726, 0), (116, .aload_n 0, 0, 0, 0, 0), (117, .getfield 253, 7, 10, 727, 0), (120, .aload_n 0, 0, 0, 0, 0), (121, .getfield 256, 7, 11, 728, 0), (124, .iload_n 1, 0, 0, 0, 0), (125, .iadd, 0, 0, 0, 0), (126, .aload_n 0, 0, 0, 0, 0), (127, .getfield 259, 7, 12, 729, 0), (130, .isub, 0, 0, 0, 0), (131, .aload_n 0, 0, 0, 0, 0), (132, .getfield 24, 7, 5, 722, 0), (135, .iload_n 1, 0, 0, 0, 0), (136, .iaload, 8, 0, 0, 0), (137, .bipush 97, 97, 0, 0, 0), (139, .isub, 0, 0, 0, 0), (140, .invokevirtual 146, 829, 2, 17, 5), (143, .ireturn, 0, 0, 0, 0)]
theorem so_X7_orderError_111 : sgOK mi_X7_orderError gm_X7_orderError sg_X7_orderError_111 = true := by decide +kernel
def sg_X7_orderError_144 : List Ins := [(144, .aload_n 0, 0, 0, 0, 0), (145, .aload_n 0, 0, 0, 0, 0), (146, .getfield 269, 7, 9, 726, 0), (149, .aload_n 0, 0, 0, 0, 0), (150, .getfield 253, 7, 10, 727, 0), (153, .aload_n 0, 0, 0, 0, 0), (154, .getfield 256, 7, 11, 728, 0), (157, .invokevirtual 153, 890, 3, 17, 4), (160, .ireturn, 0, 0, 0, 0)]
theorem so_X7_orderError_144 : sgOK mi_X7_orderError gm_X7_orderError sg_X7_orderError_144 = true := by decide +kernel
def sg_X7_orderError_161 : List Ins := [(161, .aload_n 0, 0, 0, 0, 0), (162, .aload_n 0, 0, 0, 0, 0), (163, .getfield 253, 7, 10, 727, 0), (166, .aload_n 0, 0, 0, 0, 0), (167, .getfield 256, 7, 11, 728, 0), (170, .invokevirtual 159, 918, 4, 17, 3), (173, .ireturn, 0, 0, 0, 0)]
theorem so_X7_orderError_161 : sgOK mi_X7_orderError gm_X7_orderError sg_X7_orderError_161 = true := by decide +kernel
def sg_X7_orderError_174 : List Ins := [(174, .aload_n 0, 0, 0, 0, 0), (175, .aload_n 0, 0, 0, 0, 0), (176, .getfield 269, 7, 9, 726, 0), (179, .invokevirtual 165, 930, 5, 17, 2), (182, .ireturn, 0, 0, 0, 0)]
theorem so_X7_orderError_174 : sgOK mi_X7_orderError gm_X7_orderError sg_X7_orderError_174 = true := by decide +kernel
def sgs_X7_orderError : Nat → Option (List Ins) := fun t => match t with
  | 0 => some sg_X7_orderError_0
  | 76 => some sg_X7_orderError_76
  | 91 => some sg_X7_orderError_91
  | 92 => some sg_X7_orderError_92
  | 93 => some sg_X7_orderError_93
  | 102 => some sg_X7_orderError_102
  | 111 => some sg_X7_orderError_111
  | 144 => some sg_X7_orderError_144
  | 161 => some sg_X7_orderError_161
  | 174 => some sg_X7_orderError_174
  | _ => none
theorem so_X7_orderError : ∀ t sg, sgs_X7_orderError t = some sg → sgOK mi_X7_orderError gm_X7_orderError sg = true ∧ segPc sg = t := by
  intro t sg h
  unfold sgs_X7_orderError at h
  split at h
  · cases h; exact ⟨so_X7_orderError_0, rfl⟩
  · cases h; exact ⟨so_X7_orderError_76, rfl⟩
  · cases h; exact ⟨so_X7_orderError_91, rfl⟩
  · cases h; exact ⟨so_X7_orderError_92, rfl⟩
  · cases h; exact ⟨so_X7_orderError_93, rfl⟩
  · cases h; exact ⟨so_X7_orderError_102, rfl⟩
  · cases h; exact ⟨so_X7_orderError_111, rfl⟩
  · cases h; exact ⟨so_X7_orderError_144, rfl⟩
  · cases h; exact ⟨so_X7_orderError_161, rfl⟩
  · cases h; exact ⟨so_X7_orderError_174, rfl⟩
  · cases h
def gm_X7_does : List MI := [mi_X7_comes, mi_X7_lays, mi_X7_joins, mi_X7_spotOf, mi_X7_pens, mi_X7_promises, mi_X7_rubs, mi_X7_goesOn]
def sg_X7_does_0 : List Ins := [(0, .aload_n 0, 0, 0, 0, 0), (1, .getfield 265, 7, 8, 725, 0), (4, .tableswitch 167 107 120 #[86, 167, 167, 72, 77, 131, 167, 167, 167, 167, 167, 167, 95, 151], 72, 0, 0, 0)]
theorem so_X7_does_0 : sgOK mi_X7_does gm_X7_does sg_X7_does_0 = true := by decide +kernel
def sg_X7_does_76 : List Ins := [(76, .aload_n 0, 0, 0, 0, 0), (77, .invokevirtual 130, 786, 0, 17, 1), (80, .ireturn, 0, 0, 0, 0)]
theorem so_X7_does_76 : sgOK mi_X7_does gm_X7_does sg_X7_does_76 = true := by decide +kernel
def sg_X7_does_81 : List Ins := [(81, .aload_n 0, 0, 0, 0, 0), (82, .aload_n 0, 0, 0, 0, 0), (83, .getfield 269, 7, 9, 726, 0), (86, .invokevirtual 137, 808, 1, 17, 2), (89, .ireturn, 0, 0, 0, 0)]
theorem so_X7_does_81 : sgOK mi_X7_does gm_X7_does sg_X7_does_81 = true := by decide +kernel
def sg_X7_does_90 : List Ins := [(90, .aload_n 0, 0, 0, 0, 0), (91, .aload_n 0, 0, 0, 0, 0), (92, .getfield 269, 7, 9, 726, 0), (95, .invokevirtual 143, 821, 2, 17, 2), (98, .ireturn, 0, 0, 0, 0)]
theorem so_X7_does_90 : sgOK mi_X7_does gm_X7_does sg_X7_does_90 = true := by decide +kernel
def sg_X7_does_99 : List Ins := [(99, .aload_n 0, 0, 0, 0, 0), (100, .aload_n 0, 0, 0, 0, 0), (101, .getfield 269, 7, 9, 726, 0), (104, .aload_n 0, 0, 0, 0, 0), (105, .getfield 253, 7, 10, 727, 0), (108, .aload_n 0, 0, 0, 0, 0), (109, .getfield 256, 7, 11, 728, 0), (112, .iload_n 1, 0, 0, 0, 0), (113, .iadd, 0, 0, 0, 0), (114, .aload_n 0, 0, 0, 0, 0), (115, .getfield 259, 7, 12, 729, 0), (118, .isub, 0, 0, 0, 0), (119, .invokestatic 94, 846, 3, 0, 2), (122, .aload_n 0, 0, 0, 0, 0), (123, .getfield 24, 7, 5, 722, 0), (126, .iload_n 1, 0, 0, 0, 0), (127, .iaload, 8, 0, 0, 0), (128, .bipush 97, 97, 0, 0, 0), (130, .isub, 0, 0, 0, 0), (131, .invokevirtual 150, 862, 4, 17, 4), (134, .ireturn, 0, 0, 0, 0)]
theorem so_X7_does_99 : sgOK mi_X7_does gm_X7_does sg_X7_does_99 = true := by decide +kernel
def sg_X7_does_135 : List Ins := [(135, .aload_n 0, 0, 0, 0, 0), (136, .aload_n 0, 0, 0, 0, 0), (137, .getfield 269, 7, 9, 726, 0), (140, .aload_n 0, 0, 0, 0, 0), (141, .getfield 253, 7, 10, 727, 0), (144, .aload_n 0, 0, 0, 0, 0), (145, .getfield 256, 7, 11, 728, 0), (148, .invokestatic 94, 846, 3, 0, 2), (151, .invokevirtual 156, 902, 5, 17, 3), (154, .ireturn, 0, 0, 0, 0)]
theorem so_X7_does_135 : sgOK mi_X7_does gm_X7_does sg_X7_does_135 = true := by decide +kernel
def sg_X7_does_155 : List Ins := [(155, .aload_n 0, 0, 0, 0, 0), (156, .aload_n 0, 0, 0, 0, 0), (157, .getfield 253, 7, 10, 727, 0), (160, .aload_n 0, 0, 0, 0, 0), (161, .getfield 256, 7, 11, 728, 0), (164, .invokestatic 94, 846, 3, 0, 2), (167, .invokevirtual 162, 922, 6, 17, 2), (170, .ireturn, 0, 0, 0, 0)]
theorem so_X7_does_155 : sgOK mi_X7_does gm_X7_does sg_X7_does_155 = true := by decide +kernel
def sg_X7_does_171 : List Ins := [(171, .aload_n 0, 0, 0, 0, 0), (172, .aload_n 0, 0, 0, 0, 0), (173, .getfield 269, 7, 9, 726, 0), (176, .invokevirtual 168, 935, 7, 17, 2), (179, .ireturn, 0, 0, 0, 0)]
theorem so_X7_does_171 : sgOK mi_X7_does gm_X7_does sg_X7_does_171 = true := by decide +kernel
def sgs_X7_does : Nat → Option (List Ins) := fun t => match t with
  | 0 => some sg_X7_does_0
  | 76 => some sg_X7_does_76
  | 81 => some sg_X7_does_81
  | 90 => some sg_X7_does_90
  | 99 => some sg_X7_does_99
  | 135 => some sg_X7_does_135
  | 155 => some sg_X7_does_155
  | 171 => some sg_X7_does_171
  | _ => none
theorem so_X7_does : ∀ t sg, sgs_X7_does t = some sg → sgOK mi_X7_does gm_X7_does sg = true ∧ segPc sg = t := by
  intro t sg h
  unfold sgs_X7_does at h
  split at h
  · cases h; exact ⟨so_X7_does_0, rfl⟩
  · cases h; exact ⟨so_X7_does_76, rfl⟩
  · cases h; exact ⟨so_X7_does_81, rfl⟩
  · cases h; exact ⟨so_X7_does_90, rfl⟩
  · cases h; exact ⟨so_X7_does_99, rfl⟩
  · cases h; exact ⟨so_X7_does_135, rfl⟩
  · cases h; exact ⟨so_X7_does_155, rfl⟩
  · cases h; exact ⟨so_X7_does_171, rfl⟩
  · cases h
def gm_X7_carryOut : List MI := [mi_X7_fault, mi_X7_changes, mi_X7_readsOrder, mi_X7_orderError, mi_X7_does, mi_X7_takes]
def sg_X7_carryOut_0 : List Ins := [(0, .aload_n 0, 0, 0, 0, 0), (1, .invokevirtual 282, 1103, 0, 17, 1), (4, .bipush (-6), 6, 1, 0, 0), (6, .if_icmp .eq 6, 0, 0, 12, 0), (9, .bipush (-3), 3, 1, 0, 0), (11, .ireturn, 0, 0, 0, 0)]
theorem so_X7_carryOut_0 : sgOK mi_X7_carryOut gm_X7_carryOut sg_X7_carryOut_0 = true := by decide +kernel
def sg_X7_carryOut_12 : List Ins := [(12, .aload_n 0, 0, 0, 0, 0), (13, .invokevirtual 127, 774, 1, 17, 1), (16, .aload_n 0, 0, 0, 0, 0), (17, .iconst 0, 0, 0, 0, 0), (18, .putfield 238, 7, 7, 724, 0), (21, .iconst 0, 0, 0, 0, 0), (22, .istore_n 1, 0, 0, 0, 0), (23, .iconst 1, 1, 0, 0, 0), (24, .istore_n 2, 0, 0, 0, 0), (25, .nop, 0, 0, 0, 0)]
theorem so_X7_carryOut_12 : sgOK mi_X7_carryOut gm_X7_carryOut sg_X7_carryOut_12 = true := by decide +kernel
def sg_X7_carryOut_25 : List Ins := [(25, .iload_n 2, 0, 0, 0, 0), (26, .ifCond .eq 121, 0, 0, 147, 0), (29, .aload_n 0, 0, 0, 0, 0), (30, .invokevirtual 279, 1071, 2, 17, 1), (33, .istore_n 3, 0, 0, 0, 0), (34, .aload_n 0, 0, 0, 0, 0), (35, .getfield 265, 7, 8, 725, 0), (38, .bipush 119, 119, 0, 0, 0), (40, .if_icmp .ne 10, 0, 0, 50, 0), (43, .aload_n 0, 0, 0, 0, 0), (44, .getfield 262, 7, 13, 730, 0), (47, .goto 9, 0, 0, 56, 0)]
theorem so_X7_carryOut_25 : sgOK mi_X7_carryOut gm_X7_carryOut sg_X7_carryOut_25 = true := by decide +kernel
def sg_X7_carryOut_50 : List Ins := [(50, .aload_n 0, 0, 0, 0, 0), (51, .getfield 259, 7, 12, 729, 0), (54, .iconst 1, 1, 0, 0, 0), (55, .iadd, 0, 0, 0, 0), (56, .istore 4, 0, 0, 0, 0), (58, .aload_n 0, 0, 0, 0, 0), (59, .getfield 259, 7, 12, 729, 0), (62, .istore 5, 0, 0, 0, 0), (64, .nop, 0, 0, 0, 0)]
theorem so_X7_carryOut_50 : sgOK mi_X7_carryOut gm_X7_carryOut sg_X7_carryOut_50 = true := by decide +kernel
def sg_X7_carryOut_56 : List Ins := [(56, .istore 4, 0, 0, 0, 0), (58, .aload_n 0, 0, 0, 0, 0), (59, .getfield 259, 7, 12, 729, 0), (62, .istore 5, 0, 0, 0, 0), (64, .nop, 0, 0, 0, 0)]
theorem so_X7_carryOut_56 : sgOK mi_X7_carryOut gm_X7_carryOut sg_X7_carryOut_56 = true := by decide +kernel
def sg_X7_carryOut_64 : List Ins := [(64, .iload 5, 0, 0, 0, 0), (66, .iload 4, 0, 0, 0, 0), (68, .if_icmp .ge 57, 0, 0, 125, 0), (71, .iload_n 2, 0, 0, 0, 0), (72, .ifCond .eq 53, 0, 0, 125, 0), (75, .aload_n 0, 0, 0, 0, 0), (76, .iload 5, 0, 0, 0, 0), (78, .invokevirtual 285, 1104, 3, 17, 2), (81, .ifCond .ne 7, 0, 0, 88, 0), (84, .iconst 1, 1, 0, 0, 0), (85, .goto 4, 0, 0, 89, 0)]
theorem so_X7_carryOut_64 : sgOK mi_X7_carryOut gm_X7_carryOut sg_X7_carryOut_64 = true := by decide +kernel
def sg_X7_carryOut_88 : List Ins := [(88, .iconst 0, 0, 0, 0, 0), (89, .istore_n 2, 0, 0, 0, 0), (90, .iload_n 2, 0, 0, 0, 0), (91, .ifCond .eq 12, 0, 0, 103, 0), (94, .aload_n 0, 0, 0, 0, 0), (95, .iload 5, 0, 0, 0, 0), (97, .invokevirtual 288, 1108, 4, 17, 2), (100, .goto 5, 0, 0, 105, 0)]
theorem so_X7_carryOut_88 : sgOK mi_X7_carryOut gm_X7_carryOut sg_X7_carryOut_88 = true := by decide +kernel
def sg_X7_carryOut_89 : List Ins := [(89, .istore_n 2, 0, 0, 0, 0), (90, .iload_n 2, 0, 0, 0, 0), (91, .ifCond .eq 12, 0, 0, 103, 0), (94, .aload_n 0, 0, 0, 0, 0), (95, .iload 5, 0, 0, 0, 0), (97, .invokevirtual 288, 1108, 4, 17, 2), (100, .goto 5, 0, 0, 105, 0)]
theorem so_X7_carryOut_89 : sgOK mi_X7_carryOut gm_X7_carryOut sg_X7_carryOut_89 = true := by decide +kernel
def sg_X7_carryOut_103 : List Ins := [(103, .bipush (-6), 6, 1, 0, 0), (105, .istore 6, 0, 0, 0, 0), (107, .iload_n 1, 0, 0, 0, 0), (108, .iload_n 2, 0, 0, 0, 0), (109, .ifCond .eq 7, 0, 0, 116, 0), (112, .iconst 1, 1, 0, 0, 0), (113, .goto 4, 0, 0, 117, 0)]
theorem so_X7_carryOut_103 : sgOK mi_X7_carryOut gm_X7_carryOut sg_X7_carryOut_103 = true := by decide +kernel
def sg_X7_carryOut_105 : List Ins := [(105, .istore 6, 0, 0, 0, 0), (107, .iload_n 1, 0, 0, 0, 0), (108, .iload_n 2, 0, 0, 0, 0), (109, .ifCond .eq 7, 0, 0, 116, 0), (112, .iconst 1, 1, 0, 0, 0), (113, .goto 4, 0, 0, 117, 0)]
theorem so_X7_carryOut_105 : sgOK mi_X7_carryOut gm_X7_carryOut sg_X7_carryOut_105 = true := by decide +kernel
def sg_X7_carryOut_116 : List Ins := [(116, .iconst 0, 0, 0, 0, 0), (117, .iadd, 0, 0, 0, 0), (118, .istore_n 1, 0, 0, 0, 0), (119, .iinc 5 1, 1, 0, 0, 0), (122, .goto (-58), 0, 0, 64, 0)]
theorem so_X7_carryOut_116 : sgOK mi_X7_carryOut gm_X7_carryOut sg_X7_carryOut_116 = true := by decide +kernel
def sg_X7_carryOut_117 : List Ins := [(117, .iadd, 0, 0, 0, 0), (118, .istore_n 1, 0, 0, 0, 0), (119, .iinc 5 1, 1, 0, 0, 0), (122, .goto (-58), 0, 0, 64, 0)]
theorem so_X7_carryOut_117 : sgOK mi_X7_carryOut gm_X7_carryOut sg_X7_carryOut_117 = true := by decide +kernel
def sg_X7_carryOut_125 : List Ins := [(125, .iload_n 2, 0, 0, 0, 0), (126, .ifCond .eq 16, 0, 0, 142, 0), (129, .aload_n 0, 0, 0, 0, 0), (130, .bipush 59, 59, 0, 0, 0), (132, .invokevirtual 247, 1087, 5, 17, 2), (135, .ifCond .eq 7, 0, 0, 142, 0), (138, .iconst 1, 1, 0, 0, 0), (139, .goto 4, 0, 0, 143, 0)]
theorem so_X7_carryOut_125 : sgOK mi_X7_carryOut gm_X7_carryOut sg_X7_carryOut_125 = true := by decide +kernel
def sg_X7_carryOut_142 : List Ins := [(142, .iconst 0, 0, 0, 0, 0), (143, .istore_n 2, 0, 0, 0, 0), (144, .goto (-119), 0, 0, 25, 0)]
theorem so_X7_carryOut_142 : sgOK mi_X7_carryOut gm_X7_carryOut sg_X7_carryOut_142 = true := by decide +kernel
def sg_X7_carryOut_143 : List Ins := [(143, .istore_n 2, 0, 0, 0, 0), (144, .goto (-119), 0, 0, 25, 0)]
theorem so_X7_carryOut_143 : sgOK mi_X7_carryOut gm_X7_carryOut sg_X7_carryOut_143 = true := by decide +kernel
def sg_X7_carryOut_147 : List Ins := [(147, .aload_n 0, 0, 0, 0, 0), (148, .iconst 0, 0, 0, 0, 0), (149, .putfield 199, 7, 6, 723, 0), (152, .iload_n 1, 0, 0, 0, 0), (153, .ireturn, 0, 0, 0, 0)]
theorem so_X7_carryOut_147 : sgOK mi_X7_carryOut gm_X7_carryOut sg_X7_carryOut_147 = true := by decide +kernel
def sgs_X7_carryOut : Nat → Option (List Ins) := fun t => match t with
  | 0 => some sg_X7_carryOut_0
  | 12 => some sg_X7_carryOut_12
  | 50 => some sg_X7_carryOut_50
  | 56 => some sg_X7_carryOut_56
  | 88 => some sg_X7_carryOut_88
  | 89 => some sg_X7_carryOut_89
  | 103 => some sg_X7_carryOut_103
  | 105 => some sg_X7_carryOut_105
  | 116 => some sg_X7_carryOut_116
  | 117 => some sg_X7_carryOut_117
  | 125 => some sg_X7_carryOut_125
  | 142 => some sg_X7_carryOut_142
  | 143 => some sg_X7_carryOut_143
  | 147 => some sg_X7_carryOut_147
  | _ => none
theorem so_X7_carryOut : ∀ t sg, sgs_X7_carryOut t = some sg → sgOK mi_X7_carryOut gm_X7_carryOut sg = true ∧ segPc sg = t := by
  intro t sg h
  unfold sgs_X7_carryOut at h
  split at h
  · cases h; exact ⟨so_X7_carryOut_0, rfl⟩
  · cases h; exact ⟨so_X7_carryOut_12, rfl⟩
  · cases h; exact ⟨so_X7_carryOut_50, rfl⟩
  · cases h; exact ⟨so_X7_carryOut_56, rfl⟩
  · cases h; exact ⟨so_X7_carryOut_88, rfl⟩
  · cases h; exact ⟨so_X7_carryOut_89, rfl⟩
  · cases h; exact ⟨so_X7_carryOut_103, rfl⟩
  · cases h; exact ⟨so_X7_carryOut_105, rfl⟩
  · cases h; exact ⟨so_X7_carryOut_116, rfl⟩
  · cases h; exact ⟨so_X7_carryOut_117, rfl⟩
  · cases h; exact ⟨so_X7_carryOut_125, rfl⟩
  · cases h; exact ⟨so_X7_carryOut_142, rfl⟩
  · cases h; exact ⟨so_X7_carryOut_143, rfl⟩
  · cases h; exact ⟨so_X7_carryOut_147, rfl⟩
  · cases h
def gm_X7_undo : List MI := [mi_X7_copies]
def sg_X7_undo_0 : List Ins := [(0, .aload_n 0, 0, 0, 0, 0), (1, .getfield 27, 7, 2, 719, 0), (4, .ifCond .ne 6, 0, 0, 10, 0), (7, .bipush (-5), 5, 1, 0, 0), (9, .ireturn, 0, 0, 0, 0)]
theorem so_X7_undo_0 : sgOK mi_X7_undo gm_X7_undo sg_X7_undo_0 = true := by decide +kernel
def sg_X7_undo_10 : List Ins := [(10, .aload_n 0, 0, 0, 0, 0), (11, .aload_n 0, 0, 0, 0, 0), (12, .getfield 27, 7, 2, 719, 0), (15, .iconst 0, 0, 0, 0, 0), (16, .invokevirtual 31, 778, 0, 17, 3), (19, .aload_n 0, 0, 0, 0, 0), (20, .dup, 0, 0, 0, 0), (21, .getfield 27, 7, 2, 719, 0), (24, .iconst 1, 1, 0, 0, 0), (25, .isub, 0, 0, 0, 0), (26, .putfield 27, 7, 2, 719, 0), (29, .aload_n 0, 0, 0, 0, 0), (30, .getfield 27, 7, 2, 719, 0), (33, .ireturn, 0, 0, 0, 0)]
theorem so_X7_undo_10 : sgOK mi_X7_undo gm_X7_undo sg_X7_undo_10 = true := by decide +kernel
def sgs_X7_undo : Nat → Option (List Ins) := fun t => match t with
  | 0 => some sg_X7_undo_0
  | 10 => some sg_X7_undo_10
  | _ => none
theorem so_X7_undo : ∀ t sg, sgs_X7_undo t = some sg → sgOK mi_X7_undo gm_X7_undo sg = true ∧ segPc sg = t := by
  intro t sg h
  unfold sgs_X7_undo at h
  split at h
  · cases h; exact ⟨so_X7_undo_0, rfl⟩
  · cases h; exact ⟨so_X7_undo_10, rfl⟩
  · cases h
def gm_X7_isSlot : List MI := []
def sg_X7_isSlot_0 : List Ins := [(0, .iload_n 0, 0, 0, 0, 0), (1, .ifCond .eq 8, 0, 0, 9, 0), (4, .iload_n 0, 0, 0, 0, 0), (5, .iconst 1, 1, 0, 0, 0), (6, .if_icmp .ne 7, 0, 0, 13, 0), (9, .iconst 1, 1, 0, 0, 0), (10, .goto 4, 0, 0, 14, 0)]
theorem so_X7_isSlot_0 : sgOK mi_X7_isSlot gm_X7_isSlot sg_X7_isSlot_0 = true := by decide +kernel
def sg_X7_isSlot_9 : List Ins := [(9, .iconst 1, 1, 0, 0, 0), (10, .goto 4, 0, 0, 14, 0)]
theorem so_X7_isSlot_9 : sgOK mi_X7_isSlot gm_X7_isSlot sg_X7_isSlot_9 = true := by decide +kernel
def sg_X7_isSlot_13 : List Ins := [(13, .iconst 0, 0, 0, 0, 0), (14, .ireturn, 0, 0, 0, 0)]
theorem so_X7_isSlot_13 : sgOK mi_X7_isSlot gm_X7_isSlot sg_X7_isSlot_13 = true := by decide +kernel
def sg_X7_isSlot_14 : List Ins := [(14, .ireturn, 0, 0, 0, 0)]
theorem so_X7_isSlot_14 : sgOK mi_X7_isSlot gm_X7_isSlot sg_X7_isSlot_14 = true := by decide +kernel
def sgs_X7_isSlot : Nat → Option (List Ins) := fun t => match t with
  | 0 => some sg_X7_isSlot_0
  | 9 => some sg_X7_isSlot_9
  | 13 => some sg_X7_isSlot_13
  | 14 => some sg_X7_isSlot_14
  | _ => none
theorem so_X7_isSlot : ∀ t sg, sgs_X7_isSlot t = some sg → sgOK mi_X7_isSlot gm_X7_isSlot sg = true ∧ segPc sg = t := by
  intro t sg h
  unfold sgs_X7_isSlot at h
  split at h
  · cases h; exact ⟨so_X7_isSlot_0, rfl⟩
  · cases h; exact ⟨so_X7_isSlot_9, rfl⟩
  · cases h; exact ⟨so_X7_isSlot_13, rfl⟩
  · cases h; exact ⟨so_X7_isSlot_14, rfl⟩
  · cases h
def gm_X7_save : List MI := [mi_X7_isSlot, mi_X7_copies]
def sg_X7_save_0 : List Ins := [(0, .iload_n 1, 0, 0, 0, 0), (1, .invokestatic 291, 1120, 0, 0, 1), (4, .ifCond .ne 6, 0, 0, 10, 0), (7, .bipush (-2), 2, 1, 0, 0), (9, .ireturn, 0, 0, 0, 0)]
theorem so_X7_save_0 : sgOK mi_X7_save gm_X7_save sg_X7_save_0 = true := by decide +kernel
def sg_X7_save_10 : List Ins := [(10, .aload_n 0, 0, 0, 0, 0), (11, .iconst 0, 0, 0, 0, 0), (12, .bipush 7, 7, 0, 0, 0), (14, .iload_n 1, 0, 0, 0, 0), (15, .iadd, 0, 0, 0, 0), (16, .invokevirtual 31, 778, 1, 17, 3), (19, .aload_n 0, 0, 0, 0, 0), (20, .getfield 17, 7, 3, 720, 0), (23, .iload_n 1, 0, 0, 0, 0), (24, .iconst 1, 1, 0, 0, 0), (25, .bastore, 0, 0, 0, 0), (26, .aload_n 0, 0, 0, 0, 0), (27, .getfield 7, 7, 0, 717, 0), (30, .iconst 5, 5, 0, 0, 0), (31, .iaload, 8, 0, 0, 0), (32, .ireturn, 0, 0, 0, 0)]
theorem so_X7_save_10 : sgOK mi_X7_save gm_X7_save sg_X7_save_10 = true := by decide +kernel
def sgs_X7_save : Nat → Option (List Ins) := fun t => match t with
  | 0 => some sg_X7_save_0
  | 10 => some sg_X7_save_10
  | _ => none
theorem so_X7_save : ∀ t sg, sgs_X7_save t = some sg → sgOK mi_X7_save gm_X7_save sg = true ∧ segPc sg = t := by
  intro t sg h
  unfold sgs_X7_save at h
  split at h
  · cases h; exact ⟨so_X7_save_0, rfl⟩
  · cases h; exact ⟨so_X7_save_10, rfl⟩
  · cases h
def gm_X7_restore : List MI := [mi_X7_isSlot, mi_X7_changes, mi_X7_copies]
def sg_X7_restore_0 : List Ins := [(0, .iload_n 1, 0, 0, 0, 0), (1, .invokestatic 291, 1120, 0, 0, 1), (4, .ifCond .ne 6, 0, 0, 10, 0), (7, .bipush (-2), 2, 1, 0, 0), (9, .ireturn, 0, 0, 0, 0)]
theorem so_X7_restore_0 : sgOK mi_X7_restore gm_X7_restore sg_X7_restore_0 = true := by decide +kernel
def sg_X7_restore_10 : List Ins := [(10, .aload_n 0, 0, 0, 0, 0), (11, .getfield 17, 7, 3, 720, 0), (14, .iload_n 1, 0, 0, 0, 0), (15, .baload, 0, 0, 0, 0), (16, .ifCond .ne 6, 0, 0, 22, 0), (19, .bipush (-5), 5, 1, 0, 0), (21, .ireturn, 0, 0, 0, 0)]
theorem so_X7_restore_10 : sgOK mi_X7_restore gm_X7_restore sg_X7_restore_10 = true := by decide +kernel
def sg_X7_restore_22 : List Ins := [(22, .aload_n 0, 0, 0, 0, 0), (23, .invokevirtual 127, 774, 1, 17, 1), (26, .aload_n 0, 0, 0, 0, 0), (27, .bipush 7, 7, 0, 0, 0), (29, .iload_n 1, 0, 0, 0, 0), (30, .iadd, 0, 0, 0, 0), (31, .iconst 0, 0, 0, 0, 0), (32, .invokevirtual 31, 778, 2, 17, 3), (35, .aload_n 0, 0, 0, 0, 0), (36, .getfield 7, 7, 0, 717, 0), (39, .iconst 5, 5, 0, 0, 0), (40, .iaload, 8, 0, 0, 0), (41, .ireturn, 0, 0, 0, 0)]
theorem so_X7_restore_22 : sgOK mi_X7_restore gm_X7_restore sg_X7_restore_22 = true := by decide +kernel
def sgs_X7_restore : Nat → Option (List Ins) := fun t => match t with
  | 0 => some sg_X7_restore_0
  | 10 => some sg_X7_restore_10
  | 22 => some sg_X7_restore_22
  | _ => none
theorem so_X7_restore : ∀ t sg, sgs_X7_restore t = some sg → sgOK mi_X7_restore gm_X7_restore sg = true ∧ segPc sg = t := by
  intro t sg h
  unfold sgs_X7_restore at h
  split at h
  · cases h; exact ⟨so_X7_restore_0, rfl⟩
  · cases h; exact ⟨so_X7_restore_10, rfl⟩
  · cases h; exact ⟨so_X7_restore_22, rfl⟩
  · cases h
end
